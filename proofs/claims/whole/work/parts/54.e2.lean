/-! spoons, texts, what is told: the class and the reference alike -/
section E2
variable {errors found : Nat → Int32} {h_weight : Nat → Int32} {h_known : Int32} {h_hour : Int32} {h_swS : Nat → Int32} {h_swW : Nat → Int32} {h_waS : Nat → Int32} {h_spoons : Int32} {h_kind : Nat → Int32} {h_mark : Nat → Int32} {h_silver : Nat → Int32} {h_fresh : Nat → Int64} {h_texts : Nat → Option Nat} {h_tape : Nat → Int32} {h_tapeCount : Int32} {h_z : Int32} {h_waiting : Nat → Int32} {h_waitingCount : Int32} {d : Nat → Int32} {L : List Nat} {tx : Nat → TXc}
theorem c_spW {A : AS} {w n : Nat} (hw : w < 12) (fN : n ≤ 8) (fF : ∀ s w, aF A s w ≤ 9) (qF : ∀ s, s < 8 → h_fresh s = lN (pk12 (aF A s))) : fX3_spoonsWith (nI w) (nI n) h_fresh = some (nI (bitS (fun s => decide (1 ≤ aF A s w)) n)) := by
  unfold fX3_spoonsWith fX3_spoonsWith_4
  refine (bd_of (lpF _ (fun i => (nI (bitS (fun s => decide (1 ≤ aF A s w)) i), nI i)) (nI (bitS (fun s => decide (1 ≤ aF A s w)) n), nI n) n (fun i hi => ?_) ?_ (FU_lt (by omega)))).trans rfl
  · have h2 := fF i w
    have h1 := c_fI (f := aF A i) (fF i) hw
    by_cases h3 : aF A i w ≤ 0
    · simp (disch := omega) only [fX3_spoonsWith_4B, fX3_spoonsWith_31, qF, h1, if_true, if_false, nI_add, pk_mul, nI_clamp, nI_leI, nI_ltI, nI_eq, ckI_s, bd_q, bnd_q, if_pos, if_neg, o_0, o_1, o_2, o_3, o_4, o_5, o_6, o_7, o_8, o_9, o_10, o_11, o_12, o_13, o_14, o_15, o_16, o_17, o_18, o_19, o_20, o_21, o_22, o_23, o_24, o_25, o_26, o_27, o_28, o_29, o_30, o_31, o_32, o_33, o_34, o_35, o_36, o_37, o_38, o_39, o_40, o_41, o_42, o_43, o_44, o_45, o_46, o_47, o_48, o_49, o_50, o_51, o_52, o_53, o_54, o_55, o_56, o_57, o_58, o_59, o_60, o_62, o_70, o_71, o_99, o_124, o_154, o_156, o_176, o_255, o_276, o_326, o_4095, o_9999, o_10000, o_10001, o_20000, o_20033]
      rw [bitS_f (p := fun s => decide (1 ≤ aF A s w)) (by simp; omega)]
    · simp (disch := omega) only [fX3_spoonsWith_4B, fX3_spoonsWith_31, qF, h1, q_shl1, if_true, if_false, nI_add, pk_mul, nI_clamp, nI_leI, nI_ltI, nI_eq, ckI_s, bd_q, bnd_q, if_pos, if_neg, o_0, o_1, o_2, o_3, o_4, o_5, o_6, o_7, o_8, o_9, o_10, o_11, o_12, o_13, o_14, o_15, o_16, o_17, o_18, o_19, o_20, o_21, o_22, o_23, o_24, o_25, o_26, o_27, o_28, o_29, o_30, o_31, o_32, o_33, o_34, o_35, o_36, o_37, o_38, o_39, o_40, o_41, o_42, o_43, o_44, o_45, o_46, o_47, o_48, o_49, o_50, o_51, o_52, o_53, o_54, o_55, o_56, o_57, o_58, o_59, o_60, o_62, o_70, o_71, o_99, o_124, o_154, o_156, o_176, o_255, o_276, o_326, o_4095, o_9999, o_10000, o_10001, o_20000, o_20033]
      rw [bitS_t (p := fun s => decide (1 ≤ aF A s w)) (by simp; omega)]
  · simp (disch := omega) only [fX3_spoonsWith_4B, if_true, if_false, nI_add, pk_mul, nI_clamp, nI_leI, nI_ltI, nI_eq, ckI_s, bd_q, bnd_q, if_pos, if_neg, o_0, o_1, o_2, o_3, o_4, o_5, o_6, o_7, o_8, o_9, o_10, o_11, o_12, o_13, o_14, o_15, o_16, o_17, o_18, o_19, o_20, o_21, o_22, o_23, o_24, o_25, o_26, o_27, o_28, o_29, o_30, o_31, o_32, o_33, o_34, o_35, o_36, o_37, o_38, o_39, o_40, o_41, o_42, o_43, o_44, o_45, o_46, o_47, o_48, o_49, o_50, o_51, o_52, o_53, o_54, o_55, o_56, o_57, o_58, o_59, o_60, o_62, o_70, o_71, o_99, o_124, o_154, o_156, o_176, o_255, o_276, o_326, o_4095, o_9999, o_10000, o_10001, o_20000, o_20033]
theorem m_spW {A : AS} {w n : Nat} (hw : w < 12) (fN : n ≤ 8) (fF : ∀ s w, aF A s w ≤ 9) (r0 : d 0 = nI n) (rF : ∀ s, s < 8 → ∀ w, w < 12 → d (34 + 15 * s + (3 + w)) = nI (aF A s w)) : fX12_spoonsWith (nI w) d = some (nI (bitS (fun s => decide (1 ≤ aF A s w)) n)) := by
  unfold fX12_spoonsWith fX12_spoonsWith_4
  refine (bd_of (lpF _ (fun i => (nI (bitS (fun s => decide (1 ≤ aF A s w)) i), nI i)) (nI (bitS (fun s => decide (1 ≤ aF A s w)) n), nI n) n (fun i hi => ?_) ?_ (FU_lt (by omega)))).trans rfl
  · have h2 := fF i w
    by_cases h3 : aF A i w ≤ 0
    · simp (disch := omega) only [fX12_spoonsWith_4B, fX12_spoonsWith_33, m_of, r0, rF, q_or, Nat.or_zero, if_true, if_false, nI_add, pk_mul, nI_clamp, nI_leI, nI_ltI, nI_eq, ckI_s, bd_q, bnd_q, if_pos, if_neg, o_0, o_1, o_2, o_3, o_4, o_5, o_6, o_7, o_8, o_9, o_10, o_11, o_12, o_13, o_14, o_15, o_16, o_17, o_18, o_19, o_20, o_21, o_22, o_23, o_24, o_25, o_26, o_27, o_28, o_29, o_30, o_31, o_32, o_33, o_34, o_35, o_36, o_37, o_38, o_39, o_40, o_41, o_42, o_43, o_44, o_45, o_46, o_47, o_48, o_49, o_50, o_51, o_52, o_53, o_54, o_55, o_56, o_57, o_58, o_59, o_60, o_62, o_70, o_71, o_99, o_124, o_154, o_156, o_176, o_255, o_276, o_326, o_4095, o_9999, o_10000, o_10001, o_20000, o_20033]
      rw [bitS_f (p := fun s => decide (1 ≤ aF A s w)) (by simp; omega)]
    · simp (disch := omega) only [fX12_spoonsWith_4B, fX12_spoonsWith_33, m_of, r0, rF, q_shl1, if_true, if_false, nI_add, pk_mul, nI_clamp, nI_leI, nI_ltI, nI_eq, ckI_s, bd_q, bnd_q, if_pos, if_neg, o_0, o_1, o_2, o_3, o_4, o_5, o_6, o_7, o_8, o_9, o_10, o_11, o_12, o_13, o_14, o_15, o_16, o_17, o_18, o_19, o_20, o_21, o_22, o_23, o_24, o_25, o_26, o_27, o_28, o_29, o_30, o_31, o_32, o_33, o_34, o_35, o_36, o_37, o_38, o_39, o_40, o_41, o_42, o_43, o_44, o_45, o_46, o_47, o_48, o_49, o_50, o_51, o_52, o_53, o_54, o_55, o_56, o_57, o_58, o_59, o_60, o_62, o_70, o_71, o_99, o_124, o_154, o_156, o_176, o_255, o_276, o_326, o_4095, o_9999, o_10000, o_10001, o_20000, o_20033]
      rw [bitS_t (p := fun s => decide (1 ≤ aF A s w)) (by simp; omega)]
  · simp (disch := omega) only [fX12_spoonsWith_4B, r0, if_true, if_false, nI_add, pk_mul, nI_clamp, nI_leI, nI_ltI, nI_eq, ckI_s, bd_q, bnd_q, if_pos, if_neg, o_0, o_1, o_2, o_3, o_4, o_5, o_6, o_7, o_8, o_9, o_10, o_11, o_12, o_13, o_14, o_15, o_16, o_17, o_18, o_19, o_20, o_21, o_22, o_23, o_24, o_25, o_26, o_27, o_28, o_29, o_30, o_31, o_32, o_33, o_34, o_35, o_36, o_37, o_38, o_39, o_40, o_41, o_42, o_43, o_44, o_45, o_46, o_47, o_48, o_49, o_50, o_51, o_52, o_53, o_54, o_55, o_56, o_57, o_58, o_59, o_60, o_62, o_70, o_71, o_99, o_124, o_154, o_156, o_176, o_255, o_276, o_326, o_4095, o_9999, o_10000, o_10001, o_20000, o_20033]
theorem E_ofWord (a : Int32) (what : Int32) (he : Re errors found) (hh : Rh h_weight h_known h_hour h_swS h_swW h_waS h_spoons h_kind h_mark h_silver h_fresh h_texts h_tape h_tapeCount h_z h_waiting h_waitingCount d L tx) : ∃ (r : Int32) (errorsR : Nat → Int32) (foundR : Nat → Int32), fX11_ofWord a what errors h_weight h_known h_spoons h_fresh = some (r, errorsR) ∧ fX12_ofWord a what d found = some (r, foundR) ∧ Re errorsR foundR ∧ Rh h_weight h_known h_hour h_swS h_swW h_waS h_spoons h_kind h_mark h_silver h_fresh h_texts h_tape h_tapeCount h_z h_waiting h_waitingCount d L tx := by
  obtain ⟨A, E, hW, hH, hM, hC, hT, hG, hO⟩ := hh
  have hM0 := hM
  have hC0 := hC
  have hW0 := hW
  obtain ⟨r0, r1, r2, rW, rB, rD, rS, rC, rM, rV, rF⟩ := hM0
  obtain ⟨qW, qK, qH, qB, qD, qS, qN, qC, qM, qV, qF⟩ := hC0
  obtain ⟨fN, fH, fK, fW, fB, fD, fS, fC, fM, fV, fF⟩ := hW0
  by_cases c0 : nI 0 ≤ a ∧ a ≤ nI 11
  · skip
    obtain ⟨j, hj, rfl⟩ := bt_of (by decide) c0
    by_cases c1 : nI 0 ≤ what ∧ what ≤ nI 2
    · skip
      obtain ⟨x, hx, rfl⟩ := bt_of (by decide) c1
      rcases (show x = 0 ∨ x = 1 ∨ x = 2 by omega) with e | e | e
      · subst e
        refine ⟨nI (aW A j), errors, found, ?_, ?_, he, A, E, hW, hH, hM, hC, hT, hG, hO⟩
        · simp (disch := omega) only [fX11_ofWord, qW, o_69, l_6, c_isWord, c_isSetOfWords, c_isUse, c_isSheet, c_isBehind, c_mayB, c_wi, m_isWord, m_areWords, m_isSheet, m_isAhead, m_isKm, m_in, l_n1, o_n1, b2if, ck_s b2_z, c_ref1, c_ref2, c_ref3, c_ref4, c_ref5, m_fin1, m_fin2, m_fin3, m_fin4, m_fin5, l_0, l_1, l_2, l_3, l_5, l_7, l_8, l_9, l_11, l_12, l_16, l_20, l_30, l_40, l_60, l_69, l_99, l_4095, if_true, if_false, nI_add, pk_mul, nI_clamp, nI_leI, nI_ltI, nI_eq, ckI_s, bd_q, bnd_q, if_pos, if_neg, o_0, o_1, o_2, o_3, o_4, o_5, o_6, o_7, o_8, o_9, o_10, o_11, o_12, o_13, o_14, o_15, o_16, o_17, o_18, o_19, o_20, o_21, o_22, o_23, o_24, o_25, o_26, o_27, o_28, o_29, o_30, o_31, o_32, o_33, o_34, o_35, o_36, o_37, o_38, o_39, o_40, o_41, o_42, o_43, o_44, o_45, o_46, o_47, o_48, o_49, o_50, o_51, o_52, o_53, o_54, o_55, o_56, o_57, o_58, o_59, o_60, o_62, o_70, o_71, o_99, o_124, o_154, o_156, o_176, o_255, o_276, o_326, o_4095, o_9999, o_10000, o_10001, o_20000, o_20033]
        · simp (disch := omega) only [fX12_ofWord, rW, o_69, l_6, c_isWord, c_isSetOfWords, c_isUse, c_isSheet, c_isBehind, c_mayB, c_wi, m_isWord, m_areWords, m_isSheet, m_isAhead, m_isKm, m_in, l_n1, o_n1, b2if, ck_s b2_z, c_ref1, c_ref2, c_ref3, c_ref4, c_ref5, m_fin1, m_fin2, m_fin3, m_fin4, m_fin5, l_0, l_1, l_2, l_3, l_5, l_7, l_8, l_9, l_11, l_12, l_16, l_20, l_30, l_40, l_60, l_69, l_99, l_4095, if_true, if_false, nI_add, pk_mul, nI_clamp, nI_leI, nI_ltI, nI_eq, ckI_s, bd_q, bnd_q, if_pos, if_neg, o_0, o_1, o_2, o_3, o_4, o_5, o_6, o_7, o_8, o_9, o_10, o_11, o_12, o_13, o_14, o_15, o_16, o_17, o_18, o_19, o_20, o_21, o_22, o_23, o_24, o_25, o_26, o_27, o_28, o_29, o_30, o_31, o_32, o_33, o_34, o_35, o_36, o_37, o_38, o_39, o_40, o_41, o_42, o_43, o_44, o_45, o_46, o_47, o_48, o_49, o_50, o_51, o_52, o_53, o_54, o_55, o_56, o_57, o_58, o_59, o_60, o_62, o_70, o_71, o_99, o_124, o_154, o_156, o_176, o_255, o_276, o_326, o_4095, o_9999, o_10000, o_10001, o_20000, o_20033]
      · subst e
        refine ⟨nI (aK A / 2 ^ j % 2), errors, found, ?_, ?_, he, A, E, hW, hH, hM, hC, hT, hG, hO⟩
        · simp (disch := omega) only [fX11_ofWord, qK, q_shr, q_bit, o_69, l_6, c_isWord, c_isSetOfWords, c_isUse, c_isSheet, c_isBehind, c_mayB, c_wi, m_isWord, m_areWords, m_isSheet, m_isAhead, m_isKm, m_in, l_n1, o_n1, b2if, ck_s b2_z, c_ref1, c_ref2, c_ref3, c_ref4, c_ref5, m_fin1, m_fin2, m_fin3, m_fin4, m_fin5, l_0, l_1, l_2, l_3, l_5, l_7, l_8, l_9, l_11, l_12, l_16, l_20, l_30, l_40, l_60, l_69, l_99, l_4095, if_true, if_false, nI_add, pk_mul, nI_clamp, nI_leI, nI_ltI, nI_eq, ckI_s, bd_q, bnd_q, if_pos, if_neg, o_0, o_1, o_2, o_3, o_4, o_5, o_6, o_7, o_8, o_9, o_10, o_11, o_12, o_13, o_14, o_15, o_16, o_17, o_18, o_19, o_20, o_21, o_22, o_23, o_24, o_25, o_26, o_27, o_28, o_29, o_30, o_31, o_32, o_33, o_34, o_35, o_36, o_37, o_38, o_39, o_40, o_41, o_42, o_43, o_44, o_45, o_46, o_47, o_48, o_49, o_50, o_51, o_52, o_53, o_54, o_55, o_56, o_57, o_58, o_59, o_60, o_62, o_70, o_71, o_99, o_124, o_154, o_156, o_176, o_255, o_276, o_326, o_4095, o_9999, o_10000, o_10001, o_20000, o_20033]
        · simp (disch := omega) only [fX12_ofWord, r2, q_shr, q_bit, o_69, l_6, c_isWord, c_isSetOfWords, c_isUse, c_isSheet, c_isBehind, c_mayB, c_wi, m_isWord, m_areWords, m_isSheet, m_isAhead, m_isKm, m_in, l_n1, o_n1, b2if, ck_s b2_z, c_ref1, c_ref2, c_ref3, c_ref4, c_ref5, m_fin1, m_fin2, m_fin3, m_fin4, m_fin5, l_0, l_1, l_2, l_3, l_5, l_7, l_8, l_9, l_11, l_12, l_16, l_20, l_30, l_40, l_60, l_69, l_99, l_4095, if_true, if_false, nI_add, pk_mul, nI_clamp, nI_leI, nI_ltI, nI_eq, ckI_s, bd_q, bnd_q, if_pos, if_neg, o_0, o_1, o_2, o_3, o_4, o_5, o_6, o_7, o_8, o_9, o_10, o_11, o_12, o_13, o_14, o_15, o_16, o_17, o_18, o_19, o_20, o_21, o_22, o_23, o_24, o_25, o_26, o_27, o_28, o_29, o_30, o_31, o_32, o_33, o_34, o_35, o_36, o_37, o_38, o_39, o_40, o_41, o_42, o_43, o_44, o_45, o_46, o_47, o_48, o_49, o_50, o_51, o_52, o_53, o_54, o_55, o_56, o_57, o_58, o_59, o_60, o_62, o_70, o_71, o_99, o_124, o_154, o_156, o_176, o_255, o_276, o_326, o_4095, o_9999, o_10000, o_10001, o_20000, o_20033]
      · subst e
        refine ⟨nI (bitS (fun s => decide (1 ≤ aF A s j)) (aN A)), errors, found, ?_, ?_, he, A, E, hW, hH, hM, hC, hT, hG, hO⟩
        · simp (disch := omega) only [fX11_ofWord, qN, c_spW (w := j) (by omega) fN fF qF, o_69, l_6, c_isWord, c_isSetOfWords, c_isUse, c_isSheet, c_isBehind, c_mayB, c_wi, m_isWord, m_areWords, m_isSheet, m_isAhead, m_isKm, m_in, l_n1, o_n1, b2if, ck_s b2_z, c_ref1, c_ref2, c_ref3, c_ref4, c_ref5, m_fin1, m_fin2, m_fin3, m_fin4, m_fin5, l_0, l_1, l_2, l_3, l_5, l_7, l_8, l_9, l_11, l_12, l_16, l_20, l_30, l_40, l_60, l_69, l_99, l_4095, if_true, if_false, nI_add, pk_mul, nI_clamp, nI_leI, nI_ltI, nI_eq, ckI_s, bd_q, bnd_q, if_pos, if_neg, o_0, o_1, o_2, o_3, o_4, o_5, o_6, o_7, o_8, o_9, o_10, o_11, o_12, o_13, o_14, o_15, o_16, o_17, o_18, o_19, o_20, o_21, o_22, o_23, o_24, o_25, o_26, o_27, o_28, o_29, o_30, o_31, o_32, o_33, o_34, o_35, o_36, o_37, o_38, o_39, o_40, o_41, o_42, o_43, o_44, o_45, o_46, o_47, o_48, o_49, o_50, o_51, o_52, o_53, o_54, o_55, o_56, o_57, o_58, o_59, o_60, o_62, o_70, o_71, o_99, o_124, o_154, o_156, o_176, o_255, o_276, o_326, o_4095, o_9999, o_10000, o_10001, o_20000, o_20033]
        · simp (disch := omega) only [fX12_ofWord, m_spW (w := j) (by omega) fN fF r0 rF, o_69, l_6, c_isWord, c_isSetOfWords, c_isUse, c_isSheet, c_isBehind, c_mayB, c_wi, m_isWord, m_areWords, m_isSheet, m_isAhead, m_isKm, m_in, l_n1, o_n1, b2if, ck_s b2_z, c_ref1, c_ref2, c_ref3, c_ref4, c_ref5, m_fin1, m_fin2, m_fin3, m_fin4, m_fin5, l_0, l_1, l_2, l_3, l_5, l_7, l_8, l_9, l_11, l_12, l_16, l_20, l_30, l_40, l_60, l_69, l_99, l_4095, if_true, if_false, nI_add, pk_mul, nI_clamp, nI_leI, nI_ltI, nI_eq, ckI_s, bd_q, bnd_q, if_pos, if_neg, o_0, o_1, o_2, o_3, o_4, o_5, o_6, o_7, o_8, o_9, o_10, o_11, o_12, o_13, o_14, o_15, o_16, o_17, o_18, o_19, o_20, o_21, o_22, o_23, o_24, o_25, o_26, o_27, o_28, o_29, o_30, o_31, o_32, o_33, o_34, o_35, o_36, o_37, o_38, o_39, o_40, o_41, o_42, o_43, o_44, o_45, o_46, o_47, o_48, o_49, o_50, o_51, o_52, o_53, o_54, o_55, o_56, o_57, o_58, o_59, o_60, o_62, o_70, o_71, o_99, o_124, o_154, o_156, o_176, o_255, o_276, o_326, o_4095, o_9999, o_10000, o_10001, o_20000, o_20033]
    · refine ⟨(-1000000001 : Int32), upd errors 1 (errors 1 + nI 1), upd found 1 (found 1 + nI 1), ?_, ?_, Re_up he 1 (by decide), A, E, hW, hH, hM, hC, hT, hG, hO⟩
      · simp (disch := omega) only [fX11_ofWord, if_pos c0, if_neg c1, o_69, l_6, c_isWord, c_isSetOfWords, c_isUse, c_isSheet, c_isBehind, c_mayB, c_wi, m_isWord, m_areWords, m_isSheet, m_isAhead, m_isKm, m_in, l_n1, o_n1, b2if, ck_s b2_z, c_ref1, c_ref2, c_ref3, c_ref4, c_ref5, m_fin1, m_fin2, m_fin3, m_fin4, m_fin5, l_0, l_1, l_2, l_3, l_5, l_7, l_8, l_9, l_11, l_12, l_16, l_20, l_30, l_40, l_60, l_69, l_99, l_4095, if_true, if_false, nI_add, pk_mul, nI_clamp, nI_leI, nI_ltI, nI_eq, ckI_s, bd_q, bnd_q, if_pos, if_neg, o_0, o_1, o_2, o_3, o_4, o_5, o_6, o_7, o_8, o_9, o_10, o_11, o_12, o_13, o_14, o_15, o_16, o_17, o_18, o_19, o_20, o_21, o_22, o_23, o_24, o_25, o_26, o_27, o_28, o_29, o_30, o_31, o_32, o_33, o_34, o_35, o_36, o_37, o_38, o_39, o_40, o_41, o_42, o_43, o_44, o_45, o_46, o_47, o_48, o_49, o_50, o_51, o_52, o_53, o_54, o_55, o_56, o_57, o_58, o_59, o_60, o_62, o_70, o_71, o_99, o_124, o_154, o_156, o_176, o_255, o_276, o_326, o_4095, o_9999, o_10000, o_10001, o_20000, o_20033]
      · simp (disch := omega) only [fX12_ofWord, if_pos c0, if_neg c1, o_69, l_6, c_isWord, c_isSetOfWords, c_isUse, c_isSheet, c_isBehind, c_mayB, c_wi, m_isWord, m_areWords, m_isSheet, m_isAhead, m_isKm, m_in, l_n1, o_n1, b2if, ck_s b2_z, c_ref1, c_ref2, c_ref3, c_ref4, c_ref5, m_fin1, m_fin2, m_fin3, m_fin4, m_fin5, l_0, l_1, l_2, l_3, l_5, l_7, l_8, l_9, l_11, l_12, l_16, l_20, l_30, l_40, l_60, l_69, l_99, l_4095, if_true, if_false, nI_add, pk_mul, nI_clamp, nI_leI, nI_ltI, nI_eq, ckI_s, bd_q, bnd_q, if_pos, if_neg, o_0, o_1, o_2, o_3, o_4, o_5, o_6, o_7, o_8, o_9, o_10, o_11, o_12, o_13, o_14, o_15, o_16, o_17, o_18, o_19, o_20, o_21, o_22, o_23, o_24, o_25, o_26, o_27, o_28, o_29, o_30, o_31, o_32, o_33, o_34, o_35, o_36, o_37, o_38, o_39, o_40, o_41, o_42, o_43, o_44, o_45, o_46, o_47, o_48, o_49, o_50, o_51, o_52, o_53, o_54, o_55, o_56, o_57, o_58, o_59, o_60, o_62, o_70, o_71, o_99, o_124, o_154, o_156, o_176, o_255, o_276, o_326, o_4095, o_9999, o_10000, o_10001, o_20000, o_20033]
  · refine ⟨(-1000000001 : Int32), upd errors 1 (errors 1 + nI 1), upd found 1 (found 1 + nI 1), ?_, ?_, Re_up he 1 (by decide), A, E, hW, hH, hM, hC, hT, hG, hO⟩
    · simp (disch := omega) only [fX11_ofWord, if_neg c0, o_69, l_6, c_isWord, c_isSetOfWords, c_isUse, c_isSheet, c_isBehind, c_mayB, c_wi, m_isWord, m_areWords, m_isSheet, m_isAhead, m_isKm, m_in, l_n1, o_n1, b2if, ck_s b2_z, c_ref1, c_ref2, c_ref3, c_ref4, c_ref5, m_fin1, m_fin2, m_fin3, m_fin4, m_fin5, l_0, l_1, l_2, l_3, l_5, l_7, l_8, l_9, l_11, l_12, l_16, l_20, l_30, l_40, l_60, l_69, l_99, l_4095, if_true, if_false, nI_add, pk_mul, nI_clamp, nI_leI, nI_ltI, nI_eq, ckI_s, bd_q, bnd_q, if_pos, if_neg, o_0, o_1, o_2, o_3, o_4, o_5, o_6, o_7, o_8, o_9, o_10, o_11, o_12, o_13, o_14, o_15, o_16, o_17, o_18, o_19, o_20, o_21, o_22, o_23, o_24, o_25, o_26, o_27, o_28, o_29, o_30, o_31, o_32, o_33, o_34, o_35, o_36, o_37, o_38, o_39, o_40, o_41, o_42, o_43, o_44, o_45, o_46, o_47, o_48, o_49, o_50, o_51, o_52, o_53, o_54, o_55, o_56, o_57, o_58, o_59, o_60, o_62, o_70, o_71, o_99, o_124, o_154, o_156, o_176, o_255, o_276, o_326, o_4095, o_9999, o_10000, o_10001, o_20000, o_20033]
    · simp (disch := omega) only [fX12_ofWord, if_neg c0, o_69, l_6, c_isWord, c_isSetOfWords, c_isUse, c_isSheet, c_isBehind, c_mayB, c_wi, m_isWord, m_areWords, m_isSheet, m_isAhead, m_isKm, m_in, l_n1, o_n1, b2if, ck_s b2_z, c_ref1, c_ref2, c_ref3, c_ref4, c_ref5, m_fin1, m_fin2, m_fin3, m_fin4, m_fin5, l_0, l_1, l_2, l_3, l_5, l_7, l_8, l_9, l_11, l_12, l_16, l_20, l_30, l_40, l_60, l_69, l_99, l_4095, if_true, if_false, nI_add, pk_mul, nI_clamp, nI_leI, nI_ltI, nI_eq, ckI_s, bd_q, bnd_q, if_pos, if_neg, o_0, o_1, o_2, o_3, o_4, o_5, o_6, o_7, o_8, o_9, o_10, o_11, o_12, o_13, o_14, o_15, o_16, o_17, o_18, o_19, o_20, o_21, o_22, o_23, o_24, o_25, o_26, o_27, o_28, o_29, o_30, o_31, o_32, o_33, o_34, o_35, o_36, o_37, o_38, o_39, o_40, o_41, o_42, o_43, o_44, o_45, o_46, o_47, o_48, o_49, o_50, o_51, o_52, o_53, o_54, o_55, o_56, o_57, o_58, o_59, o_60, o_62, o_70, o_71, o_99, o_124, o_154, o_156, o_176, o_255, o_276, o_326, o_4095, o_9999, o_10000, o_10001, o_20000, o_20033]
theorem E_ofSpoon (a : Int32) (what : Int32) (tst : Nat → Nat → Int32) (names pile : Nat → Int32) (he : Re errors found) (hh : Rh h_weight h_known h_hour h_swS h_swW h_waS h_spoons h_kind h_mark h_silver h_fresh h_texts h_tape h_tapeCount h_z h_waiting h_waitingCount d L tx) : ∃ (r : Int32) (errorsR : Nat → Int32) (tstR : Nat → Nat → Int32) (foundR namesR pileR : Nat → Int32), fX11_ofSpoon a what errors h_spoons h_kind h_mark h_silver h_fresh h_texts L tx tst = some (r, errorsR, tstR) ∧ fX12_ofSpoon a what d found names pile = some (r, foundR, namesR, pileR) ∧ Re errorsR foundR ∧ Rh h_weight h_known h_hour h_swS h_swW h_waS h_spoons h_kind h_mark h_silver h_fresh h_texts h_tape h_tapeCount h_z h_waiting h_waitingCount d L tx := by
  obtain ⟨A, E, hW, hH, hM, hC, hT, hG, hO⟩ := hh
  have hM0 := hM
  have hC0 := hC
  have hW0 := hW
  obtain ⟨r0, r1, r2, rW, rB, rD, rS, rC, rM, rV, rF⟩ := hM0
  obtain ⟨qW, qK, qH, qB, qD, qS, qN, qC, qM, qV, qF⟩ := hC0
  obtain ⟨fN, fH, fK, fW, fB, fD, fS, fC, fM, fV, fF⟩ := hW0
  by_cases c0 : nI 0 ≤ a ∧ a ≤ nI (aN A) - nI 1
  · skip
    obtain ⟨s, hs, rfl⟩ := bt_sp (by omega) c0
    by_cases c1 : nI 0 ≤ what ∧ what ≤ nI 16
    · skip
      obtain ⟨x, hx, rfl⟩ := bt_of (by decide) c1
      have k1 := fC s
      have k2 := fM s
      have k3 := fV s
      have hof : ∀ y, y < 15 → fX12_of (nI s) (nI y) d = some (d (34 + 15 * s + y)) := fun y hy => m_of d (by omega) hy
      rcases (show x = 0 ∨ x = 1 ∨ x = 2 ∨ x = 3 ∨ x = 4 ∨ 5 ≤ x by omega) with e | e | e | e | e | e
      · subst e
        refine ⟨nI (aC A s), errors, tst, found, names, pile, ?_, ?_, he, A, E, hW, hH, hM, hC, hT, hG, hO⟩
        · simp (disch := omega) only [fX11_ofSpoon, qN, c_isSj, qC, o_69, l_6, c_isWord, c_isSetOfWords, c_isUse, c_isSheet, c_isBehind, c_mayB, c_wi, m_isWord, m_areWords, m_isSheet, m_isAhead, m_isKm, m_in, l_n1, o_n1, b2if, ck_s b2_z, c_ref1, c_ref2, c_ref3, c_ref4, c_ref5, m_fin1, m_fin2, m_fin3, m_fin4, m_fin5, l_0, l_1, l_2, l_3, l_5, l_7, l_8, l_9, l_11, l_12, l_16, l_20, l_30, l_40, l_60, l_69, l_99, l_4095, if_true, if_false, nI_add, pk_mul, nI_clamp, nI_leI, nI_ltI, nI_eq, ckI_s, bd_q, bnd_q, if_pos, if_neg, o_0, o_1, o_2, o_3, o_4, o_5, o_6, o_7, o_8, o_9, o_10, o_11, o_12, o_13, o_14, o_15, o_16, o_17, o_18, o_19, o_20, o_21, o_22, o_23, o_24, o_25, o_26, o_27, o_28, o_29, o_30, o_31, o_32, o_33, o_34, o_35, o_36, o_37, o_38, o_39, o_40, o_41, o_42, o_43, o_44, o_45, o_46, o_47, o_48, o_49, o_50, o_51, o_52, o_53, o_54, o_55, o_56, o_57, o_58, o_59, o_60, o_62, o_70, o_71, o_99, o_124, o_154, o_156, o_176, o_255, o_276, o_326, o_4095, o_9999, o_10000, o_10001, o_20000, o_20033]
        · simp (disch := omega) only [fX12_ofSpoon, m_isSj r0 fN, hof, rC, o_69, l_6, c_isWord, c_isSetOfWords, c_isUse, c_isSheet, c_isBehind, c_mayB, c_wi, m_isWord, m_areWords, m_isSheet, m_isAhead, m_isKm, m_in, l_n1, o_n1, b2if, ck_s b2_z, c_ref1, c_ref2, c_ref3, c_ref4, c_ref5, m_fin1, m_fin2, m_fin3, m_fin4, m_fin5, l_0, l_1, l_2, l_3, l_5, l_7, l_8, l_9, l_11, l_12, l_16, l_20, l_30, l_40, l_60, l_69, l_99, l_4095, if_true, if_false, nI_add, pk_mul, nI_clamp, nI_leI, nI_ltI, nI_eq, ckI_s, bd_q, bnd_q, if_pos, if_neg, o_0, o_1, o_2, o_3, o_4, o_5, o_6, o_7, o_8, o_9, o_10, o_11, o_12, o_13, o_14, o_15, o_16, o_17, o_18, o_19, o_20, o_21, o_22, o_23, o_24, o_25, o_26, o_27, o_28, o_29, o_30, o_31, o_32, o_33, o_34, o_35, o_36, o_37, o_38, o_39, o_40, o_41, o_42, o_43, o_44, o_45, o_46, o_47, o_48, o_49, o_50, o_51, o_52, o_53, o_54, o_55, o_56, o_57, o_58, o_59, o_60, o_62, o_70, o_71, o_99, o_124, o_154, o_156, o_176, o_255, o_276, o_326, o_4095, o_9999, o_10000, o_10001, o_20000, o_20033]
      · subst e
        refine ⟨nI (aM A s), errors, tst, found, names, pile, ?_, ?_, he, A, E, hW, hH, hM, hC, hT, hG, hO⟩
        · simp (disch := omega) only [fX11_ofSpoon, qN, c_isSj, qM, o_69, l_6, c_isWord, c_isSetOfWords, c_isUse, c_isSheet, c_isBehind, c_mayB, c_wi, m_isWord, m_areWords, m_isSheet, m_isAhead, m_isKm, m_in, l_n1, o_n1, b2if, ck_s b2_z, c_ref1, c_ref2, c_ref3, c_ref4, c_ref5, m_fin1, m_fin2, m_fin3, m_fin4, m_fin5, l_0, l_1, l_2, l_3, l_5, l_7, l_8, l_9, l_11, l_12, l_16, l_20, l_30, l_40, l_60, l_69, l_99, l_4095, if_true, if_false, nI_add, pk_mul, nI_clamp, nI_leI, nI_ltI, nI_eq, ckI_s, bd_q, bnd_q, if_pos, if_neg, o_0, o_1, o_2, o_3, o_4, o_5, o_6, o_7, o_8, o_9, o_10, o_11, o_12, o_13, o_14, o_15, o_16, o_17, o_18, o_19, o_20, o_21, o_22, o_23, o_24, o_25, o_26, o_27, o_28, o_29, o_30, o_31, o_32, o_33, o_34, o_35, o_36, o_37, o_38, o_39, o_40, o_41, o_42, o_43, o_44, o_45, o_46, o_47, o_48, o_49, o_50, o_51, o_52, o_53, o_54, o_55, o_56, o_57, o_58, o_59, o_60, o_62, o_70, o_71, o_99, o_124, o_154, o_156, o_176, o_255, o_276, o_326, o_4095, o_9999, o_10000, o_10001, o_20000, o_20033]
        · simp (disch := omega) only [fX12_ofSpoon, m_isSj r0 fN, hof, rM, o_69, l_6, c_isWord, c_isSetOfWords, c_isUse, c_isSheet, c_isBehind, c_mayB, c_wi, m_isWord, m_areWords, m_isSheet, m_isAhead, m_isKm, m_in, l_n1, o_n1, b2if, ck_s b2_z, c_ref1, c_ref2, c_ref3, c_ref4, c_ref5, m_fin1, m_fin2, m_fin3, m_fin4, m_fin5, l_0, l_1, l_2, l_3, l_5, l_7, l_8, l_9, l_11, l_12, l_16, l_20, l_30, l_40, l_60, l_69, l_99, l_4095, if_true, if_false, nI_add, pk_mul, nI_clamp, nI_leI, nI_ltI, nI_eq, ckI_s, bd_q, bnd_q, if_pos, if_neg, o_0, o_1, o_2, o_3, o_4, o_5, o_6, o_7, o_8, o_9, o_10, o_11, o_12, o_13, o_14, o_15, o_16, o_17, o_18, o_19, o_20, o_21, o_22, o_23, o_24, o_25, o_26, o_27, o_28, o_29, o_30, o_31, o_32, o_33, o_34, o_35, o_36, o_37, o_38, o_39, o_40, o_41, o_42, o_43, o_44, o_45, o_46, o_47, o_48, o_49, o_50, o_51, o_52, o_53, o_54, o_55, o_56, o_57, o_58, o_59, o_60, o_62, o_70, o_71, o_99, o_124, o_154, o_156, o_176, o_255, o_276, o_326, o_4095, o_9999, o_10000, o_10001, o_20000, o_20033]
      · subst e
        refine ⟨nI (aV A s), errors, tst, found, names, pile, ?_, ?_, he, A, E, hW, hH, hM, hC, hT, hG, hO⟩
        · simp (disch := omega) only [fX11_ofSpoon, qN, c_isSj, qV, o_69, l_6, c_isWord, c_isSetOfWords, c_isUse, c_isSheet, c_isBehind, c_mayB, c_wi, m_isWord, m_areWords, m_isSheet, m_isAhead, m_isKm, m_in, l_n1, o_n1, b2if, ck_s b2_z, c_ref1, c_ref2, c_ref3, c_ref4, c_ref5, m_fin1, m_fin2, m_fin3, m_fin4, m_fin5, l_0, l_1, l_2, l_3, l_5, l_7, l_8, l_9, l_11, l_12, l_16, l_20, l_30, l_40, l_60, l_69, l_99, l_4095, if_true, if_false, nI_add, pk_mul, nI_clamp, nI_leI, nI_ltI, nI_eq, ckI_s, bd_q, bnd_q, if_pos, if_neg, o_0, o_1, o_2, o_3, o_4, o_5, o_6, o_7, o_8, o_9, o_10, o_11, o_12, o_13, o_14, o_15, o_16, o_17, o_18, o_19, o_20, o_21, o_22, o_23, o_24, o_25, o_26, o_27, o_28, o_29, o_30, o_31, o_32, o_33, o_34, o_35, o_36, o_37, o_38, o_39, o_40, o_41, o_42, o_43, o_44, o_45, o_46, o_47, o_48, o_49, o_50, o_51, o_52, o_53, o_54, o_55, o_56, o_57, o_58, o_59, o_60, o_62, o_70, o_71, o_99, o_124, o_154, o_156, o_176, o_255, o_276, o_326, o_4095, o_9999, o_10000, o_10001, o_20000, o_20033]
        · simp (disch := omega) only [fX12_ofSpoon, m_isSj r0 fN, hof, rV, o_69, l_6, c_isWord, c_isSetOfWords, c_isUse, c_isSheet, c_isBehind, c_mayB, c_wi, m_isWord, m_areWords, m_isSheet, m_isAhead, m_isKm, m_in, l_n1, o_n1, b2if, ck_s b2_z, c_ref1, c_ref2, c_ref3, c_ref4, c_ref5, m_fin1, m_fin2, m_fin3, m_fin4, m_fin5, l_0, l_1, l_2, l_3, l_5, l_7, l_8, l_9, l_11, l_12, l_16, l_20, l_30, l_40, l_60, l_69, l_99, l_4095, if_true, if_false, nI_add, pk_mul, nI_clamp, nI_leI, nI_ltI, nI_eq, ckI_s, bd_q, bnd_q, if_pos, if_neg, o_0, o_1, o_2, o_3, o_4, o_5, o_6, o_7, o_8, o_9, o_10, o_11, o_12, o_13, o_14, o_15, o_16, o_17, o_18, o_19, o_20, o_21, o_22, o_23, o_24, o_25, o_26, o_27, o_28, o_29, o_30, o_31, o_32, o_33, o_34, o_35, o_36, o_37, o_38, o_39, o_40, o_41, o_42, o_43, o_44, o_45, o_46, o_47, o_48, o_49, o_50, o_51, o_52, o_53, o_54, o_55, o_56, o_57, o_58, o_59, o_60, o_62, o_70, o_71, o_99, o_124, o_154, o_156, o_176, o_255, o_276, o_326, o_4095, o_9999, o_10000, o_10001, o_20000, o_20033]
      · subst e
        refine ⟨nI (onN (aF A s)), errors, tst, found, names, pile, ?_, ?_, he, A, E, hW, hH, hM, hC, hT, hG, hO⟩
        · simp (disch := omega) only [fX11_ofSpoon, qN, c_isSj, c_on (A := A) (s := s) (by omega) (fF s) (qF s (by omega)), o_69, l_6, c_isWord, c_isSetOfWords, c_isUse, c_isSheet, c_isBehind, c_mayB, c_wi, m_isWord, m_areWords, m_isSheet, m_isAhead, m_isKm, m_in, l_n1, o_n1, b2if, ck_s b2_z, c_ref1, c_ref2, c_ref3, c_ref4, c_ref5, m_fin1, m_fin2, m_fin3, m_fin4, m_fin5, l_0, l_1, l_2, l_3, l_5, l_7, l_8, l_9, l_11, l_12, l_16, l_20, l_30, l_40, l_60, l_69, l_99, l_4095, if_true, if_false, nI_add, pk_mul, nI_clamp, nI_leI, nI_ltI, nI_eq, ckI_s, bd_q, bnd_q, if_pos, if_neg, o_0, o_1, o_2, o_3, o_4, o_5, o_6, o_7, o_8, o_9, o_10, o_11, o_12, o_13, o_14, o_15, o_16, o_17, o_18, o_19, o_20, o_21, o_22, o_23, o_24, o_25, o_26, o_27, o_28, o_29, o_30, o_31, o_32, o_33, o_34, o_35, o_36, o_37, o_38, o_39, o_40, o_41, o_42, o_43, o_44, o_45, o_46, o_47, o_48, o_49, o_50, o_51, o_52, o_53, o_54, o_55, o_56, o_57, o_58, o_59, o_60, o_62, o_70, o_71, o_99, o_124, o_154, o_156, o_176, o_255, o_276, o_326, o_4095, o_9999, o_10000, o_10001, o_20000, o_20033]
        · simp (disch := omega) only [fX12_ofSpoon, m_isSj r0 fN, m_on (s := s) (by omega) (fF s) (rF s (by omega)), o_69, l_6, c_isWord, c_isSetOfWords, c_isUse, c_isSheet, c_isBehind, c_mayB, c_wi, m_isWord, m_areWords, m_isSheet, m_isAhead, m_isKm, m_in, l_n1, o_n1, b2if, ck_s b2_z, c_ref1, c_ref2, c_ref3, c_ref4, c_ref5, m_fin1, m_fin2, m_fin3, m_fin4, m_fin5, l_0, l_1, l_2, l_3, l_5, l_7, l_8, l_9, l_11, l_12, l_16, l_20, l_30, l_40, l_60, l_69, l_99, l_4095, if_true, if_false, nI_add, pk_mul, nI_clamp, nI_leI, nI_ltI, nI_eq, ckI_s, bd_q, bnd_q, if_pos, if_neg, o_0, o_1, o_2, o_3, o_4, o_5, o_6, o_7, o_8, o_9, o_10, o_11, o_12, o_13, o_14, o_15, o_16, o_17, o_18, o_19, o_20, o_21, o_22, o_23, o_24, o_25, o_26, o_27, o_28, o_29, o_30, o_31, o_32, o_33, o_34, o_35, o_36, o_37, o_38, o_39, o_40, o_41, o_42, o_43, o_44, o_45, o_46, o_47, o_48, o_49, o_50, o_51, o_52, o_53, o_54, o_55, o_56, o_57, o_58, o_59, o_60, o_62, o_70, o_71, o_99, o_124, o_154, o_156, o_176, o_255, o_276, o_326, o_4095, o_9999, o_10000, o_10001, o_20000, o_20033]
      · subst e
        obtain ⟨tst', g1⟩ := c_rub hW hC hG.gc (s := s) (by omega) tst
        obtain ⟨n', p', g2⟩ := m_rubs hW hM hT.tg (s := s) (by omega) names pile
        refine ⟨nI (rubN E A s), errors, tst', found, n', p', ?_, ?_, he, A, E, hW, hH, hM, hC, hT, hG, hO⟩
        · have g1 : fX3_rubOf (nI s) h_kind h_silver h_fresh h_texts L tx tst = some (nI (rubN E A s), tst') := g1
          simp (disch := omega) only [fX11_ofSpoon, qN, c_isSj, g1, o_69, l_6, c_isWord, c_isSetOfWords, c_isUse, c_isSheet, c_isBehind, c_mayB, c_wi, m_isWord, m_areWords, m_isSheet, m_isAhead, m_isKm, m_in, l_n1, o_n1, b2if, ck_s b2_z, c_ref1, c_ref2, c_ref3, c_ref4, c_ref5, m_fin1, m_fin2, m_fin3, m_fin4, m_fin5, l_0, l_1, l_2, l_3, l_5, l_7, l_8, l_9, l_11, l_12, l_16, l_20, l_30, l_40, l_60, l_69, l_99, l_4095, if_true, if_false, nI_add, pk_mul, nI_clamp, nI_leI, nI_ltI, nI_eq, ckI_s, bd_q, bnd_q, if_pos, if_neg, o_0, o_1, o_2, o_3, o_4, o_5, o_6, o_7, o_8, o_9, o_10, o_11, o_12, o_13, o_14, o_15, o_16, o_17, o_18, o_19, o_20, o_21, o_22, o_23, o_24, o_25, o_26, o_27, o_28, o_29, o_30, o_31, o_32, o_33, o_34, o_35, o_36, o_37, o_38, o_39, o_40, o_41, o_42, o_43, o_44, o_45, o_46, o_47, o_48, o_49, o_50, o_51, o_52, o_53, o_54, o_55, o_56, o_57, o_58, o_59, o_60, o_62, o_70, o_71, o_99, o_124, o_154, o_156, o_176, o_255, o_276, o_326, o_4095, o_9999, o_10000, o_10001, o_20000, o_20033]
        · simp (disch := omega) only [fX12_ofSpoon, m_isSj r0 fN, g2, o_69, l_6, c_isWord, c_isSetOfWords, c_isUse, c_isSheet, c_isBehind, c_mayB, c_wi, m_isWord, m_areWords, m_isSheet, m_isAhead, m_isKm, m_in, l_n1, o_n1, b2if, ck_s b2_z, c_ref1, c_ref2, c_ref3, c_ref4, c_ref5, m_fin1, m_fin2, m_fin3, m_fin4, m_fin5, l_0, l_1, l_2, l_3, l_5, l_7, l_8, l_9, l_11, l_12, l_16, l_20, l_30, l_40, l_60, l_69, l_99, l_4095, if_true, if_false, nI_add, pk_mul, nI_clamp, nI_leI, nI_ltI, nI_eq, ckI_s, bd_q, bnd_q, if_pos, if_neg, o_0, o_1, o_2, o_3, o_4, o_5, o_6, o_7, o_8, o_9, o_10, o_11, o_12, o_13, o_14, o_15, o_16, o_17, o_18, o_19, o_20, o_21, o_22, o_23, o_24, o_25, o_26, o_27, o_28, o_29, o_30, o_31, o_32, o_33, o_34, o_35, o_36, o_37, o_38, o_39, o_40, o_41, o_42, o_43, o_44, o_45, o_46, o_47, o_48, o_49, o_50, o_51, o_52, o_53, o_54, o_55, o_56, o_57, o_58, o_59, o_60, o_62, o_70, o_71, o_99, o_124, o_154, o_156, o_176, o_255, o_276, o_326, o_4095, o_9999, o_10000, o_10001, o_20000, o_20033]
      · have hfi := c_fI (f := aF A s) (fF s) (w := x - 5) (by omega)
        refine ⟨nI (aF A s (x - 5)), errors, tst, found, names, pile, ?_, ?_, he, A, E, hW, hH, hM, hC, hT, hG, hO⟩
        · simp (disch := omega) only [fX11_ofSpoon, qN, c_isSj, qF, pk_sub, hfi, o_69, l_6, c_isWord, c_isSetOfWords, c_isUse, c_isSheet, c_isBehind, c_mayB, c_wi, m_isWord, m_areWords, m_isSheet, m_isAhead, m_isKm, m_in, l_n1, o_n1, b2if, ck_s b2_z, c_ref1, c_ref2, c_ref3, c_ref4, c_ref5, m_fin1, m_fin2, m_fin3, m_fin4, m_fin5, l_0, l_1, l_2, l_3, l_5, l_7, l_8, l_9, l_11, l_12, l_16, l_20, l_30, l_40, l_60, l_69, l_99, l_4095, if_true, if_false, nI_add, pk_mul, nI_clamp, nI_leI, nI_ltI, nI_eq, ckI_s, bd_q, bnd_q, if_pos, if_neg, o_0, o_1, o_2, o_3, o_4, o_5, o_6, o_7, o_8, o_9, o_10, o_11, o_12, o_13, o_14, o_15, o_16, o_17, o_18, o_19, o_20, o_21, o_22, o_23, o_24, o_25, o_26, o_27, o_28, o_29, o_30, o_31, o_32, o_33, o_34, o_35, o_36, o_37, o_38, o_39, o_40, o_41, o_42, o_43, o_44, o_45, o_46, o_47, o_48, o_49, o_50, o_51, o_52, o_53, o_54, o_55, o_56, o_57, o_58, o_59, o_60, o_62, o_70, o_71, o_99, o_124, o_154, o_156, o_176, o_255, o_276, o_326, o_4095, o_9999, o_10000, o_10001, o_20000, o_20033]
        · have e5 : nI 3 + nI x - nI 5 = nI (3 + (x - 5)) := by
            rw [nI_add, pk_sub (by omega)]
            congr 1
            omega
          unfold fX12_ofSpoon
          rw [bd_of (m_isSj r0 fN (by omega)), b2_t hs, if_neg (by decide), l_0, l_16, bd_of (m_in _ _ _), b2_t c1, if_neg (by decide), o_3, o_4, o_5, if_pos ((nI_leI (by decide) (by omega)).mpr (by omega)), if_neg (fun e => by rw [nI_eq (by omega) (by decide)] at e; omega), if_neg (fun e => by rw [nI_eq (by omega) (by decide)] at e; omega), e5, bd_of (hof _ (by omega)), rF s (by omega) (x - 5) (by omega)]
    · refine ⟨(-1000000001 : Int32), upd errors 1 (errors 1 + nI 1), tst, upd found 1 (found 1 + nI 1), names, pile, ?_, ?_, Re_up he 1 (by decide), A, E, hW, hH, hM, hC, hT, hG, hO⟩
      · simp (disch := omega) only [fX11_ofSpoon, if_pos c0, if_neg c1, qN, c_isSj, m_isSj r0 fN, o_69, l_6, c_isWord, c_isSetOfWords, c_isUse, c_isSheet, c_isBehind, c_mayB, c_wi, m_isWord, m_areWords, m_isSheet, m_isAhead, m_isKm, m_in, l_n1, o_n1, b2if, ck_s b2_z, c_ref1, c_ref2, c_ref3, c_ref4, c_ref5, m_fin1, m_fin2, m_fin3, m_fin4, m_fin5, l_0, l_1, l_2, l_3, l_5, l_7, l_8, l_9, l_11, l_12, l_16, l_20, l_30, l_40, l_60, l_69, l_99, l_4095, if_true, if_false, nI_add, pk_mul, nI_clamp, nI_leI, nI_ltI, nI_eq, ckI_s, bd_q, bnd_q, if_pos, if_neg, o_0, o_1, o_2, o_3, o_4, o_5, o_6, o_7, o_8, o_9, o_10, o_11, o_12, o_13, o_14, o_15, o_16, o_17, o_18, o_19, o_20, o_21, o_22, o_23, o_24, o_25, o_26, o_27, o_28, o_29, o_30, o_31, o_32, o_33, o_34, o_35, o_36, o_37, o_38, o_39, o_40, o_41, o_42, o_43, o_44, o_45, o_46, o_47, o_48, o_49, o_50, o_51, o_52, o_53, o_54, o_55, o_56, o_57, o_58, o_59, o_60, o_62, o_70, o_71, o_99, o_124, o_154, o_156, o_176, o_255, o_276, o_326, o_4095, o_9999, o_10000, o_10001, o_20000, o_20033]
      · simp (disch := omega) only [fX12_ofSpoon, if_pos c0, if_neg c1, qN, c_isSj, m_isSj r0 fN, o_69, l_6, c_isWord, c_isSetOfWords, c_isUse, c_isSheet, c_isBehind, c_mayB, c_wi, m_isWord, m_areWords, m_isSheet, m_isAhead, m_isKm, m_in, l_n1, o_n1, b2if, ck_s b2_z, c_ref1, c_ref2, c_ref3, c_ref4, c_ref5, m_fin1, m_fin2, m_fin3, m_fin4, m_fin5, l_0, l_1, l_2, l_3, l_5, l_7, l_8, l_9, l_11, l_12, l_16, l_20, l_30, l_40, l_60, l_69, l_99, l_4095, if_true, if_false, nI_add, pk_mul, nI_clamp, nI_leI, nI_ltI, nI_eq, ckI_s, bd_q, bnd_q, if_pos, if_neg, o_0, o_1, o_2, o_3, o_4, o_5, o_6, o_7, o_8, o_9, o_10, o_11, o_12, o_13, o_14, o_15, o_16, o_17, o_18, o_19, o_20, o_21, o_22, o_23, o_24, o_25, o_26, o_27, o_28, o_29, o_30, o_31, o_32, o_33, o_34, o_35, o_36, o_37, o_38, o_39, o_40, o_41, o_42, o_43, o_44, o_45, o_46, o_47, o_48, o_49, o_50, o_51, o_52, o_53, o_54, o_55, o_56, o_57, o_58, o_59, o_60, o_62, o_70, o_71, o_99, o_124, o_154, o_156, o_176, o_255, o_276, o_326, o_4095, o_9999, o_10000, o_10001, o_20000, o_20033]
  · refine ⟨(-1000000001 : Int32), upd errors 1 (errors 1 + nI 1), tst, upd found 1 (found 1 + nI 1), names, pile, ?_, ?_, Re_up he 1 (by decide), A, E, hW, hH, hM, hC, hT, hG, hO⟩
    · simp (disch := omega) only [fX11_ofSpoon, if_neg c0, qN, c_isSp, m_isSp _ r0, o_69, l_6, c_isWord, c_isSetOfWords, c_isUse, c_isSheet, c_isBehind, c_mayB, c_wi, m_isWord, m_areWords, m_isSheet, m_isAhead, m_isKm, m_in, l_n1, o_n1, b2if, ck_s b2_z, c_ref1, c_ref2, c_ref3, c_ref4, c_ref5, m_fin1, m_fin2, m_fin3, m_fin4, m_fin5, l_0, l_1, l_2, l_3, l_5, l_7, l_8, l_9, l_11, l_12, l_16, l_20, l_30, l_40, l_60, l_69, l_99, l_4095, if_true, if_false, nI_add, pk_mul, nI_clamp, nI_leI, nI_ltI, nI_eq, ckI_s, bd_q, bnd_q, if_pos, if_neg, o_0, o_1, o_2, o_3, o_4, o_5, o_6, o_7, o_8, o_9, o_10, o_11, o_12, o_13, o_14, o_15, o_16, o_17, o_18, o_19, o_20, o_21, o_22, o_23, o_24, o_25, o_26, o_27, o_28, o_29, o_30, o_31, o_32, o_33, o_34, o_35, o_36, o_37, o_38, o_39, o_40, o_41, o_42, o_43, o_44, o_45, o_46, o_47, o_48, o_49, o_50, o_51, o_52, o_53, o_54, o_55, o_56, o_57, o_58, o_59, o_60, o_62, o_70, o_71, o_99, o_124, o_154, o_156, o_176, o_255, o_276, o_326, o_4095, o_9999, o_10000, o_10001, o_20000, o_20033]
    · simp (disch := omega) only [fX12_ofSpoon, if_neg c0, qN, c_isSp, m_isSp _ r0, o_69, l_6, c_isWord, c_isSetOfWords, c_isUse, c_isSheet, c_isBehind, c_mayB, c_wi, m_isWord, m_areWords, m_isSheet, m_isAhead, m_isKm, m_in, l_n1, o_n1, b2if, ck_s b2_z, c_ref1, c_ref2, c_ref3, c_ref4, c_ref5, m_fin1, m_fin2, m_fin3, m_fin4, m_fin5, l_0, l_1, l_2, l_3, l_5, l_7, l_8, l_9, l_11, l_12, l_16, l_20, l_30, l_40, l_60, l_69, l_99, l_4095, if_true, if_false, nI_add, pk_mul, nI_clamp, nI_leI, nI_ltI, nI_eq, ckI_s, bd_q, bnd_q, if_pos, if_neg, o_0, o_1, o_2, o_3, o_4, o_5, o_6, o_7, o_8, o_9, o_10, o_11, o_12, o_13, o_14, o_15, o_16, o_17, o_18, o_19, o_20, o_21, o_22, o_23, o_24, o_25, o_26, o_27, o_28, o_29, o_30, o_31, o_32, o_33, o_34, o_35, o_36, o_37, o_38, o_39, o_40, o_41, o_42, o_43, o_44, o_45, o_46, o_47, o_48, o_49, o_50, o_51, o_52, o_53, o_54, o_55, o_56, o_57, o_58, o_59, o_60, o_62, o_70, o_71, o_99, o_124, o_154, o_156, o_176, o_255, o_276, o_326, o_4095, o_9999, o_10000, o_10001, o_20000, o_20033]
theorem E_change (a what v : Int32) (he : Re errors found) (hh : Rh h_weight h_known h_hour h_swS h_swW h_waS h_spoons h_kind h_mark h_silver h_fresh h_texts h_tape h_tapeCount h_z h_waiting h_waitingCount d L tx) : ∃ (r : Int32) (errorsR h_silverR : Nat → Int32) (h_freshR : Nat → Int64) (dR foundR : Nat → Int32), fX11_change a what v errors h_spoons h_silver h_fresh = some (r, errorsR, h_silverR, h_freshR) ∧ fX12_change a what v d found = some (r, dR, foundR) ∧ Re errorsR foundR ∧ Rh h_weight h_known h_hour h_swS h_swW h_waS h_spoons h_kind h_mark h_silverR h_freshR h_texts h_tape h_tapeCount h_z h_waiting h_waitingCount dR L tx := by
  obtain ⟨A, E, hW, hH, hM, hC, hT, hG, hO⟩ := hh
  have hM0 := hM
  have hC0 := hC
  have hW0 := hW
  obtain ⟨r0, r1, r2, rW, rB, rD, rS, rC, rM, rV, rF⟩ := hM0
  obtain ⟨qW, qK, qH, qB, qD, qS, qN, qC, qM, qV, qF⟩ := hC0
  obtain ⟨fN, fH, fK, fW, fB, fD, fS, fC, fM, fV, fF⟩ := hW0
  have bad : ∀ sp, fX11_change_37 errors sp h_silver h_fresh = some ((-1000000001 : Int32), upd errors 1 (errors 1 + nI 1), h_silver, h_fresh) := fun sp => by
    unfold fX11_change_37
    rw [bd_of (c_ref1 _)]
  have bad2 : fX12_change_42 d found = some ((-1000000001 : Int32), d, upd found 1 (found 1 + nI 1)) := by
    unfold fX12_change_42
    rw [o_1, bd_of (m_fin1 _)]
  have refuse : fX11_change a what v errors h_spoons h_silver h_fresh = some ((-1000000001 : Int32), upd errors 1 (errors 1 + nI 1), h_silver, h_fresh) → fX12_change a what v d found = some ((-1000000001 : Int32), d, upd found 1 (found 1 + nI 1)) → ∃ (r : Int32) (errorsR h_silverR : Nat → Int32) (h_freshR : Nat → Int64) (dR foundR : Nat → Int32), fX11_change a what v errors h_spoons h_silver h_fresh = some (r, errorsR, h_silverR, h_freshR) ∧ fX12_change a what v d found = some (r, dR, foundR) ∧ Re errorsR foundR ∧ Rh h_weight h_known h_hour h_swS h_swW h_waS h_spoons h_kind h_mark h_silverR h_freshR h_texts h_tape h_tapeCount h_z h_waiting h_waitingCount dR L tx := fun g1 g2 => ⟨_, _, _, _, _, _, g1, g2, Re_up he 1 (by decide), A, E, hW, hH, hM, hC, hT, hG, hO⟩
  by_cases c0 : nI 0 ≤ a ∧ a ≤ nI (aN A) - nI 1
  · obtain ⟨s, hs, rfl⟩ := bt_sp (by omega) c0
    by_cases c1 : nI 0 ≤ what ∧ what ≤ nI 12
    · obtain ⟨x, hx, rfl⟩ := bt_of (by decide) c1
      by_cases hx0 : x = 0
      · subst hx0
        by_cases c2 : nI 0 ≤ v ∧ v ≤ nI 99
        · obtain ⟨y, hy, rfl⟩ := bt_of (by decide) c2
          refine ⟨nI (aV A s), errors, upd h_silver s (nI y), h_fresh, upd d (34 + 15 * s + 2) (nI y), found, ?_, ?_, he, sV A (upN (aV A) s y), E, Wf_sV hW (upN_le fV hy), hH, RM_V hM y (by omega), RC_V hC y, TMc_u hT _ (by omega), hG, Ro_sm hO (Sm_upd (by omega))⟩
          · simp (disch := omega) only [fX11_change, fX11_change_31, qN, c_isSj, qV, o_69, l_6, c_isWord, c_isSetOfWords, c_isUse, c_isSheet, c_isBehind, c_mayB, c_wi, m_isWord, m_areWords, m_isSheet, m_isAhead, m_isKm, m_in, l_n1, o_n1, b2if, ck_s b2_z, c_ref1, c_ref2, c_ref3, c_ref4, c_ref5, m_fin1, m_fin2, m_fin3, m_fin4, m_fin5, l_0, l_1, l_2, l_3, l_5, l_7, l_8, l_9, l_11, l_12, l_16, l_20, l_30, l_40, l_60, l_69, l_99, l_4095, if_true, if_false, nI_add, pk_mul, nI_clamp, nI_leI, nI_ltI, nI_eq, ckI_s, bd_q, bnd_q, if_pos, if_neg, o_0, o_1, o_2, o_3, o_4, o_5, o_6, o_7, o_8, o_9, o_10, o_11, o_12, o_13, o_14, o_15, o_16, o_17, o_18, o_19, o_20, o_21, o_22, o_23, o_24, o_25, o_26, o_27, o_28, o_29, o_30, o_31, o_32, o_33, o_34, o_35, o_36, o_37, o_38, o_39, o_40, o_41, o_42, o_43, o_44, o_45, o_46, o_47, o_48, o_49, o_50, o_51, o_52, o_53, o_54, o_55, o_56, o_57, o_58, o_59, o_60, o_62, o_70, o_71, o_99, o_124, o_154, o_156, o_176, o_255, o_276, o_326, o_4095, o_9999, o_10000, o_10001, o_20000, o_20033]
          · have e6 : nI 34 + nI 15 * nI s + nI 2 + nI 0 = nI (34 + 15 * s + 2) := by
              rw [pk_mul, nI_add, nI_add, nI_add]
            unfold fX12_change fX12_change_36 fX12_becomes
            rw [bd_of (m_isSj r0 fN (by omega)), b2_t hs, if_neg (by decide), l_0, l_12, bd_of (m_in _ _ _), b2_t c1, if_neg (by decide), if_pos (show nI 0 = (0 : Int32) from rfl), l_99, bd_of (m_in _ _ _), b2_t c2, if_neg (by decide), o_34, o_15, o_2, e6, ckI_s (by omega) (by omega), nI_clamp (by omega), bnd_q, ckI_s (by omega) (by omega), bnd_q, bd_q, rV s (by omega)]
        · refine refuse ?_ ?_
          · simp (disch := omega) only [fX11_change, fX11_change_31, qN, c_isSj, bad, if_neg c2, o_69, l_6, c_isWord, c_isSetOfWords, c_isUse, c_isSheet, c_isBehind, c_mayB, c_wi, m_isWord, m_areWords, m_isSheet, m_isAhead, m_isKm, m_in, l_n1, o_n1, b2if, ck_s b2_z, c_ref1, c_ref2, c_ref3, c_ref4, c_ref5, m_fin1, m_fin2, m_fin3, m_fin4, m_fin5, l_0, l_1, l_2, l_3, l_5, l_7, l_8, l_9, l_11, l_12, l_16, l_20, l_30, l_40, l_60, l_69, l_99, l_4095, if_true, if_false, nI_add, pk_mul, nI_clamp, nI_leI, nI_ltI, nI_eq, ckI_s, bd_q, bnd_q, if_pos, if_neg, o_0, o_1, o_2, o_3, o_4, o_5, o_6, o_7, o_8, o_9, o_10, o_11, o_12, o_13, o_14, o_15, o_16, o_17, o_18, o_19, o_20, o_21, o_22, o_23, o_24, o_25, o_26, o_27, o_28, o_29, o_30, o_31, o_32, o_33, o_34, o_35, o_36, o_37, o_38, o_39, o_40, o_41, o_42, o_43, o_44, o_45, o_46, o_47, o_48, o_49, o_50, o_51, o_52, o_53, o_54, o_55, o_56, o_57, o_58, o_59, o_60, o_62, o_70, o_71, o_99, o_124, o_154, o_156, o_176, o_255, o_276, o_326, o_4095, o_9999, o_10000, o_10001, o_20000, o_20033]
          · unfold fX12_change fX12_change_36
            rw [bd_of (m_isSj r0 fN (by omega)), b2_t hs, if_neg (by decide), l_0, l_12, bd_of (m_in _ _ _), b2_t c1, if_neg (by decide), if_pos (show nI 0 = (0 : Int32) from rfl), l_99, bd_of (m_in _ _ _), b2_f c2, if_pos (show nI 0 = (0 : Int32) from rfl), bad2]
      · by_cases c2 : nI 0 ≤ v ∧ v ≤ nI 9
        · obtain ⟨y, hy, rfl⟩ := bt_of (by decide) c2
          have hwf := c_wF (f := aF A s) (fF s) (w := x - 1) (v := y) (by omega) hy
          have hfi := c_fI (f := aF A s) (fF s) (w := x - 1) (by omega)
          refine ⟨nI (aF A s (x - 1)), errors, h_silver, vp_updL h_fresh s (lN (pk12 (upN (aF A s) (x - 1) y))), upd d (34 + 15 * s + (3 + (x - 1))) (nI y), found, ?_, ?_, he, sF A (upF (aF A) s (upN (aF A s) (x - 1) y)), E, Wf_sF hW (upF_le fF (upN_le (fF s) hy)), hH, RM_F hM y (by omega) (by omega), RC_F hC _, TMc_u hT _ (by omega), hG, Ro_sm hO (Sm_upd (by omega))⟩
          · simp (disch := omega) only [fX11_change, fX11_change_31, qN, c_isSj, qF, pk_sub, hwf, hfi, o_69, l_6, c_isWord, c_isSetOfWords, c_isUse, c_isSheet, c_isBehind, c_mayB, c_wi, m_isWord, m_areWords, m_isSheet, m_isAhead, m_isKm, m_in, l_n1, o_n1, b2if, ck_s b2_z, c_ref1, c_ref2, c_ref3, c_ref4, c_ref5, m_fin1, m_fin2, m_fin3, m_fin4, m_fin5, l_0, l_1, l_2, l_3, l_5, l_7, l_8, l_9, l_11, l_12, l_16, l_20, l_30, l_40, l_60, l_69, l_99, l_4095, if_true, if_false, nI_add, pk_mul, nI_clamp, nI_leI, nI_ltI, nI_eq, ckI_s, bd_q, bnd_q, if_pos, if_neg, o_0, o_1, o_2, o_3, o_4, o_5, o_6, o_7, o_8, o_9, o_10, o_11, o_12, o_13, o_14, o_15, o_16, o_17, o_18, o_19, o_20, o_21, o_22, o_23, o_24, o_25, o_26, o_27, o_28, o_29, o_30, o_31, o_32, o_33, o_34, o_35, o_36, o_37, o_38, o_39, o_40, o_41, o_42, o_43, o_44, o_45, o_46, o_47, o_48, o_49, o_50, o_51, o_52, o_53, o_54, o_55, o_56, o_57, o_58, o_59, o_60, o_62, o_70, o_71, o_99, o_124, o_154, o_156, o_176, o_255, o_276, o_326, o_4095, o_9999, o_10000, o_10001, o_20000, o_20033]
          · have e6 : nI 34 + nI 15 * nI s + nI 2 + nI x = nI (34 + 15 * s + (3 + (x - 1))) := by
              rw [pk_mul, nI_add, nI_add, nI_add]
              congr 1
              omega
            unfold fX12_change fX12_change_36 fX12_becomes
            rw [bd_of (m_isSj r0 fN (by omega)), b2_t hs, if_neg (by decide), l_0, l_12, bd_of (m_in _ _ _), b2_t c1, if_neg (by decide), if_neg (fun e => hx0 (by rw [o_0, nI_eq (by omega) (by decide)] at e; exact e)), l_9, bd_of (m_in _ _ _), b2_t c2, if_neg (by decide), o_34, o_15, o_2, e6, ckI_s (by omega) (by omega), nI_clamp (by omega), bnd_q, ckI_s (by omega) (by omega), bnd_q, bd_q, rF s (by omega) (x - 1) (by omega)]
        · refine refuse ?_ ?_
          · simp (disch := omega) only [fX11_change, fX11_change_31, qN, c_isSj, bad, if_neg c2, o_69, l_6, c_isWord, c_isSetOfWords, c_isUse, c_isSheet, c_isBehind, c_mayB, c_wi, m_isWord, m_areWords, m_isSheet, m_isAhead, m_isKm, m_in, l_n1, o_n1, b2if, ck_s b2_z, c_ref1, c_ref2, c_ref3, c_ref4, c_ref5, m_fin1, m_fin2, m_fin3, m_fin4, m_fin5, l_0, l_1, l_2, l_3, l_5, l_7, l_8, l_9, l_11, l_12, l_16, l_20, l_30, l_40, l_60, l_69, l_99, l_4095, if_true, if_false, nI_add, pk_mul, nI_clamp, nI_leI, nI_ltI, nI_eq, ckI_s, bd_q, bnd_q, if_pos, if_neg, o_0, o_1, o_2, o_3, o_4, o_5, o_6, o_7, o_8, o_9, o_10, o_11, o_12, o_13, o_14, o_15, o_16, o_17, o_18, o_19, o_20, o_21, o_22, o_23, o_24, o_25, o_26, o_27, o_28, o_29, o_30, o_31, o_32, o_33, o_34, o_35, o_36, o_37, o_38, o_39, o_40, o_41, o_42, o_43, o_44, o_45, o_46, o_47, o_48, o_49, o_50, o_51, o_52, o_53, o_54, o_55, o_56, o_57, o_58, o_59, o_60, o_62, o_70, o_71, o_99, o_124, o_154, o_156, o_176, o_255, o_276, o_326, o_4095, o_9999, o_10000, o_10001, o_20000, o_20033]
          · unfold fX12_change fX12_change_36
            rw [bd_of (m_isSj r0 fN (by omega)), b2_t hs, if_neg (by decide), l_0, l_12, bd_of (m_in _ _ _), b2_t c1, if_neg (by decide), if_neg (fun e => hx0 (by rw [o_0, nI_eq (by omega) (by decide)] at e; exact e)), l_9, bd_of (m_in _ _ _), b2_f c2, if_pos (show nI 0 = (0 : Int32) from rfl), bad2]
    · refine refuse ?_ ?_
      · simp (disch := omega) only [fX11_change, qN, c_isSj, bad, if_neg c1, o_69, l_6, c_isWord, c_isSetOfWords, c_isUse, c_isSheet, c_isBehind, c_mayB, c_wi, m_isWord, m_areWords, m_isSheet, m_isAhead, m_isKm, m_in, l_n1, o_n1, b2if, ck_s b2_z, c_ref1, c_ref2, c_ref3, c_ref4, c_ref5, m_fin1, m_fin2, m_fin3, m_fin4, m_fin5, l_0, l_1, l_2, l_3, l_5, l_7, l_8, l_9, l_11, l_12, l_16, l_20, l_30, l_40, l_60, l_69, l_99, l_4095, if_true, if_false, nI_add, pk_mul, nI_clamp, nI_leI, nI_ltI, nI_eq, ckI_s, bd_q, bnd_q, if_pos, if_neg, o_0, o_1, o_2, o_3, o_4, o_5, o_6, o_7, o_8, o_9, o_10, o_11, o_12, o_13, o_14, o_15, o_16, o_17, o_18, o_19, o_20, o_21, o_22, o_23, o_24, o_25, o_26, o_27, o_28, o_29, o_30, o_31, o_32, o_33, o_34, o_35, o_36, o_37, o_38, o_39, o_40, o_41, o_42, o_43, o_44, o_45, o_46, o_47, o_48, o_49, o_50, o_51, o_52, o_53, o_54, o_55, o_56, o_57, o_58, o_59, o_60, o_62, o_70, o_71, o_99, o_124, o_154, o_156, o_176, o_255, o_276, o_326, o_4095, o_9999, o_10000, o_10001, o_20000, o_20033]
      · simp (disch := omega) only [fX12_change, m_isSj r0 fN, bad2, if_neg c1, o_69, l_6, c_isWord, c_isSetOfWords, c_isUse, c_isSheet, c_isBehind, c_mayB, c_wi, m_isWord, m_areWords, m_isSheet, m_isAhead, m_isKm, m_in, l_n1, o_n1, b2if, ck_s b2_z, c_ref1, c_ref2, c_ref3, c_ref4, c_ref5, m_fin1, m_fin2, m_fin3, m_fin4, m_fin5, l_0, l_1, l_2, l_3, l_5, l_7, l_8, l_9, l_11, l_12, l_16, l_20, l_30, l_40, l_60, l_69, l_99, l_4095, if_true, if_false, nI_add, pk_mul, nI_clamp, nI_leI, nI_ltI, nI_eq, ckI_s, bd_q, bnd_q, if_pos, if_neg, o_0, o_1, o_2, o_3, o_4, o_5, o_6, o_7, o_8, o_9, o_10, o_11, o_12, o_13, o_14, o_15, o_16, o_17, o_18, o_19, o_20, o_21, o_22, o_23, o_24, o_25, o_26, o_27, o_28, o_29, o_30, o_31, o_32, o_33, o_34, o_35, o_36, o_37, o_38, o_39, o_40, o_41, o_42, o_43, o_44, o_45, o_46, o_47, o_48, o_49, o_50, o_51, o_52, o_53, o_54, o_55, o_56, o_57, o_58, o_59, o_60, o_62, o_70, o_71, o_99, o_124, o_154, o_156, o_176, o_255, o_276, o_326, o_4095, o_9999, o_10000, o_10001, o_20000, o_20033]
  · refine refuse ?_ ?_
    · simp (disch := omega) only [fX11_change, qN, c_isSp, bad, if_neg c0, o_69, l_6, c_isWord, c_isSetOfWords, c_isUse, c_isSheet, c_isBehind, c_mayB, c_wi, m_isWord, m_areWords, m_isSheet, m_isAhead, m_isKm, m_in, l_n1, o_n1, b2if, ck_s b2_z, c_ref1, c_ref2, c_ref3, c_ref4, c_ref5, m_fin1, m_fin2, m_fin3, m_fin4, m_fin5, l_0, l_1, l_2, l_3, l_5, l_7, l_8, l_9, l_11, l_12, l_16, l_20, l_30, l_40, l_60, l_69, l_99, l_4095, if_true, if_false, nI_add, pk_mul, nI_clamp, nI_leI, nI_ltI, nI_eq, ckI_s, bd_q, bnd_q, if_pos, if_neg, o_0, o_1, o_2, o_3, o_4, o_5, o_6, o_7, o_8, o_9, o_10, o_11, o_12, o_13, o_14, o_15, o_16, o_17, o_18, o_19, o_20, o_21, o_22, o_23, o_24, o_25, o_26, o_27, o_28, o_29, o_30, o_31, o_32, o_33, o_34, o_35, o_36, o_37, o_38, o_39, o_40, o_41, o_42, o_43, o_44, o_45, o_46, o_47, o_48, o_49, o_50, o_51, o_52, o_53, o_54, o_55, o_56, o_57, o_58, o_59, o_60, o_62, o_70, o_71, o_99, o_124, o_154, o_156, o_176, o_255, o_276, o_326, o_4095, o_9999, o_10000, o_10001, o_20000, o_20033]
    · simp (disch := omega) only [fX12_change, m_isSp _ r0, bad2, if_neg c0, o_69, l_6, c_isWord, c_isSetOfWords, c_isUse, c_isSheet, c_isBehind, c_mayB, c_wi, m_isWord, m_areWords, m_isSheet, m_isAhead, m_isKm, m_in, l_n1, o_n1, b2if, ck_s b2_z, c_ref1, c_ref2, c_ref3, c_ref4, c_ref5, m_fin1, m_fin2, m_fin3, m_fin4, m_fin5, l_0, l_1, l_2, l_3, l_5, l_7, l_8, l_9, l_11, l_12, l_16, l_20, l_30, l_40, l_60, l_69, l_99, l_4095, if_true, if_false, nI_add, pk_mul, nI_clamp, nI_leI, nI_ltI, nI_eq, ckI_s, bd_q, bnd_q, if_pos, if_neg, o_0, o_1, o_2, o_3, o_4, o_5, o_6, o_7, o_8, o_9, o_10, o_11, o_12, o_13, o_14, o_15, o_16, o_17, o_18, o_19, o_20, o_21, o_22, o_23, o_24, o_25, o_26, o_27, o_28, o_29, o_30, o_31, o_32, o_33, o_34, o_35, o_36, o_37, o_38, o_39, o_40, o_41, o_42, o_43, o_44, o_45, o_46, o_47, o_48, o_49, o_50, o_51, o_52, o_53, o_54, o_55, o_56, o_57, o_58, o_59, o_60, o_62, o_70, o_71, o_99, o_124, o_154, o_156, o_176, o_255, o_276, o_326, o_4095, o_9999, o_10000, o_10001, o_20000, o_20033]
/-- the kinds above, by number -/
theorem as_all : ∀ k, k < 7 → ∀ b, b < 7 → ∀ (er : Nat → Int32) (sp : Int32) (ki mk : Nat → Int32) (s : Nat), s < 8 → ∃ e, lp (fun σ : Int32 × Int32 => fX11_as_38B (nI s) (nI b) er sp ki mk (σ.1) (σ.2)) FU (nI k, nI 0) = some (if b = 0 ∨ b = k ∨ b = (if 3 < k then k - 3 else 0) then Sum.inr (mk s, er) else Sum.inl (m1, nI e)) := by
  intro k hk b hb er sp ki mk s hs
  have st : ∀ n x i, x < 7 → i < 7 → x ≠ b → lp (fun σ : Int32 × Int32 => fX11_as_38B (nI s) (nI b) er sp ki mk (σ.1) (σ.2)) (n + 1) (nI x, nI i) = lp (fun σ : Int32 × Int32 => fX11_as_38B (nI s) (nI b) er sp ki mk (σ.1) (σ.2)) n (abv x, nI (i + 1)) := fun n x i hx hi hxb => by
    refine lp_inl ?_
    show fX11_as_38B (nI s) (nI b) er sp ki mk (nI x) (nI i) = _
    unfold fX11_as_38B
    rw [o_7, if_neg (by rw [nI_leI (by omega) (by omega)]; omega), o_0, if_neg (by rw [nI_ltI (by omega) (by decide)]; omega), if_neg (by rw [nI_eq (by omega) (by omega)]; exact hxb), ckI_s hx (by omega), nI_clamp (by omega), bnd_q, o_1, nI_add, bnd_q]
  have en : ∀ n i, i < 7 → lp (fun σ : Int32 × Int32 => fX11_as_38B (nI s) (nI b) er sp ki mk (σ.1) (σ.2)) (n + 1) (nI b, nI i) = some (.inr (mk s, er)) := fun n i hi => by
    refine lp_inr ?_
    show fX11_as_38B (nI s) (nI b) er sp ki mk (nI b) (nI i) = _
    unfold fX11_as_38B
    rw [o_7, if_neg (by rw [nI_leI (by omega) (by omega)]; omega), o_0, if_neg (by rw [nI_ltI (by omega) (by decide)]; omega), if_pos rfl, ckI_s hs (by omega), nI_clamp (by omega)]
  have ne : ∀ n i, i < 7 → lp (fun σ : Int32 × Int32 => fX11_as_38B (nI s) (nI b) er sp ki mk (σ.1) (σ.2)) (n + 1) (m1, nI i) = some (.inl (m1, nI i)) := fun n i hi => by
    refine lp_inr ?_
    show fX11_as_38B (nI s) (nI b) er sp ki mk m1 (nI i) = _
    unfold fX11_as_38B
    rw [o_7, if_neg (by rw [nI_leI (by omega) (by omega)]; omega), if_pos (by decide)]
  rcases (show k = 0 ∨ k = 1 ∨ k = 2 ∨ k = 3 ∨ k = 4 ∨ k = 5 ∨ k = 6 by omega) with e | e | e | e | e | e | e <;> subst e
  · refine ⟨1, ?_⟩
    rw [show (if 3 < 0 then 0 - 3 else 0) = 0 from rfl]
    by_cases h0 : b = 0
    · subst h0
      rw [if_pos (by decide)]
      exact en 999999 0 (by decide)
    · rw [if_neg (by omega)]
      refine (st 999999 0 0 (by decide) (by decide) (Ne.symm h0)).trans ?_
      exact ne 999998 1 (by decide)
  · refine ⟨2, ?_⟩
    rw [show (if 3 < 1 then 1 - 3 else 0) = 0 from rfl]
    by_cases h0 : b = 1
    · subst h0
      rw [if_pos (by decide)]
      exact en 999999 0 (by decide)
    · by_cases h1 : b = 0
      · subst h1
        rw [if_pos (by decide)]
        refine (st 999999 1 0 (by decide) (by decide) (by decide)).trans ?_
        exact en 999998 1 (by decide)
      · rw [if_neg (by omega)]
        refine (st 999999 1 0 (by decide) (by decide) (Ne.symm h0)).trans ?_
        refine (st 999998 0 1 (by decide) (by decide) (Ne.symm h1)).trans ?_
        exact ne 999997 2 (by decide)
  · refine ⟨2, ?_⟩
    rw [show (if 3 < 2 then 2 - 3 else 0) = 0 from rfl]
    by_cases h0 : b = 2
    · subst h0
      rw [if_pos (by decide)]
      exact en 999999 0 (by decide)
    · by_cases h1 : b = 0
      · subst h1
        rw [if_pos (by decide)]
        refine (st 999999 2 0 (by decide) (by decide) (by decide)).trans ?_
        exact en 999998 1 (by decide)
      · rw [if_neg (by omega)]
        refine (st 999999 2 0 (by decide) (by decide) (Ne.symm h0)).trans ?_
        refine (st 999998 0 1 (by decide) (by decide) (Ne.symm h1)).trans ?_
        exact ne 999997 2 (by decide)
  · refine ⟨2, ?_⟩
    rw [show (if 3 < 3 then 3 - 3 else 0) = 0 from rfl]
    by_cases h0 : b = 3
    · subst h0
      rw [if_pos (by decide)]
      exact en 999999 0 (by decide)
    · by_cases h1 : b = 0
      · subst h1
        rw [if_pos (by decide)]
        refine (st 999999 3 0 (by decide) (by decide) (by decide)).trans ?_
        exact en 999998 1 (by decide)
      · rw [if_neg (by omega)]
        refine (st 999999 3 0 (by decide) (by decide) (Ne.symm h0)).trans ?_
        refine (st 999998 0 1 (by decide) (by decide) (Ne.symm h1)).trans ?_
        exact ne 999997 2 (by decide)
  · refine ⟨3, ?_⟩
    rw [show (if 3 < 4 then 4 - 3 else 0) = 1 from rfl]
    by_cases h0 : b = 4
    · subst h0
      rw [if_pos (by decide)]
      exact en 999999 0 (by decide)
    · by_cases h1 : b = 1
      · subst h1
        rw [if_pos (by decide)]
        refine (st 999999 4 0 (by decide) (by decide) (by decide)).trans ?_
        exact en 999998 1 (by decide)
      · by_cases h2 : b = 0
        · subst h2
          rw [if_pos (by decide)]
          refine (st 999999 4 0 (by decide) (by decide) (by decide)).trans ?_
          refine (st 999998 1 1 (by decide) (by decide) (by decide)).trans ?_
          exact en 999997 2 (by decide)
        · rw [if_neg (by omega)]
          refine (st 999999 4 0 (by decide) (by decide) (Ne.symm h0)).trans ?_
          refine (st 999998 1 1 (by decide) (by decide) (Ne.symm h1)).trans ?_
          refine (st 999997 0 2 (by decide) (by decide) (Ne.symm h2)).trans ?_
          exact ne 999996 3 (by decide)
  · refine ⟨3, ?_⟩
    rw [show (if 3 < 5 then 5 - 3 else 0) = 2 from rfl]
    by_cases h0 : b = 5
    · subst h0
      rw [if_pos (by decide)]
      exact en 999999 0 (by decide)
    · by_cases h1 : b = 2
      · subst h1
        rw [if_pos (by decide)]
        refine (st 999999 5 0 (by decide) (by decide) (by decide)).trans ?_
        exact en 999998 1 (by decide)
      · by_cases h2 : b = 0
        · subst h2
          rw [if_pos (by decide)]
          refine (st 999999 5 0 (by decide) (by decide) (by decide)).trans ?_
          refine (st 999998 2 1 (by decide) (by decide) (by decide)).trans ?_
          exact en 999997 2 (by decide)
        · rw [if_neg (by omega)]
          refine (st 999999 5 0 (by decide) (by decide) (Ne.symm h0)).trans ?_
          refine (st 999998 2 1 (by decide) (by decide) (Ne.symm h1)).trans ?_
          refine (st 999997 0 2 (by decide) (by decide) (Ne.symm h2)).trans ?_
          exact ne 999996 3 (by decide)
  · refine ⟨3, ?_⟩
    rw [show (if 3 < 6 then 6 - 3 else 0) = 3 from rfl]
    by_cases h0 : b = 6
    · subst h0
      rw [if_pos (by decide)]
      exact en 999999 0 (by decide)
    · by_cases h1 : b = 3
      · subst h1
        rw [if_pos (by decide)]
        refine (st 999999 6 0 (by decide) (by decide) (by decide)).trans ?_
        exact en 999998 1 (by decide)
      · by_cases h2 : b = 0
        · subst h2
          rw [if_pos (by decide)]
          refine (st 999999 6 0 (by decide) (by decide) (by decide)).trans ?_
          refine (st 999998 3 1 (by decide) (by decide) (by decide)).trans ?_
          exact en 999997 2 (by decide)
        · rw [if_neg (by omega)]
          refine (st 999999 6 0 (by decide) (by decide) (Ne.symm h0)).trans ?_
          refine (st 999998 3 1 (by decide) (by decide) (Ne.symm h1)).trans ?_
          refine (st 999997 0 2 (by decide) (by decide) (Ne.symm h2)).trans ?_
          exact ne 999996 3 (by decide)
theorem E_as (a b : Int32) (he : Re errors found) (hh : Rh h_weight h_known h_hour h_swS h_swW h_waS h_spoons h_kind h_mark h_silver h_fresh h_texts h_tape h_tapeCount h_z h_waiting h_waitingCount d L tx) : ∃ (r : Int32) (errorsR foundR : Nat → Int32), fX11_as a b errors h_spoons h_kind h_mark = some (r, errorsR) ∧ fX12_as a b d found = some (r, foundR) ∧ Re errorsR foundR ∧ Rh h_weight h_known h_hour h_swS h_swW h_waS h_spoons h_kind h_mark h_silver h_fresh h_texts h_tape h_tapeCount h_z h_waiting h_waitingCount d L tx := by
  obtain ⟨A, E, hW, hH, hM, hC, hT, hG, hO⟩ := hh
  have hM0 := hM
  have hC0 := hC
  have hW0 := hW
  obtain ⟨r0, r1, r2, rW, rB, rD, rS, rC, rM, rV, rF⟩ := hM0
  obtain ⟨qW, qK, qH, qB, qD, qS, qN, qC, qM, qV, qF⟩ := hC0
  obtain ⟨fN, fH, fK, fW, fB, fD, fS, fC, fM, fV, fF⟩ := hW0
  have hh : Rh h_weight h_known h_hour h_swS h_swW h_waS h_spoons h_kind h_mark h_silver h_fresh h_texts h_tape h_tapeCount h_z h_waiting h_waitingCount d L tx := ⟨A, E, hW, hH, hM, hC, hT, hG, hO⟩
  by_cases c0 : nI 0 ≤ a ∧ a ≤ nI (aN A) - nI 1
  · obtain ⟨s, hs, rfl⟩ := bt_sp (by omega) c0
    by_cases c1 : nI 0 ≤ b ∧ b ≤ nI 6
    · obtain ⟨x, hx, rfl⟩ := bt_of (by decide) c1
      have hk := fC s
      obtain ⟨e0, hl⟩ := as_all (aC A s) (by omega) x (by omega) errors (nI (aN A)) h_kind h_mark s (by omega)
      have g11 : ∀ q, fX11_as_38 (nI s) (nI x) (nI (aC A s)) (nI 0) errors (nI (aN A)) h_kind h_mark = q → fX11_as (nI s) (nI x) errors h_spoons h_kind h_mark = q := fun q hq => by
        simp (disch := omega) only [fX11_as, qN, c_isSj, qC, hq, o_69, l_6, c_isWord, c_isSetOfWords, c_isUse, c_isSheet, c_isBehind, c_mayB, c_wi, m_isWord, m_areWords, m_isSheet, m_isAhead, m_isKm, m_in, l_n1, o_n1, b2if, ck_s b2_z, c_ref1, c_ref2, c_ref3, c_ref4, c_ref5, m_fin1, m_fin2, m_fin3, m_fin4, m_fin5, l_0, l_1, l_2, l_3, l_5, l_7, l_8, l_9, l_11, l_12, l_16, l_20, l_30, l_40, l_60, l_69, l_99, l_4095, if_true, if_false, nI_add, pk_mul, nI_clamp, nI_leI, nI_ltI, nI_eq, ckI_s, bd_q, bnd_q, if_pos, if_neg, o_0, o_1, o_2, o_3, o_4, o_5, o_6, o_7, o_8, o_9, o_10, o_11, o_12, o_13, o_14, o_15, o_16, o_17, o_18, o_19, o_20, o_21, o_22, o_23, o_24, o_25, o_26, o_27, o_28, o_29, o_30, o_31, o_32, o_33, o_34, o_35, o_36, o_37, o_38, o_39, o_40, o_41, o_42, o_43, o_44, o_45, o_46, o_47, o_48, o_49, o_50, o_51, o_52, o_53, o_54, o_55, o_56, o_57, o_58, o_59, o_60, o_62, o_70, o_71, o_99, o_124, o_154, o_156, o_176, o_255, o_276, o_326, o_4095, o_9999, o_10000, o_10001, o_20000, o_20033]
      have hab : fX12_above (nI (aC A s)) = some (nI (if 3 < aC A s then aC A s - 3 else 0)) := by
        unfold fX12_above
        rw [o_3]
        by_cases h3 : 3 < aC A s
        · rw [if_neg (by rw [nI_leI (by omega) (by decide)]; omega), if_pos h3, pk_sub (by omega)]
        · rw [if_pos (by rw [nI_leI (by omega) (by decide)]; omega), if_neg h3]
          rfl
      have h50 : fX12_as_50 (nI s) d found = some (nI (aM A s), found) := by
        unfold fX12_as_50
        rw [o_1, bd_of (m_of d (by omega) (by decide)), rM s (by omega)]
      have g12 : fX12_as (nI s) (nI x) d found = (if nI x = (0 : Int32) then fX12_as_50 (nI s) d found else (if nI x = nI (aC A s) then fX12_as_50 (nI s) d found else (if nI x = nI (if 3 < aC A s then aC A s - 3 else 0) then fX12_as_50 (nI s) d found else some ((-1000000005 : Int32), upd found 5 (found 5 + nI 1))))) := by
        unfold fX12_as
        rw [bd_of (m_isSj r0 fN (by omega)), b2_t hs, if_neg (by decide), l_0, l_6, bd_of (m_in _ _ _), b2_t c1, if_neg (by decide), o_0, bd_of (m_of d (by omega) (by decide)), rC s (by omega), bd_of hab, o_5, bd_of (m_fin5 _)]
      have ex : ∀ y, y < 7 → (nI x = nI y ↔ x = y) := fun y hy => nI_eq (by omega) (by omega)
      by_cases hc : x = 0 ∨ x = aC A s ∨ x = (if 3 < aC A s then aC A s - 3 else 0)
      · rw [if_pos hc] at hl
        refine ⟨nI (aM A s), errors, found, g11 _ ?_, ?_, he, hh⟩
        · unfold fX11_as_38
          refine (bd_of hl).trans ?_
          dsimp only
          rw [qM s (by omega)]
        · rw [g12, o_0, h50]
          by_cases e1 : x = 0
          · rw [if_pos (by rw [e1])]
          · rw [if_neg (fun e => e1 ((ex 0 (by decide)).mp e))]
            by_cases e2 : x = aC A s
            · rw [if_pos (by rw [e2])]
            · rw [if_neg (fun e => e2 ((ex _ (by omega)).mp e))]
              rcases hc with h | h | h
              · exact absurd h e1
              · exact absurd h e2
              · rw [if_pos (by rw [← h])]
      · rw [if_neg hc] at hl
        refine ⟨(-1000000005 : Int32), upd errors 5 (errors 5 + nI 1), upd found 5 (found 5 + nI 1), g11 _ ?_, ?_, Re_up he 5 (by decide), hh⟩
        · unfold fX11_as_38
          refine (bd_of hl).trans ?_
          dsimp only
          rw [bd_of (c_ref5 _)]
        · rw [g12, o_0]
          rw [if_neg (fun e => hc (Or.inl ((ex 0 (by decide)).mp e))), if_neg (fun e => hc (Or.inr (Or.inl ((ex _ (by omega)).mp e)))), if_neg (fun e => hc (Or.inr (Or.inr ((ex _ (by split <;> omega)).mp e))))]
    · refine ⟨(-1000000001 : Int32), upd errors 1 (errors 1 + nI 1), upd found 1 (found 1 + nI 1), ?_, ?_, Re_up he 1 (by decide), hh⟩
      · simp (disch := omega) only [fX11_as, qN, c_isSj, if_neg c1, o_69, l_6, c_isWord, c_isSetOfWords, c_isUse, c_isSheet, c_isBehind, c_mayB, c_wi, m_isWord, m_areWords, m_isSheet, m_isAhead, m_isKm, m_in, l_n1, o_n1, b2if, ck_s b2_z, c_ref1, c_ref2, c_ref3, c_ref4, c_ref5, m_fin1, m_fin2, m_fin3, m_fin4, m_fin5, l_0, l_1, l_2, l_3, l_5, l_7, l_8, l_9, l_11, l_12, l_16, l_20, l_30, l_40, l_60, l_69, l_99, l_4095, if_true, if_false, nI_add, pk_mul, nI_clamp, nI_leI, nI_ltI, nI_eq, ckI_s, bd_q, bnd_q, if_pos, if_neg, o_0, o_1, o_2, o_3, o_4, o_5, o_6, o_7, o_8, o_9, o_10, o_11, o_12, o_13, o_14, o_15, o_16, o_17, o_18, o_19, o_20, o_21, o_22, o_23, o_24, o_25, o_26, o_27, o_28, o_29, o_30, o_31, o_32, o_33, o_34, o_35, o_36, o_37, o_38, o_39, o_40, o_41, o_42, o_43, o_44, o_45, o_46, o_47, o_48, o_49, o_50, o_51, o_52, o_53, o_54, o_55, o_56, o_57, o_58, o_59, o_60, o_62, o_70, o_71, o_99, o_124, o_154, o_156, o_176, o_255, o_276, o_326, o_4095, o_9999, o_10000, o_10001, o_20000, o_20033]
      · simp (disch := omega) only [fX12_as, m_isSj r0 fN, if_neg c1, o_69, l_6, c_isWord, c_isSetOfWords, c_isUse, c_isSheet, c_isBehind, c_mayB, c_wi, m_isWord, m_areWords, m_isSheet, m_isAhead, m_isKm, m_in, l_n1, o_n1, b2if, ck_s b2_z, c_ref1, c_ref2, c_ref3, c_ref4, c_ref5, m_fin1, m_fin2, m_fin3, m_fin4, m_fin5, l_0, l_1, l_2, l_3, l_5, l_7, l_8, l_9, l_11, l_12, l_16, l_20, l_30, l_40, l_60, l_69, l_99, l_4095, if_true, if_false, nI_add, pk_mul, nI_clamp, nI_leI, nI_ltI, nI_eq, ckI_s, bd_q, bnd_q, if_pos, if_neg, o_0, o_1, o_2, o_3, o_4, o_5, o_6, o_7, o_8, o_9, o_10, o_11, o_12, o_13, o_14, o_15, o_16, o_17, o_18, o_19, o_20, o_21, o_22, o_23, o_24, o_25, o_26, o_27, o_28, o_29, o_30, o_31, o_32, o_33, o_34, o_35, o_36, o_37, o_38, o_39, o_40, o_41, o_42, o_43, o_44, o_45, o_46, o_47, o_48, o_49, o_50, o_51, o_52, o_53, o_54, o_55, o_56, o_57, o_58, o_59, o_60, o_62, o_70, o_71, o_99, o_124, o_154, o_156, o_176, o_255, o_276, o_326, o_4095, o_9999, o_10000, o_10001, o_20000, o_20033]
  · refine ⟨(-1000000001 : Int32), upd errors 1 (errors 1 + nI 1), upd found 1 (found 1 + nI 1), ?_, ?_, Re_up he 1 (by decide), hh⟩
    · simp (disch := omega) only [fX11_as, qN, c_isSp, if_neg c0, o_69, l_6, c_isWord, c_isSetOfWords, c_isUse, c_isSheet, c_isBehind, c_mayB, c_wi, m_isWord, m_areWords, m_isSheet, m_isAhead, m_isKm, m_in, l_n1, o_n1, b2if, ck_s b2_z, c_ref1, c_ref2, c_ref3, c_ref4, c_ref5, m_fin1, m_fin2, m_fin3, m_fin4, m_fin5, l_0, l_1, l_2, l_3, l_5, l_7, l_8, l_9, l_11, l_12, l_16, l_20, l_30, l_40, l_60, l_69, l_99, l_4095, if_true, if_false, nI_add, pk_mul, nI_clamp, nI_leI, nI_ltI, nI_eq, ckI_s, bd_q, bnd_q, if_pos, if_neg, o_0, o_1, o_2, o_3, o_4, o_5, o_6, o_7, o_8, o_9, o_10, o_11, o_12, o_13, o_14, o_15, o_16, o_17, o_18, o_19, o_20, o_21, o_22, o_23, o_24, o_25, o_26, o_27, o_28, o_29, o_30, o_31, o_32, o_33, o_34, o_35, o_36, o_37, o_38, o_39, o_40, o_41, o_42, o_43, o_44, o_45, o_46, o_47, o_48, o_49, o_50, o_51, o_52, o_53, o_54, o_55, o_56, o_57, o_58, o_59, o_60, o_62, o_70, o_71, o_99, o_124, o_154, o_156, o_176, o_255, o_276, o_326, o_4095, o_9999, o_10000, o_10001, o_20000, o_20033]
    · simp (disch := omega) only [fX12_as, m_isSp _ r0, if_neg c0, o_69, l_6, c_isWord, c_isSetOfWords, c_isUse, c_isSheet, c_isBehind, c_mayB, c_wi, m_isWord, m_areWords, m_isSheet, m_isAhead, m_isKm, m_in, l_n1, o_n1, b2if, ck_s b2_z, c_ref1, c_ref2, c_ref3, c_ref4, c_ref5, m_fin1, m_fin2, m_fin3, m_fin4, m_fin5, l_0, l_1, l_2, l_3, l_5, l_7, l_8, l_9, l_11, l_12, l_16, l_20, l_30, l_40, l_60, l_69, l_99, l_4095, if_true, if_false, nI_add, pk_mul, nI_clamp, nI_leI, nI_ltI, nI_eq, ckI_s, bd_q, bnd_q, if_pos, if_neg, o_0, o_1, o_2, o_3, o_4, o_5, o_6, o_7, o_8, o_9, o_10, o_11, o_12, o_13, o_14, o_15, o_16, o_17, o_18, o_19, o_20, o_21, o_22, o_23, o_24, o_25, o_26, o_27, o_28, o_29, o_30, o_31, o_32, o_33, o_34, o_35, o_36, o_37, o_38, o_39, o_40, o_41, o_42, o_43, o_44, o_45, o_46, o_47, o_48, o_49, o_50, o_51, o_52, o_53, o_54, o_55, o_56, o_57, o_58, o_59, o_60, o_62, o_70, o_71, o_99, o_124, o_154, o_156, o_176, o_255, o_276, o_326, o_4095, o_9999, o_10000, o_10001, o_20000, o_20033]
end E2
