/-! the reference: an hour, hours -/
section MG
variable {d : Nat → Int32} {A : AS} {E : EVt}
theorem m_sw (hW : Wf A) (hR : RM d A) (hT : TG d E) (nm pl : Nat → Int32) : ∃ d' n' p', fX12_hourGoes d nm pl = fX12_hourGoes_56 d' n' p' ∧ RM d' (spS E A) ∧ Sm d d' := by
  have hR0 := hR
  have hW0 := hW
  obtain ⟨r0, r1, r2, rW, rB, rD, rS, rC, rM, rV, rF⟩ := hR0
  obtain ⟨fN, fH, fK, fW, fB, fD, fS, fC, fM, fV, fF⟩ := hW0
  have hb := fB (aH A % 6)
  have hdd := fD (aH A % 6)
  have hsp := m_isSp (nI (aB A (aH A % 6)) - nI 1) r0
  unfold spS
  by_cases c1 : 1 ≤ aB A (aH A % 6) ∧ aB A (aH A % 6) ≤ aN A
  · rw [b2_t ((who_iff (by omega) (by omega)).mpr c1), pk_sub c1.1] at hsp
    have hs : aB A (aH A % 6) - 1 < 8 := by omega
    have hth := m_thr hs (fV _) (rV _ hs)
    by_cases c2 : 0 < aV A (aB A (aH A % 6) - 1)
    · rw [b2_f (by omega)] at hth
      obtain ⟨n', p', h1⟩ := m_swallows (w := aD A (aH A % 6)) hW hR hT hs (by omega) nm pl
      refine ⟨upd d (34 + 15 * (aB A (aH A % 6) - 1) + (3 + aD A (aH A % 6))) (nI (max (swaV E A (aB A (aH A % 6) - 1) (aD A (aH A % 6))) (aF A (aB A (aH A % 6) - 1) (aD A (aH A % 6))))), n', p', ?_, ?_, ?_⟩
      · simp (disch := omega) only [fX12_hourGoes, r1, pk_rem, rB, rD, hsp, pk_sub, hth, h1, if_true, if_false, nI_add, pk_mul, nI_clamp, nI_leI, nI_ltI, nI_eq, ckI_s, bd_s, bnd_s, if_pos, if_neg, o_0, o_1, o_2, o_3, o_4, o_5, o_6, o_7, o_8, o_9, o_10, o_11, o_12, o_13, o_14, o_15, o_16, o_17, o_18, o_19, o_20, o_21, o_22, o_23, o_24, o_25, o_26, o_27, o_28, o_29, o_30, o_31, o_32, o_33, o_34, o_35, o_36, o_37, o_38, o_39, o_40, o_41, o_42, o_43, o_44, o_45, o_46, o_47, o_48, o_49, o_50, o_51, o_52, o_53, o_54, o_55, o_56, o_57, o_58, o_59, o_60, o_62, o_70, o_71, o_99, o_124, o_154, o_156, o_176, o_255, o_276, o_326, o_4095, o_9999, o_10000, o_10001, o_20000, o_20033]
      · rw [if_pos ⟨c1.1, c1.2, c2⟩]
        refine ⟨(upd_n (by omega)).trans r0, (upd_n (by omega)).trans r1, (upd_n (by omega)).trans r2, fun j hj => (upd_n (by omega)).trans (rW j hj), fun j hj => (upd_n (by omega)).trans (rB j hj), fun j hj => (upd_n (by omega)).trans (rD j hj), fun j hj => (upd_n (by omega)).trans (rS j hj), fun j hj => (upd_n (by omega)).trans (rC j hj), fun j hj => (upd_n (by omega)).trans (rM j hj), fun j hj => (upd_n (by omega)).trans (rV j hj), fun j hj w hw => ?_⟩
        show _ = nI (upF (aF A) _ _ j w)
        by_cases hjs : j = aB A (aH A % 6) - 1
        · subst hjs
          rw [upF_s]
          by_cases hw2 : w = aD A (aH A % 6)
          · subst hw2
            rw [upd_s, upN_s]
          · rw [upd_n (by omega), upN_n hw2]
            exact rF _ hj w hw
        · rw [upF_n hjs, upd_n (by omega)]
          exact rF j hj w hw
      · exact Sm_upd (by omega)
    · rw [b2_t (by omega)] at hth
      refine ⟨d, nm, pl, ?_, ?_, Sm.rf⟩
      · simp (disch := omega) only [fX12_hourGoes, r1, pk_rem, rB, rD, hsp, pk_sub, hth, if_true, if_false, nI_add, pk_mul, nI_clamp, nI_leI, nI_ltI, nI_eq, ckI_s, bd_s, bnd_s, if_pos, if_neg, o_0, o_1, o_2, o_3, o_4, o_5, o_6, o_7, o_8, o_9, o_10, o_11, o_12, o_13, o_14, o_15, o_16, o_17, o_18, o_19, o_20, o_21, o_22, o_23, o_24, o_25, o_26, o_27, o_28, o_29, o_30, o_31, o_32, o_33, o_34, o_35, o_36, o_37, o_38, o_39, o_40, o_41, o_42, o_43, o_44, o_45, o_46, o_47, o_48, o_49, o_50, o_51, o_52, o_53, o_54, o_55, o_56, o_57, o_58, o_59, o_60, o_62, o_70, o_71, o_99, o_124, o_154, o_156, o_176, o_255, o_276, o_326, o_4095, o_9999, o_10000, o_10001, o_20000, o_20033]
      · rw [if_neg (fun h => c2 h.2.2)]
        exact hR
  · rw [b2_f (fun h => c1 ((who_iff (by omega) (by omega)).mp h))] at hsp
    refine ⟨d, nm, pl, ?_, ?_, Sm.rf⟩
    · simp (disch := omega) only [fX12_hourGoes, r1, pk_rem, rB, rD, hsp, if_true, if_false, nI_add, pk_mul, nI_clamp, nI_leI, nI_ltI, nI_eq, ckI_s, bd_s, bnd_s, if_pos, if_neg, o_0, o_1, o_2, o_3, o_4, o_5, o_6, o_7, o_8, o_9, o_10, o_11, o_12, o_13, o_14, o_15, o_16, o_17, o_18, o_19, o_20, o_21, o_22, o_23, o_24, o_25, o_26, o_27, o_28, o_29, o_30, o_31, o_32, o_33, o_34, o_35, o_36, o_37, o_38, o_39, o_40, o_41, o_42, o_43, o_44, o_45, o_46, o_47, o_48, o_49, o_50, o_51, o_52, o_53, o_54, o_55, o_56, o_57, o_58, o_59, o_60, o_62, o_70, o_71, o_99, o_124, o_154, o_156, o_176, o_255, o_276, o_326, o_4095, o_9999, o_10000, o_10001, o_20000, o_20033]
    · rw [if_neg (fun h => c1 ⟨h.1, h.2.1⟩)]
      exact hR
theorem m_wa (hW : Wf A) (hR : RM d A) (hT : TG d E) (nm pl : Nat → Int32) : ∃ d' n' p', fX12_hourGoes_56 d nm pl = fX12_hourGoes_94 d' n' p' ∧ RM d' (spW E A) ∧ Sm d d' := by
  have hR0 := hR
  have hW0 := hW
  obtain ⟨r0, r1, r2, rW, rB, rD, rS, rC, rM, rV, rF⟩ := hR0
  obtain ⟨fN, fH, fK, fW, fB, fD, fS, fC, fM, fV, fF⟩ := hW0
  have hb := fS (aH A % 4)
  have hsp := m_isSp (nI (aS A (aH A % 4)) - nI 1) r0
  unfold spW
  by_cases c1 : 1 ≤ aS A (aH A % 4) ∧ aS A (aH A % 4) ≤ aN A
  · rw [b2_t ((who_iff (by omega) (by omega)).mpr c1), pk_sub c1.1] at hsp
    have hs : aS A (aH A % 4) - 1 < 8 := by omega
    have hth := m_thr hs (fV _) (rV _ hs)
    by_cases c2 : 0 < aV A (aS A (aH A % 4) - 1)
    · rw [b2_f (by omega)] at hth
      obtain ⟨d', n', p', h1, h2, h3⟩ := m_washes hW hR hT hs nm pl
      refine ⟨d', n', p', ?_, ?_, h3⟩
      · simp (disch := omega) only [fX12_hourGoes_56, r1, pk_rem, rS, hsp, pk_sub, hth, h1, if_true, if_false, nI_add, pk_mul, nI_clamp, nI_leI, nI_ltI, nI_eq, ckI_s, bd_s, bnd_s, if_pos, if_neg, o_0, o_1, o_2, o_3, o_4, o_5, o_6, o_7, o_8, o_9, o_10, o_11, o_12, o_13, o_14, o_15, o_16, o_17, o_18, o_19, o_20, o_21, o_22, o_23, o_24, o_25, o_26, o_27, o_28, o_29, o_30, o_31, o_32, o_33, o_34, o_35, o_36, o_37, o_38, o_39, o_40, o_41, o_42, o_43, o_44, o_45, o_46, o_47, o_48, o_49, o_50, o_51, o_52, o_53, o_54, o_55, o_56, o_57, o_58, o_59, o_60, o_62, o_70, o_71, o_99, o_124, o_154, o_156, o_176, o_255, o_276, o_326, o_4095, o_9999, o_10000, o_10001, o_20000, o_20033]
      · rw [if_pos ⟨c1.1, c1.2, c2⟩]
        exact h2
    · rw [b2_t (by omega)] at hth
      refine ⟨d, nm, pl, ?_, ?_, Sm.rf⟩
      · simp (disch := omega) only [fX12_hourGoes_56, r1, pk_rem, rS, hsp, pk_sub, hth, if_true, if_false, nI_add, pk_mul, nI_clamp, nI_leI, nI_ltI, nI_eq, ckI_s, bd_s, bnd_s, if_pos, if_neg, o_0, o_1, o_2, o_3, o_4, o_5, o_6, o_7, o_8, o_9, o_10, o_11, o_12, o_13, o_14, o_15, o_16, o_17, o_18, o_19, o_20, o_21, o_22, o_23, o_24, o_25, o_26, o_27, o_28, o_29, o_30, o_31, o_32, o_33, o_34, o_35, o_36, o_37, o_38, o_39, o_40, o_41, o_42, o_43, o_44, o_45, o_46, o_47, o_48, o_49, o_50, o_51, o_52, o_53, o_54, o_55, o_56, o_57, o_58, o_59, o_60, o_62, o_70, o_71, o_99, o_124, o_154, o_156, o_176, o_255, o_276, o_326, o_4095, o_9999, o_10000, o_10001, o_20000, o_20033]
      · rw [if_neg (fun h => c2 h.2.2)]
        exact hR
  · rw [b2_f (fun h => c1 ((who_iff (by omega) (by omega)).mp h))] at hsp
    refine ⟨d, nm, pl, ?_, ?_, Sm.rf⟩
    · simp (disch := omega) only [fX12_hourGoes_56, r1, pk_rem, rS, hsp, if_true, if_false, nI_add, pk_mul, nI_clamp, nI_leI, nI_ltI, nI_eq, ckI_s, bd_s, bnd_s, if_pos, if_neg, o_0, o_1, o_2, o_3, o_4, o_5, o_6, o_7, o_8, o_9, o_10, o_11, o_12, o_13, o_14, o_15, o_16, o_17, o_18, o_19, o_20, o_21, o_22, o_23, o_24, o_25, o_26, o_27, o_28, o_29, o_30, o_31, o_32, o_33, o_34, o_35, o_36, o_37, o_38, o_39, o_40, o_41, o_42, o_43, o_44, o_45, o_46, o_47, o_48, o_49, o_50, o_51, o_52, o_53, o_54, o_55, o_56, o_57, o_58, o_59, o_60, o_62, o_70, o_71, o_99, o_124, o_154, o_156, o_176, o_255, o_276, o_326, o_4095, o_9999, o_10000, o_10001, o_20000, o_20033]
    · rw [if_neg (fun h => c1 ⟨h.1, h.2.1⟩)]
      exact hR
/-- a spoon's words one less fresh -/
theorem m_ag1 {s : Nat} (hs : s < 8) (f : Nat → Nat) (hF : ∀ w, f w ≤ 9) (nm pl : Nat → Int32) (d0 : Nat → Int32) (h0 : ∀ w, w < 12 → d0 (34 + 15 * s + (3 + w)) = nI (f w)) : ∃ d4, fX12_hourGoes_109 (nI s) (nI 0) d0 nm pl = some (.inl (nI (s + 1), d4)) ∧ (∀ w, w < 12 → d4 (34 + 15 * s + (3 + w)) = nI (f w - 1)) ∧ ∀ k, (∀ w, w < 12 → k ≠ 34 + 15 * s + (3 + w)) → d4 k = d0 k := by
  unfold fX12_hourGoes_109
  obtain ⟨⟨x, d4⟩, h1, h2, h3⟩ := lpE (fun σ : Int32 × (Nat → Int32) => fX12_hourGoes_109B (nI s) nm pl (σ.1) (σ.2)) (fun i σ => σ.1 = nI i ∧ (∀ w, w < 12 → σ.2 (34 + 15 * s + (3 + w)) = nI (if w < i then f w - 1 else f w)) ∧ ∀ k, (∀ w, w < 12 → k ≠ 34 + 15 * s + (3 + w)) → σ.2 k = d0 k) (fun r => (∀ w, w < 12 → r.2 (34 + 15 * s + (3 + w)) = nI (f w - 1)) ∧ ∀ k, (∀ w, w < 12 → k ≠ 34 + 15 * s + (3 + w)) → r.2 k = d0 k) 12
    (fun i σ hi hI => by
      obtain ⟨x, d1⟩ := σ
      obtain ⟨e1, e2, e3⟩ := hI
      dsimp only at e1 e2 e3
      subst e1
      have h3 := e2 i hi
      rw [if_neg (by omega)] at h3
      have h4 := hF i
      have hh : fX12_held (nI (f i) - nI 1) (nI 0) (nI 9) = some (nI (f i - 1)) := by
        rw [m_held _ (by decide)]
        by_cases h : 1 ≤ f i
        · rw [pk_sub h, hld_nI (by omega), Nat.min_eq_right (by omega)]
        · rw [show f i = 0 by omega]
          rfl
      refine Or.inl ⟨(nI (i + 1), upd d1 (34 + 15 * s + (3 + i)) (nI (f i - 1))), ?_, rfl, fun w hw => ?_, fun k hk => (upd_n (hk i hi)).trans (e3 k hk)⟩
      · simp (disch := omega) only [fX12_hourGoes_109B, m_sets, m_of, h3, hh, if_true, if_false, nI_add, pk_mul, nI_clamp, nI_leI, nI_ltI, nI_eq, ckI_s, bd_s, bnd_s, if_pos, if_neg, o_0, o_1, o_2, o_3, o_4, o_5, o_6, o_7, o_8, o_9, o_10, o_11, o_12, o_13, o_14, o_15, o_16, o_17, o_18, o_19, o_20, o_21, o_22, o_23, o_24, o_25, o_26, o_27, o_28, o_29, o_30, o_31, o_32, o_33, o_34, o_35, o_36, o_37, o_38, o_39, o_40, o_41, o_42, o_43, o_44, o_45, o_46, o_47, o_48, o_49, o_50, o_51, o_52, o_53, o_54, o_55, o_56, o_57, o_58, o_59, o_60, o_62, o_70, o_71, o_99, o_124, o_154, o_156, o_176, o_255, o_276, o_326, o_4095, o_9999, o_10000, o_10001, o_20000, o_20033]
      · by_cases hwi : w = i
        · subst hwi
          dsimp only
          rw [upd_s, if_pos (show w < w + 1 by omega)]
        · dsimp only
          rw [upd_n (by omega), e2 w hw]
          by_cases h5 : w < i
          · rw [if_pos h5, if_pos (show w < i + 1 by omega)]
          · rw [if_neg h5, if_neg (show ¬ w < i + 1 by omega)])
    (fun σ hI => by
      obtain ⟨x, d1⟩ := σ
      obtain ⟨e1, e2, e3⟩ := hI
      dsimp only at e1 e2 e3
      subst e1
      refine ⟨(nI 12, d1), ?_, fun w hw => ?_, e3⟩
      · simp (disch := omega) only [fX12_hourGoes_109B, if_true, if_false, nI_add, pk_mul, nI_clamp, nI_leI, nI_ltI, nI_eq, ckI_s, bd_s, bnd_s, if_pos, if_neg, o_0, o_1, o_2, o_3, o_4, o_5, o_6, o_7, o_8, o_9, o_10, o_11, o_12, o_13, o_14, o_15, o_16, o_17, o_18, o_19, o_20, o_21, o_22, o_23, o_24, o_25, o_26, o_27, o_28, o_29, o_30, o_31, o_32, o_33, o_34, o_35, o_36, o_37, o_38, o_39, o_40, o_41, o_42, o_43, o_44, o_45, o_46, o_47, o_48, o_49, o_50, o_51, o_52, o_53, o_54, o_55, o_56, o_57, o_58, o_59, o_60, o_62, o_70, o_71, o_99, o_124, o_154, o_156, o_176, o_255, o_276, o_326, o_4095, o_9999, o_10000, o_10001, o_20000, o_20033]
      · have := e2 w hw
        rw [if_pos hw] at this
        exact this)
    (FU_lt (by decide)) (nI 0, d0) ⟨rfl, fun w hw => by rw [if_neg (by omega)]; exact h0 w hw, fun k _ => rfl⟩
  refine ⟨d4, (bd_of h1).trans ?_, h2, h3⟩
  simp only [bnd_s, o_1, nI_add]
theorem m_age (hW : Wf A) (hR : RM d A) (nm pl : Nat → Int32) : ∃ d', fX12_hourGoes_94 d nm pl = some (d', nm, pl) ∧ RM d' (spA A) ∧ Sm d d' := by
  obtain ⟨r0, r1, r2, rW, rB, rD, rS, rC, rM, rV, rF⟩ := hR
  obtain ⟨fN, fH, fK, fW, fB, fD, fS, fC, fM, fV, fF⟩ := hW
  unfold fX12_hourGoes_94 fX12_hourGoes_96
  obtain ⟨r, h1, h2, h3⟩ := lpE (fun σ : Int32 × (Nat → Int32) => fX12_hourGoes_96B nm pl (σ.1) (σ.2)) (fun i σ => σ.1 = nI i ∧ (∀ s, s < 8 → ∀ w, w < 12 → σ.2 (34 + 15 * s + (3 + w)) = nI (if s < i then aF A s w - 1 else aF A s w)) ∧ ∀ k, (∀ s, s < 8 → ∀ w, w < 12 → k ≠ 34 + 15 * s + (3 + w)) → σ.2 k = d k) (fun r => (∀ s, s < 8 → ∀ w, w < 12 → r.2 (34 + 15 * s + (3 + w)) = nI (if s < aN A then aF A s w - 1 else aF A s w)) ∧ ∀ k, (∀ s, s < 8 → ∀ w, w < 12 → k ≠ 34 + 15 * s + (3 + w)) → r.2 k = d k) (aN A)
    (fun i σ hi hI => by
      obtain ⟨x, d1⟩ := σ
      obtain ⟨e1, e2, e3⟩ := hI
      dsimp only at e1 e2 e3
      subst e1
      have h0 : d1 0 = nI (aN A) := (e3 0 (fun s hs w hw => by omega)).trans r0
      obtain ⟨d4, g1, g2, g3⟩ := m_ag1 (s := i) (by omega) (aF A i) (fF i) nm pl d1 (fun w hw => by
        have := e2 i (by omega) w hw
        rw [if_neg (by omega)] at this
        exact this)
      refine Or.inl ⟨(nI (i + 1), d4), ?_, rfl, fun s hs w hw => ?_, fun k hk => (g3 k (hk i (by omega))).trans (e3 k hk)⟩
      · simp (disch := omega) only [fX12_hourGoes_96B, h0, g1, if_true, if_false, nI_add, pk_mul, nI_clamp, nI_leI, nI_ltI, nI_eq, ckI_s, bd_s, bnd_s, if_pos, if_neg, o_0, o_1, o_2, o_3, o_4, o_5, o_6, o_7, o_8, o_9, o_10, o_11, o_12, o_13, o_14, o_15, o_16, o_17, o_18, o_19, o_20, o_21, o_22, o_23, o_24, o_25, o_26, o_27, o_28, o_29, o_30, o_31, o_32, o_33, o_34, o_35, o_36, o_37, o_38, o_39, o_40, o_41, o_42, o_43, o_44, o_45, o_46, o_47, o_48, o_49, o_50, o_51, o_52, o_53, o_54, o_55, o_56, o_57, o_58, o_59, o_60, o_62, o_70, o_71, o_99, o_124, o_154, o_156, o_176, o_255, o_276, o_326, o_4095, o_9999, o_10000, o_10001, o_20000, o_20033]
      · dsimp only
        by_cases hsi : s = i
        · subst hsi
          rw [g2 w hw, if_pos (show s < s + 1 by omega)]
        · rw [g3 _ (fun w' hw' => by omega), e2 s hs w hw]
          by_cases h5 : s < i
          · rw [if_pos h5, if_pos (show s < i + 1 by omega)]
          · rw [if_neg h5, if_neg (show ¬ s < i + 1 by omega)])
    (fun σ hI => by
      obtain ⟨x, d1⟩ := σ
      obtain ⟨e1, e2, e3⟩ := hI
      dsimp only at e1 e2 e3
      subst e1
      have h0 : d1 0 = nI (aN A) := (e3 0 (fun s hs w hw => by omega)).trans r0
      refine ⟨(nI (aN A), d1), ?_, e2, e3⟩
      simp (disch := omega) only [fX12_hourGoes_96B, h0, if_true, if_false, nI_add, pk_mul, nI_clamp, nI_leI, nI_ltI, nI_eq, ckI_s, bd_s, bnd_s, if_pos, if_neg, o_0, o_1, o_2, o_3, o_4, o_5, o_6, o_7, o_8, o_9, o_10, o_11, o_12, o_13, o_14, o_15, o_16, o_17, o_18, o_19, o_20, o_21, o_22, o_23, o_24, o_25, o_26, o_27, o_28, o_29, o_30, o_31, o_32, o_33, o_34, o_35, o_36, o_37, o_38, o_39, o_40, o_41, o_42, o_43, o_44, o_45, o_46, o_47, o_48, o_49, o_50, o_51, o_52, o_53, o_54, o_55, o_56, o_57, o_58, o_59, o_60, o_62, o_70, o_71, o_99, o_124, o_154, o_156, o_176, o_255, o_276, o_326, o_4095, o_9999, o_10000, o_10001, o_20000, o_20033])
    (FU_lt (by omega)) (nI 0, d) ⟨rfl, fun s hs w hw => by rw [if_neg (by omega)]; exact rF s hs w hw, fun k _ => rfl⟩
  have h1 : lp (fun σ : Int32 × (Nat → Int32) => fX12_hourGoes_96B nm pl (σ.1) (σ.2)) FU ((0 : Int32), d) = some r := h1
  rw [bd_of h1]
  obtain ⟨x, d1⟩ := r
  dsimp only at h2 h3 ⊢
  have hh : d1 1 = nI (aH A) := (h3 1 (fun s hs w hw => by omega)).trans r1
  have hfr : ∀ k, k ≠ 1 → (∀ s, s < 8 → ∀ w, w < 12 → k ≠ 34 + 15 * s + (3 + w)) → upd d1 1 (nI (aH A + 1)) k = d k := fun k k1 k2 => (upd_n k1).trans (h3 k k2)
  refine ⟨upd d1 1 (nI (aH A + 1)), ?_, ?_, ?_⟩
  · simp (disch := omega) only [hh, if_true, if_false, nI_add, pk_mul, nI_clamp, nI_leI, nI_ltI, nI_eq, ckI_s, bd_s, bnd_s, if_pos, if_neg, o_0, o_1, o_2, o_3, o_4, o_5, o_6, o_7, o_8, o_9, o_10, o_11, o_12, o_13, o_14, o_15, o_16, o_17, o_18, o_19, o_20, o_21, o_22, o_23, o_24, o_25, o_26, o_27, o_28, o_29, o_30, o_31, o_32, o_33, o_34, o_35, o_36, o_37, o_38, o_39, o_40, o_41, o_42, o_43, o_44, o_45, o_46, o_47, o_48, o_49, o_50, o_51, o_52, o_53, o_54, o_55, o_56, o_57, o_58, o_59, o_60, o_62, o_70, o_71, o_99, o_124, o_154, o_156, o_176, o_255, o_276, o_326, o_4095, o_9999, o_10000, o_10001, o_20000, o_20033]
  · refine ⟨(hfr _ (by omega) (fun s hs w hw => by omega)).trans r0, upd_s, (hfr _ (by omega) (fun s hs w hw => by omega)).trans r2, fun j hj => (hfr _ (by omega) (fun s hs w hw => by omega)).trans (rW j hj), fun j hj => (hfr _ (by omega) (fun s hs w hw => by omega)).trans (rB j hj), fun j hj => (hfr _ (by omega) (fun s hs w hw => by omega)).trans (rD j hj), fun j hj => (hfr _ (by omega) (fun s hs w hw => by omega)).trans (rS j hj), fun j hj => (hfr _ (by omega) (fun s hs w hw => by omega)).trans (rC j hj), fun j hj => (hfr _ (by omega) (fun s hs w hw => by omega)).trans (rM j hj), fun j hj => (hfr _ (by omega) (fun s hs w hw => by omega)).trans (rV j hj), fun j hj w hw => ?_⟩
    rw [upd_n (by omega)]
    exact h2 j hj w hw
  · exact ⟨hfr _ (by omega) (fun s hs w hw => by omega), hfr _ (by omega) (fun s hs w hw => by omega), hfr _ (by omega) (fun s hs w hw => by omega), fun k hk => hfr _ (by omega) (fun s hs w hw => by omega)⟩
end MG
/-- the texts, by their codes -/
def TGs (E : EVt) (d : Nat → Int32) : Prop := ∀ d', Sm d d' → TG d' E
theorem TGs.sm {E : EVt} {d d' : Nat → Int32} (h : TGs E d) (g : Sm d d') : TGs E d' := fun e he => h e (g.tr he)
theorem TGs.at {E : EVt} {d : Nat → Int32} (h : TGs E d) : TG d E := h d Sm.rf
theorem m_hour {d : Nat → Int32} {A : AS} {E : EVt} (hW : Wf A) (hR : RM d A) (hT : TGs E d) (hH : aH A < 10100) (nm pl : Nat → Int32) : ∃ d' n' p', fX12_hourGoes d nm pl = some (d', n', p') ∧ RM d' (stpA E A) ∧ Sm d d' := by
  obtain ⟨d1, n1, p1, a1, a2, a3⟩ := m_sw hW hR hT.at nm pl
  obtain ⟨d2, n2, p2, b1, b2, b3⟩ := m_wa (Wf_spS hW) a2 (hT.sm a3).at n1 p1
  obtain ⟨d3, e1, e2, e3⟩ := m_age (Wf_spW (Wf_spS hW)) b2 n2 p2
  exact ⟨d3, n2, p2, by rw [a1, b1, e1], e2, (a3.tr b3).tr e3⟩
theorem m_hours {d : Nat → Int32} {A : AS} {E : EVt} {n : Nat} (hW : Wf A) (hR : RM d A) (hT : TGs E d) (hn : n ≤ 100) (hH : aH A + n ≤ 10100) (nm pl : Nat → Int32) : ∃ d' n' p', fX12_hoursGo (nI n) d nm pl = some (d', n', p') ∧ RM d' (runA E n A) ∧ Sm d d' := by
  unfold fX12_hoursGo fX12_hoursGo_2
  obtain ⟨r, h1, h2, h3⟩ := lpE (fun σ : Int32 × (Nat → Int32) × (Nat → Int32) × (Nat → Int32) => fX12_hoursGo_2B (nI n) (σ.1) (σ.2.1) (σ.2.2.1) (σ.2.2.2)) (fun i σ => σ.1 = nI i ∧ RM σ.2.1 (runA E i A) ∧ Sm d σ.2.1) (fun r => RM r.2.1 (runA E n A) ∧ Sm d r.2.1) n
    (fun i σ hi hI => by
      obtain ⟨x, d1, n1, p1⟩ := σ
      obtain ⟨e1, e2, e3⟩ := hI
      dsimp only at e1 e2 e3
      subst e1
      obtain ⟨d2, n2, p2, g1, g2, g3⟩ := m_hour (Wf_runA hW i (by omega)) e2 (hT.sm e3) (by rw [runA_H]; omega) n1 p1
      refine Or.inl ⟨(nI (i + 1), d2, n2, p2), ?_, rfl, g2, e3.tr g3⟩
      simp (disch := omega) only [fX12_hoursGo_2B, g1, if_true, if_false, nI_add, pk_mul, nI_clamp, nI_leI, nI_ltI, nI_eq, ckI_s, bd_s, bnd_s, if_pos, if_neg, o_0, o_1, o_2, o_3, o_4, o_5, o_6, o_7, o_8, o_9, o_10, o_11, o_12, o_13, o_14, o_15, o_16, o_17, o_18, o_19, o_20, o_21, o_22, o_23, o_24, o_25, o_26, o_27, o_28, o_29, o_30, o_31, o_32, o_33, o_34, o_35, o_36, o_37, o_38, o_39, o_40, o_41, o_42, o_43, o_44, o_45, o_46, o_47, o_48, o_49, o_50, o_51, o_52, o_53, o_54, o_55, o_56, o_57, o_58, o_59, o_60, o_62, o_70, o_71, o_99, o_124, o_154, o_156, o_176, o_255, o_276, o_326, o_4095, o_9999, o_10000, o_10001, o_20000, o_20033])
    (fun σ hI => by
      obtain ⟨x, d1, n1, p1⟩ := σ
      obtain ⟨e1, e2, e3⟩ := hI
      dsimp only at e1 e2 e3
      subst e1
      refine ⟨(nI n, d1, n1, p1), ?_, e2, e3⟩
      simp (disch := omega) only [fX12_hoursGo_2B, if_true, if_false, nI_add, pk_mul, nI_clamp, nI_leI, nI_ltI, nI_eq, ckI_s, bd_s, bnd_s, if_pos, if_neg, o_0, o_1, o_2, o_3, o_4, o_5, o_6, o_7, o_8, o_9, o_10, o_11, o_12, o_13, o_14, o_15, o_16, o_17, o_18, o_19, o_20, o_21, o_22, o_23, o_24, o_25, o_26, o_27, o_28, o_29, o_30, o_31, o_32, o_33, o_34, o_35, o_36, o_37, o_38, o_39, o_40, o_41, o_42, o_43, o_44, o_45, o_46, o_47, o_48, o_49, o_50, o_51, o_52, o_53, o_54, o_55, o_56, o_57, o_58, o_59, o_60, o_62, o_70, o_71, o_99, o_124, o_154, o_156, o_176, o_255, o_276, o_326, o_4095, o_9999, o_10000, o_10001, o_20000, o_20033])
    (FU_lt (by omega)) (nI 0, d, nm, pl) ⟨rfl, hR, Sm.rf⟩
  have h1 : lp (fun σ : Int32 × (Nat → Int32) × (Nat → Int32) × (Nat → Int32) => fX12_hoursGo_2B (nI n) (σ.1) (σ.2.1) (σ.2.2.1) (σ.2.2.2)) FU ((0 : Int32), d, nm, pl) = some r := h1
  rw [bd_of h1]
  exact ⟨r.2.1, r.2.2.1, r.2.2.2, rfl, h2, h3⟩
