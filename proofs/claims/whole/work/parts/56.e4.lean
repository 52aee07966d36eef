/-! the tape, a text: the class and the reference alike -/
theorem wb_of (x : Int64) : ∃ n, n < 2 ^ 64 ∧ x = lN n := ⟨x.toBitVec.toNat, x.toBitVec.isLt, wb_inj (by rw [wb_tb]; simp)⟩
theorem byte_s (m k : Nat) (hk : k ≤ 56) : (lN m >>> ((nI k).toInt64 &&& 63)) &&& 255 = lN (m / 2 ^ k % 256) := by
  rw [wb_c k (by omega)]
  apply wb_inj
  rw [Int64.toBitVec_and, Int64.toBitVec_shiftRight, wb_tb, wb_tb, wb_tb, wb_sm k (by omega), show (255 : Int64).toBitVec = BitVec.ofNat 64 255 from rfl, BitVec.sshiftRight_eq', BitVec.toNat_ofNat, Nat.mod_eq_of_lt (show k < 2 ^ 64 by omega)]
  apply BitVec.eq_of_getLsbD_eq
  intro j hj
  rw [BitVec.getLsbD_and, BitVec.getLsbD_sshiftRight]
  simp only [BitVec.getLsbD_ofNat]
  rw [show (256 : Nat) = 2 ^ 8 from rfl, Nat.testBit_mod_two_pow, Nat.testBit_div_two_pow, show (255 : Nat) = 2 ^ 8 - 1 from rfl, Nat.testBit_two_pow_sub_one]
  by_cases h : j < 8
  · rw [if_pos (show k + j < 64 by omega), Nat.add_comm k j]
    simp [h, show j + k < 64 by omega, show j < 64 by omega]
  · simp [h]
theorem byte8 (v : Int64) {i : Nat} (hi : i < 8) : ∃ b, b < 256 ∧ (lushrJ v (nI (8 * i))).toInt32 &&& nI 255 = nI b ∧ ((lshrJ v (nI (8 * i))) &&& (255 : Int64)).toInt32 = nI b := by
  obtain ⟨m, hm, rfl⟩ := wb_of v
  refine ⟨m / 2 ^ (8 * i) % 256, by omega, ?_, ?_⟩
  · show ((lN m).toUInt64 >>> ((nI (8 * i)).toInt64.toUInt64 &&& Int64.toUInt64 63)).toInt64.toInt32 &&& nI 255 = _
    rw [wb_shr hm (by omega), lN_i, q_and, show (255 : Nat) = 2 ^ 8 - 1 from rfl, Nat.and_two_pow_sub_one_eq_mod]
  · show ((lN m >>> ((nI (8 * i)).toInt64 &&& 63)) &&& 255).toInt32 = _
    rw [byte_s m _ (by omega), lN_i]
section E4
variable {errors found : Nat → Int32} {h_weight : Nat → Int32} {h_known : Int32} {h_hour : Int32} {h_swS : Nat → Int32} {h_swW : Nat → Int32} {h_waS : Nat → Int32} {h_spoons : Int32} {h_kind : Nat → Int32} {h_mark : Nat → Int32} {h_silver : Nat → Int32} {h_fresh : Nat → Int64} {h_texts : Nat → Option Nat} {h_tape : Nat → Int32} {h_tapeCount : Int32} {h_z : Int32} {h_waiting : Nat → Int32} {h_waitingCount : Int32} {d : Nat → Int32} {L : List Nat} {tx : Nat → TXc}
theorem E_feed (word : Int64) (n : Int32) (he : Re errors found) (hh : Rh h_weight h_known h_hour h_swS h_swW h_waS h_spoons h_kind h_mark h_silver h_fresh h_texts h_tape h_tapeCount h_z h_waiting h_waitingCount d L tx) : ∃ (r : Int32) (errorsR h_tapeR : Nat → Int32) (h_tapeCountR : Int32) (dR foundR : Nat → Int32), fX11_feed word n errors h_tape h_tapeCount = some (r, errorsR, h_tapeR, h_tapeCountR) ∧ fX12_feed word n d found = some (r, dR, foundR) ∧ Re errorsR foundR ∧ Rh h_weight h_known h_hour h_swS h_swW h_waS h_spoons h_kind h_mark h_silver h_fresh h_texts h_tapeR h_tapeCountR h_z h_waiting h_waitingCount dR L tx := by
  obtain ⟨A, E, hW, hH, hM, hC, hT, hG, hO⟩ := hh
  have hO0 := hO
  obtain ⟨hz, ⟨tp, t1, t2, t3, t4⟩, hw⟩ := hO0
  by_cases c0 : nI 1 ≤ n ∧ n ≤ nI 8
  · obtain ⟨j, hj, rfl⟩ := bt_of (n := 8) (by decide) ⟨by rw [q_le] at c0 ⊢; rw [nI_toInt (by decide)] at c0 ⊢; omega, c0.2⟩
    have hj1 : 1 ≤ j := (nI_leI (by decide) (by omega)).mp c0.1
    by_cases c1 : tp + j ≤ 50
    · have hc1 : h_tapeCount ≤ nI 50 - nI j := by
        rw [t2, pk_sub (by omega), nI_leI (by omega) (by omega)]
        omega
      obtain ⟨r, q, h1, h2, tape', d', e1, e2, e3⟩ := lpQ (fun σ : Int32 × (Nat → Int32) × Int32 => fX11_feed_41B word (nI j) errors (σ.1) (σ.2.1) (σ.2.2)) (fun σ : Int32 × (Nat → Int32) => fX12_feed_40B word (nI j) found (σ.1) (σ.2)) (fun i s u => ∃ (tape' d' : Nat → Int32), s = (nI i, tape', nI (tp + i)) ∧ u = (nI i, d') ∧ RM d' A ∧ TMc d' E ∧ Ro tape' (nI (tp + i)) h_z h_waiting h_waitingCount d') (fun r q => ∃ (tape' d' : Nat → Int32), r = (nI j, tape', nI (tp + j)) ∧ q = (nI j, d') ∧ RM d' A ∧ TMc d' E ∧ Ro tape' (nI (tp + j)) h_z h_waiting h_waitingCount d') j
        (fun i s u hi hI => by
          obtain ⟨tape', d', rfl, rfl, hM', hT', hz', ⟨tp', k1, k2, k3, k4⟩, wc, w1, w2, w3, w4⟩ := hI
          have ktp : tp + i = tp' := (nI_eq (by omega) (by omega)).mp k2
          subst ktp
          obtain ⟨b, hb, b1, b2⟩ := byte8 word (i := i) (by omega)
          have e5 : upd d' (276 + (tp + i)) (nI b) 4 = nI (tp + i) := (upd_n (by omega)).trans k3
          refine Or.inl ⟨(nI (i + 1), upd tape' (tp + i) (nI b), nI (tp + i + 1)), (nI (i + 1), upd (upd d' (276 + (tp + i)) (nI b)) 4 (nI (tp + i + 1))), ?_, ?_, upd tape' (tp + i) (nI b), upd (upd d' (276 + (tp + i)) (nI b)) 4 (nI (tp + i + 1)), rfl, rfl, RM_o (RM_o hM' _ (by omega)) _ (by omega), TMc_u (TMc_u hT' _ (by omega)) _ (by omega), hz'.trans (by rw [upd_n (by omega), upd_n (by omega)]), ⟨tp + i + 1, by omega, rfl, upd_s, fun k hk => ?_⟩, wc, w1, w2, by rw [upd_n (by omega), upd_n (by omega)]; exact w3, fun k hk => by rw [upd_n (by omega), upd_n (by omega)]; exact w4 k hk⟩
          · show fX11_feed_41B word (nI j) errors (nI i) tape' (nI (tp + i)) = _
            simp (disch := omega) only [fX11_feed_41B, b1, if_true, if_false, nI_add, pk_mul, nI_clamp, nI_leI, nI_ltI, nI_eq, ckI_s, bd_q, bnd_q, if_pos, if_neg, o_0, o_1, o_2, o_3, o_4, o_5, o_6, o_7, o_8, o_9, o_10, o_11, o_12, o_13, o_14, o_15, o_16, o_17, o_18, o_19, o_20, o_21, o_22, o_23, o_24, o_25, o_26, o_27, o_28, o_29, o_30, o_31, o_32, o_33, o_34, o_35, o_36, o_37, o_38, o_39, o_40, o_41, o_42, o_43, o_44, o_45, o_46, o_47, o_48, o_49, o_50, o_51, o_52, o_53, o_54, o_55, o_56, o_57, o_58, o_59, o_60, o_62, o_70, o_71, o_99, o_124, o_154, o_156, o_176, o_255, o_276, o_326, o_4095, o_9999, o_10000, o_10001, o_20000, o_20033]
          · show fX12_feed_40B word (nI j) found (nI i) d' = _
            simp (disch := omega) only [fX12_feed_40B, b2, k3, e5, if_true, if_false, nI_add, pk_mul, nI_clamp, nI_leI, nI_ltI, nI_eq, ckI_s, bd_q, bnd_q, if_pos, if_neg, o_0, o_1, o_2, o_3, o_4, o_5, o_6, o_7, o_8, o_9, o_10, o_11, o_12, o_13, o_14, o_15, o_16, o_17, o_18, o_19, o_20, o_21, o_22, o_23, o_24, o_25, o_26, o_27, o_28, o_29, o_30, o_31, o_32, o_33, o_34, o_35, o_36, o_37, o_38, o_39, o_40, o_41, o_42, o_43, o_44, o_45, o_46, o_47, o_48, o_49, o_50, o_51, o_52, o_53, o_54, o_55, o_56, o_57, o_58, o_59, o_60, o_62, o_70, o_71, o_99, o_124, o_154, o_156, o_176, o_255, o_276, o_326, o_4095, o_9999, o_10000, o_10001, o_20000, o_20033]
          · by_cases e : k = tp + i
            · subst e
              exact ⟨b, hb, upd_s, by rw [upd_n (by omega), upd_s]⟩
            · obtain ⟨b', g1, g2, g3⟩ := k4 k (by omega)
              exact ⟨b', g1, by rw [upd_n e]; exact g2, by rw [upd_n (by omega), upd_n (by omega)]; exact g3⟩)
        (fun s u hI => by
          obtain ⟨tape', d', rfl, rfl, hI⟩ := hI
          refine ⟨(nI j, tape', nI (tp + j)), (nI j, d'), ?_, ?_, tape', d', rfl, rfl, hI⟩
          · show fX11_feed_41B word (nI j) errors (nI j) tape' (nI (tp + j)) = _
            simp (disch := omega) only [fX11_feed_41B, if_true, if_false, nI_add, pk_mul, nI_clamp, nI_leI, nI_ltI, nI_eq, ckI_s, bd_q, bnd_q, if_pos, if_neg, o_0, o_1, o_2, o_3, o_4, o_5, o_6, o_7, o_8, o_9, o_10, o_11, o_12, o_13, o_14, o_15, o_16, o_17, o_18, o_19, o_20, o_21, o_22, o_23, o_24, o_25, o_26, o_27, o_28, o_29, o_30, o_31, o_32, o_33, o_34, o_35, o_36, o_37, o_38, o_39, o_40, o_41, o_42, o_43, o_44, o_45, o_46, o_47, o_48, o_49, o_50, o_51, o_52, o_53, o_54, o_55, o_56, o_57, o_58, o_59, o_60, o_62, o_70, o_71, o_99, o_124, o_154, o_156, o_176, o_255, o_276, o_326, o_4095, o_9999, o_10000, o_10001, o_20000, o_20033]
          · show fX12_feed_40B word (nI j) found (nI j) d' = _
            simp (disch := omega) only [fX12_feed_40B, if_true, if_false, nI_add, pk_mul, nI_clamp, nI_leI, nI_ltI, nI_eq, ckI_s, bd_q, bnd_q, if_pos, if_neg, o_0, o_1, o_2, o_3, o_4, o_5, o_6, o_7, o_8, o_9, o_10, o_11, o_12, o_13, o_14, o_15, o_16, o_17, o_18, o_19, o_20, o_21, o_22, o_23, o_24, o_25, o_26, o_27, o_28, o_29, o_30, o_31, o_32, o_33, o_34, o_35, o_36, o_37, o_38, o_39, o_40, o_41, o_42, o_43, o_44, o_45, o_46, o_47, o_48, o_49, o_50, o_51, o_52, o_53, o_54, o_55, o_56, o_57, o_58, o_59, o_60, o_62, o_70, o_71, o_99, o_124, o_154, o_156, o_176, o_255, o_276, o_326, o_4095, o_9999, o_10000, o_10001, o_20000, o_20033])
        (FU_lt (by omega)) (nI 0, h_tape, nI (tp + 0)) (nI 0, d) ⟨h_tape, d, rfl, rfl, hM, hT, by rw [Nat.add_zero, ← t2]; exact hO⟩
      subst e1
      subst e2
      obtain ⟨g1, g2, g3⟩ := e3
      have h1 : lp (fun σ : Int32 × (Nat → Int32) × Int32 => fX11_feed_41B word (nI j) errors (σ.1) (σ.2.1) (σ.2.2)) FU (nI 0, h_tape, h_tapeCount) = some (nI j, tape', nI (tp + j)) := by rw [t2]; exact h1
      have k4 : d' 4 = nI (tp + j) := by
        obtain ⟨-, ⟨tp', k1, k2, k3, k4⟩, -⟩ := g3
        rw [k3, ← k2]
      refine ⟨nI (tp + j), errors, tape', nI (tp + j), d', found, ?_, ?_, he, A, E, hW, hH, g1, hC, g2, hG, g3⟩
      · unfold fX11_feed
        rw [o_1, o_8, o_0, bd_of (c_wi _ _ _), b2_t c0, if_neg (by decide), o_50, if_pos hc1]
        unfold fX11_feed_41
        exact (bd_of h1).trans rfl
      · unfold fX12_feed
        rw [l_1, l_8, bd_of (m_in _ _ _), b2_t c0, if_neg (by decide), o_4, ckI_s (by decide) (by decide), nI_clamp (by decide), t3, nI_add, o_50, o_0, if_pos ((nI_leI (by omega) (by decide)).mpr c1)]
        unfold fX12_feed_40
        refine (bd_of h2).trans ?_
        dsimp only
        rw [o_4, ckI_s (by decide) (by decide), nI_clamp (by decide), k4]
    · have hc1 : ¬ h_tapeCount ≤ nI 50 - nI j := by
        rw [t2, pk_sub (by omega), nI_leI (by omega) (by omega)]
        omega
      refine ⟨(-1000000004 : Int32), upd errors 4 (errors 4 + nI 1), h_tape, h_tapeCount, d, upd found 4 (found 4 + nI 1), ?_, ?_, Re_up he 4 (by decide), A, E, hW, hH, hM, hC, hT, hG, hO⟩
      · unfold fX11_feed
        rw [o_1, o_8, bd_of (c_wi _ _ _), b2_t c0, if_neg (by decide), o_50, if_neg hc1, bd_of (c_ref4 _)]
      · unfold fX12_feed
        rw [l_1, l_8, bd_of (m_in _ _ _), b2_t c0, if_neg (by decide), o_4, ckI_s (by decide) (by decide), nI_clamp (by decide), t3, nI_add, o_50, if_neg (fun e => c1 ((nI_leI (by omega) (by decide)).mp e)), bd_of (m_fin4 _)]
  · refine ⟨(-1000000001 : Int32), upd errors 1 (errors 1 + nI 1), h_tape, h_tapeCount, d, upd found 1 (found 1 + nI 1), ?_, ?_, Re_up he 1 (by decide), A, E, hW, hH, hM, hC, hT, hG, hO⟩
    · simp (disch := omega) only [fX11_feed, if_neg c0, o_69, l_6, c_isWord, c_isSetOfWords, c_isUse, c_isSheet, c_isBehind, c_mayB, c_wi, m_isWord, m_areWords, m_isSheet, m_isAhead, m_isKm, m_in, l_n1, o_n1, b2if, ck_s b2_z, c_ref1, c_ref2, c_ref3, c_ref4, c_ref5, m_fin1, m_fin2, m_fin3, m_fin4, m_fin5, l_0, l_1, l_2, l_3, l_5, l_7, l_8, l_9, l_11, l_12, l_16, l_20, l_30, l_40, l_60, l_69, l_99, l_4095, if_true, if_false, nI_add, pk_mul, nI_clamp, nI_leI, nI_ltI, nI_eq, ckI_s, bd_q, bnd_q, if_pos, if_neg, o_0, o_1, o_2, o_3, o_4, o_5, o_6, o_7, o_8, o_9, o_10, o_11, o_12, o_13, o_14, o_15, o_16, o_17, o_18, o_19, o_20, o_21, o_22, o_23, o_24, o_25, o_26, o_27, o_28, o_29, o_30, o_31, o_32, o_33, o_34, o_35, o_36, o_37, o_38, o_39, o_40, o_41, o_42, o_43, o_44, o_45, o_46, o_47, o_48, o_49, o_50, o_51, o_52, o_53, o_54, o_55, o_56, o_57, o_58, o_59, o_60, o_62, o_70, o_71, o_99, o_124, o_154, o_156, o_176, o_255, o_276, o_326, o_4095, o_9999, o_10000, o_10001, o_20000, o_20033]
    · simp (disch := omega) only [fX12_feed, if_neg c0, o_69, l_6, c_isWord, c_isSetOfWords, c_isUse, c_isSheet, c_isBehind, c_mayB, c_wi, m_isWord, m_areWords, m_isSheet, m_isAhead, m_isKm, m_in, l_n1, o_n1, b2if, ck_s b2_z, c_ref1, c_ref2, c_ref3, c_ref4, c_ref5, m_fin1, m_fin2, m_fin3, m_fin4, m_fin5, l_0, l_1, l_2, l_3, l_5, l_7, l_8, l_9, l_11, l_12, l_16, l_20, l_30, l_40, l_60, l_69, l_99, l_4095, if_true, if_false, nI_add, pk_mul, nI_clamp, nI_leI, nI_ltI, nI_eq, ckI_s, bd_q, bnd_q, if_pos, if_neg, o_0, o_1, o_2, o_3, o_4, o_5, o_6, o_7, o_8, o_9, o_10, o_11, o_12, o_13, o_14, o_15, o_16, o_17, o_18, o_19, o_20, o_21, o_22, o_23, o_24, o_25, o_26, o_27, o_28, o_29, o_30, o_31, o_32, o_33, o_34, o_35, o_36, o_37, o_38, o_39, o_40, o_41, o_42, o_43, o_44, o_45, o_46, o_47, o_48, o_49, o_50, o_51, o_52, o_53, o_54, o_55, o_56, o_57, o_58, o_59, o_60, o_62, o_70, o_71, o_99, o_124, o_154, o_156, o_176, o_255, o_276, o_326, o_4095, o_9999, o_10000, o_10001, o_20000, o_20033]
theorem TCc_ext {texts : Nat → Option Nat} {E : EVt} (h : TCc texts L tx E) {o : Nat} (ho : o ∉ L) (t : TXc) : TCc texts (L ++ [o]) (va_up tx o t) E := fun use hu => by
  rcases h use hu with h | ⟨o2, co, len, h1, h2, h3, h4, h5, h6, h7, h8, h9⟩
  · exact Or.inl h
  · have hne : o2 ≠ o := fun e => ho (e ▸ h2)
    have e : va_up tx o t o2 = tx o2 := va_up_ne tx t hne
    exact Or.inr ⟨o2, co, len, h1, List.mem_append_left _ h2, h3, h4, by rw [e]; exact h5, by rw [e]; exact h6, by rw [e]; exact h7, by rw [e]; exact h8, h9⟩
theorem Rh_ext (hh : Rh h_weight h_known h_hour h_swS h_swW h_waS h_spoons h_kind h_mark h_silver h_fresh h_texts h_tape h_tapeCount h_z h_waiting h_waitingCount d L tx) {o : Nat} (ho : o ∉ L) (t : TXc) : Rh h_weight h_known h_hour h_swS h_swW h_waS h_spoons h_kind h_mark h_silver h_fresh h_texts h_tape h_tapeCount h_z h_waiting h_waitingCount d (L ++ [o]) (va_up tx o t) := by
  obtain ⟨A, E, hW, hH, hM, hC, hT, hG, hO⟩ := hh
  exact ⟨A, E, hW, hH, hM, hC, hT, TCc_ext hG ho t, hO⟩
theorem cpy_at {arr : Nat → Int32} {n j : Nat} (hn : n ≤ 50) (hj : j < n) : cpyOf arr (nI n) j = arr j := by
  unfold cpyOf
  split
  · rfl
  · rw [nI_clamp (by omega)]
    unfold va_cpy
    rw [if_pos ⟨Nat.zero_le _, by omega⟩]
    congr 1
    omega
/-- the codes go to their place in the reference's row -/
theorem m_lay {u t : Nat} {code : Nat → Int32} (hu : u < 2) (ht : t ≤ 50) (d1 fo : Nat → Int32) (ba at1 si fa op is : Int32) : ∃ d2, fX12_text_70 (nI u) (nI 0) d1 fo ba at1 si fa op is code (nI t) = some (nI 1, d2, fo, ba, at1, si, fa, op, is, code, nI t) ∧ (∀ k, k < t → d2 (176 + 50 * u + k) = code k) ∧ ∀ k, (∀ j, j < t → k ≠ 176 + 50 * u + j) → d2 k = d1 k := by
  unfold fX12_text_70
  obtain ⟨⟨x, d2⟩, h1, h2, h3⟩ := lpE (fun σ : Int32 × (Nat → Int32) => fX12_text_70B (nI u) fo ba at1 si fa op is code (nI t) (σ.1) (σ.2)) (fun i σ => σ.1 = nI i ∧ (∀ k, k < i → σ.2 (176 + 50 * u + k) = code k) ∧ ∀ k, (∀ j, j < t → k ≠ 176 + 50 * u + j) → σ.2 k = d1 k) (fun r => (∀ k, k < t → r.2 (176 + 50 * u + k) = code k) ∧ ∀ k, (∀ j, j < t → k ≠ 176 + 50 * u + j) → r.2 k = d1 k) t
    (fun i σ hi hI => by
      obtain ⟨x, e⟩ := σ
      obtain ⟨e1, e2, e3⟩ := hI
      dsimp only at e1 e2 e3
      subst e1
      refine Or.inl ⟨(nI (i + 1), upd e (176 + 50 * u + i) (code i)), ?_, rfl, fun k hk => ?_, fun k hk => (upd_n (hk i hi)).trans (e3 k hk)⟩
      · simp (disch := omega) only [fX12_text_70B, if_true, if_false, nI_add, pk_mul, nI_clamp, nI_leI, nI_ltI, nI_eq, ckI_s, bd_q, bnd_q, if_pos, if_neg, o_0, o_1, o_2, o_3, o_4, o_5, o_6, o_7, o_8, o_9, o_10, o_11, o_12, o_13, o_14, o_15, o_16, o_17, o_18, o_19, o_20, o_21, o_22, o_23, o_24, o_25, o_26, o_27, o_28, o_29, o_30, o_31, o_32, o_33, o_34, o_35, o_36, o_37, o_38, o_39, o_40, o_41, o_42, o_43, o_44, o_45, o_46, o_47, o_48, o_49, o_50, o_51, o_52, o_53, o_54, o_55, o_56, o_57, o_58, o_59, o_60, o_62, o_70, o_71, o_99, o_124, o_154, o_156, o_176, o_255, o_276, o_326, o_4095, o_9999, o_10000, o_10001, o_20000, o_20033]
      · dsimp only
        by_cases e4 : k = i
        · subst e4
          rw [upd_s]
        · rw [upd_n (by omega)]
          exact e2 k (by omega))
    (fun σ hI => by
      obtain ⟨x, e⟩ := σ
      obtain ⟨e1, e2, e3⟩ := hI
      dsimp only at e1 e2 e3
      subst e1
      refine ⟨(nI t, e), ?_, e2, e3⟩
      simp (disch := omega) only [fX12_text_70B, if_true, if_false, nI_add, pk_mul, nI_clamp, nI_leI, nI_ltI, nI_eq, ckI_s, bd_q, bnd_q, if_pos, if_neg, o_0, o_1, o_2, o_3, o_4, o_5, o_6, o_7, o_8, o_9, o_10, o_11, o_12, o_13, o_14, o_15, o_16, o_17, o_18, o_19, o_20, o_21, o_22, o_23, o_24, o_25, o_26, o_27, o_28, o_29, o_30, o_31, o_32, o_33, o_34, o_35, o_36, o_37, o_38, o_39, o_40, o_41, o_42, o_43, o_44, o_45, o_46, o_47, o_48, o_49, o_50, o_51, o_52, o_53, o_54, o_55, o_56, o_57, o_58, o_59, o_60, o_62, o_70, o_71, o_99, o_124, o_154, o_156, o_176, o_255, o_276, o_326, o_4095, o_9999, o_10000, o_10001, o_20000, o_20033])
    (FU_lt (by omega)) (nI 0, d1) ⟨rfl, fun k hk => by omega, fun k _ => rfl⟩
  exact ⟨d2, (bd_of h1).trans rfl, h2, h3⟩
theorem E_text (a : Int32) (base at0 size fault opened isRub : Int32) (code : Nat → Int32) (coded : Int32) (he : Re errors found) (hh : Rh h_weight h_known h_hour h_swS h_swW h_waS h_spoons h_kind h_mark h_silver h_fresh h_texts h_tape h_tapeCount h_z h_waiting h_waitingCount d L tx) : ∃ (r : Int32) (errorsR : Nat → Int32) (tcR : Int32) (mkR : Option (Int32 × Int32 × Int32 × (Nat → Int32))) (dR foundR : Nat → Int32) (baR atR siR faR opR isR : Int32) (coR : Nat → Int32) (cdR : Int32), fX11_text a errors h_tape h_tapeCount = some (r, errorsR, tcR, mkR) ∧ fX12_text a d found base at0 size fault opened isRub code coded = some (r, dR, foundR, baR, atR, siR, faR, opR, isR, coR, cdR) ∧ Re errorsR foundR ∧ (mkR = none → Rh h_weight h_known h_hour h_swS h_swW h_waS h_spoons h_kind h_mark h_silver h_fresh h_texts h_tape tcR h_z h_waiting h_waitingCount dR L tx) ∧ ∀ t o q1 q2 q3 gn, mkR = some t → o ∉ L → Rh h_weight h_known h_hour h_swS h_swW h_waS h_spoons h_kind h_mark h_silver h_fresh (va_up h_texts a.toNatClampNeg (some o)) h_tape tcR h_z h_waiting h_waitingCount dR (L ++ [o]) (va_up tx o (q1, gn, t.1, q2, t.2.1, q3, t.2.2.1, h_tapeCount.toNatClampNeg, t.2.2.2)) := by
  obtain ⟨A, E, hW, hH, hM, hC, hT, hG, hO⟩ := hh
  have hO0 := hO
  obtain ⟨hz, ⟨tp, t1, t2, t3, t4⟩, wc, w1, w2, w3, w4⟩ := hO0
  by_cases c0 : nI 0 ≤ a ∧ a ≤ nI 1
  · obtain ⟨u, hu, rfl⟩ := bt_of (by decide) c0
    subst t2
    -- the tape's bytes
    have hch : ∃ by0 : Nat → Nat, ∀ j, j < tp → by0 j < 256 ∧ h_tape j = nI (by0 j) ∧ d (276 + j) = nI (by0 j) := by
      refine ⟨fun j => (h_tape j).toNatClampNeg, fun j hj => ?_⟩
      obtain ⟨b, b1, b2, b3⟩ := t4 j hj
      have e : (h_tape j).toNatClampNeg = b := by rw [b2, nI_clamp (by omega)]
      dsimp only
      rw [e]
      exact ⟨b1, b2, b3⟩
    obtain ⟨by0, hby⟩ := hch
    have hB : BY tp 276 (cpyOf h_tape (nI tp)) (upd d 4 (nI 0)) by0 := ⟨t1, by omega, fun j hj => by
      obtain ⟨b1, b2, b3⟩ := hby j hj
      exact ⟨b1, (cpy_at t1 hj).trans b2, (upd_n (by omega)).trans b3⟩⟩
    obtain ⟨p, t, f, co, cd, g1, g2, p1, p2, p3, p4, p5⟩ := sim_read (nmi := u) (by omega) hB (fun _ => 0) code
    have hnm : (if nI u = (0 : Int32) then 0 else 1) = u := by
      rcases (show u = 0 ∨ u = 1 by omega) with e | e <;> subst e <;> rfl
    have hin : fX9_init u h_tape (nI tp) = (if 0 ≤ f then some (nI p, nI t, f, co) else if nI tp ≤ nI p then some (nI p, nI t, f, co) else some (nI p, nI t, nI p, co)) := by
      unfold fX9_init
      rw [nI_clamp (by omega)]
      refine (bd_of g1).trans ?_
      rfl
    have h11 : ∀ tat tlen tfault codes, fX9_init u h_tape (nI tp) = some (tat, tlen, tfault, codes) → fX11_text (nI u) errors h_tape (nI tp) = (if tfault < 0 then some ((1 : Int32), errors, (0 : Int32), some (tat, tlen, tfault, codes)) else some ((-10 : Int32) - tfault, errors, (0 : Int32), none)) := fun tat tlen tfault codes hi => by
      unfold fX11_text
      rw [bd_of (c_isUse _), b2_t c0, if_neg (by decide), ckI_s (by omega) (by omega), ck_s (by rw [o_0, nI_ltI (by omega) (by decide)]; omega), ck_s (by rw [nI_clamp (by omega)]; exact t1), hnm, bd_of hi]
    have hrd : fX12_reads (nI 276) (nI tp) (nI u) (upd d 4 (nI 0)) base at0 size fault opened isRub code coded = fX12_reads_41 (nI u) (upd d 4 (nI 0)) (nI 276) (nI 0) (nI tp) m1 (nI 0) isRub code (nI 0) := by
      unfold fX12_reads
      rcases (show u = 0 ∨ u = 1 by omega) with e | e <;> subst e <;> rfl
    have hz2 : isZ (nI u) = true := by
      rcases (show u = 0 ∨ u = 1 by omega) with e | e <;> subst e <;> rfl
    have h41 : fX12_reads_41 (nI u) (upd d 4 (nI 0)) (nI 276) (nI 0) (nI tp) m1 (nI 0) isRub code (nI 0) = (if 0 ≤ f then some (nI 276, nI p, nI tp, f, nI 0, nI u, cd, nI t) else (if nI tp ≤ nI p then some (nI 276, nI p, nI tp, f, nI 0, nI u, cd, nI t) else bd (fX12_wrong (nI p) f) fun fault_11 => some (nI 276, nI p, nI tp, fault_11, nI 0, nI u, cd, nI t))) := by
      unfold fX12_reads_41
      rw [ck_s hz2, bd_of g2]
    have h12 : ∀ (fa : Int32), fX12_reads_41 (nI u) (upd d 4 (nI 0)) (nI 276) (nI 0) (nI tp) m1 (nI 0) isRub code (nI 0) = some (nI 276, nI p, nI tp, fa, nI 0, nI u, cd, nI t) → fX12_text (nI u) d found base at0 size fault opened isRub code coded = (if fa < 0 then fX12_text_70 (nI u) (nI 0) (upd (upd d 4 (nI 0)) (154 + u) (nI t)) found (nI 276) (nI p) (nI tp) fa (nI 0) (nI u) cd (nI t) else some ((-10 : Int32) - fa, upd d 4 (nI 0), found, nI 276, nI p, nI tp, fa, nI 0, nI u, cd, nI t)) := fun fa hf => by
      unfold fX12_text
      rw [l_0, l_1, bd_of (m_in _ _ _), b2_t c0, if_neg (by decide), o_4, ckI_s (by decide) (by decide), nI_clamp (by decide), bnd_q, ckI_s (by decide) (by decide), bnd_q, t3, o_276, o_0, hrd, bd_of hf]
      dsimp only
      rw [o_154, nI_add, ckI_s (by omega) (by omega), nI_clamp (by omega), bnd_q]
    have hT4 : TMc (upd d 4 (nI 0)) E := TMc_u hT _ (by omega)
    -- a fault
    have bad : ∀ j, j ≤ tp → fX9_init u h_tape (nI tp) = some (nI p, nI t, nI j, co) → fX12_reads_41 (nI u) (upd d 4 (nI 0)) (nI 276) (nI 0) (nI tp) m1 (nI 0) isRub code (nI 0) = some (nI 276, nI p, nI tp, nI j, nI 0, nI u, cd, nI t) → ∃ (r : Int32) (errorsR : Nat → Int32) (tcR : Int32) (mkR : Option (Int32 × Int32 × Int32 × (Nat → Int32))) (dR foundR : Nat → Int32) (baR atR siR faR opR isR : Int32) (coR : Nat → Int32) (cdR : Int32), fX11_text (nI u) errors h_tape (nI tp) = some (r, errorsR, tcR, mkR) ∧ fX12_text (nI u) d found base at0 size fault opened isRub code coded = some (r, dR, foundR, baR, atR, siR, faR, opR, isR, coR, cdR) ∧ Re errorsR foundR ∧ (mkR = none → Rh h_weight h_known h_hour h_swS h_swW h_waS h_spoons h_kind h_mark h_silver h_fresh h_texts h_tape tcR h_z h_waiting h_waitingCount dR L tx) ∧ ∀ t o q1 q2 q3 gn, mkR = some t → o ∉ L → Rh h_weight h_known h_hour h_swS h_swW h_waS h_spoons h_kind h_mark h_silver h_fresh (va_up h_texts (nI u).toNatClampNeg (some o)) h_tape tcR h_z h_waiting h_waitingCount dR (L ++ [o]) (va_up tx o (q1, gn, t.1, q2, t.2.1, q3, t.2.2.1, (nI tp).toNatClampNeg, t.2.2.2)) := fun j hj b1 b2 => by
      have nlt : ¬ nI j < (0 : Int32) := by rw [o_0, nI_ltI (by omega) (by decide)]; omega
      refine ⟨(-10 : Int32) - nI j, errors, (0 : Int32), none, upd d 4 (nI 0), found, nI 276, nI p, nI tp, nI j, nI 0, nI u, cd, nI t, ?_, ?_, he, fun _ => ⟨A, E, hW, hH, RM_o hM _ (by omega), hC, hT4, hG, hz.trans (upd_n (by omega)).symm, ⟨0, by omega, rfl, upd_s, fun k hk => by omega⟩, wc, w1, w2, (upd_n (by omega)).trans w3, fun k hk => (w4 k hk).trans (upd_n (by omega)).symm⟩, fun t o q1 q2 q3 gn e => (by cases e)⟩
      · rw [h11 _ _ _ _ b1, if_neg nlt]
      · rw [h12 _ b2, if_neg nlt]
    rcases p3 with hf | ⟨j, hj, hf⟩
    · subst hf
      have n0 : ¬ (0 : Int32) ≤ m1 := by decide
      by_cases hp : tp ≤ p
      · -- it is a text
        have hp2 : nI tp ≤ nI p := (nI_leI (by omega) (by omega)).mpr hp
        rw [if_neg n0, if_pos hp2] at hin h41
        have lt0 : m1 < (0 : Int32) := by decide
        have hht := p5 rfl
        have h1t : 1 ≤ t := htF_le hht
        obtain ⟨d2, l1, l2, l3⟩ := m_lay (u := u) (t := t) (code := cd) (by omega) (by omega) (upd (upd d 4 (nI 0)) (154 + u) (nI t)) found (nI 276) (nI p) (nI tp) m1 (nI 0) (nI u)
        have fr : ∀ k, k ≠ 4 → k ≠ 154 + u → (∀ j, j < t → k ≠ 176 + 50 * u + j) → d2 k = d k := fun k k1 k2 k3 => by rw [l3 k k3, upd_n k2, upd_n k1]
        refine ⟨(1 : Int32), errors, (0 : Int32), some (nI p, nI t, m1, co), d2, found, nI 276, nI p, nI tp, m1, nI 0, nI u, cd, nI t, ?_, ?_, he, fun e => (by cases e), fun t' o q1 q2 q3 gn e ho => ?_⟩
        · rw [h11 _ _ _ _ hin, if_pos lt0]
        · rw [h12 _ h41, if_pos lt0]
          exact l1
        · have e := Option.some.inj e
          subst e
          dsimp only
          rw [nI_clamp (show u < 2 ^ 31 by omega), nI_clamp (show tp < 2 ^ 31 by omega)]
          obtain ⟨r0, r1, r2, rW, rB, rD, rS, rC, rM, rV, rF⟩ := hM
          refine ⟨A, fun use => if use = u then evV cd t else E use, hW, hH, ⟨(fr _ (by omega) (by omega) (fun j hj => by omega)).trans r0, (fr _ (by omega) (by omega) (fun j hj => by omega)).trans r1, (fr _ (by omega) (by omega) (fun j hj => by omega)).trans r2, fun x hx => (fr _ (by omega) (by omega) (fun j hj => by omega)).trans (rW x hx), fun x hx => (fr _ (by omega) (by omega) (fun j hj => by omega)).trans (rB x hx), fun x hx => (fr _ (by omega) (by omega) (fun j hj => by omega)).trans (rD x hx), fun x hx => (fr _ (by omega) (by omega) (fun j hj => by omega)).trans (rS x hx), fun x hx => (fr _ (by omega) (by omega) (fun j hj => by omega)).trans (rC x hx), fun x hx => (fr _ (by omega) (by omega) (fun j hj => by omega)).trans (rM x hx), fun x hx => (fr _ (by omega) (by omega) (fun j hj => by omega)).trans (rV x hx), fun x hx y hy => (fr _ (by omega) (by omega) (fun j hj => by omega)).trans (rF x hx y hy)⟩, hC, fun use hu2 => ?_, fun use hu2 => ?_, hz.trans (fr _ (by omega) (by omega) (fun j hj => by omega)).symm, ⟨0, by omega, rfl, ?_, fun k hk => by omega⟩, wc, w1, w2, (fr _ (by omega) (by omega) (fun j hj => by omega)).trans w3, fun k hk => (w4 k hk).trans (fr _ (by omega) (by omega) (fun j hj => by omega)).symm⟩
          · by_cases e : use = u
            · subst e
              refine ⟨cd, t, by omega, fun _ => ?_, ?_, l2, if_pos rfl⟩
              · rw [← hht]
                exact htF_cong fun k hk => (p4 k hk).symm
              · rw [l3 _ (fun j hj => by omega), upd_s]
            · obtain ⟨c1, len, k1, k2, k3, k4, k5⟩ := hT use hu2
              refine ⟨c1, len, k1, k2, (fr _ (by omega) (by omega) (fun j hj => by omega)).trans k3, fun k hk => (fr _ (by omega) (by omega) (fun j hj => ?_)).trans (k4 k hk), (if_neg e).trans k5⟩
              rcases (show use = 0 ∧ u = 1 ∨ use = 1 ∧ u = 0 by omega) with ⟨e1, e2⟩ | ⟨e1, e2⟩ <;> subst e1 <;> subst e2 <;> omega
          · by_cases e : use = u
            · subst e
              refine Or.inr ⟨o, cd, t, va_up_self _ _ _, List.mem_append_right _ (List.mem_singleton.mpr rfl), h1t, ?_, ?_, ?_, ?_, fun k hk => ?_, if_pos rfl⟩
              · rw [← hht]
                exact htF_cong fun k hk => (p4 k hk).symm
              · rw [va_up_self]
                rfl
              · rw [va_up_self]
                exact t1
              · rw [va_up_self]
                show t ≤ tp
                omega
              · rw [va_up_self]
                exact p4 k hk
            · have h2 := TCc_ext hG ho (q1, gn, nI p, q2, nI t, q3, m1, tp, co) use hu2
              simp only [if_neg e, va_up_ne h_texts (some o) e]
              exact h2
          · rw [l3 _ (fun j hj => by omega), upd_n (by omega), upd_s]
      · have hp2 : ¬ nI tp ≤ nI p := fun e => hp ((nI_leI (by omega) (by omega)).mp e)
        have hwr : fX12_wrong (nI p) m1 = some (nI p) := by
          unfold fX12_wrong
          rw [if_neg n0]
        rw [if_neg n0, if_neg hp2] at hin h41
        rw [bd_of hwr] at h41
        exact bad p (by omega) hin h41
    · subst hf
      have n0 : (0 : Int32) ≤ nI j := by rw [o_0, nI_leI (by decide) (by omega)]; omega
      rw [if_pos n0] at hin h41
      exact bad j hj hin h41
  · refine ⟨(-1000000001 : Int32), upd errors 1 (errors 1 + nI 1), h_tapeCount, none, d, upd found 1 (found 1 + nI 1), base, at0, size, fault, opened, isRub, code, coded, ?_, ?_, Re_up he 1 (by decide), fun _ => ⟨A, E, hW, hH, hM, hC, hT, hG, hO⟩, fun t o q1 q2 q3 gn e => (by cases e)⟩
    · simp (disch := omega) only [fX11_text, if_neg c0, o_69, l_6, c_isWord, c_isSetOfWords, c_isUse, c_isSheet, c_isBehind, c_mayB, c_wi, m_isWord, m_areWords, m_isSheet, m_isAhead, m_isKm, m_in, l_n1, o_n1, b2if, ck_s b2_z, c_ref1, c_ref2, c_ref3, c_ref4, c_ref5, m_fin1, m_fin2, m_fin3, m_fin4, m_fin5, l_0, l_1, l_2, l_3, l_5, l_7, l_8, l_9, l_11, l_12, l_16, l_20, l_30, l_40, l_60, l_69, l_99, l_4095, if_true, if_false, nI_add, pk_mul, nI_clamp, nI_leI, nI_ltI, nI_eq, ckI_s, bd_q, bnd_q, if_pos, if_neg, o_0, o_1, o_2, o_3, o_4, o_5, o_6, o_7, o_8, o_9, o_10, o_11, o_12, o_13, o_14, o_15, o_16, o_17, o_18, o_19, o_20, o_21, o_22, o_23, o_24, o_25, o_26, o_27, o_28, o_29, o_30, o_31, o_32, o_33, o_34, o_35, o_36, o_37, o_38, o_39, o_40, o_41, o_42, o_43, o_44, o_45, o_46, o_47, o_48, o_49, o_50, o_51, o_52, o_53, o_54, o_55, o_56, o_57, o_58, o_59, o_60, o_62, o_70, o_71, o_99, o_124, o_154, o_156, o_176, o_255, o_276, o_326, o_4095, o_9999, o_10000, o_10001, o_20000, o_20033]
    · simp (disch := omega) only [fX12_text, if_neg c0, o_69, l_6, c_isWord, c_isSetOfWords, c_isUse, c_isSheet, c_isBehind, c_mayB, c_wi, m_isWord, m_areWords, m_isSheet, m_isAhead, m_isKm, m_in, l_n1, o_n1, b2if, ck_s b2_z, c_ref1, c_ref2, c_ref3, c_ref4, c_ref5, m_fin1, m_fin2, m_fin3, m_fin4, m_fin5, l_0, l_1, l_2, l_3, l_5, l_7, l_8, l_9, l_11, l_12, l_16, l_20, l_30, l_40, l_60, l_69, l_99, l_4095, if_true, if_false, nI_add, pk_mul, nI_clamp, nI_leI, nI_ltI, nI_eq, ckI_s, bd_q, bnd_q, if_pos, if_neg, o_0, o_1, o_2, o_3, o_4, o_5, o_6, o_7, o_8, o_9, o_10, o_11, o_12, o_13, o_14, o_15, o_16, o_17, o_18, o_19, o_20, o_21, o_22, o_23, o_24, o_25, o_26, o_27, o_28, o_29, o_30, o_31, o_32, o_33, o_34, o_35, o_36, o_37, o_38, o_39, o_40, o_41, o_42, o_43, o_44, o_45, o_46, o_47, o_48, o_49, o_50, o_51, o_52, o_53, o_54, o_55, o_56, o_57, o_58, o_59, o_60, o_62, o_70, o_71, o_99, o_124, o_154, o_156, o_176, o_255, o_276, o_326, o_4095, o_9999, o_10000, o_10001, o_20000, o_20033]
end E4
