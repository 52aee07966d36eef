/-! sheets: put, move, weights, judge -/
section E13
variable {errors found : Nat → Int32} {h_weight : Nat → Int32} {h_known : Int32} {h_hour : Int32} {h_swS : Nat → Int32} {h_swW : Nat → Int32} {h_waS : Nat → Int32} {h_spoons : Int32} {h_kind : Nat → Int32} {h_mark : Nat → Int32} {h_silver : Nat → Int32} {h_fresh : Nat → Int64} {h_texts : Nat → Option Nat} {h_tape : Nat → Int32} {h_tapeCount : Int32} {h_z : Int32} {h_waiting : Nat → Int32} {h_waitingCount : Int32} {d : Nat → Int32} {L : List Nat} {tx : Nat → TXc} {sbits slens : Nat → Int32} {snum : Nat → Nat → Int32} {bitsOf sizeOf number : Nat → Int32}
theorem Rs_num {snum' : Nat → Nat → Int32} {number' : Nat → Int32} (hs : Rs sbits slens snum bitsOf sizeOf number) (h : ∀ s, s < 4 → ∀ n, n ≤ 40 → slens s = nI n → (∀ k, k < n → Rsn (snum s k) (number (40 * s + k))) → ∀ k, k < n → Rsn (snum' s k) (number' (40 * s + k))) : Rs sbits slens snum' bitsOf sizeOf number' := fun s h4 => by
  obtain ⟨a1, a2, n, a3, a4, a5, a6⟩ := hs s h4
  exact ⟨a1, a2, n, a3, a4, a5, h s h4 n a3 a4 a6⟩
theorem c_has1 (b : Int32) {n : Nat} (hn : n ≤ 40) : fX7_hasStanding b (nI 1) (nI n) = some (b2 (nI 0 ≤ b ∧ b ≤ nI n - nI 1)) := by
  unfold fX7_hasStanding
  rw [o_0, if_neg (by decide)]
  have hb := q_rng b
  by_cases h1 : nI n < nI 1
  · rw [if_pos h1, b2_f]
    rw [nI_ltI (by omega) (by decide)] at h1
    rw [q_le, q_le, nI_toInt (by decide), pk_sub_toInt (by omega) (by decide)]
    omega
  · rw [if_neg h1]
    rw [nI_ltI (by omega) (by decide)] at h1
    by_cases h2 : b < nI 0
    · rw [if_pos h2, b2_f]
      rw [q_lt] at h2
      rw [q_le]
      omega
    · rw [if_neg h2]
      by_cases h3 : nI n - nI 1 < b
      · rw [if_pos h3, b2_f]
        rw [q_lt] at h3
        rw [q_le, q_le]
        omega
      · rw [if_neg h3, b2_t, o_1]
        rw [q_lt] at h2 h3
        rw [q_le, q_le]
        omega
theorem E_put (a b v : Int32) (he : Re errors found) (hs : Rs sbits slens snum bitsOf sizeOf number) : ∃ (r : Int32) (errorsR : Nat → Int32) (snR : Nat → Nat → Int32) (foundR nuR : Nat → Int32), fX11_put a b v errors sbits slens snum = some (r, errorsR, snR) ∧ fX12_put a b v found bitsOf sizeOf number = some (r, foundR, nuR) ∧ Re errorsR foundR ∧ Rs sbits slens snR bitsOf sizeOf nuR := by
  by_cases c0 : nI 0 ≤ a ∧ a ≤ nI 3
  · obtain ⟨a, ha, rfl⟩ := bt_of (by decide) c0
    obtain ⟨hb, ⟨bb, hbb, hbe⟩, len, hl, hl1, hl2, hnum⟩ := hs a (by omega)
    by_cases hz : bitsOf a = 0
    · refine ⟨(-1000000002 : Int32), upd errors 2 (errors 2 + nI 1), snum, upd found 2 (found 2 + nI 1), number, ?_, ?_, Re_up he 2 (by decide), hs⟩
      · unfold fX11_put
        rw [bd_of (c_isSheet _), b2_t c0, if_neg (by decide), ckI_s (by omega) (by omega), ckI_s (by omega) (by omega), nI_clamp (by omega), hb, if_pos hz, bd_of (c_ref2 _)]
      · unfold fX12_put
        rw [bd_of (m_isSheet _), b2_t c0, if_neg (by decide), ckI_s (by omega) (by omega), nI_clamp (by omega), if_pos hz, o_2, bd_of (m_fin2 _)]
    · by_cases c1 : nI 0 ≤ b ∧ b ≤ nI len - nI 1
      · obtain ⟨k, hk, rfl⟩ := bt_sp (by omega) c1
        have rel : ∀ (x y : Int32), Rsn x y → Rs sbits slens (va_up snum a (upd (snum a) k x)) bitsOf sizeOf (upd number (40 * a + k) y) := fun x y hxy => Rs_num hs fun s h4 n hn hsl hr j hj => by
          by_cases e : s = a
          · subst e
            rw [up_s]
            by_cases e2 : j = k
            · rw [e2, upd_s, upd_s]
              exact hxy
            · rw [upd_n e2, upd_n (by omega)]
              exact hr j hj
          · rw [up_n e, upd_n (by omega)]
            exact hr j hj
        have g11 : ∀ z, bd (fX7_lowestBits v (bitsOf a)) (fun r_13 => some ((1 : Int32), errors, va_up snum a (upd (snum a) k r_13))) = z → fX11_put (nI a) (nI k) v errors sbits slens snum = z := fun z hz2 => by
          unfold fX11_put
          rw [bd_of (c_isSheet _), b2_t c0, if_neg (by decide), ckI_s (by omega) (by omega), ckI_s (by omega) (by omega), nI_clamp (by omega), hb, if_neg hz, ckI_s (by omega) (by omega), hl1, bd_of (show fX7_hasStanding (nI k) (1 : Int32) (nI len) = _ from c_has1 _ hl), b2_t c1, if_neg (by decide), ckI_s (by omega) (by omega), ckI_s (by omega) (by omega)]
          refine Eq.trans ?_ hz2
          congr 1
          funext r
          rw [ckI_s (by omega) (by omega), ckI_s (by omega) (by omega), nI_clamp (by omega), bnd_q]
        have g12 : ∀ z, (if bitsOf a = (8 : Int32) then some ((1 : Int32), found, upd number (40 * a + k) (v.toInt8.toInt32)) else if bitsOf a = (16 : Int32) then some ((1 : Int32), found, upd number (40 * a + k) (v.toInt16.toInt32)) else some ((1 : Int32), found, upd number (40 * a + k) v)) = z → fX12_put (nI a) (nI k) v found bitsOf sizeOf number = z := fun z hz2 => by
          unfold fX12_put
          rw [bd_of (m_isSheet _), b2_t c0, if_neg (by decide), ckI_s (by omega) (by omega), nI_clamp (by omega), if_neg hz, ckI_s (by omega) (by omega), hl2, l_0, o_1, bd_of (m_in _ _ _), b2_t c1, if_neg (by decide), ckI_s (by omega) (by omega), ckI_s (by omega) (by omega), o_40, pk_mul, nI_add]
          simp (disch := omega) only [bnd_q, ckI_s, nI_clamp]
          exact hz2
        rcases hbb with rfl | rfl | rfl | rfl
        · exact absurd hbe hz
        · refine ⟨(1 : Int32), errors, _, found, _, g11 _ ?_, g12 _ ?_, he, rel (v &&& nI 255) (v.toInt8.toInt32) (low_256 v)⟩
          · unfold fX7_lowestBits
            rw [hbe, if_neg (by decide), show (31 : Int32) = nI 31 from rfl, o_1, shl1_m 8 (by decide), bd_q]
          · rw [hbe, if_pos (by decide)]
        · refine ⟨(1 : Int32), errors, _, found, _, g11 _ ?_, g12 _ ?_, he, rel (v &&& nI 65535) (v.toInt16.toInt32) (low_65536 v)⟩
          · unfold fX7_lowestBits
            rw [hbe, if_neg (by decide), show (31 : Int32) = nI 31 from rfl, o_1, shl1_m 16 (by decide), bd_q]
          · rw [hbe, if_neg (by decide), if_pos (by decide)]
        · refine ⟨(1 : Int32), errors, _, found, _, g11 _ ?_, g12 _ ?_, he, rel v v (Rsn_rf v)⟩
          · unfold fX7_lowestBits
            rw [hbe, if_pos (by decide), bd_q]
          · rw [hbe, if_neg (by decide), if_neg (by decide)]
      · refine ⟨(-1000000001 : Int32), upd errors 1 (errors 1 + nI 1), snum, upd found 1 (found 1 + nI 1), number, ?_, ?_, Re_up he 1 (by decide), hs⟩
        · unfold fX11_put
          rw [bd_of (c_isSheet _), b2_t c0, if_neg (by decide), ckI_s (by omega) (by omega), ckI_s (by omega) (by omega), nI_clamp (by omega), hb, if_neg hz, ckI_s (by omega) (by omega), hl1, bd_of (show fX7_hasStanding b (1 : Int32) (nI len) = _ from c_has1 _ hl), b2_f c1, if_pos (show nI 0 = (0 : Int32) from rfl), bd_of (c_ref1 _)]
        · unfold fX12_put
          rw [bd_of (m_isSheet _), b2_t c0, if_neg (by decide), ckI_s (by omega) (by omega), nI_clamp (by omega), if_neg hz, ckI_s (by omega) (by omega), hl2, l_0, o_1, bd_of (m_in _ _ _), b2_f c1, if_pos (show nI 0 = (0 : Int32) from rfl), bd_of (m_fin1 _)]
  · refine ⟨(-1000000001 : Int32), upd errors 1 (errors 1 + nI 1), snum, upd found 1 (found 1 + nI 1), number, ?_, ?_, Re_up he 1 (by decide), hs⟩
    · simp (disch := omega) only [fX11_put, if_neg c0, o_69, l_6, c_isWord, c_isSetOfWords, c_isUse, c_isSheet, c_isBehind, c_mayB, c_wi, m_isWord, m_areWords, m_isSheet, m_isAhead, m_isKm, m_in, l_n1, o_n1, b2if, ck_s b2_z, c_ref1, c_ref2, c_ref3, c_ref4, c_ref5, m_fin1, m_fin2, m_fin3, m_fin4, m_fin5, l_0, l_1, l_2, l_3, l_5, l_7, l_8, l_9, l_11, l_12, l_16, l_20, l_30, l_40, l_60, l_69, l_99, l_4095, if_true, if_false, nI_add, pk_mul, nI_clamp, nI_leI, nI_ltI, nI_eq, ckI_s, bd_q, bnd_q, if_pos, if_neg, o_0, o_1, o_2, o_3, o_4, o_5, o_6, o_7, o_8, o_9, o_10, o_11, o_12, o_13, o_14, o_15, o_16, o_17, o_18, o_19, o_20, o_21, o_22, o_23, o_24, o_25, o_26, o_27, o_28, o_29, o_30, o_31, o_32, o_33, o_34, o_35, o_36, o_37, o_38, o_39, o_40, o_41, o_42, o_43, o_44, o_45, o_46, o_47, o_48, o_49, o_50, o_51, o_52, o_53, o_54, o_55, o_56, o_57, o_58, o_59, o_60, o_62, o_70, o_71, o_99, o_124, o_154, o_156, o_176, o_255, o_276, o_326, o_4095, o_9999, o_10000, o_10001, o_20000, o_20033]
    · simp (disch := omega) only [fX12_put, if_neg c0, o_69, l_6, c_isWord, c_isSetOfWords, c_isUse, c_isSheet, c_isBehind, c_mayB, c_wi, m_isWord, m_areWords, m_isSheet, m_isAhead, m_isKm, m_in, l_n1, o_n1, b2if, ck_s b2_z, c_ref1, c_ref2, c_ref3, c_ref4, c_ref5, m_fin1, m_fin2, m_fin3, m_fin4, m_fin5, l_0, l_1, l_2, l_3, l_5, l_7, l_8, l_9, l_11, l_12, l_16, l_20, l_30, l_40, l_60, l_69, l_99, l_4095, if_true, if_false, nI_add, pk_mul, nI_clamp, nI_leI, nI_ltI, nI_eq, ckI_s, bd_q, bnd_q, if_pos, if_neg, o_0, o_1, o_2, o_3, o_4, o_5, o_6, o_7, o_8, o_9, o_10, o_11, o_12, o_13, o_14, o_15, o_16, o_17, o_18, o_19, o_20, o_21, o_22, o_23, o_24, o_25, o_26, o_27, o_28, o_29, o_30, o_31, o_32, o_33, o_34, o_35, o_36, o_37, o_38, o_39, o_40, o_41, o_42, o_43, o_44, o_45, o_46, o_47, o_48, o_49, o_50, o_51, o_52, o_53, o_54, o_55, o_56, o_57, o_58, o_59, o_60, o_62, o_70, o_71, o_99, o_124, o_154, o_156, o_176, o_255, o_276, o_326, o_4095, o_9999, o_10000, o_10001, o_20000, o_20033]
theorem nine {x y : Int32} (h : Rsn x y) {n : Nat} (hn : n ≤ 100) : (nI 0 ≤ x ∧ x ≤ nI n) ∧ (∃ c, c ≤ n ∧ x = nI c ∧ y = nI c) ∨ ¬ (nI 0 ≤ x ∧ x ≤ nI n) ∧ ¬ (nI 0 ≤ y ∧ y ≤ nI n) := by
  by_cases c : nI 0 ≤ x ∧ x ≤ nI n
  · obtain ⟨j, hj, rfl⟩ := bt_of (by omega) c
    exact Or.inl ⟨c, j, hj, rfl, (h j (by omega)).mp rfl⟩
  · refine Or.inr ⟨c, fun c2 => c ?_⟩
    obtain ⟨j, hj, rfl⟩ := bt_of (by omega) c2
    rw [(h j (by omega)).mpr rfl]
    exact c2
theorem E_judge (a : Int32) (he : Re errors found) (hs : Rs sbits slens snum bitsOf sizeOf number) (hh : Rh h_weight h_known h_hour h_swS h_swW h_waS h_spoons h_kind h_mark h_silver h_fresh h_texts h_tape h_tapeCount h_z h_waiting h_waitingCount d L tx) : ∃ (r : Int32) (errorsR foundR : Nat → Int32), fX11_judge a errors sbits slens snum h_spoons h_silver = some (r, errorsR) ∧ fX12_judge a d found bitsOf sizeOf number = some (r, foundR) ∧ Re errorsR foundR := by
  obtain ⟨A, E, hW, hH, hM, hC, hT, hG, hO⟩ := hh
  obtain ⟨r0, r1, r2, rW, rB, rD, rS, rC, rM, rV, rF⟩ := hM
  obtain ⟨qW, qK, qH, qB, qD, qS, qN, qC, qM, qV, qF⟩ := hC
  obtain ⟨fN, fH, fK, fW, fB, fD, fS, fC, fM, fV, fF⟩ := hW
  by_cases c0 : nI 0 ≤ a ∧ a ≤ nI 3
  · obtain ⟨a, ha, rfl⟩ := bt_of (by decide) c0
    obtain ⟨hb, ⟨bb, hbb, hbe⟩, len, hl, hl1, hl2, hnum⟩ := hs a (by omega)
    by_cases hz : bitsOf a = 0
    · refine ⟨(-1000000002 : Int32), upd errors 2 (errors 2 + nI 1), upd found 2 (found 2 + nI 1), ?_, ?_, Re_up he 2 (by decide)⟩
      · unfold fX11_judge
        rw [bd_of (c_isSheet _), b2_t c0, if_neg (by decide), ckI_s (by omega) (by omega), ckI_s (by omega) (by omega), nI_clamp (by omega), hb, if_pos hz, bd_of (c_ref2 _)]
      · unfold fX12_judge
        rw [bd_of (m_isSheet _), b2_t c0, if_neg (by decide), ckI_s (by omega) (by omega), nI_clamp (by omega), if_pos hz, o_2, bd_of (m_fin2 _)]
    · obtain ⟨mn, hmn⟩ : ∃ m, m = min len (aN A) := ⟨_, rfl⟩
      have hm1 : mn ≤ len ∧ mn ≤ aN A ∧ (mn = len ∨ mn = aN A) := by omega
      obtain ⟨r, q, l1, l2, hQ⟩ := lpQ (fun σ : Int32 => fX11_judge_53B (nI mn) (nI a) errors sbits slens snum h_spoons h_silver σ) (fun σ : Int32 => fX12_judge_30B (nI a) d found bitsOf sizeOf number σ) (fun i s u => s = nI i ∧ u = nI i) (fun r q => (∃ i, i < mn ∧ r = .inr (nI i, errors) ∧ q = nI i) ∨ (r = .inl (nI mn) ∧ q = nI mn)) mn
        (fun i s u hi hI => by
          obtain ⟨rfl, rfl⟩ := hI
          have hr := hnum i (by omega) (aV A i) (by have := fV i; omega)
          have e1 : ∀ z, (if snum a i = nI (aV A i) then some (.inl (nI (i + 1))) else some (.inr (.inr (nI i, errors)))) = z → fX11_judge_53B (nI mn) (nI a) errors sbits slens snum h_spoons h_silver (nI i) = z := fun z hz => by
            unfold fX11_judge_53B
            rw [if_neg (by rw [nI_leI (by omega) (by omega)]; omega), ckI_s (by omega) (by omega), ckI_s (by omega) (by omega), ckI_s (by omega) (by omega), ckI_s (by omega) (by omega), nI_clamp (by omega), nI_clamp (by omega), qV i (by omega), o_1, nI_add, bnd_q]
            exact hz
          have e2 : ∀ z, (if number (40 * a + i) = nI (aV A i) then some (.inl (nI (i + 1))) else some (.inr (nI i))) = z → fX12_judge_30B (nI a) d found bitsOf sizeOf number (nI i) = z := fun z hz => by
            unfold fX12_judge_30B
            rw [ckI_s (by omega) (by omega), nI_clamp (by omega), hl2, if_neg (by rw [nI_leI (by omega) (by omega)]; omega), o_0, ckI_s (by decide) (by decide), nI_clamp (by decide), r0, if_neg (by rw [nI_leI (by omega) (by omega)]; omega), o_40, pk_mul, nI_add, ckI_s (by omega) (by omega), nI_clamp (by omega), o_2, bd_of (m_of d (by omega) (by decide)), rV i (by omega), o_1, nI_add, bnd_q]
            exact hz
          by_cases h : snum a i = nI (aV A i)
          · exact Or.inl ⟨nI (i + 1), nI (i + 1), e1 _ (if_pos h), e2 _ (if_pos (hr.mp h)), rfl, rfl⟩
          · exact Or.inr ⟨.inr (nI i, errors), nI i, e1 _ (if_neg h), e2 _ (if_neg (fun g => h (hr.mpr g))), Or.inl ⟨i, hi, rfl, rfl⟩⟩)
        (fun s u hI => by
          obtain ⟨rfl, rfl⟩ := hI
          refine ⟨.inl (nI mn), nI mn, ?_, ?_, Or.inr ⟨rfl, rfl⟩⟩
          · unfold fX11_judge_53B
            rw [if_pos ((nI_leI (by omega) (by omega)).mpr (Nat.le_refl _))]
          · unfold fX12_judge_30B
            rw [ckI_s (by omega) (by omega), nI_clamp (by omega), hl2, o_0, ckI_s (by decide) (by decide), nI_clamp (by decide), r0]
            by_cases h : len ≤ mn
            · rw [if_pos ((nI_leI (by omega) (by omega)).mpr h)]
            · rw [if_neg (by rw [nI_leI (by omega) (by omega)]; exact h), if_pos ((nI_leI (by omega) (by omega)).mpr (by omega))])
        (FU_lt (by omega)) (nI 0) (nI 0) ⟨rfl, rfl⟩
      have g11 : ∀ z, fX11_judge_53 (nI mn) (nI 0) (nI a) errors sbits slens snum h_spoons h_silver = z → fX11_judge (nI a) errors sbits slens snum h_spoons h_silver = z := fun z hz2 => by
        unfold fX11_judge
        rw [bd_of (c_isSheet _), b2_t c0, if_neg (by decide), ckI_s (by omega) (by omega), ckI_s (by omega) (by omega), nI_clamp (by omega), hb, if_neg hz, ckI_s (by omega) (by omega), hl1, qN, jmin_n (by omega) (by omega), ← hmn, bnd_q, ← qN]
        exact hz2
      have g12 : ∀ z, fX12_judge_30 (nI a) (nI 0) d found bitsOf sizeOf number = z → fX12_judge (nI a) d found bitsOf sizeOf number = z := fun z hz2 => by
        unfold fX12_judge
        rw [bd_of (m_isSheet _), b2_t c0, if_neg (by decide), ckI_s (by omega) (by omega), nI_clamp (by omega), if_neg hz]
        exact hz2
      rcases hQ with ⟨i, hi, rfl, rfl⟩ | ⟨rfl, rfl⟩
      · refine ⟨nI i, errors, found, g11 _ ?_, g12 _ ?_, he⟩
        · unfold fX11_judge_53
          exact (bd_of l1).trans rfl
        · unfold fX12_judge_30
          refine (bd_of l2).trans ?_
          dsimp only
          unfold fX12_judge_76
          rw [ckI_s (by omega) (by omega), nI_clamp (by omega), hl2, if_neg (by rw [nI_eq (by omega) (by omega)]; omega)]
      · by_cases h : len = aN A
        · refine ⟨(-1 : Int32), errors, found, g11 _ ?_, g12 _ ?_, he⟩
          · unfold fX11_judge_53
            refine (bd_of l1).trans ?_
            dsimp only
            rw [ckI_s (by omega) (by omega), nI_clamp (by omega), hl1, qN, if_pos (by rw [h])]
          · unfold fX12_judge_30
            refine (bd_of l2).trans ?_
            dsimp only
            unfold fX12_judge_76
            rw [ckI_s (by omega) (by omega), nI_clamp (by omega), hl2, o_0, ckI_s (by decide) (by decide), nI_clamp (by decide), r0, if_pos (by rw [nI_eq (by omega) (by omega)]; omega), if_pos (by rw [nI_eq (by omega) (by omega)]; omega)]
        · refine ⟨nI mn, errors, found, g11 _ ?_, g12 _ ?_, he⟩
          · unfold fX11_judge_53
            refine (bd_of l1).trans ?_
            dsimp only
            rw [ckI_s (by omega) (by omega), nI_clamp (by omega), hl1, qN, if_neg (by rw [nI_eq (by omega) (by omega)]; exact h)]
          · unfold fX12_judge_30
            refine (bd_of l2).trans ?_
            dsimp only
            unfold fX12_judge_76
            rw [ckI_s (by omega) (by omega), nI_clamp (by omega), hl2, o_0, ckI_s (by decide) (by decide), nI_clamp (by decide), r0]
            by_cases g : mn = len
            · rw [if_pos (by rw [g]), if_neg (by rw [nI_eq (by omega) (by omega)]; omega)]
            · rw [if_neg (by rw [nI_eq (by omega) (by omega)]; exact g)]
  · refine ⟨(-1000000001 : Int32), upd errors 1 (errors 1 + nI 1), upd found 1 (found 1 + nI 1), ?_, ?_, Re_up he 1 (by decide)⟩
    · simp (disch := omega) only [fX11_judge, if_neg c0, o_69, l_6, c_isWord, c_isSetOfWords, c_isUse, c_isSheet, c_isBehind, c_mayB, c_wi, m_isWord, m_areWords, m_isSheet, m_isAhead, m_isKm, m_in, l_n1, o_n1, b2if, ck_s b2_z, c_ref1, c_ref2, c_ref3, c_ref4, c_ref5, m_fin1, m_fin2, m_fin3, m_fin4, m_fin5, l_0, l_1, l_2, l_3, l_5, l_7, l_8, l_9, l_11, l_12, l_16, l_20, l_30, l_40, l_60, l_69, l_99, l_4095, if_true, if_false, nI_add, pk_mul, nI_clamp, nI_leI, nI_ltI, nI_eq, ckI_s, bd_q, bnd_q, if_pos, if_neg, o_0, o_1, o_2, o_3, o_4, o_5, o_6, o_7, o_8, o_9, o_10, o_11, o_12, o_13, o_14, o_15, o_16, o_17, o_18, o_19, o_20, o_21, o_22, o_23, o_24, o_25, o_26, o_27, o_28, o_29, o_30, o_31, o_32, o_33, o_34, o_35, o_36, o_37, o_38, o_39, o_40, o_41, o_42, o_43, o_44, o_45, o_46, o_47, o_48, o_49, o_50, o_51, o_52, o_53, o_54, o_55, o_56, o_57, o_58, o_59, o_60, o_62, o_70, o_71, o_99, o_124, o_154, o_156, o_176, o_255, o_276, o_326, o_4095, o_9999, o_10000, o_10001, o_20000, o_20033]
    · simp (disch := omega) only [fX12_judge, if_neg c0, o_69, l_6, c_isWord, c_isSetOfWords, c_isUse, c_isSheet, c_isBehind, c_mayB, c_wi, m_isWord, m_areWords, m_isSheet, m_isAhead, m_isKm, m_in, l_n1, o_n1, b2if, ck_s b2_z, c_ref1, c_ref2, c_ref3, c_ref4, c_ref5, m_fin1, m_fin2, m_fin3, m_fin4, m_fin5, l_0, l_1, l_2, l_3, l_5, l_7, l_8, l_9, l_11, l_12, l_16, l_20, l_30, l_40, l_60, l_69, l_99, l_4095, if_true, if_false, nI_add, pk_mul, nI_clamp, nI_leI, nI_ltI, nI_eq, ckI_s, bd_q, bnd_q, if_pos, if_neg, o_0, o_1, o_2, o_3, o_4, o_5, o_6, o_7, o_8, o_9, o_10, o_11, o_12, o_13, o_14, o_15, o_16, o_17, o_18, o_19, o_20, o_21, o_22, o_23, o_24, o_25, o_26, o_27, o_28, o_29, o_30, o_31, o_32, o_33, o_34, o_35, o_36, o_37, o_38, o_39, o_40, o_41, o_42, o_43, o_44, o_45, o_46, o_47, o_48, o_49, o_50, o_51, o_52, o_53, o_54, o_55, o_56, o_57, o_58, o_59, o_60, o_62, o_70, o_71, o_99, o_124, o_154, o_156, o_176, o_255, o_276, o_326, o_4095, o_9999, o_10000, o_10001, o_20000, o_20033]
theorem E_weights (a : Int32) (he : Re errors found) (hs : Rs sbits slens snum bitsOf sizeOf number) (hh : Rh h_weight h_known h_hour h_swS h_swW h_waS h_spoons h_kind h_mark h_silver h_fresh h_texts h_tape h_tapeCount h_z h_waiting h_waitingCount d L tx) : ∃ (r : Int32) (errorsR weR dR foundR : Nat → Int32), fX11_weights a errors sbits slens snum h_weight = some (r, errorsR, weR) ∧ fX12_weights a d found bitsOf sizeOf number = some (r, dR, foundR) ∧ Re errorsR foundR ∧ Rh weR h_known h_hour h_swS h_swW h_waS h_spoons h_kind h_mark h_silver h_fresh h_texts h_tape h_tapeCount h_z h_waiting h_waitingCount dR L tx := by
  by_cases c0 : nI 0 ≤ a ∧ a ≤ nI 3
  · obtain ⟨a, ha, rfl⟩ := bt_of (by decide) c0
    obtain ⟨hb, ⟨bb, hbb, hbe⟩, len, hl, hl1, hl2, hnum⟩ := hs a (by omega)
    by_cases hz : bitsOf a = 0
    · refine ⟨(-1000000002 : Int32), upd errors 2 (errors 2 + nI 1), h_weight, d, upd found 2 (found 2 + nI 1), ?_, ?_, Re_up he 2 (by decide), hh⟩
      · unfold fX11_weights
        rw [bd_of (c_isSheet _), b2_t c0, if_neg (by decide), ckI_s (by omega) (by omega), ckI_s (by omega) (by omega), nI_clamp (by omega), hb, if_pos hz, bd_of (c_ref2 _)]
      · unfold fX12_weights
        rw [bd_of (m_isSheet _), b2_t c0, if_neg (by decide), ckI_s (by omega) (by omega), nI_clamp (by omega), if_pos hz, o_2, bd_of (m_fin2 _)]
    · obtain ⟨mn, hmn⟩ : ∃ m, m = min len 12 := ⟨_, rfl⟩
      have hm1 : mn ≤ len ∧ mn ≤ 12 ∧ (mn = len ∨ mn = 12) := by omega
      obtain ⟨r, q, l1, l2, i, w, d', hQ, e2, hR⟩ := lpQ (fun σ : Int32 × (Nat → Int32) => fX11_weights_48B (nI mn) (nI a) errors sbits slens snum (σ.1) (σ.2)) (fun σ : Int32 × (Nat → Int32) => fX12_weights_30B (nI a) found bitsOf sizeOf number (σ.1) (σ.2)) (fun i s u => ∃ (w d' : Nat → Int32), s = (nI i, w) ∧ u = (nI i, d') ∧ Rh w h_known h_hour h_swS h_swW h_waS h_spoons h_kind h_mark h_silver h_fresh h_texts h_tape h_tapeCount h_z h_waiting h_waitingCount d' L tx) (fun r q => ∃ (i : Nat) (w d' : Nat → Int32), (r = .inr (nI i, errors, w) ∨ i = mn ∧ r = .inl (nI mn, w)) ∧ q = (nI i, d') ∧ Rh w h_known h_hour h_swS h_swW h_waS h_spoons h_kind h_mark h_silver h_fresh h_texts h_tape h_tapeCount h_z h_waiting h_waitingCount d' L tx) mn
        (fun i s u hi hI => by
          obtain ⟨w, d', rfl, rfl, hR⟩ := hI
          have e1 : ∀ z, (if b2 (nI 0 ≤ snum a i ∧ snum a i ≤ nI 9) = nI 0 then some (.inr (.inr (nI i, errors, w))) else some (.inl (nI (i + 1), upd w i (snum a i)))) = z → fX11_weights_48B (nI mn) (nI a) errors sbits slens snum (nI i) w = z := fun z hz => by
            unfold fX11_weights_48B
            rw [if_neg (by rw [nI_leI (by omega) (by omega)]; omega), ckI_s (by omega) (by omega), ckI_s (by omega) (by omega), ckI_s (by omega) (by omega), nI_clamp (by omega), nI_clamp (by omega), o_0, o_9, bd_of (c_wi _ _ _)]
            simp (disch := omega) only [bnd_q, ckI_s, nI_clamp, o_1, nI_add]
            exact hz
          have e2 : ∀ z, (if b2 (nI 0 ≤ number (40 * a + i) ∧ number (40 * a + i) ≤ nI 9) = nI 0 then some (.inr (nI i, d')) else some (.inl (nI (i + 1), upd d' (6 + i) (number (40 * a + i))))) = z → fX12_weights_30B (nI a) found bitsOf sizeOf number (nI i) d' = z := fun z hz => by
            unfold fX12_weights_30B
            rw [ckI_s (by omega) (by omega), nI_clamp (by omega), hl2, if_neg (by rw [nI_leI (by omega) (by omega)]; omega), o_12, if_neg (by rw [nI_leI (by omega) (by omega)]; omega), o_40, pk_mul, nI_add, ckI_s (by omega) (by omega), nI_clamp (by omega), l_0, l_9, bd_of (m_in _ _ _)]
            simp (disch := omega) only [bnd_q, ckI_s, nI_clamp, show (6 : Int32) = nI 6 from rfl, o_1, nI_add]
            exact hz
          rcases nine (hnum i (by omega)) (n := 9) (by decide) with ⟨h1, c, h2, h3, h4⟩ | ⟨h1, h2⟩
          · refine Or.inl ⟨(nI (i + 1), upd w i (nI c)), (nI (i + 1), upd d' (6 + i) (nI c)), e1 _ ?_, e2 _ ?_, _, _, rfl, rfl, ?_⟩
            · rw [b2_t h1, if_neg (by decide), h3]
            · rw [h4, b2_t (h3 ▸ h1), if_neg (by decide)]
            · obtain ⟨A, E, hW, hH, hM, hC, hT, hG, hO⟩ := hR
              exact ⟨sW A (upN (aW A) i c), E, Wf_sW hW (upN_le hW.2.2.2.1 h2), hH, RM_W hM c (by omega), RC_W hC c, TMc_u hT _ (by omega), hG, Ro_sm hO (Sm_upd (by omega))⟩
          · exact Or.inr ⟨.inr (nI i, errors, w), (nI i, d'), e1 _ (by rw [b2_f h1, if_pos rfl]), e2 _ (by rw [b2_f h2, if_pos rfl]), i, w, d', Or.inl rfl, rfl, hR⟩)
        (fun s u hI => by
          obtain ⟨w, d', rfl, rfl, hR⟩ := hI
          refine ⟨.inl (nI mn, w), (nI mn, d'), ?_, ?_, mn, w, d', Or.inr ⟨rfl, rfl⟩, rfl, hR⟩
          · show fX11_weights_48B (nI mn) (nI a) errors sbits slens snum (nI mn) w = _
            unfold fX11_weights_48B
            rw [if_pos ((nI_leI (by omega) (by omega)).mpr (Nat.le_refl _))]
          · show fX12_weights_30B (nI a) found bitsOf sizeOf number (nI mn) d' = _
            unfold fX12_weights_30B
            rw [ckI_s (by omega) (by omega), nI_clamp (by omega), hl2]
            by_cases h : len ≤ mn
            · rw [if_pos ((nI_leI (by omega) (by omega)).mpr h)]
            · rw [if_neg (by rw [nI_leI (by omega) (by omega)]; exact h), o_12, if_pos ((nI_leI (by omega) (by omega)).mpr (by omega))])
        (FU_lt (by omega)) (nI 0, h_weight) (nI 0, d) ⟨_, _, rfl, rfl, hh⟩
      refine ⟨nI i, errors, w, d', found, ?_, ?_, he, hR⟩
      · unfold fX11_weights
        rw [bd_of (c_isSheet _), b2_t c0, if_neg (by decide), ckI_s (by omega) (by omega), ckI_s (by omega) (by omega), nI_clamp (by omega), hb, if_neg hz, ckI_s (by omega) (by omega), hl1, o_12, jmin_n (by omega) (by omega), ← hmn, bnd_q]
        unfold fX11_weights_48
        rcases hQ with rfl | ⟨rfl, rfl⟩
        · exact (bd_of l1).trans rfl
        · exact (bd_of l1).trans rfl
      · subst e2
        unfold fX12_weights
        rw [bd_of (m_isSheet _), b2_t c0, if_neg (by decide), ckI_s (by omega) (by omega), nI_clamp (by omega), if_neg hz]
        unfold fX12_weights_30
        exact (bd_of l2).trans rfl
  · refine ⟨(-1000000001 : Int32), upd errors 1 (errors 1 + nI 1), h_weight, d, upd found 1 (found 1 + nI 1), ?_, ?_, Re_up he 1 (by decide), hh⟩
    · simp (disch := omega) only [fX11_weights, if_neg c0, o_69, l_6, c_isWord, c_isSetOfWords, c_isUse, c_isSheet, c_isBehind, c_mayB, c_wi, m_isWord, m_areWords, m_isSheet, m_isAhead, m_isKm, m_in, l_n1, o_n1, b2if, ck_s b2_z, c_ref1, c_ref2, c_ref3, c_ref4, c_ref5, m_fin1, m_fin2, m_fin3, m_fin4, m_fin5, l_0, l_1, l_2, l_3, l_5, l_7, l_8, l_9, l_11, l_12, l_16, l_20, l_30, l_40, l_60, l_69, l_99, l_4095, if_true, if_false, nI_add, pk_mul, nI_clamp, nI_leI, nI_ltI, nI_eq, ckI_s, bd_q, bnd_q, if_pos, if_neg, o_0, o_1, o_2, o_3, o_4, o_5, o_6, o_7, o_8, o_9, o_10, o_11, o_12, o_13, o_14, o_15, o_16, o_17, o_18, o_19, o_20, o_21, o_22, o_23, o_24, o_25, o_26, o_27, o_28, o_29, o_30, o_31, o_32, o_33, o_34, o_35, o_36, o_37, o_38, o_39, o_40, o_41, o_42, o_43, o_44, o_45, o_46, o_47, o_48, o_49, o_50, o_51, o_52, o_53, o_54, o_55, o_56, o_57, o_58, o_59, o_60, o_62, o_70, o_71, o_99, o_124, o_154, o_156, o_176, o_255, o_276, o_326, o_4095, o_9999, o_10000, o_10001, o_20000, o_20033]
    · simp (disch := omega) only [fX12_weights, if_neg c0, o_69, l_6, c_isWord, c_isSetOfWords, c_isUse, c_isSheet, c_isBehind, c_mayB, c_wi, m_isWord, m_areWords, m_isSheet, m_isAhead, m_isKm, m_in, l_n1, o_n1, b2if, ck_s b2_z, c_ref1, c_ref2, c_ref3, c_ref4, c_ref5, m_fin1, m_fin2, m_fin3, m_fin4, m_fin5, l_0, l_1, l_2, l_3, l_5, l_7, l_8, l_9, l_11, l_12, l_16, l_20, l_30, l_40, l_60, l_69, l_99, l_4095, if_true, if_false, nI_add, pk_mul, nI_clamp, nI_leI, nI_ltI, nI_eq, ckI_s, bd_q, bnd_q, if_pos, if_neg, o_0, o_1, o_2, o_3, o_4, o_5, o_6, o_7, o_8, o_9, o_10, o_11, o_12, o_13, o_14, o_15, o_16, o_17, o_18, o_19, o_20, o_21, o_22, o_23, o_24, o_25, o_26, o_27, o_28, o_29, o_30, o_31, o_32, o_33, o_34, o_35, o_36, o_37, o_38, o_39, o_40, o_41, o_42, o_43, o_44, o_45, o_46, o_47, o_48, o_49, o_50, o_51, o_52, o_53, o_54, o_55, o_56, o_57, o_58, o_59, o_60, o_62, o_70, o_71, o_99, o_124, o_154, o_156, o_176, o_255, o_276, o_326, o_4095, o_9999, o_10000, o_10001, o_20000, o_20033]
end E13
