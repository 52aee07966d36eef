/-! spoon, washers -/
theorem pk0 {g : Nat → Nat} (h : ∀ w, w < 12 → g w = 0) : pk12 g = 0 := by
  have : ∀ n, n ≤ 12 → pkn g n = 0 := by
    intro n
    induction n with
    | zero => exact fun _ => rfl
    | succ n ih =>
      intro hn
      have h1 := ih (by omega)
      have h2 := h n (by omega)
      simp only [pkn, h1, h2]
      simp
  exact this 12 (Nat.le_refl _)
section E11
variable {errors found : Nat → Int32} {h_weight : Nat → Int32} {h_known : Int32} {h_hour : Int32} {h_swS : Nat → Int32} {h_swW : Nat → Int32} {h_waS : Nat → Int32} {h_spoons : Int32} {h_kind : Nat → Int32} {h_mark : Nat → Int32} {h_silver : Nat → Int32} {h_fresh : Nat → Int64} {h_texts : Nat → Option Nat} {h_tape : Nat → Int32} {h_tapeCount : Int32} {h_z : Int32} {h_waiting : Nat → Int32} {h_waitingCount : Int32} {d : Nat → Int32} {L : List Nat} {tx : Nat → TXc}
theorem m_sp0 {A : AS} {N : Nat} (hN : N < 8) (hF : ∀ s w, aF A s w ≤ 9) (hM : RM d A) (fd : Nat → Int32) : ∃ (d1 : Nat → Int32) (g : Nat → Nat), lp (fun σ : Int32 × (Nat → Int32) => fX12_spoon_79B (nI N) fd (σ.1) (σ.2)) FU (nI 0, d) = some (nI 12, d1) ∧ RM d1 (sF A (upF (aF A) N g)) ∧ (∀ w, w < 12 → g w = 0) ∧ (∀ w, g w ≤ 9) ∧ Sm d d1 := by
  obtain ⟨⟨x, d1⟩, l1, e1, g, h1, h2, h3, h4⟩ := lpE (fun σ : Int32 × (Nat → Int32) => fX12_spoon_79B (nI N) fd (σ.1) (σ.2)) (fun i s => s.1 = nI i ∧ ∃ g : Nat → Nat, RM s.2 (sF A (upF (aF A) N g)) ∧ (∀ w, w < i → g w = 0) ∧ (∀ w, g w ≤ 9) ∧ Sm d s.2) (fun r => r.1 = nI 12 ∧ ∃ g : Nat → Nat, RM r.2 (sF A (upF (aF A) N g)) ∧ (∀ w, w < 12 → g w = 0) ∧ (∀ w, g w ≤ 9) ∧ Sm d r.2) 12
    (fun i s hi hI => by
      obtain ⟨x, d1⟩ := s
      obtain ⟨hx, g, h1, h2, h3, h4⟩ := hI
      have hx : x = nI i := hx
      subst hx
      have h5 := RM_F h1 (s := N) (w := i) 0 hN hi
      have e : sF (sF A (upF (aF A) N g)) (upF (aF (sF A (upF (aF A) N g))) N (upN (aF (sF A (upF (aF A) N g)) N) i 0)) = sF A (upF (aF A) N (upN g i 0)) := by
        show sF A (upF (upF (aF A) N g) N (upN (upF (aF A) N g N) i 0)) = _
        rw [upF_s]
        congr 1
        funext k
        by_cases hk : k = N
        · subst hk
          rw [upF_s, upF_s]
        · rw [upF_n hk, upF_n hk, upF_n hk]
      rw [e] at h5
      refine Or.inl ⟨(nI (i + 1), upd d1 (34 + 15 * N + (3 + i)) (nI 0)), ?_, rfl, upN g i 0, h5, fun w hw => ?_, upN_le h3 (Nat.zero_le _), h4.tr (Sm_upd (by omega))⟩
      · show fX12_spoon_79B (nI N) fd (nI i) d1 = _
        unfold fX12_spoon_79B
        rw [o_12, if_neg (by rw [nI_leI (by omega) (by omega)]; omega), o_3, nI_add, bd_of (m_sets d1 _ hN (by omega)), bnd_q, o_1, nI_add]
        rfl
      · by_cases hw2 : w = i
        · rw [hw2, upN_s]
        · rw [upN_n hw2]
          exact h2 w (by omega))
    (fun s hI => by
      obtain ⟨x, d1⟩ := s
      obtain ⟨hx, hI⟩ := hI
      have hx : x = nI 12 := hx
      subst hx
      refine ⟨(nI 12, d1), ?_, rfl, hI⟩
      show fX12_spoon_79B (nI N) fd (nI 12) d1 = _
      unfold fX12_spoon_79B
      rw [if_pos (by decide)])
    (FU_lt (by decide)) (nI 0, d) ⟨rfl, aF A N, by
      have e : sF A (upF (aF A) N (aF A N)) = A := by
        have e2 : upF (aF A) N (aF A N) = aF A := by
          funext k
          by_cases hk : k = N
          · subst hk
            rw [upF_s]
          · rw [upF_n hk]
        rw [e2]
        rfl
      rw [e]
      exact hM, fun w hw => absurd hw (Nat.not_lt_zero _), hF N, Sm.rf⟩
  have e1 : x = nI 12 := e1
  subst e1
  exact ⟨d1, g, l1, h1, h2, h3, h4⟩
theorem E_spoon (a b : Int32) (he : Re errors found) (hh : Rh h_weight h_known h_hour h_swS h_swW h_waS h_spoons h_kind h_mark h_silver h_fresh h_texts h_tape h_tapeCount h_z h_waiting h_waitingCount d L tx) : ∃ (r : Int32) (errorsR : Nat → Int32) (spR : Int32) (kiR mkR svR : Nat → Int32) (frR : Nat → Int64) (dR foundR : Nat → Int32), fX11_spoon a b errors h_spoons h_kind h_mark h_silver h_fresh = some (r, errorsR, spR, kiR, mkR, svR, frR) ∧ fX12_spoon a b d found = some (r, dR, foundR) ∧ Re errorsR foundR ∧ Rh h_weight h_known h_hour h_swS h_swW h_waS spR kiR mkR svR frR h_texts h_tape h_tapeCount h_z h_waiting h_waitingCount dR L tx := by
  obtain ⟨A, E, hW, hH, hM, hC, hT, hG, hO⟩ := hh
  have r0 := hM.1
  have qN := hC.2.2.2.2.2.2.1
  have fN := hW.1
  have hW0 := hW
  obtain ⟨-, fH, fK, fW, fB, fD, fS, fC, fM, fV, fF⟩ := hW0
  by_cases c0 : nI 0 ≤ a ∧ a ≤ nI 69
  · obtain ⟨x, hx, rfl⟩ := bt_of (by decide) c0
    by_cases c1 : nI 0 ≤ b ∧ b ≤ nI 99
    · obtain ⟨v, hv, rfl⟩ := bt_of (by decide) c1
      have e4 : nI x / nI 10 = nI (x / 10) := pk_div (by omega) (by decide) (by decide)
      by_cases c2 : aN A = 8
      · refine ⟨(-1000000004 : Int32), upd errors 4 (errors 4 + nI 1), h_spoons, h_kind, h_mark, h_silver, h_fresh, d, upd found 4 (found 4 + nI 1), ?_, ?_, Re_up he 4 (by decide), A, E, hW, hH, hM, hC, hT, hG, hO⟩
        · unfold fX11_spoon
          rw [o_0, o_69, bd_of (c_wi _ _ _), b2_t c0, if_neg (by decide), o_99, bd_of (c_wi _ _ _), b2_t c1, if_neg (by decide), if_pos (show h_spoons = 8 by rw [qN, c2]; rfl), bd_of (c_ref4 _)]
        · unfold fX12_spoon
          rw [bd_of (m_isKm _), b2_t c0, if_neg (by decide), l_0, l_99, bd_of (m_in _ _ _), b2_t c1, if_neg (by decide), o_0, ckI_s (by decide) (by decide), nI_clamp (by decide), if_pos (show d 0 = 8 by rw [r0, c2]; rfl), show (4 : Int32) = nI 4 from rfl, bd_of (m_fin4 _)]
      · have hN : aN A < 8 := by omega
        have M1 := RM_C hM (s := aN A) (x / 10) hN
        have C1 := RC_C hC (s := aN A) (x / 10)
        have M2 := RM_M M1 (s := aN A) (x % 10) hN
        have C2 := RC_M C1 (s := aN A) (x % 10)
        have M3 := RM_V M2 (s := aN A) v hN
        have C3 := RC_V C2 (s := aN A) v
        obtain ⟨d1, g, l1, M4, hg, hg9, hS⟩ := m_sp0 (N := aN A) hN (by exact fF) M3 found
        have C4 := RC_F C3 (s := aN A) g
        have M5 := RM_N M4 (aN A + 1)
        have C5 := RC_N C4 (aN A + 1)
        have hS0 : Sm d d1 := (((Sm_upd (by omega)).tr (Sm_upd (by omega))).tr (Sm_upd (by omega))).tr hS
        have hS5 : Sm d (upd d1 0 (nI (aN A + 1))) := hS0.tr (Sm_upd (by omega))
        have n1 : d1 0 = nI (aN A) := M4.1
        refine ⟨nI (aN A), errors, nI (aN A + 1), upd h_kind (aN A) (nI (x / 10)), upd h_mark (aN A) (nI (x % 10)), upd h_silver (aN A) (nI v), vp_updL h_fresh (aN A) (lN (pk12 g)), upd d1 0 (nI (aN A + 1)), found, ?_, ?_, he, _, E, Wf_sN (Wf_sF (Wf_sV (Wf_sM (Wf_sC hW (upN_le fC (by omega))) (upN_le fM (by omega))) (upN_le fV (by omega))) (upF_le fF hg9)) (by omega), hH, M5, C5, hT.sm hS5, hG, Ro_sm hO hS5⟩
        · unfold fX11_spoon
          rw [o_0, o_69, bd_of (c_wi _ _ _), b2_t c0, if_neg (by decide), o_99, bd_of (c_wi _ _ _), b2_t c1, if_neg (by decide), qN, if_neg (by rw [o_8, nI_eq (by omega) (by decide)]; exact c2), bnd_q, o_10, show nI x - nI x / nI 10 * nI 10 = nI (x % 10) from pk_rem (by omega) (by decide) (by decide), e4, bnd_q, ckI_s (by omega) (by omega), nI_clamp (by omega), bnd_q, bnd_q, ckI_s (by omega) (by omega), bnd_q, ckI_s (by omega) (by omega), bnd_q, bnd_q, ckI_s (by omega) (by omega), bnd_q, o_1, nI_add, pk0 hg]
          rfl
        · unfold fX12_spoon
          rw [bd_of (m_isKm _), b2_t c0, if_neg (by decide), l_0, l_99, bd_of (m_in _ _ _), b2_t c1, if_neg (by decide), o_0, ckI_s (by decide) (by decide), nI_clamp (by decide), r0, if_neg (by rw [o_8, nI_eq (by omega) (by decide)]; exact c2), ckI_s (by decide) (by decide), bnd_q, o_10, show nI x - nI x / nI 10 * nI 10 = nI (x % 10) from pk_rem (by omega) (by decide) (by decide), e4, bd_of (m_sets d _ hN (by decide)), o_1, bd_of (m_sets _ _ hN (by decide)), o_2, bd_of (m_sets _ _ hN (by decide))]
          unfold fX12_spoon_79
          refine (bd_of l1).trans ?_
          dsimp only
          rw [o_0, ckI_s (by decide) (by decide), nI_clamp (by decide), n1, o_1, nI_add, bnd_q, ckI_s (by decide) (by decide), bnd_q]
    · refine ⟨(-1000000001 : Int32), upd errors 1 (errors 1 + nI 1), h_spoons, h_kind, h_mark, h_silver, h_fresh, d, upd found 1 (found 1 + nI 1), ?_, ?_, Re_up he 1 (by decide), A, E, hW, hH, hM, hC, hT, hG, hO⟩
      · simp (disch := omega) only [fX11_spoon, if_pos c0, if_neg c1, o_69, l_6, c_isWord, c_isSetOfWords, c_isUse, c_isSheet, c_isBehind, c_mayB, c_wi, m_isWord, m_areWords, m_isSheet, m_isAhead, m_isKm, m_in, l_n1, o_n1, b2if, ck_s b2_z, c_ref1, c_ref2, c_ref3, c_ref4, c_ref5, m_fin1, m_fin2, m_fin3, m_fin4, m_fin5, l_0, l_1, l_2, l_3, l_5, l_7, l_8, l_9, l_11, l_12, l_16, l_20, l_30, l_40, l_60, l_69, l_99, l_4095, if_true, if_false, nI_add, pk_mul, nI_clamp, nI_leI, nI_ltI, nI_eq, ckI_s, bd_q, bnd_q, if_pos, if_neg, o_0, o_1, o_2, o_3, o_4, o_5, o_6, o_7, o_8, o_9, o_10, o_11, o_12, o_13, o_14, o_15, o_16, o_17, o_18, o_19, o_20, o_21, o_22, o_23, o_24, o_25, o_26, o_27, o_28, o_29, o_30, o_31, o_32, o_33, o_34, o_35, o_36, o_37, o_38, o_39, o_40, o_41, o_42, o_43, o_44, o_45, o_46, o_47, o_48, o_49, o_50, o_51, o_52, o_53, o_54, o_55, o_56, o_57, o_58, o_59, o_60, o_62, o_70, o_71, o_99, o_124, o_154, o_156, o_176, o_255, o_276, o_326, o_4095, o_9999, o_10000, o_10001, o_20000, o_20033]
      · simp (disch := omega) only [fX12_spoon, if_pos c0, if_neg c1, o_69, l_6, c_isWord, c_isSetOfWords, c_isUse, c_isSheet, c_isBehind, c_mayB, c_wi, m_isWord, m_areWords, m_isSheet, m_isAhead, m_isKm, m_in, l_n1, o_n1, b2if, ck_s b2_z, c_ref1, c_ref2, c_ref3, c_ref4, c_ref5, m_fin1, m_fin2, m_fin3, m_fin4, m_fin5, l_0, l_1, l_2, l_3, l_5, l_7, l_8, l_9, l_11, l_12, l_16, l_20, l_30, l_40, l_60, l_69, l_99, l_4095, if_true, if_false, nI_add, pk_mul, nI_clamp, nI_leI, nI_ltI, nI_eq, ckI_s, bd_q, bnd_q, if_pos, if_neg, o_0, o_1, o_2, o_3, o_4, o_5, o_6, o_7, o_8, o_9, o_10, o_11, o_12, o_13, o_14, o_15, o_16, o_17, o_18, o_19, o_20, o_21, o_22, o_23, o_24, o_25, o_26, o_27, o_28, o_29, o_30, o_31, o_32, o_33, o_34, o_35, o_36, o_37, o_38, o_39, o_40, o_41, o_42, o_43, o_44, o_45, o_46, o_47, o_48, o_49, o_50, o_51, o_52, o_53, o_54, o_55, o_56, o_57, o_58, o_59, o_60, o_62, o_70, o_71, o_99, o_124, o_154, o_156, o_176, o_255, o_276, o_326, o_4095, o_9999, o_10000, o_10001, o_20000, o_20033]
  · refine ⟨(-1000000001 : Int32), upd errors 1 (errors 1 + nI 1), h_spoons, h_kind, h_mark, h_silver, h_fresh, d, upd found 1 (found 1 + nI 1), ?_, ?_, Re_up he 1 (by decide), A, E, hW, hH, hM, hC, hT, hG, hO⟩
    · simp (disch := omega) only [fX11_spoon, if_neg c0, o_69, l_6, c_isWord, c_isSetOfWords, c_isUse, c_isSheet, c_isBehind, c_mayB, c_wi, m_isWord, m_areWords, m_isSheet, m_isAhead, m_isKm, m_in, l_n1, o_n1, b2if, ck_s b2_z, c_ref1, c_ref2, c_ref3, c_ref4, c_ref5, m_fin1, m_fin2, m_fin3, m_fin4, m_fin5, l_0, l_1, l_2, l_3, l_5, l_7, l_8, l_9, l_11, l_12, l_16, l_20, l_30, l_40, l_60, l_69, l_99, l_4095, if_true, if_false, nI_add, pk_mul, nI_clamp, nI_leI, nI_ltI, nI_eq, ckI_s, bd_q, bnd_q, if_pos, if_neg, o_0, o_1, o_2, o_3, o_4, o_5, o_6, o_7, o_8, o_9, o_10, o_11, o_12, o_13, o_14, o_15, o_16, o_17, o_18, o_19, o_20, o_21, o_22, o_23, o_24, o_25, o_26, o_27, o_28, o_29, o_30, o_31, o_32, o_33, o_34, o_35, o_36, o_37, o_38, o_39, o_40, o_41, o_42, o_43, o_44, o_45, o_46, o_47, o_48, o_49, o_50, o_51, o_52, o_53, o_54, o_55, o_56, o_57, o_58, o_59, o_60, o_62, o_70, o_71, o_99, o_124, o_154, o_156, o_176, o_255, o_276, o_326, o_4095, o_9999, o_10000, o_10001, o_20000, o_20033]
    · simp (disch := omega) only [fX12_spoon, if_neg c0, o_69, l_6, c_isWord, c_isSetOfWords, c_isUse, c_isSheet, c_isBehind, c_mayB, c_wi, m_isWord, m_areWords, m_isSheet, m_isAhead, m_isKm, m_in, l_n1, o_n1, b2if, ck_s b2_z, c_ref1, c_ref2, c_ref3, c_ref4, c_ref5, m_fin1, m_fin2, m_fin3, m_fin4, m_fin5, l_0, l_1, l_2, l_3, l_5, l_7, l_8, l_9, l_11, l_12, l_16, l_20, l_30, l_40, l_60, l_69, l_99, l_4095, if_true, if_false, nI_add, pk_mul, nI_clamp, nI_leI, nI_ltI, nI_eq, ckI_s, bd_q, bnd_q, if_pos, if_neg, o_0, o_1, o_2, o_3, o_4, o_5, o_6, o_7, o_8, o_9, o_10, o_11, o_12, o_13, o_14, o_15, o_16, o_17, o_18, o_19, o_20, o_21, o_22, o_23, o_24, o_25, o_26, o_27, o_28, o_29, o_30, o_31, o_32, o_33, o_34, o_35, o_36, o_37, o_38, o_39, o_40, o_41, o_42, o_43, o_44, o_45, o_46, o_47, o_48, o_49, o_50, o_51, o_52, o_53, o_54, o_55, o_56, o_57, o_58, o_59, o_60, o_62, o_70, o_71, o_99, o_124, o_154, o_156, o_176, o_255, o_276, o_326, o_4095, o_9999, o_10000, o_10001, o_20000, o_20033]
/-- what is known of how few washers, below i -/
def OKw (fw nd : Nat → Int32) (i : Nat) : Prop := ∀ j, j < i → fw j = nd j ∧ (j = 0 ∧ fw j = nI 0 ∨ ∃ v, 1 ≤ v ∧ v ≤ 8 ∧ fw j = nI v)
theorem w_next {i v : Nat} (hv : 1 ≤ v) (hi : v < i) : (v - 1) &&& i < v ∧ (v - 1) &&& i < i ∧ ((v - 1) &&& i) &&& i = (v - 1) &&& i := by
  have h : (v - 1) &&& i ≤ v - 1 := Nat.and_le_left
  exact ⟨by omega, by omega, by rw [Nat.and_assoc, Nat.and_self]⟩
theorem w_parts {fw nd : Nat → Int32} {i v : Nat} (ho : OKw fw nd i) (hi : i < 256) (hv : 1 ≤ v) (hvi : v < i) (hs : v &&& i = v) : ∃ p q, 1 ≤ p ∧ p ≤ 8 ∧ 1 ≤ q ∧ q ≤ 8 ∧ i ^^^ v < i ∧ fw v = nI p ∧ nd v = nI p ∧ fw (i ^^^ v) = nI q ∧ nd (i ^^^ v) = nI q := by
  have hx := sub_x hi (by omega) hs
  have hx2 : i ^^^ v < i := by omega
  obtain ⟨a1, ⟨a2, -⟩ | ⟨p, p1, p2, p3⟩⟩ := ho v hvi
  · omega
  · obtain ⟨b1, ⟨b2, -⟩ | ⟨q, q1, q2, q3⟩⟩ := ho (i ^^^ v) hx2
    · omega
    · exact ⟨p, q, p1, p2, q1, q2, hx2, p3, a1 ▸ p3, q3, b1 ▸ q3⟩
theorem jmin_n {a b : Nat} (ha : a < 2 ^ 31) (hb : b < 2 ^ 31) : jmin (nI a) (nI b) = nI (min a b) := by
  unfold jmin
  by_cases h : b < a
  · rw [if_pos ((nI_ltI hb ha).mpr h), Nat.min_eq_right (by omega)]
  · rw [if_neg (fun e => h ((nI_ltI hb ha).mp e)), Nat.min_eq_left (by omega)]
theorem w_m {fw nd nd0 : Nat → Int32} {i v c : Nat} (ho : OKw fw nd0 i) (hn : ∀ j, j < i → nd j = nd0 j) (hi : i < 256) (hv : 1 ≤ v) (hvi : v < i) (hs : v &&& i = v) (hc : nd i = nI c) (hc8 : c ≤ 8) : ∃ p q, 1 ≤ p ∧ p ≤ 8 ∧ 1 ≤ q ∧ q ≤ 8 ∧ i ^^^ v < i ∧ fw v = nI p ∧ fw (i ^^^ v) = nI q ∧ fX12_washers_48B (nI i) d (nI v) nd = some (.inl (nI ((v - 1) &&& i), upd nd i (nI (min c (p + q))))) := by
  obtain ⟨p, q, p1, p2, q1, q2, hx, e1, e2, e3, e4⟩ := w_parts ho hi hv hvi hs
  refine ⟨p, q, p1, p2, q1, q2, hx, e1, e3, ?_⟩
  have ev : nI v - nI 1 = nI (v - 1) := pk_sub hv
  unfold fX12_washers_48B fX12_washers_95
  rw [o_0, if_neg (by rw [nI_leI (by omega) (by decide)]; omega), ckI_s (by omega) (by omega), i_without hs, ckI_s (by omega) (by omega), nI_clamp (by omega), nI_clamp (by omega), hn v hvi, hn (i ^^^ v) hx, e2, e4, nI_add, bnd_q, ckI_s (by omega) (by omega), nI_clamp (by omega), hc, o_1, ev, q_and, bnd_q, bnd_q, bnd_q, bnd_q, ckI_s (by omega) (by omega), ckI_s (by omega) (by omega), ckI_s (by omega) (by omega)]
  by_cases h : c ≤ p + q
  · rw [if_pos ((nI_leI (by omega) (by omega)).mpr h), Nat.min_eq_left h]
  · rw [if_neg (fun e => h ((nI_leI (by omega) (by omega)).mp e)), Nat.min_eq_right (by omega)]
theorem w_gap : ∀ (n v x i : Nat), v < 2 ^ n → v &&& i = v → x &&& i = x → x < v → x ≤ (v - 1) &&& i := by
  intro n
  induction n with
  | zero =>
    intro v x i hv _ _ hx
    have hv : v < 1 := hv
    omega
  | succ n ih =>
    intro v x i hv h1 h2 hx
    have hv : v < 2 * 2 ^ n := by
      rw [Nat.mul_comm, ← Nat.pow_succ]
      exact hv
    have d1 : v / 2 &&& i / 2 = v / 2 := by rw [← Nat.and_div_two, h1]
    have d2 : x / 2 &&& i / 2 = x / 2 := by rw [← Nat.and_div_two, h2]
    have dm : ((v - 1) &&& i) / 2 = (v - 1) / 2 &&& i / 2 := Nat.and_div_two
    by_cases ho : v % 2 = 1
    · rw [show (v - 1) / 2 = v / 2 by omega, d1] at dm
      omega
    · rw [show (v - 1) / 2 = v / 2 - 1 by omega] at dm
      have h3 := ih (v / 2) (x / 2) (i / 2) (by omega) d1 d2 (by omega)
      rw [← dm] at h3
      by_cases hb : x % 2 = 1
      · have h4 : (x &&& i) % 2 = 1 := by rw [h2]; exact hb
        have h5 := Nat.and_mod_two_eq_one.mp h4
        have h6 : ((v - 1) &&& i) % 2 = 1 := Nat.and_mod_two_eq_one.mpr ⟨by omega, h5.2⟩
        omega
      · omega
theorem i_sub0 (x y : Int32) : x &&& (y ^^^ (-1 : Int32)) = nI 0 ↔ x &&& y = x := by
  constructor
  · intro h
    have h2 : x.toBitVec &&& (y.toBitVec ^^^ (-1 : Int32).toBitVec) = (nI 0).toBitVec := congrArg Int32.toBitVec h
    rw [show (-1 : Int32).toBitVec = BitVec.allOnes 32 from by decide, show (nI 0).toBitVec = 0#32 from by decide] at h2
    apply Int32.toBitVec_inj.1
    show x.toBitVec &&& y.toBitVec = x.toBitVec
    apply BitVec.eq_of_getLsbD_eq
    intro k hk
    have h3 := congrArg (fun b => b.getLsbD k) h2
    simp only [BitVec.getLsbD_and, BitVec.getLsbD_xor, BitVec.getLsbD_allOnes, BitVec.getLsbD_zero, hk, decide_true] at h3
    simp only [BitVec.getLsbD_and]
    revert h3
    cases x.toBitVec.getLsbD k <;> cases y.toBitVec.getLsbD k <;> decide
  · intro h
    have h2 : x.toBitVec &&& y.toBitVec = x.toBitVec := congrArg Int32.toBitVec h
    apply Int32.toBitVec_inj.1
    show x.toBitVec &&& (y.toBitVec ^^^ (-1 : Int32).toBitVec) = (nI 0).toBitVec
    rw [show (-1 : Int32).toBitVec = BitVec.allOnes 32 from by decide, show (nI 0).toBitVec = 0#32 from by decide]
    apply BitVec.eq_of_getLsbD_eq
    intro k hk
    have h3 := congrArg (fun b => b.getLsbD k) h2
    simp only [BitVec.getLsbD_and] at h3
    simp only [BitVec.getLsbD_and, BitVec.getLsbD_xor, BitVec.getLsbD_allOnes, BitVec.getLsbD_zero, hk, decide_true]
    revert h3
    cases x.toBitVec.getLsbD k <;> cases y.toBitVec.getLsbD k <;> decide
theorem i_sub {i v : Nat} (hi : i < 256) (hv : v < 256) : nI v &&& (nI i ^^^ (-1 : Int32)) = nI 0 ↔ v &&& i = v := by
  rw [i_sub0, q_and, nI_eq (Nat.lt_of_le_of_lt Nat.and_le_left (by omega)) (by omega)]
/-- the least of the sums for the parts below k, with 8 above -/
def wLow (fw : Nat → Int32) (i : Nat) : Nat → Nat
  | 0 => 8
  | k + 1 => if 1 ≤ k ∧ k &&& i = k then min (wLow fw i k) ((fw k).toNatClampNeg + (fw (i ^^^ k)).toNatClampNeg) else wLow fw i k
theorem wLow_1 (fw : Nat → Int32) (i : Nat) : wLow fw i 1 = 8 := if_neg (fun h => Nat.not_succ_le_zero 0 h.1)
theorem wLow_no {fw : Nat → Int32} {i k : Nat} (h : k &&& i ≠ k) : wLow fw i (k + 1) = wLow fw i k := if_neg (fun e => h e.2)
theorem wLow_yes {fw : Nat → Int32} {i k p q : Nat} (hk : 1 ≤ k) (h : k &&& i = k) (hp : fw k = nI p) (hq : fw (i ^^^ k) = nI q) (hp8 : p ≤ 8) (hq8 : q ≤ 8) : wLow fw i (k + 1) = min (wLow fw i k) (p + q) := by
  refine (if_pos ⟨hk, h⟩).trans ?_
  rw [hp, hq, nI_clamp (by omega), nI_clamp (by omega)]
theorem wLow_le (fw : Nat → Int32) (i : Nat) : ∀ k, wLow fw i k ≤ 8 := by
  intro k
  induction k with
  | zero => exact Nat.le_refl 8
  | succ k ih =>
    show (if 1 ≤ k ∧ k &&& i = k then min (wLow fw i k) ((fw k).toNatClampNeg + (fw (i ^^^ k)).toNatClampNeg) else wLow fw i k) ≤ 8
    split
    · exact Nat.le_trans (Nat.min_le_left _ _) ih
    · exact ih
theorem wLow_ge {fw nd : Nat → Int32} {i : Nat} (ho : OKw fw nd i) : ∀ k, k ≤ i → 1 ≤ wLow fw i k := by
  intro k
  induction k with
  | zero => exact fun _ => (by decide : 1 ≤ 8)
  | succ k ih =>
    intro hk
    have h1 := ih (by omega)
    show 1 ≤ (if 1 ≤ k ∧ k &&& i = k then min (wLow fw i k) ((fw k).toNatClampNeg + (fw (i ^^^ k)).toNatClampNeg) else wLow fw i k)
    split
    · rename_i hc
      obtain ⟨-, ⟨h2, -⟩ | ⟨p, p1, p8, hp⟩⟩ := ho k (by omega)
      · omega
      · rw [hp, nI_clamp (by omega)]
        omega
    · exact h1
theorem wLow_gap {fw : Nat → Int32} {i a : Nat} : ∀ m, (∀ x, a ≤ x → x < a + m → x &&& i ≠ x) → wLow fw i (a + m) = wLow fw i a := by
  intro m
  induction m with
  | zero => exact fun _ => rfl
  | succ m ih =>
    intro h
    have h1 : wLow fw i (a + m + 1) = wLow fw i (a + m) := wLow_no (h (a + m) (by omega) (by omega))
    exact h1.trans (ih (fun x h2 h3 => h x h2 (by omega)))
theorem wLow_part {fw : Nat → Int32} {i v : Nat} (hi : i < 256) (hv : 1 ≤ v) (hvi : v ≤ i) (hs : v &&& i = v) : wLow fw i (((v - 1) &&& i) + 1) = wLow fw i v := by
  have h1 : (v - 1) &&& i ≤ v - 1 := Nat.and_le_left
  have h2 := wLow_gap (fw := fw) (i := i) (a := ((v - 1) &&& i) + 1) (v - (((v - 1) &&& i) + 1)) (fun x h3 h4 h5 => by
    have := w_gap 8 v x i (by omega) hs h5 (by omega)
    omega)
  rw [show ((v - 1) &&& i) + 1 + (v - (((v - 1) &&& i) + 1)) = v by omega] at h2
  exact h2.symm
theorem E_fewest {A : AS} {fw nd : Nat → Int32} {i n : Nat} (hi1 : 1 ≤ i) (hi : i < 256) (hn : n ≤ 8) (hin : i < 2 ^ n) (fF : ∀ s w, aF A s w ≤ 9) (qF : ∀ s, s < 8 → h_fresh s = lN (pk12 (aF A s))) (r0 : d 0 = nI n) (rF : ∀ s, s < 8 → ∀ w, w < 12 → d (34 + 15 * s + (3 + w)) = nI (aF A s w)) (ho : OKw fw nd i) : ∃ (v : Nat) (nd' : Nat → Int32), 1 ≤ v ∧ v ≤ 8 ∧ fX11_fewestSetsOf (nI i) fw (nI n) h_fresh = some (nI v) ∧ fX12_washers_2B d (nI i) nd = some (.inl (nI (i + 1), nd')) ∧ nd' i = nI v ∧ ∀ j, j < i → nd' j = nd j := by
  have hp2 := two_n hn
  have ev : nI i - nI 1 = nI (i - 1) := pk_sub hi1
  have h0 : (i - 1) &&& i < i ∧ ((i - 1) &&& i) &&& i = (i - 1) &&& i := by
    have h : (i - 1) &&& i ≤ i - 1 := Nat.and_le_left
    exact ⟨by omega, by rw [Nat.and_assoc, Nat.and_self]⟩
  have m2 : ∀ z, bd (fX12_isAlone (nI i) d) (fun r_6 => (if r_6 = 0 then fX12_washers_41 (nI i) (nI 8) (nI i) d nd else fX12_washers_41 (nI i) (nI 1) (nI i) d nd)) = z → fX12_washers_2B d (nI i) nd = z := fun z hz => by
    unfold fX12_washers_2B
    rw [o_0, ckI_s (by decide) (by decide), nI_clamp (by decide), r0, show (1 : Int32) <<< (nI n &&& 31) = nI (2 ^ n) from q_shl1 _ (by omega), if_neg (by rw [nI_leI (by omega) (by omega)]; omega), if_neg (by rw [nI_eq (by omega) (by decide)]; omega)]
    exact hz
  have m41 : ∀ (c v : Nat) (nd' : Nat → Int32), (∃ x, lp (fun σ : Int32 × (Nat → Int32) => fX12_washers_48B (nI i) d (σ.1) (σ.2)) FU (nI ((i - 1) &&& i), upd nd i (nI c)) = some (x, nd')) → fX12_washers_41 (nI i) (nI c) (nI i) d nd = some (.inl (nI (i + 1), nd')) := fun c v nd' h => by
    obtain ⟨x, h⟩ := h
    unfold fX12_washers_41 fX12_washers_48
    rw [ckI_s (by omega) (by omega), nI_clamp (by omega), bnd_q, o_1, ev, q_and, bnd_q]
    refine (bd_of h).trans ?_
    dsimp only
    rw [nI_add, bnd_q]
  rcases E_alone (A := A) (k := i) hi hn fF qF r0 rF with ⟨a1, a2⟩ | ⟨a1, a2⟩
  · obtain ⟨⟨x, nd'⟩, l1, h1, h2⟩ := lpE (fun σ : Int32 × (Nat → Int32) => fX12_washers_48B (nI i) d (σ.1) (σ.2)) (fun k s => ∃ (v : Nat) (nd1 : Nat → Int32), s = (nI v, nd1) ∧ v + k ≤ i ∧ v < i ∧ v &&& i = v ∧ nd1 i = nI 1 ∧ ∀ j, j < i → nd1 j = nd j) (fun r => r.2 i = nI 1 ∧ ∀ j, j < i → r.2 j = nd j) i
      (fun k s hk hI => by
        obtain ⟨v, nd1, rfl, h1, h2, h3, h4, h5⟩ := hI
        by_cases hv : 1 ≤ v
        · obtain ⟨p, q, p1, p2, q1, q2, hx, e1, e2, e3⟩ := w_m (d := d) ho h5 hi hv h2 h3 h4 (by decide)
          obtain ⟨w1, w2, w3⟩ := w_next hv h2
          refine Or.inl ⟨_, e3, _, _, rfl, by omega, w2, w3, ?_, fun j hj => (upd_n (by omega)).trans (h5 j hj)⟩
          rw [upd_s, Nat.min_eq_left (by omega)]
        · refine Or.inr ⟨(nI v, nd1), ?_, h4, h5⟩
          show fX12_washers_48B (nI i) d (nI v) nd1 = _
          unfold fX12_washers_48B
          rw [o_0, if_pos ((nI_leI (by omega) (by decide)).mpr (by omega))])
      (fun s hI => by
        obtain ⟨v, nd1, rfl, h1, h2, h3, h4, h5⟩ := hI
        refine ⟨(nI v, nd1), ?_, h4, h5⟩
        show fX12_washers_48B (nI i) d (nI v) nd1 = _
        unfold fX12_washers_48B
        rw [o_0, if_pos ((nI_leI (by omega) (by decide)).mpr (by omega))])
      (FU_lt (by omega)) (nI ((i - 1) &&& i), upd nd i (nI 1)) ⟨_, _, rfl, by omega, h0.1, h0.2, upd_s, fun j hj => upd_n (by omega)⟩
    refine ⟨1, nd', by decide, by decide, ?_, m2 _ ?_, h1, h2⟩
    · unfold fX11_fewestSetsOf
      rw [bd_of a1, if_pos rfl]
      rfl
    · rw [bd_of a2, if_neg (by decide)]
      exact m41 1 1 nd' ⟨x, l1⟩
  · have l1 : lp (fun σ : Int32 × Int32 => fX11_fewestSetsOf_18B (nI i) fw (nI n) h_fresh (σ.1) (σ.2)) FU (nI 8, nI 1) = some (nI (wLow fw i i), nI i) := by
      have h := lpF (fun σ : Int32 × Int32 => fX11_fewestSetsOf_18B (nI i) fw (nI n) h_fresh (σ.1) (σ.2)) (fun j => (nI (wLow fw i (j + 1)), nI (j + 1))) (nI (wLow fw i i), nI i) (i - 1) (fun j hj => ?_) ?_ (FU_lt (by omega))
      · have h : lp (fun σ : Int32 × Int32 => fX11_fewestSetsOf_18B (nI i) fw (nI n) h_fresh (σ.1) (σ.2)) FU (nI (wLow fw i 1), nI 1) = some (nI (wLow fw i i), nI i) := h
        rw [wLow_1] at h
        exact h
      · have hw := wLow_le fw i (j + 1)
        show fX11_fewestSetsOf_18B (nI i) fw (nI n) h_fresh (nI (wLow fw i (j + 1))) (nI (j + 1)) = some (.inl (nI (wLow fw i (j + 1 + 1)), nI (j + 1 + 1)))
        unfold fX11_fewestSetsOf_18B fX11_fewestSetsOf_51
        rw [if_neg (by rw [nI_leI (by omega) (by omega)]; omega)]
        by_cases hs : (j + 1) &&& i = j + 1
        · obtain ⟨p, q, p1, p2, q1, q2, hx, e1, -, e3, -⟩ := w_parts ho hi (by omega) (by omega) hs
          rw [wLow_yes (by omega) hs e1 e3 p2 q2, o_0, if_pos ((i_sub hi (by omega)).mpr hs), ckI_s (by omega) (by omega), q_xor, ckI_s (by omega) (by omega), nI_clamp (by omega), nI_clamp (by omega), e1, e3, nI_add, jmin_n (by omega) (by omega), bnd_q, o_1, nI_add, bnd_q]
        · rw [wLow_no hs, o_0, if_neg (fun h => hs ((i_sub hi (by omega)).mp h)), o_1, nI_add, bnd_q]
      · show fX11_fewestSetsOf_18B (nI i) fw (nI n) h_fresh (nI (wLow fw i (i - 1 + 1))) (nI (i - 1 + 1)) = _
        rw [show i - 1 + 1 = i by omega]
        unfold fX11_fewestSetsOf_18B
        rw [if_pos ((nI_leI (by omega) (by omega)).mpr (Nat.le_refl _))]
    obtain ⟨⟨x2, nd'⟩, l2, h1, h2⟩ := lpE (fun σ : Int32 × (Nat → Int32) => fX12_washers_48B (nI i) d (σ.1) (σ.2)) (fun k s => ∃ (v c : Nat) (nd1 : Nat → Int32), s = (nI v, nd1) ∧ c ≤ 8 ∧ v + k ≤ i ∧ v < i ∧ v &&& i = v ∧ nd1 i = nI c ∧ min c (wLow fw i (v + 1)) = wLow fw i i ∧ ∀ j, j < i → nd1 j = nd j) (fun r => r.2 i = nI (wLow fw i i) ∧ ∀ j, j < i → r.2 j = nd j) i
      (fun k s hk hI => by
        obtain ⟨v, c, nd1, rfl, c8, h1, h2, h3, h4, h6, h5⟩ := hI
        by_cases hv : 1 ≤ v
        · obtain ⟨p, q, p1, p2, q1, q2, hx, e1, e2, e3⟩ := w_m (d := d) ho h5 hi hv h2 h3 h4 c8
          obtain ⟨w1, w2, w3⟩ := w_next hv h2
          refine Or.inl ⟨_, e3, _, _, _, rfl, by omega, by omega, w2, w3, upd_s, ?_, fun j hj => (upd_n (by omega)).trans (h5 j hj)⟩
          rw [wLow_yes hv h3 e1 e2 p2 q2] at h6
          rw [wLow_part hi hv (by omega) h3]
          omega
        · have hv0 : v = 0 := by omega
          rw [hv0, wLow_1, Nat.min_eq_left c8] at h6
          refine Or.inr ⟨(nI v, nd1), ?_, h4.trans (by rw [h6]), h5⟩
          show fX12_washers_48B (nI i) d (nI v) nd1 = _
          unfold fX12_washers_48B
          rw [o_0, if_pos ((nI_leI (by omega) (by decide)).mpr (by omega))])
      (fun s hI => by
        obtain ⟨v, c, nd1, rfl, c8, h1, h2, h3, h4, h6, h5⟩ := hI
        have hv0 : v = 0 := by omega
        rw [hv0, wLow_1, Nat.min_eq_left c8] at h6
        refine ⟨(nI v, nd1), ?_, h4.trans (by rw [h6]), h5⟩
        show fX12_washers_48B (nI i) d (nI v) nd1 = _
        unfold fX12_washers_48B
        rw [o_0, if_pos ((nI_leI (by omega) (by decide)).mpr (by omega))])
      (FU_lt (by omega)) (nI ((i - 1) &&& i), upd nd i (nI 8)) ⟨_, 8, _, rfl, by decide, by omega, h0.1, h0.2, upd_s, by
        rw [wLow_part hi hi1 (Nat.le_refl _) (Nat.and_self i)]
        exact Nat.min_eq_right (wLow_le fw i i), fun j hj => upd_n (by omega)⟩
    refine ⟨wLow fw i i, nd', wLow_ge ho i (Nat.le_refl _), wLow_le fw i i, ?_, m2 _ ?_, h1, h2⟩
    · unfold fX11_fewestSetsOf
      rw [bd_of a1, if_neg (by decide), o_8, o_1]
      unfold fX11_fewestSetsOf_18
      exact (bd_of l1).trans rfl
    · rw [bd_of a2, if_pos rfl]
      exact m41 8 1 nd' ⟨x2, l2⟩
theorem E_washers {fewest : Nat → Int32} (needs : Nat → Int32) (hf : fewest 0 = nI 0) (hh : Rh h_weight h_known h_hour h_swS h_swW h_waS h_spoons h_kind h_mark h_silver h_fresh h_texts h_tape h_tapeCount h_z h_waiting h_waitingCount d L tx) : ∃ (r : Int32) (fewestR needsR : Nat → Int32), fX11_washers fewest h_spoons h_fresh = some (r, fewestR) ∧ fX12_washers d needs = some (r, needsR) ∧ fewestR 0 = nI 0 := by
  obtain ⟨A, E, hW, hH, hM, hC, hT, hG, hO⟩ := hh
  obtain ⟨r0, r1, r2, rW, rB, rD, rS, rC, rM, rV, rF⟩ := hM
  obtain ⟨qW, qK, qH, qB, qD, qS, qN, qC, qM, qV, qF⟩ := hC
  obtain ⟨fN, fH, fK, fW, fB, fD, fS, fC, fM, fV, fF⟩ := hW
  have hp2 := two_n fN
  have hp1 : 1 ≤ 2 ^ aN A := Nat.two_pow_pos _
  have hsh : (1 : Int32) <<< (nI (aN A) &&& 31) = nI (2 ^ aN A) := q_shl1 _ (by omega)
  have hal : nI (2 ^ aN A) - nI 1 = nI (2 ^ aN A - 1) := pk_sub hp1
  obtain ⟨G, hG⟩ : ∃ G, FU = G + 1 := ⟨999999, rfl⟩
  have z0 : fX12_washers_2B d (nI 0) needs = some (.inl (nI 1, upd needs 0 (nI 0))) := by
    have hl : lp (fun σ : Int32 × (Nat → Int32) => fX12_washers_48B (nI 0) d (σ.1) (σ.2)) FU ((nI 0 - nI 1) &&& nI 0, upd needs 0 (nI 0)) = some ((nI 0 - nI 1) &&& nI 0, upd needs 0 (nI 0)) := by
      rw [hG]
      refine lp_inr ?_
      show fX12_washers_48B (nI 0) d ((nI 0 - nI 1) &&& nI 0) (upd needs 0 (nI 0)) = _
      unfold fX12_washers_48B
      rw [if_pos (by decide)]
    unfold fX12_washers_2B fX12_washers_41 fX12_washers_48
    rw [o_0, ckI_s (by decide) (by decide), nI_clamp (by decide), r0, hsh, if_neg (by rw [nI_leI (by omega) (by decide)]; omega), if_pos rfl, ckI_s (by decide) (by decide), bnd_q, o_1, bnd_q]
    refine (bd_of hl).trans ?_
    dsimp only
    rw [bnd_q]
    rfl
  obtain ⟨⟨x, fw⟩, ⟨y, nd⟩, l1, l2, hfw⟩ := lpQg (fun σ : Int32 × (Nat → Int32) => fX11_washers_14B (nI (2 ^ aN A - 1)) h_spoons h_fresh (σ.1) (σ.2)) (fun σ : Int32 × (Nat → Int32) => fX12_washers_2B d (σ.1) (σ.2)) (fun i s u => ∃ (fw nd : Nat → Int32), s = (nI i, fw) ∧ u = (nI i, nd) ∧ 1 ≤ i ∧ fw 0 = nI 0 ∧ OKw fw nd i) (fun r q => r.2 0 = nI 0 ∧ OKw r.2 q.2 (2 ^ aN A)) (2 ^ aN A)
    (fun i s u hi hI => by
      obtain ⟨fw, nd, rfl, rfl, hi1, hz, ho⟩ := hI
      obtain ⟨v, nd', v1, v8, g1, g2, g3, g4⟩ := E_fewest (d := d) (h_fresh := h_fresh) (A := A) hi1 (by omega) fN hi fF qF r0 rF ho
      refine Or.inl ⟨(nI (i + 1), upd fw i (nI v)), (nI (i + 1), nd'), ?_, g2, _, _, rfl, rfl, by omega, (upd_n (by omega)).trans hz, fun j hj => ?_⟩
      · show fX11_washers_14B (nI (2 ^ aN A - 1)) h_spoons h_fresh (nI i) fw = _
        unfold fX11_washers_14B
        rw [if_neg (by rw [nI_ltI (by omega) (by omega)]; omega), qN, bd_of g1, ckI_s (by omega) (by omega), nI_clamp (by omega), bnd_q, o_1, nI_add, bnd_q]
      · by_cases e : j = i
        · subst e
          rw [upd_s, g3]
          exact ⟨rfl, Or.inr ⟨v, v1, v8, rfl⟩⟩
        · rw [upd_n e, g4 j (by omega)]
          exact ho j (by omega))
    (fun s u hI => by
      obtain ⟨fw, nd, rfl, rfl, hi1, hz, ho⟩ := hI
      refine ⟨(nI (2 ^ aN A), fw), (nI (2 ^ aN A), nd), ?_, ?_, hz, ho⟩
      · show fX11_washers_14B (nI (2 ^ aN A - 1)) h_spoons h_fresh (nI (2 ^ aN A)) fw = _
        unfold fX11_washers_14B
        rw [if_pos ((nI_ltI (by omega) (by omega)).mpr (by omega))]
      · show fX12_washers_2B d (nI (2 ^ aN A)) nd = _
        unfold fX12_washers_2B
        rw [o_0, ckI_s (by decide) (by decide), nI_clamp (by decide), r0, hsh, if_pos ((nI_leI (by omega) (by omega)).mpr (Nat.le_refl _))])
    (2 ^ aN A - 1) 1 FU G (nI 1, fewest) (nI 1, upd needs 0 (nI 0)) (by omega) (FU_lt (by omega)) (by have := FU_lt (n := 4096) (Nat.le_refl _); omega) ⟨fewest, _, rfl, rfl, Nat.le_refl _, hf, fun j hj => by
      have : j = 0 := by omega
      subst this
      exact ⟨hf.trans upd_s.symm, Or.inl ⟨rfl, hf⟩⟩⟩
  obtain ⟨hz, ho⟩ := hfw
  have hz : fw 0 = nI 0 := hz
  refine ⟨fw (2 ^ aN A - 1), fw, nd, ?_, ?_, hz⟩
  · unfold fX11_washers
    rw [qN, hsh, o_1, hal, bnd_q]
    unfold fX11_washers_14
    rw [← qN]
    refine (bd_of l1).trans ?_
    dsimp only
    rw [ckI_s (by omega) (by omega), nI_clamp (by omega)]
  · unfold fX12_washers fX12_washers_2
    have l2 : lp (fun σ : Int32 × (Nat → Int32) => fX12_washers_2B d (σ.1) (σ.2)) FU (nI 0, needs) = some (y, nd) := by
      rw [hG, lp_inl (t := (nI 1, upd needs 0 (nI 0))) z0]
      exact l2
    refine (bd_of l2).trans ?_
    dsimp only
    rw [o_0, ckI_s (by decide) (by decide), nI_clamp (by decide), r0, hsh, o_1, hal, ckI_s (by omega) (by omega), nI_clamp (by omega), show fw (2 ^ aN A - 1) = nd (2 ^ aN A - 1) from (ho (2 ^ aN A - 1) (by omega)).1]
end E11
