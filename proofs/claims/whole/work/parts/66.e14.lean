/-! move, trace, image, restore -/
theorem sub_nn {len : Nat} {b : Int32} (hl : len ≤ 40) (hb : 0 ≤ b.toInt) : (nI len - b).toInt = len - b.toInt := by
  have h := q_rng b
  have h2 : (nI len).toInt = len := nI_toInt (by omega)
  rw [Int32.toInt_sub, h2, Int.bmod_def]
  split <;> omega
def stand (b n : Int32) (len : Nat) : Prop := (0 ≤ n.toInt ∧ n.toInt ≤ len) ∧ 0 ≤ b.toInt ∧ b.toInt + n.toInt ≤ len
section E14
variable {errors found : Nat → Int32} {sbits slens : Nat → Int32} {snum : Nat → Nat → Int32} {bitsOf sizeOf number : Nat → Int32}
theorem c_has (b n : Int32) {len : Nat} (hl : len ≤ 40) : (stand b n len ∧ fX7_hasStanding b n (nI len) = some (1 : Int32)) ∨ (¬ stand b n len ∧ fX7_hasStanding b n (nI len) = some (0 : Int32)) := by
  have h1 := q_rng b
  have h2 := q_rng n
  have h3 : (nI len).toInt = len := nI_toInt (by omega)
  have h4 : (nI 0).toInt = 0 := nI_toInt (by decide)
  unfold fX7_hasStanding
  rw [o_0]
  by_cases c1 : n < nI 0
  · rw [q_lt, h4] at c1
    refine Or.inr ⟨fun h => by have := h.1.1; omega, ?_⟩
    rw [if_pos (by rw [q_lt, h4]; exact c1)]
  · rw [if_neg c1]
    rw [q_lt, h4] at c1
    by_cases c2 : nI len < n
    · rw [if_pos c2]
      rw [q_lt, h3] at c2
      exact Or.inr ⟨fun h => by have := h.1.2; omega, rfl⟩
    · rw [if_neg c2]
      rw [q_lt, h3] at c2
      by_cases c3 : b < nI 0
      · rw [if_pos c3]
        rw [q_lt, h4] at c3
        exact Or.inr ⟨fun h => by have := h.2.1; omega, rfl⟩
      · rw [if_neg c3]
        rw [q_lt, h4] at c3
        have h5 := sub_nn (b := n) hl (by omega)
        by_cases c4 : nI len - n < b
        · rw [if_pos c4]
          rw [q_lt, h5] at c4
          exact Or.inr ⟨fun h => by have := h.2.2; omega, rfl⟩
        · rw [if_neg c4]
          rw [q_lt, h5] at c4
          exact Or.inl ⟨⟨⟨by omega, by omega⟩, by omega, by omega⟩, rfl⟩
theorem m_lift {a b m : Nat} (ha : a < 4) (hb : b + m ≤ 40) (number : Nat → Int32) (fd bo so lf : Nat → Int32) (k o' : Int32) : ∃ lf', lp (fun σ : Int32 × (Nat → Int32) => fX12_move_115B (nI a) (nI b) k o' (nI m) fd bo so number (σ.1) (σ.2)) FU (nI 0, lf) = some (nI m, lf') ∧ ∀ j, j < m → lf' j = number (40 * a + b + j) := by
  obtain ⟨⟨x, a2⟩, l1, e1, h⟩ := lpE (fun σ : Int32 × (Nat → Int32) => fX12_move_115B (nI a) (nI b) k o' (nI m) fd bo so number (σ.1) (σ.2)) (fun i s => s.1 = nI i ∧ ∀ j, j < i → s.2 j = number (40 * a + b + j)) (fun r => r.1 = nI m ∧ ∀ j, j < m → r.2 j = number (40 * a + b + j)) m
    (fun i s hi hI => by
      obtain ⟨x, a2⟩ := s
      obtain ⟨h1, h2⟩ := hI
      have h1 : x = nI i := h1
      subst h1
      refine Or.inl ⟨(nI (i + 1), upd a2 i (number (40 * a + b + i))), ?_, rfl, fun j hj => ?_⟩
      · show fX12_move_115B (nI a) (nI b) k o' (nI m) fd bo so number (nI i) a2 = _
        unfold fX12_move_115B
        rw [if_neg (by rw [nI_leI (by omega) (by omega)]; omega), o_40, pk_mul, nI_add, nI_add]
        simp (disch := omega) only [bnd_q, ckI_s, nI_clamp, o_1, nI_add]
      · show upd a2 i (number (40 * a + b + i)) j = _
        by_cases e : j = i
        · rw [e, upd_s]
        · rw [upd_n e]
          exact h2 j (by omega))
    (fun s hI => by
      obtain ⟨x, a2⟩ := s
      obtain ⟨h1, h2⟩ := hI
      have h1 : x = nI m := h1
      subst h1
      refine ⟨(nI m, a2), ?_, rfl, h2⟩
      show fX12_move_115B (nI a) (nI b) k o' (nI m) fd bo so number (nI m) a2 = _
      unfold fX12_move_115B
      rw [if_pos ((nI_leI (by omega) (by omega)).mpr (Nat.le_refl _))])
    (FU_lt (by omega)) (nI 0, lf) ⟨rfl, fun k hk => absurd hk (Nat.not_lt_zero _)⟩
  have e1 : x = nI m := e1
  subst e1
  exact ⟨a2, l1, h⟩
theorem m_lay2 {k o' m : Nat} (hk : k < 4) (ho : o' + m ≤ 40) (number : Nat → Int32) (fd bo so lf : Nat → Int32) : ∃ num', lp (fun σ : Int32 × (Nat → Int32) => fX12_move_152B (nI k) (nI o') (nI m) fd bo so lf (σ.1) (σ.2)) FU (nI 0, number) = some (nI m, num') ∧ ∀ x, num' x = if 40 * k + o' ≤ x ∧ x < 40 * k + o' + m then lf (x - (40 * k + o')) else number x := by
  obtain ⟨⟨x, a2⟩, l1, e1, h⟩ := lpE (fun σ : Int32 × (Nat → Int32) => fX12_move_152B (nI k) (nI o') (nI m) fd bo so lf (σ.1) (σ.2)) (fun i s => s.1 = nI i ∧ ∀ x, s.2 x = if 40 * k + o' ≤ x ∧ x < 40 * k + o' + i then lf (x - (40 * k + o')) else number x) (fun r => r.1 = nI m ∧ ∀ x, r.2 x = if 40 * k + o' ≤ x ∧ x < 40 * k + o' + m then lf (x - (40 * k + o')) else number x) m
    (fun i s hi hI => by
      obtain ⟨x, a2⟩ := s
      obtain ⟨h1, h2⟩ := hI
      have h1 : x = nI i := h1
      subst h1
      refine Or.inl ⟨(nI (i + 1), upd a2 (40 * k + o' + i) (lf i)), ?_, rfl, fun j => ?_⟩
      · show fX12_move_152B (nI k) (nI o') (nI m) fd bo so lf (nI i) a2 = _
        unfold fX12_move_152B
        rw [if_neg (by rw [nI_leI (by omega) (by omega)]; omega), o_40, pk_mul, nI_add, nI_add]
        simp (disch := omega) only [bnd_q, ckI_s, nI_clamp, o_1, nI_add]
      · show upd a2 (40 * k + o' + i) (lf i) j = _
        have h3 : a2 j = _ := h2 j
        by_cases e : j = 40 * k + o' + i
        · rw [e, upd_s, if_pos ⟨by omega, by omega⟩]
          congr 1
          omega
        · rw [upd_n e, h3]
          by_cases g : 40 * k + o' ≤ j ∧ j < 40 * k + o' + i
          · rw [if_pos g, if_pos ⟨g.1, by omega⟩]
          · rw [if_neg g, if_neg (fun h => g ⟨h.1, by omega⟩)])
    (fun s hI => by
      obtain ⟨x, a2⟩ := s
      obtain ⟨h1, h2⟩ := hI
      have h1 : x = nI m := h1
      subst h1
      refine ⟨(nI m, a2), ?_, rfl, h2⟩
      show fX12_move_152B (nI k) (nI o') (nI m) fd bo so lf (nI m) a2 = _
      unfold fX12_move_152B
      rw [if_pos ((nI_leI (by omega) (by omega)).mpr (Nat.le_refl _))])
    (FU_lt (by omega)) (nI 0, number) ⟨rfl, fun x => by rw [if_neg (by omega)]⟩
  have e1 : x = nI m := e1
  subst e1
  exact ⟨a2, l1, h⟩
theorem E_move (a b k o' n : Int32) (lifted : Nat → Int32) (he : Re errors found) (hs : Rs sbits slens snum bitsOf sizeOf number) : ∃ (r : Int32) (errorsR : Nat → Int32) (snR : Nat → Nat → Int32) (foundR nuR lfR : Nat → Int32), fX11_move a b k o' n errors sbits slens snum = some (r, errorsR, snR) ∧ fX12_move a b k o' n found bitsOf sizeOf number lifted = some (r, foundR, nuR, lfR) ∧ Re errorsR foundR ∧ Rs sbits slens snR bitsOf sizeOf nuR := by
  by_cases c0 : nI 0 ≤ a ∧ a ≤ nI 3
  · obtain ⟨a, ha, rfl⟩ := bt_of (by decide) c0
    by_cases c1 : nI 0 ≤ k ∧ k ≤ nI 3
    · obtain ⟨k, hk, rfl⟩ := bt_of (by decide) c1
      obtain ⟨hb, ⟨bb, hbb, hbe⟩, la, hl, hl1, hl2, hnum⟩ := hs a (by omega)
      obtain ⟨hbk, ⟨bk, hbbk, hbek⟩, lk, hlk, hlk1, hlk2, hnumk⟩ := hs k (by omega)
      have g11 : ∀ z, (if bitsOf a = 0 then some ((-1000000002 : Int32), upd errors 2 (errors 2 + nI 1), snum) else if bitsOf k = 0 then some ((-1000000002 : Int32), upd errors 2 (errors 2 + nI 1), snum) else if bitsOf a = bitsOf k then bd (fX7_hasStanding b n (nI la)) (fun r_23 => if r_23 = 0 then some ((-1000000001 : Int32), upd errors 1 (errors 1 + nI 1), snum) else bd (fX7_hasStanding o' n (nI lk)) fun r_30 => if r_30 = 0 then some ((-1000000001 : Int32), upd errors 1 (errors 1 + nI 1), snum) else ck ((¬ b < 0 ∧ ¬ o' < 0 ∧ ¬ n < 0) ∧ (b).toNatClampNeg + (n).toNatClampNeg ≤ 40 ∧ (o').toNatClampNeg + (n).toNatClampNeg ≤ 40) (some (n, errors, va_up snum k (va_cpy (snum a) (snum k) (b).toNatClampNeg (o').toNatClampNeg (n).toNatClampNeg)))) else some ((-1000000005 : Int32), upd errors 5 (errors 5 + nI 1), snum)) = z → fX11_move (nI a) b (nI k) o' n errors sbits slens snum = z := fun z hz => by
        unfold fX11_move
        rw [bd_of (c_isSheet _), b2_t c0, if_neg (by decide), bd_of (c_isSheet _), b2_t c1, if_neg (by decide), bd_of (c_ref2 _), bd_of (c_ref5 _), bd_of (c_ref1 _)]
        simp (disch := omega) only [ckI_s, nI_clamp, hb, hbk, hl1, hlk1, bnd_q]
        exact hz
      have g12 : ∀ z, (if bitsOf a = 0 then some ((-1000000002 : Int32), upd found 2 (found 2 + nI 1), number, lifted) else if bitsOf k = 0 then some ((-1000000002 : Int32), upd found 2 (found 2 + nI 1), number, lifted) else if bitsOf a = bitsOf k then (if n < 0 then some ((-1000000001 : Int32), upd found 1 (found 1 + nI 1), number, lifted) else if b < 0 then some ((-1000000001 : Int32), upd found 1 (found 1 + nI 1), number, lifted) else if o' < 0 then some ((-1000000001 : Int32), upd found 1 (found 1 + nI 1), number, lifted) else if nI la - b < n then some ((-1000000001 : Int32), upd found 1 (found 1 + nI 1), number, lifted) else if n ≤ nI lk - o' then fX12_move_115 (nI a) b (nI k) o' n (nI 0) found bitsOf sizeOf number lifted else some ((-1000000001 : Int32), upd found 1 (found 1 + nI 1), number, lifted)) else some ((-1000000005 : Int32), upd found 5 (found 5 + nI 1), number, lifted)) = z → fX12_move (nI a) b (nI k) o' n found bitsOf sizeOf number lifted = z := fun z hz => by
        unfold fX12_move fX12_move_106
        rw [bd_of (m_isSheet _), b2_t c0, if_neg (by decide), bd_of (m_isSheet _), b2_t c1, if_neg (by decide), bd_of (show fX12_finds (2 : Int32) found = _ from m_fin2 _), bd_of (show fX12_finds (5 : Int32) found = _ from m_fin5 _), bd_of (show fX12_finds (1 : Int32) found = _ from m_fin1 _)]
        simp (disch := omega) only [ckI_s, nI_clamp, hl2, hlk2, bnd_q]
        exact hz
      by_cases z1 : bitsOf a = 0
      · exact ⟨_, _, snum, _, number, lifted, g11 _ (if_pos z1), g12 _ (if_pos z1), Re_up he 2 (by decide), hs⟩
      · by_cases z2 : bitsOf k = 0
        · exact ⟨_, _, snum, _, number, lifted, g11 _ (by rw [if_neg z1, if_pos z2]), g12 _ (by rw [if_neg z1, if_pos z2]), Re_up he 2 (by decide), hs⟩
        · by_cases z3 : bitsOf a = bitsOf k
          · have fail : ¬ (stand b n la ∧ stand o' n lk) → (if n < 0 then some ((-1000000001 : Int32), upd found 1 (found 1 + nI 1), number, lifted) else if b < 0 then some ((-1000000001 : Int32), upd found 1 (found 1 + nI 1), number, lifted) else if o' < 0 then some ((-1000000001 : Int32), upd found 1 (found 1 + nI 1), number, lifted) else if nI la - b < n then some ((-1000000001 : Int32), upd found 1 (found 1 + nI 1), number, lifted) else if n ≤ nI lk - o' then fX12_move_115 (nI a) b (nI k) o' n (nI 0) found bitsOf sizeOf number lifted else some ((-1000000001 : Int32), upd found 1 (found 1 + nI 1), number, lifted)) = some ((-1000000001 : Int32), upd found 1 (found 1 + nI 1), number, lifted) := fun hn => by
              by_cases d1 : n < 0
              · rw [if_pos d1]
              · by_cases d2 : b < 0
                · rw [if_neg d1, if_pos d2]
                · by_cases d3 : o' < 0
                  · rw [if_neg d1, if_neg d2, if_pos d3]
                  · by_cases d4 : nI la - b < n
                    · rw [if_neg d1, if_neg d2, if_neg d3, if_pos d4]
                    · by_cases d5 : n ≤ nI lk - o'
                      · refine absurd ?_ hn
                        have q0 : (0 : Int32).toInt = 0 := by decide
                        rw [q_lt, q0] at d1 d2 d3
                        rw [q_lt, sub_nn hl (by omega)] at d4
                        rw [q_le, sub_nn hlk (by omega)] at d5
                        exact ⟨⟨⟨by omega, by omega⟩, by omega, by omega⟩, ⟨by omega, by omega⟩, by omega, by omega⟩
                      · rw [if_neg d1, if_neg d2, if_neg d3, if_neg d4, if_neg d5]
            rcases c_has b n hl with ⟨s1, t1⟩ | ⟨s1, t1⟩
            · rcases c_has o' n hlk with ⟨s2, t2⟩ | ⟨s2, t2⟩
              · obtain ⟨⟨p1, p2⟩, p3, p4⟩ := s1
                obtain ⟨-, p5, p6⟩ := s2
                obtain ⟨m, hm, rfl⟩ : ∃ m, m ≤ 40 ∧ n = nI m := ⟨n.toInt.toNat, by omega, Int32.toInt_inj.mp (by rw [nI_toInt (by omega)]; omega)⟩
                obtain ⟨b, hbm, rfl⟩ : ∃ m, m ≤ 40 ∧ b = nI m := ⟨b.toInt.toNat, by omega, Int32.toInt_inj.mp (by rw [nI_toInt (by omega)]; omega)⟩
                obtain ⟨o', hom, rfl⟩ : ∃ m, m ≤ 40 ∧ o' = nI m := ⟨o'.toInt.toNat, by omega, Int32.toInt_inj.mp (by rw [nI_toInt (by omega)]; omega)⟩
                rw [nI_toInt (by omega), nI_toInt (by omega)] at p4 p6
                have hbm2 : b + m ≤ la := by omega
                have hom2 : o' + m ≤ lk := by omega
                obtain ⟨lf, l1, hlf⟩ := m_lift (a := a) (b := b) (m := m) (by omega) (by omega) number found bitsOf sizeOf lifted (nI k) (nI o')
                obtain ⟨num', l2, hnm⟩ := m_lay2 (k := k) (o' := o') (m := m) (by omega) (by omega) number found bitsOf sizeOf lf
                refine ⟨nI m, errors, va_up snum k (va_cpy (snum a) (snum k) b o' m), found, num', lf, g11 _ ?_, g12 _ ?_, he, Rs_num hs fun s h4 n hn hsl hr j hj => ?_⟩
                · rw [if_neg z1, if_neg z2, if_pos z3, bd_of t1, if_neg (by decide), bd_of t2, if_neg (by decide), o_0, nI_clamp (by omega), nI_clamp (by omega), nI_clamp (by omega), ck_s ⟨⟨by rw [nI_ltI (by omega) (by decide)]; omega, by rw [nI_ltI (by omega) (by decide)]; omega, by rw [nI_ltI (by omega) (by decide)]; omega⟩, by omega, by omega⟩]
                · rw [if_neg z1, if_neg z2, if_pos z3, o_0, if_neg (by rw [nI_ltI (by omega) (by decide)]; omega), if_neg (by rw [nI_ltI (by omega) (by decide)]; omega), if_neg (by rw [nI_ltI (by omega) (by decide)]; omega), if_neg (by rw [pk_sub (by omega), nI_ltI (by omega) (by omega)]; omega), if_pos (by rw [pk_sub (by omega), nI_leI (by omega) (by omega)]; omega)]
                  unfold fX12_move_115
                  refine (bd_of l1).trans ?_
                  dsimp only
                  unfold fX12_move_152
                  exact (bd_of l2).trans rfl
                · rw [hnm]
                  by_cases e : s = k
                  · subst e
                    rw [up_s]
                    by_cases g : o' ≤ j ∧ j < o' + m
                    · rw [if_pos ⟨by omega, by omega⟩, hlf _ (by omega)]
                      show Rsn (if o' ≤ j ∧ j < o' + m then snum a (b + (j - o')) else snum s j) _
                      rw [if_pos g, show 40 * a + b + (40 * s + j - (40 * s + o')) = 40 * a + (b + (j - o')) by omega]
                      exact hnum _ (by omega)
                    · rw [if_neg (fun h => g ⟨by omega, by omega⟩)]
                      show Rsn (if o' ≤ j ∧ j < o' + m then snum a (b + (j - o')) else snum s j) _
                      rw [if_neg g]
                      exact hr j hj
                  · rw [up_n e, if_neg (by omega)]
                    exact hr j hj
              · exact ⟨_, _, snum, _, number, lifted, g11 _ (by rw [if_neg z1, if_neg z2, if_pos z3, bd_of t1, if_neg (by decide), bd_of t2, if_pos rfl]), g12 _ (by rw [if_neg z1, if_neg z2, if_pos z3]; exact fail (fun h => s2 h.2)), Re_up he 1 (by decide), hs⟩
            · exact ⟨_, _, snum, _, number, lifted, g11 _ (by rw [if_neg z1, if_neg z2, if_pos z3, bd_of t1, if_pos rfl]), g12 _ (by rw [if_neg z1, if_neg z2, if_pos z3]; exact fail (fun h => s1 h.1)), Re_up he 1 (by decide), hs⟩
          · exact ⟨_, _, snum, _, number, lifted, g11 _ (by rw [if_neg z1, if_neg z2, if_neg z3]), g12 _ (by rw [if_neg z1, if_neg z2, if_neg z3]), Re_up he 5 (by decide), hs⟩
    · refine ⟨(-1000000001 : Int32), upd errors 1 (errors 1 + nI 1), snum, upd found 1 (found 1 + nI 1), number, lifted, ?_, ?_, Re_up he 1 (by decide), hs⟩
      · simp (disch := omega) only [fX11_move, if_pos c0, if_neg c1, o_69, l_6, c_isWord, c_isSetOfWords, c_isUse, c_isSheet, c_isBehind, c_mayB, c_wi, m_isWord, m_areWords, m_isSheet, m_isAhead, m_isKm, m_in, l_n1, o_n1, b2if, ck_s b2_z, c_ref1, c_ref2, c_ref3, c_ref4, c_ref5, m_fin1, m_fin2, m_fin3, m_fin4, m_fin5, l_0, l_1, l_2, l_3, l_5, l_7, l_8, l_9, l_11, l_12, l_16, l_20, l_30, l_40, l_60, l_69, l_99, l_4095, if_true, if_false, nI_add, pk_mul, nI_clamp, nI_leI, nI_ltI, nI_eq, ckI_s, bd_q, bnd_q, if_pos, if_neg, o_0, o_1, o_2, o_3, o_4, o_5, o_6, o_7, o_8, o_9, o_10, o_11, o_12, o_13, o_14, o_15, o_16, o_17, o_18, o_19, o_20, o_21, o_22, o_23, o_24, o_25, o_26, o_27, o_28, o_29, o_30, o_31, o_32, o_33, o_34, o_35, o_36, o_37, o_38, o_39, o_40, o_41, o_42, o_43, o_44, o_45, o_46, o_47, o_48, o_49, o_50, o_51, o_52, o_53, o_54, o_55, o_56, o_57, o_58, o_59, o_60, o_62, o_70, o_71, o_99, o_124, o_154, o_156, o_176, o_255, o_276, o_326, o_4095, o_9999, o_10000, o_10001, o_20000, o_20033]
      · simp (disch := omega) only [fX12_move, if_pos c0, if_neg c1, o_69, l_6, c_isWord, c_isSetOfWords, c_isUse, c_isSheet, c_isBehind, c_mayB, c_wi, m_isWord, m_areWords, m_isSheet, m_isAhead, m_isKm, m_in, l_n1, o_n1, b2if, ck_s b2_z, c_ref1, c_ref2, c_ref3, c_ref4, c_ref5, m_fin1, m_fin2, m_fin3, m_fin4, m_fin5, l_0, l_1, l_2, l_3, l_5, l_7, l_8, l_9, l_11, l_12, l_16, l_20, l_30, l_40, l_60, l_69, l_99, l_4095, if_true, if_false, nI_add, pk_mul, nI_clamp, nI_leI, nI_ltI, nI_eq, ckI_s, bd_q, bnd_q, if_pos, if_neg, o_0, o_1, o_2, o_3, o_4, o_5, o_6, o_7, o_8, o_9, o_10, o_11, o_12, o_13, o_14, o_15, o_16, o_17, o_18, o_19, o_20, o_21, o_22, o_23, o_24, o_25, o_26, o_27, o_28, o_29, o_30, o_31, o_32, o_33, o_34, o_35, o_36, o_37, o_38, o_39, o_40, o_41, o_42, o_43, o_44, o_45, o_46, o_47, o_48, o_49, o_50, o_51, o_52, o_53, o_54, o_55, o_56, o_57, o_58, o_59, o_60, o_62, o_70, o_71, o_99, o_124, o_154, o_156, o_176, o_255, o_276, o_326, o_4095, o_9999, o_10000, o_10001, o_20000, o_20033]
  · refine ⟨(-1000000001 : Int32), upd errors 1 (errors 1 + nI 1), snum, upd found 1 (found 1 + nI 1), number, lifted, ?_, ?_, Re_up he 1 (by decide), hs⟩
    · simp (disch := omega) only [fX11_move, if_neg c0, o_69, l_6, c_isWord, c_isSetOfWords, c_isUse, c_isSheet, c_isBehind, c_mayB, c_wi, m_isWord, m_areWords, m_isSheet, m_isAhead, m_isKm, m_in, l_n1, o_n1, b2if, ck_s b2_z, c_ref1, c_ref2, c_ref3, c_ref4, c_ref5, m_fin1, m_fin2, m_fin3, m_fin4, m_fin5, l_0, l_1, l_2, l_3, l_5, l_7, l_8, l_9, l_11, l_12, l_16, l_20, l_30, l_40, l_60, l_69, l_99, l_4095, if_true, if_false, nI_add, pk_mul, nI_clamp, nI_leI, nI_ltI, nI_eq, ckI_s, bd_q, bnd_q, if_pos, if_neg, o_0, o_1, o_2, o_3, o_4, o_5, o_6, o_7, o_8, o_9, o_10, o_11, o_12, o_13, o_14, o_15, o_16, o_17, o_18, o_19, o_20, o_21, o_22, o_23, o_24, o_25, o_26, o_27, o_28, o_29, o_30, o_31, o_32, o_33, o_34, o_35, o_36, o_37, o_38, o_39, o_40, o_41, o_42, o_43, o_44, o_45, o_46, o_47, o_48, o_49, o_50, o_51, o_52, o_53, o_54, o_55, o_56, o_57, o_58, o_59, o_60, o_62, o_70, o_71, o_99, o_124, o_154, o_156, o_176, o_255, o_276, o_326, o_4095, o_9999, o_10000, o_10001, o_20000, o_20033]
    · simp (disch := omega) only [fX12_move, if_neg c0, o_69, l_6, c_isWord, c_isSetOfWords, c_isUse, c_isSheet, c_isBehind, c_mayB, c_wi, m_isWord, m_areWords, m_isSheet, m_isAhead, m_isKm, m_in, l_n1, o_n1, b2if, ck_s b2_z, c_ref1, c_ref2, c_ref3, c_ref4, c_ref5, m_fin1, m_fin2, m_fin3, m_fin4, m_fin5, l_0, l_1, l_2, l_3, l_5, l_7, l_8, l_9, l_11, l_12, l_16, l_20, l_30, l_40, l_60, l_69, l_99, l_4095, if_true, if_false, nI_add, pk_mul, nI_clamp, nI_leI, nI_ltI, nI_eq, ckI_s, bd_q, bnd_q, if_pos, if_neg, o_0, o_1, o_2, o_3, o_4, o_5, o_6, o_7, o_8, o_9, o_10, o_11, o_12, o_13, o_14, o_15, o_16, o_17, o_18, o_19, o_20, o_21, o_22, o_23, o_24, o_25, o_26, o_27, o_28, o_29, o_30, o_31, o_32, o_33, o_34, o_35, o_36, o_37, o_38, o_39, o_40, o_41, o_42, o_43, o_44, o_45, o_46, o_47, o_48, o_49, o_50, o_51, o_52, o_53, o_54, o_55, o_56, o_57, o_58, o_59, o_60, o_62, o_70, o_71, o_99, o_124, o_154, o_156, o_176, o_255, o_276, o_326, o_4095, o_9999, o_10000, o_10001, o_20000, o_20033]
end E14
