/-! sheets: sheet, put, move, weights, judge -/
theorem tl_256 (v : Int32) : v.toInt % 256 = ((v.toBitVec.toNat % 256 : Nat) : Int) := by
  have h := v.toBitVec.isLt
  have e : v.toInt = Int.bmod (v.toBitVec.toNat : Int) (2 ^ 32) := BitVec.toInt_eq_toNat_bmod v.toBitVec
  rw [e, Int.bmod_def]
  split <;> omega
theorem and_256 (v : Int32) (c : Nat) (hc : c ≤ 100) : v &&& nI 255 = nI c ↔ v.toBitVec.toNat % 256 = c := by
  have h1 : (v &&& nI 255).toBitVec.toNat = v.toBitVec.toNat % 256 := by
    show (v.toBitVec &&& BitVec.ofNat 32 255).toNat = _
    rw [BitVec.toNat_and]
    exact Nat.and_two_pow_sub_one_eq_mod _ 8
  have h2 : (nI c).toBitVec.toNat = c := by
    show (BitVec.ofNat 32 c).toNat = c
    rw [BitVec.toNat_ofNat]
    omega
  constructor
  · intro h
    rw [← h1, h, h2]
  · intro h
    apply Int32.toBitVec_inj.1
    apply BitVec.eq_of_toNat_eq
    rw [h1, h2, h]
theorem ext_256 (v : Int32) (c : Nat) (hc : c ≤ 100) : v.toInt8.toInt32 = nI c ↔ v.toBitVec.toNat % 256 = c := by
  have h1 : v.toInt8.toInt32.toInt = v.toInt.bmod (2 ^ 8) := by
    rw [Int8.toInt_toInt32, Int32.toInt_toInt8]
  have h2 : (nI c).toInt = c := nI_toInt (by omega)
  have h3 := tl_256 v
  have h4 := Nat.mod_lt v.toBitVec.toNat (show 0 < 256 by decide)
  rw [Int.bmod_def] at h1
  constructor
  · intro h
    rw [h, h2] at h1
    split at h1 <;> omega
  · intro h
    apply Int32.toInt_inj.mp
    rw [h1, h2]
    split <;> omega
theorem low_256 (v : Int32) : Rsn (v &&& nI 255) (v.toInt8.toInt32) := fun c hc => (and_256 v c hc).trans (ext_256 v c hc).symm
theorem tl_65536 (v : Int32) : v.toInt % 65536 = ((v.toBitVec.toNat % 65536 : Nat) : Int) := by
  have h := v.toBitVec.isLt
  have e : v.toInt = Int.bmod (v.toBitVec.toNat : Int) (2 ^ 32) := BitVec.toInt_eq_toNat_bmod v.toBitVec
  rw [e, Int.bmod_def]
  split <;> omega
theorem and_65536 (v : Int32) (c : Nat) (hc : c ≤ 100) : v &&& nI 65535 = nI c ↔ v.toBitVec.toNat % 65536 = c := by
  have h1 : (v &&& nI 65535).toBitVec.toNat = v.toBitVec.toNat % 65536 := by
    show (v.toBitVec &&& BitVec.ofNat 32 65535).toNat = _
    rw [BitVec.toNat_and]
    exact Nat.and_two_pow_sub_one_eq_mod _ 16
  have h2 : (nI c).toBitVec.toNat = c := by
    show (BitVec.ofNat 32 c).toNat = c
    rw [BitVec.toNat_ofNat]
    omega
  constructor
  · intro h
    rw [← h1, h, h2]
  · intro h
    apply Int32.toBitVec_inj.1
    apply BitVec.eq_of_toNat_eq
    rw [h1, h2, h]
theorem ext_65536 (v : Int32) (c : Nat) (hc : c ≤ 100) : v.toInt16.toInt32 = nI c ↔ v.toBitVec.toNat % 65536 = c := by
  have h1 : v.toInt16.toInt32.toInt = v.toInt.bmod (2 ^ 16) := by
    rw [Int16.toInt_toInt32, Int32.toInt_toInt16]
  have h2 : (nI c).toInt = c := nI_toInt (by omega)
  have h3 := tl_65536 v
  have h4 := Nat.mod_lt v.toBitVec.toNat (show 0 < 65536 by decide)
  rw [Int.bmod_def] at h1
  constructor
  · intro h
    rw [h, h2] at h1
    split at h1 <;> omega
  · intro h
    apply Int32.toInt_inj.mp
    rw [h1, h2]
    split <;> omega
theorem low_65536 (v : Int32) : Rsn (v &&& nI 65535) (v.toInt16.toInt32) := fun c hc => (and_65536 v c hc).trans (ext_65536 v c hc).symm
theorem Rsn_rf (x : Int32) : Rsn x x := fun _ _ => Iff.rfl
theorem up_s {α : Type} {f : Nat → α} {k : Nat} {x : α} : va_up f k x k = x := if_pos rfl
theorem up_n {α : Type} {f : Nat → α} {k j : Nat} {x : α} (h : j ≠ k) : va_up f k x j = f j := if_neg h
theorem c_fill (arr : Nat → Int32) : ∃ arr', fJ7_fill_53178 40 (nI 0) arr = some arr' ∧ ∀ k, k < 40 → arr' k = nI 0 := by
  unfold fJ7_fill_53178 fJ7_fill_53178_5
  obtain ⟨⟨x, a2⟩, l1, h⟩ := lpE (fun σ : Int32 × (Nat → Int32) => fJ7_fill_53178_5B 40 (nI 0) (nI 40) (σ.1) (σ.2)) (fun i s => s.1 = nI i ∧ ∀ k, k < i → s.2 k = nI 0) (fun r => ∀ k, k < 40 → r.2 k = nI 0) 40
    (fun i s hi hI => by
      obtain ⟨x, a2⟩ := s
      obtain ⟨h1, h2⟩ := hI
      have h1 : x = nI i := h1
      subst h1
      refine Or.inl ⟨(nI (i + 1), upd a2 i (nI 0)), ?_, rfl, fun k hk => ?_⟩
      · show fJ7_fill_53178_5B 40 (nI 0) (nI 40) (nI i) a2 = _
        unfold fJ7_fill_53178_5B
        rw [if_neg (by rw [nI_leI (by omega) (by omega)]; omega), ckI_s (by omega) (by omega), nI_clamp (by omega), bnd_q, o_1, nI_add, bnd_q]
      · show upd a2 i (nI 0) k = _
        by_cases e : k = i
        · rw [e, upd_s]
        · rw [upd_n e]
          exact h2 k (by omega))
    (fun s hI => by
      obtain ⟨x, a2⟩ := s
      obtain ⟨h1, h2⟩ := hI
      have h1 : x = nI 40 := h1
      subst h1
      refine ⟨(nI 40, a2), ?_, h2⟩
      show fJ7_fill_53178_5B 40 (nI 0) (nI 40) (nI 40) a2 = _
      unfold fJ7_fill_53178_5B
      rw [if_pos (by decide)])
    (FU_lt (by decide)) (nI 0, arr) ⟨rfl, fun k hk => absurd hk (Nat.not_lt_zero _)⟩
  refine ⟨a2, ?_, h⟩
  rw [bnd_q]
  exact (bd_of l1).trans rfl
theorem m_fill {number : Nat → Int32} {a : Nat} (ha : a < 4) (fd bo so : Nat → Int32) : ∃ num', lp (fun σ : Int32 × (Nat → Int32) => fX12_sheet_90B (nI a) fd bo so (σ.1) (σ.2)) FU (nI 0, number) = some (nI 40, num') ∧ ∀ s k, s < 4 → k < 40 → num' (40 * s + k) = if s = a then nI 0 else number (40 * s + k) := by
  obtain ⟨⟨x, a2⟩, l1, e1, h⟩ := lpE (fun σ : Int32 × (Nat → Int32) => fX12_sheet_90B (nI a) fd bo so (σ.1) (σ.2)) (fun i s => s.1 = nI i ∧ ∀ t k, t < 4 → k < 40 → s.2 (40 * t + k) = if t = a ∧ k < i then nI 0 else number (40 * t + k)) (fun r => r.1 = nI 40 ∧ ∀ s k, s < 4 → k < 40 → r.2 (40 * s + k) = if s = a then nI 0 else number (40 * s + k)) 40
    (fun i s hi hI => by
      obtain ⟨x, a2⟩ := s
      obtain ⟨h1, h2⟩ := hI
      have h1 : x = nI i := h1
      subst h1
      refine Or.inl ⟨(nI (i + 1), upd a2 (40 * a + i) (nI 0)), ?_, rfl, fun t k ht hk => ?_⟩
      · show fX12_sheet_90B (nI a) fd bo so (nI i) a2 = _
        unfold fX12_sheet_90B
        rw [o_40, if_neg (by rw [nI_leI (by omega) (by omega)]; omega), pk_mul, nI_add, ckI_s (by omega) (by omega), nI_clamp (by omega), bnd_q, o_1, nI_add, bnd_q]
        rfl
      · show upd a2 (40 * a + i) (nI 0) (40 * t + k) = _
        have h3 : a2 (40 * t + k) = _ := h2 t k ht hk
        by_cases e : 40 * t + k = 40 * a + i
        · rw [e, upd_s, if_pos ⟨by omega, by omega⟩]
        · rw [upd_n e, h3]
          by_cases g : t = a ∧ k < i
          · rw [if_pos g, if_pos ⟨g.1, by omega⟩]
          · rw [if_neg g, if_neg (fun h => g ⟨h.1, by omega⟩)])
    (fun s hI => by
      obtain ⟨x, a2⟩ := s
      obtain ⟨h1, h2⟩ := hI
      have h1 : x = nI 40 := h1
      subst h1
      refine ⟨(nI 40, a2), ?_, rfl, fun t k ht hk => ?_⟩
      · show fX12_sheet_90B (nI a) fd bo so (nI 40) a2 = _
        unfold fX12_sheet_90B
        rw [if_pos (by decide)]
      · have h3 : a2 (40 * t + k) = _ := h2 t k ht hk
        show a2 (40 * t + k) = _
        rw [h3]
        by_cases g : t = a
        · rw [if_pos g, if_pos ⟨g, hk⟩]
        · rw [if_neg g, if_neg (fun h => g h.1)])
    (FU_lt (by decide)) (nI 0, number) ⟨rfl, fun t k ht hk => by rw [if_neg (fun h => absurd h.2 (Nat.not_lt_zero _))]⟩
  have e1 : x = nI 40 := e1
  subst e1
  exact ⟨a2, l1, h⟩
section E12
variable {errors found : Nat → Int32} {sbits slens : Nat → Int32} {snum : Nat → Nat → Int32} {bitsOf sizeOf number : Nat → Int32}
theorem E_sheet (a b n : Int32) (he : Re errors found) (hs : Rs sbits slens snum bitsOf sizeOf number) : ∃ (r : Int32) (errorsR sbR slR : Nat → Int32) (snR : Nat → Nat → Int32) (foundR boR soR nuR : Nat → Int32), fX11_sheet a b n errors sbits slens snum = some (r, errorsR, sbR, slR, snR) ∧ fX12_sheet a b n found bitsOf sizeOf number = some (r, foundR, boR, soR, nuR) ∧ Re errorsR foundR ∧ Rs sbR slR snR boR soR nuR := by
  by_cases c0 : nI 0 ≤ a ∧ a ≤ nI 3
  · obtain ⟨a, ha, rfl⟩ := bt_of (by decide) c0
    have put : ∀ (w m : Nat), (w = 0 ∨ w = 8 ∨ w = 16 ∨ w = 32) → m ≤ 40 → ∃ (snR : Nat → Nat → Int32) (nuR : Nat → Int32), bd (fX7_begin (nI w) (nI m) (sbits a) (slens a) (snum a)) (fun (sbits_21, slen0_22, snum_23) => bnd (va_up sbits a sbits_21) fun sbits_25 => bnd (va_up slens a slen0_22) fun slens_26 => bnd (va_up snum a snum_23) fun snum_27 => some ((1 : Int32), errors, sbits_25, slens_26, snum_27)) = some ((1 : Int32), errors, va_up sbits a (nI w), va_up slens a (nI m), snR) ∧ fX12_sheet_90 (nI a) (nI 0) found (upd bitsOf a (nI w)) (upd sizeOf a (nI m)) number = some ((1 : Int32), found, upd bitsOf a (nI w), upd sizeOf a (nI m), nuR) ∧ Rs (va_up sbits a (nI w)) (va_up slens a (nI m)) snR (upd bitsOf a (nI w)) (upd sizeOf a (nI m)) nuR := fun w m hw hm => by
      obtain ⟨arr, f1, f2⟩ := c_fill (snum a)
      obtain ⟨num', g1, g2⟩ := m_fill (number := number) (a := a) (by omega) found (upd bitsOf a (nI w)) (upd sizeOf a (nI m))
      refine ⟨va_up snum a arr, num', ?_, ?_, fun s hs4 => ?_⟩
      · unfold fX7_begin
        rw [o_0, bd_of f1]
        rfl
      · unfold fX12_sheet_90
        exact (bd_of g1).trans rfl
      · by_cases e : s = a
        · subst e
          refine ⟨up_s.trans upd_s.symm, ⟨w, hw, upd_s⟩, m, hm, up_s, upd_s, fun k hk => ?_⟩
          rw [g2 s k hs4 (by omega), if_pos rfl, up_s, f2 k (by omega)]
          exact Rsn_rf _
        · obtain ⟨h1, ⟨b, h2, h3⟩, len, h4, h5, h6, h7⟩ := hs s hs4
          refine ⟨(up_n e).trans (h1.trans (upd_n e).symm), ⟨b, h2, (upd_n e).trans h3⟩, len, h4, (up_n e).trans h5, (upd_n e).trans h6, fun k hk => ?_⟩
          rw [g2 s k hs4 (by omega), if_neg e, up_n e]
          exact h7 k hk
    -- from the width on
    have go : ∀ (w : Nat), (w = 0 ∨ w = 8 ∨ w = 16 ∨ w = 32) → ∃ (r : Int32) (errorsR sbR slR : Nat → Int32) (snR : Nat → Nat → Int32) (foundR boR soR nuR : Nat → Int32), fX11_sheet_36 (nI a) (nI w) n errors sbits slens snum = some (r, errorsR, sbR, slR, snR) ∧ fX12_sheet_35 (nI a) (nI w) n found bitsOf sizeOf number = some (r, foundR, boR, soR, nuR) ∧ Re errorsR foundR ∧ Rs sbR slR snR boR soR nuR := fun w hw => by
      by_cases hw0 : w = 0
      · subst hw0
        obtain ⟨snR, nuR, g1, g2, g3⟩ := put 0 0 (Or.inl rfl) (by decide)
        refine ⟨(1 : Int32), errors, _, _, snR, found, _, _, nuR, ?_, ?_, he, g3⟩
        · unfold fX11_sheet_36
          rw [if_pos (show nI 0 = (0 : Int32) from rfl)]
          unfold fX11_sheet_51
          rw [if_pos (show nI 0 = (0 : Int32) from rfl)]
          unfold fX11_sheet_68
          rw [ckI_s (by omega) (by omega), if_pos (show nI 0 = (0 : Int32) from rfl), ckI_s (by omega) (by omega), nI_clamp (by omega)]
          exact g1
        · unfold fX12_sheet_35
          rw [if_pos (show nI 0 = (0 : Int32) from rfl)]
          unfold fX12_sheet_49
          rw [if_pos (show nI 0 = (0 : Int32) from rfl)]
          unfold fX12_sheet_65
          rw [ckI_s (by omega) (by omega), nI_clamp (by omega), bnd_q, if_pos (show nI 0 = (0 : Int32) from rfl)]
          unfold fX12_sheet_86
          rw [ckI_s (by omega) (by omega), nI_clamp (by omega), bnd_q]
          exact g2
      · have hw1 : ¬ nI w = (0 : Int32) := by
          rw [o_0, nI_eq (by omega) (by decide)]
          exact hw0
        by_cases h1 : (0 : Int32) ≤ n
        · by_cases h2 : n ≤ (40 : Int32)
          · obtain ⟨m, hm, rfl⟩ := bt_of (n := 40) (by decide) ⟨h1, h2⟩
            obtain ⟨snR, nuR, g1, g2, g3⟩ := put w m hw hm
            refine ⟨(1 : Int32), errors, _, _, snR, found, _, _, nuR, ?_, ?_, he, g3⟩
            · unfold fX11_sheet_36
              rw [if_neg hw1, if_pos h1]
              unfold fX11_sheet_51
              rw [if_neg hw1, if_pos h2]
              unfold fX11_sheet_68
              rw [ckI_s (by omega) (by omega), if_neg hw1, ckI_s (by omega) (by omega), nI_clamp (by omega)]
              exact g1
            · unfold fX12_sheet_35
              rw [if_neg hw1, if_pos h1]
              unfold fX12_sheet_49
              rw [if_neg hw1, if_pos h2]
              unfold fX12_sheet_65
              rw [ckI_s (by omega) (by omega), nI_clamp (by omega), bnd_q, if_neg hw1]
              unfold fX12_sheet_86
              rw [ckI_s (by omega) (by omega), nI_clamp (by omega), bnd_q]
              exact g2
          · refine ⟨(-1000000001 : Int32), upd errors 1 (errors 1 + nI 1), sbits, slens, snum, upd found 1 (found 1 + nI 1), bitsOf, sizeOf, number, ?_, ?_, Re_up he 1 (by decide), hs⟩
            · unfold fX11_sheet_36
              rw [if_neg hw1, if_pos h1]
              unfold fX11_sheet_51
              rw [if_neg hw1, if_neg h2, bd_of (c_ref1 _)]
            · unfold fX12_sheet_35
              rw [if_neg hw1, if_pos h1]
              unfold fX12_sheet_49
              rw [if_neg hw1, if_neg h2, o_1, bd_of (m_fin1 _)]
        · refine ⟨(-1000000003 : Int32), upd errors 3 (errors 3 + nI 1), sbits, slens, snum, upd found 3 (found 3 + nI 1), bitsOf, sizeOf, number, ?_, ?_, Re_up he 3 (by decide), hs⟩
          · unfold fX11_sheet_36
            rw [if_neg hw1, if_neg h1, bd_of (c_ref3 _)]
          · unfold fX12_sheet_35
            rw [if_neg hw1, if_neg h1, o_3, bd_of (m_fin3 _)]
    have top11 : ∀ z, (if b = 0 then fX11_sheet_36 (nI a) b n errors sbits slens snum else (if b = (8 : Int32) then fX11_sheet_36 (nI a) b n errors sbits slens snum else (if b = (16 : Int32) then fX11_sheet_36 (nI a) b n errors sbits slens snum else (if b = (32 : Int32) then fX11_sheet_36 (nI a) b n errors sbits slens snum else some ((-1000000001 : Int32), upd errors 1 (errors 1 + nI 1), sbits, slens, snum))))) = z → fX11_sheet (nI a) b n errors sbits slens snum = z := fun z hz => by
      unfold fX11_sheet
      rw [bd_of (c_isSheet _), b2_t c0, if_neg (by decide), bd_of (c_ref1 _)]
      exact hz
    have top12 : ∀ z, (if b = 0 then fX12_sheet_35 (nI a) b n found bitsOf sizeOf number else (if b = (8 : Int32) then fX12_sheet_35 (nI a) b n found bitsOf sizeOf number else (if b = (16 : Int32) then fX12_sheet_35 (nI a) b n found bitsOf sizeOf number else (if b = (32 : Int32) then fX12_sheet_35 (nI a) b n found bitsOf sizeOf number else some ((-1000000001 : Int32), upd found 1 (found 1 + nI 1), bitsOf, sizeOf, number))))) = z → fX12_sheet (nI a) b n found bitsOf sizeOf number = z := fun z hz => by
      unfold fX12_sheet
      rw [bd_of (m_isSheet _), b2_t c0, if_neg (by decide), bd_of (show fX12_finds (1 : Int32) found = _ from m_fin1 _)]
      exact hz
    by_cases b0 : b = 0
    · subst b0
      obtain ⟨r, e1, s1, s2, s3, f1, t1, t2, t3, g1, g2, g3, g4⟩ := go 0 (Or.inl rfl)
      exact ⟨r, e1, s1, s2, s3, f1, t1, t2, t3, top11 _ (by rw [if_pos rfl]; exact g1), top12 _ (by rw [if_pos rfl]; exact g2), g3, g4⟩
    · by_cases b8 : b = (8 : Int32)
      · subst b8
        obtain ⟨r, e1, s1, s2, s3, f1, t1, t2, t3, g1, g2, g3, g4⟩ := go 8 (Or.inr (Or.inl rfl))
        exact ⟨r, e1, s1, s2, s3, f1, t1, t2, t3, top11 _ (by rw [if_neg b0, if_pos rfl]; exact g1), top12 _ (by rw [if_neg b0, if_pos rfl]; exact g2), g3, g4⟩
      · by_cases b16 : b = (16 : Int32)
        · subst b16
          obtain ⟨r, e1, s1, s2, s3, f1, t1, t2, t3, g1, g2, g3, g4⟩ := go 16 (Or.inr (Or.inr (Or.inl rfl)))
          exact ⟨r, e1, s1, s2, s3, f1, t1, t2, t3, top11 _ (by rw [if_neg b0, if_neg b8, if_pos rfl]; exact g1), top12 _ (by rw [if_neg b0, if_neg b8, if_pos rfl]; exact g2), g3, g4⟩
        · by_cases b32 : b = (32 : Int32)
          · subst b32
            obtain ⟨r, e1, s1, s2, s3, f1, t1, t2, t3, g1, g2, g3, g4⟩ := go 32 (Or.inr (Or.inr (Or.inr rfl)))
            exact ⟨r, e1, s1, s2, s3, f1, t1, t2, t3, top11 _ (by rw [if_neg b0, if_neg b8, if_neg b16, if_pos rfl]; exact g1), top12 _ (by rw [if_neg b0, if_neg b8, if_neg b16, if_pos rfl]; exact g2), g3, g4⟩
          · exact ⟨_, _, sbits, slens, snum, _, bitsOf, sizeOf, number, top11 _ (by rw [if_neg b0, if_neg b8, if_neg b16, if_neg b32]), top12 _ (by rw [if_neg b0, if_neg b8, if_neg b16, if_neg b32]), Re_up he 1 (by decide), hs⟩
  · refine ⟨(-1000000001 : Int32), upd errors 1 (errors 1 + nI 1), sbits, slens, snum, upd found 1 (found 1 + nI 1), bitsOf, sizeOf, number, ?_, ?_, Re_up he 1 (by decide), hs⟩
    · simp (disch := omega) only [fX11_sheet, if_neg c0, o_69, l_6, c_isWord, c_isSetOfWords, c_isUse, c_isSheet, c_isBehind, c_mayB, c_wi, m_isWord, m_areWords, m_isSheet, m_isAhead, m_isKm, m_in, l_n1, o_n1, b2if, ck_s b2_z, c_ref1, c_ref2, c_ref3, c_ref4, c_ref5, m_fin1, m_fin2, m_fin3, m_fin4, m_fin5, l_0, l_1, l_2, l_3, l_5, l_7, l_8, l_9, l_11, l_12, l_16, l_20, l_30, l_40, l_60, l_69, l_99, l_4095, if_true, if_false, nI_add, pk_mul, nI_clamp, nI_leI, nI_ltI, nI_eq, ckI_s, bd_q, bnd_q, if_pos, if_neg, o_0, o_1, o_2, o_3, o_4, o_5, o_6, o_7, o_8, o_9, o_10, o_11, o_12, o_13, o_14, o_15, o_16, o_17, o_18, o_19, o_20, o_21, o_22, o_23, o_24, o_25, o_26, o_27, o_28, o_29, o_30, o_31, o_32, o_33, o_34, o_35, o_36, o_37, o_38, o_39, o_40, o_41, o_42, o_43, o_44, o_45, o_46, o_47, o_48, o_49, o_50, o_51, o_52, o_53, o_54, o_55, o_56, o_57, o_58, o_59, o_60, o_62, o_70, o_71, o_99, o_124, o_154, o_156, o_176, o_255, o_276, o_326, o_4095, o_9999, o_10000, o_10001, o_20000, o_20033]
    · simp (disch := omega) only [fX12_sheet, if_neg c0, o_69, l_6, c_isWord, c_isSetOfWords, c_isUse, c_isSheet, c_isBehind, c_mayB, c_wi, m_isWord, m_areWords, m_isSheet, m_isAhead, m_isKm, m_in, l_n1, o_n1, b2if, ck_s b2_z, c_ref1, c_ref2, c_ref3, c_ref4, c_ref5, m_fin1, m_fin2, m_fin3, m_fin4, m_fin5, l_0, l_1, l_2, l_3, l_5, l_7, l_8, l_9, l_11, l_12, l_16, l_20, l_30, l_40, l_60, l_69, l_99, l_4095, if_true, if_false, nI_add, pk_mul, nI_clamp, nI_leI, nI_ltI, nI_eq, ckI_s, bd_q, bnd_q, if_pos, if_neg, o_0, o_1, o_2, o_3, o_4, o_5, o_6, o_7, o_8, o_9, o_10, o_11, o_12, o_13, o_14, o_15, o_16, o_17, o_18, o_19, o_20, o_21, o_22, o_23, o_24, o_25, o_26, o_27, o_28, o_29, o_30, o_31, o_32, o_33, o_34, o_35, o_36, o_37, o_38, o_39, o_40, o_41, o_42, o_43, o_44, o_45, o_46, o_47, o_48, o_49, o_50, o_51, o_52, o_53, o_54, o_55, o_56, o_57, o_58, o_59, o_60, o_62, o_70, o_71, o_99, o_124, o_154, o_156, o_176, o_255, o_276, o_326, o_4095, o_9999, o_10000, o_10001, o_20000, o_20033]
end E12
