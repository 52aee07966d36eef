/-! the texts' reader: a number, a name, a sign; the whole of it -/
theorem pow10 : ∀ i, i ≤ 4 → 10 ^ i ≤ 10000 := by decide
def ixN (nmi c : Nat) : Nat := if nmi = 0 then (if c = 107 then 0 else if c = 119 then 1 else 2) else (if c = 114 then 0 else if c = 115 then 1 else 2)
theorem ixN_le (nmi c : Nat) : ixN nmi c ≤ 2 := by
  unfold ixN
  repeat' split
  all_goals omega
theorem nm_all : ∀ nmi, nmi < 2 → ∀ c, c < 256 → fX12_nameOf (nI c) (nI nmi) = some (if seeB nmi c = true then nI (ixN nmi c) else m1) := by decide +kernel
theorem nm_m1 : ∀ nmi, nmi < 2 → fX12_nameOf m1 (nI nmi) = some m1 := by decide +kernel
theorem ix_nm : ∀ nmi, nmi < 2 → ∀ c, c < 256 → seeB nmi c = true → fJ0_indexOf_0f7a4 nmi (i2cJ (nI c)) = some (nI (ixN nmi c)) := by decide +kernel
theorem see_x1 : ∀ nmi, nmi < 2 → ∀ c, c < 256 → (!seeB 2 c || (!seeB nmi c && c != 33 && c != 40)) = true := by decide +kernel
theorem see_x2 : ∀ nmi, nmi < 2 → ∀ c, c < 256 → (!seeB nmi c || (c != 33 && c != 40)) = true := by decide +kernel
theorem see_x3 : ∀ nmi, nmi < 2 → (seeB 2 33 || seeB nmi 33) = false := by decide +kernel
theorem see_x4 : ∀ nmi, nmi < 2 → (seeB 2 40 || seeB nmi 40 || seeB 3 40) = false := by decide +kernel
theorem see_ex (nmi : Nat) (hn : nmi < 2) (c : Nat) (hc : c < 256) : (seeB 2 c = true → seeB nmi c = false ∧ c ≠ 33 ∧ c ≠ 40) ∧ (seeB nmi c = true → c ≠ 33 ∧ c ≠ 40) ∧ (c = 33 → seeB 2 c = false ∧ seeB nmi c = false) ∧ (c = 40 → seeB 2 c = false ∧ seeB nmi c = false ∧ seeB 3 c = false) := by
  refine ⟨fun h => ?_, fun h => ?_, fun h => ?_, fun h => ?_⟩
  · have := see_x1 nmi hn c hc
    rw [h] at this
    simpa [and_assoc] using this
  · have := see_x2 nmi hn c hc
    rw [h] at this
    simpa using this
  · subst h
    simpa using see_x3 nmi hn
  · subst h
    simpa [and_assoc] using see_x4 nmi hn
theorem see_3 (c : Nat) (_ : c < 256) : (seeB 3 c = true ↔ c = 33) ∧ (seeB 4 c = true ↔ c = 40) ∧ (seeB 5 c = true ↔ c = 41) ∧ (seeB 2 c = true ↔ 48 ≤ c ∧ c ≤ 57) := by
  refine ⟨?_, ?_, ?_, ?_⟩ <;> simp [seeB]
theorem htS_num {m h : Nat} (hm : m < 10000) : htS (nI m) h = some (h + 1) := by
  unfold htS
  rw [if_pos ((nI_ltI (by omega) (by decide)).mpr hm)]
theorem htS_nam {k h : Nat} (hk : k ≤ 2) : htS (nI (10000 + k)) h = some (h + 1) := by
  unfold htS
  rw [if_neg (fun e => by rw [nI_ltI (by omega) (by decide)] at e; omega), if_pos (by rw [nI_eq (by omega) (by decide), nI_eq (by omega) (by decide), nI_eq (by omega) (by decide)]; omega)]
theorem htS_not {h : Nat} (hh : 1 ≤ h) : htS (nI 20033) h = some h := by
  unfold htS
  rw [if_neg (by decide), if_neg (by decide), if_neg (by decide), if_pos rfl, if_pos hh]
section PR3
variable {n base : Nat} {byt d : Nat → Int32} {by0 : Nat → Nat} {nmi : Nat}
theorem p_num {a t : Nat} {co cd : Nat → Int32} {f0 : Int32} {o0 : Int32} (ruM : (Nat → Int32) → Int32 → Int32 → Int32 → Int32 → Int32 → Int32 → (Nat → Int32) → Int32 → Option T12) (hB : BY n base byt d by0) (hlt : a < n) (hse : seeB 2 (by0 a) = true) : ∃ (m i : Nat), m < 10000 ∧ 1 ≤ i ∧ a + i ≤ n ∧ lp (fun σ : Int32 × Int32 × Int32 => fX9_readNumber_4B nmi n byt (nI t) m1 co (σ.1) (σ.2.1) (σ.2.2)) FU (nI 0, nI 0, nI a) = some (nI m, nI i, nI (a + i)) ∧ lp (fun σ : Int32 × Int32 × Int32 => fX12_unit_58B ruM d (nI base) (nI n) m1 o0 f0 cd (nI t) (σ.1) (σ.2.1) (σ.2.2)) FU (nI 0, nI 0, nI a) = some (nI m, nI i, nI (a + i)) := by
  have hn : n ≤ 50 := hB.1
  obtain ⟨r, q, h1, h2, m, i, hm, hi, hai, e1, e2⟩ := lpQ (fun σ : Int32 × Int32 × Int32 => fX9_readNumber_4B nmi n byt (nI t) m1 co (σ.1) (σ.2.1) (σ.2.2)) (fun σ : Int32 × Int32 × Int32 => fX12_unit_58B ruM d (nI base) (nI n) m1 o0 f0 cd (nI t) (σ.1) (σ.2.1) (σ.2.2)) (fun i s u => ∃ m : Nat, m < 10 ^ i ∧ a + i ≤ n ∧ s = (nI m, nI i, nI (a + i)) ∧ u = (nI m, nI i, nI (a + i))) (fun r q => ∃ m i : Nat, m < 10000 ∧ 1 ≤ i ∧ a + i ≤ n ∧ r = (nI m, nI i, nI (a + i)) ∧ q = (nI m, nI i, nI (a + i))) 4
    (fun i s u hi hI => by
      obtain ⟨m, hm, hai, rfl, rfl⟩ := hI
      have h10 := pow10 i (by omega)
      have hsee := p_see (nmi := nmi) (si := 2) hB (by decide) hai (Or.inl rfl)
      by_cases hc : a + i < n ∧ seeB 2 (by0 (a + i)) = true
      · obtain ⟨hl2, hs2⟩ := hc
        have hb := (hB.2.2 (a + i) hl2).1
        have hd := (see_3 _ hb).2.2.2.mp hs2
        have hh := q_hy hB hl2
        rw [b2_t ⟨rfl, hl2, hs2⟩] at hsee
        refine Or.inl ⟨(nI (10 * m + (by0 (a + i) - 48)), nI (i + 1), nI (a + (i + 1))), (nI (10 * m + (by0 (a + i) - 48)), nI (i + 1), nI (a + (i + 1))), ?_, ?_, 10 * m + (by0 (a + i) - 48), ?_, by omega, rfl, rfl⟩
        · have e : nI m * nI 10 + nI (by0 (a + i)) - nI 48 = nI (10 * m + (by0 (a + i) - 48)) := by
            rw [pk_mul, nI_add, pk_sub (by omega)]
            congr 1
            omega
          show fX9_readNumber_4B nmi n byt (nI t) m1 co (nI m) (nI i) (nI (a + i)) = _
          unfold fX9_readNumber_4B
          rw [o_4, if_neg (by rw [nI_leI (by omega) (by omega)]; omega), bd_of hsee, if_neg (by decide), bd_of (p_take hB hl2)]
          dsimp only
          rw [bnd_q, o_10, o_48, e, bnd_q, o_1, nI_add]
          rfl
        · have e : nI 10 * nI m + nI (by0 (a + i)) - nI 48 = nI (10 * m + (by0 (a + i) - 48)) := by
            rw [pk_mul, nI_add, pk_sub (by omega)]
            congr 1
            omega
          have hin : fX12_in ((nI (by0 (a + i))).toInt64) (48 : Int64) (57 : Int64) = some (nI 1) := by
            rw [show (48 : Int64) = (nI 48).toInt64 by decide +kernel, show (57 : Int64) = (nI 57).toInt64 by decide +kernel, m_in, b2_t (by rw [nI_leI (by omega) (by omega), nI_leI (by omega) (by omega)]; exact hd)]
          show fX12_unit_58B ruM d (nI base) (nI n) m1 o0 f0 cd (nI t) (nI m) (nI i) (nI (a + i)) = _
          unfold fX12_unit_58B
          rw [o_4, if_neg (by rw [nI_leI (by omega) (by omega)]; omega), bd_of hh, bd_of hin, if_neg (by decide), bd_of hh, bnd_q, o_10, o_48, e, bnd_q, bnd_q, o_1, nI_add, nI_add]
          rfl
        · rw [Nat.pow_succ]
          omega
      · have hi1 : 1 ≤ i := by
          rcases Nat.eq_zero_or_pos i with h | h
          · subst h
            exact absurd ⟨hlt, hse⟩ hc
          · exact h
        rw [b2_f (fun h => hc ⟨h.2.1, h.2.2⟩)] at hsee
        refine Or.inr ⟨(nI m, nI i, nI (a + i)), (nI m, nI i, nI (a + i)), ?_, ?_, m, i, by omega, hi1, hai, rfl, rfl⟩
        · show fX9_readNumber_4B nmi n byt (nI t) m1 co (nI m) (nI i) (nI (a + i)) = _
          unfold fX9_readNumber_4B
          rw [o_4, if_neg (by rw [nI_leI (by omega) (by omega)]; omega), bd_of hsee, if_pos (show nI 0 = (0 : Int32) from rfl)]
        · have hin : ∃ c, fX12_here d (nI base) (nI (a + i)) (nI n) m1 = some c ∧ fX12_in c.toInt64 (48 : Int64) (57 : Int64) = some (nI 0) := by
            obtain ⟨c, k1, k2⟩ := q_hn (si := 2) hB hai (Or.inl rfl) (fun h => hc ⟨h.2.1, h.2.2⟩)
            refine ⟨c, k1, ?_⟩
            rw [show (48 : Int64) = (nI 48).toInt64 by decide +kernel, show (57 : Int64) = (nI 57).toInt64 by decide +kernel, m_in, b2_f]
            rcases k2 with rfl | ⟨b, hb, rfl, hs⟩
            · decide
            · rw [nI_leI (by omega) (by omega), nI_leI (by omega) (by omega)]
              intro h
              rw [(see_3 b hb).2.2.2.mpr h] at hs
              exact absurd hs (by decide)
          obtain ⟨c, k1, k2⟩ := hin
          show fX12_unit_58B ruM d (nI base) (nI n) m1 o0 f0 cd (nI t) (nI m) (nI i) (nI (a + i)) = _
          unfold fX12_unit_58B
          rw [o_4, if_neg (by rw [nI_leI (by omega) (by omega)]; omega), bd_of k1, bd_of k2, if_pos (show nI 0 = (0 : Int32) from rfl)])
    (fun s u hI => by
      obtain ⟨m, hm, hai, rfl, rfl⟩ := hI
      exact ⟨(nI m, nI 4, nI (a + 4)), (nI m, nI 4, nI (a + 4)), rfl, rfl, m, 4, hm, by decide, hai, rfl, rfl⟩)
    (FU_lt (by decide)) (nI 0, nI 0, nI a) (nI 0, nI 0, nI a) ⟨0, by decide, by omega, rfl, rfl⟩
  subst e1
  subst e2
  exact ⟨m, i, hm, hi, hai, h1, h2⟩
/-- where no text goes on, on both sides -/
theorem p_stop {a t : Nat} {f : Int32} {co cd : Nat → Int32} {h : Nat} (hn : n ≤ 50) (hP : PS n a t f co cd h) : ∃ f', fX9_stopHere nmi n byt (nI a) f = some f' ∧ fX12_wrong (nI a) f = some f' ∧ (∃ j, j ≤ n ∧ f' = nI j) ∧ ∀ h', PS n a t f' co cd h' := by
  obtain ⟨p1, p2, p3, p4, p5⟩ := hP
  rcases p3 with rfl | ⟨j, hj, rfl⟩
  · refine ⟨nI a, ?_, ?_, ⟨a, p1, rfl⟩, fun h' => ⟨p1, p2, Or.inr ⟨a, p1, rfl⟩, p4, fun e => absurd e (m1_ne a (by omega))⟩⟩
    · unfold fX9_stopHere
      rw [o_0, if_neg m1_neg]
    · unfold fX12_wrong
      rw [o_0, if_neg m1_neg]
  · refine ⟨nI j, ?_, ?_, ⟨j, hj, rfl⟩, fun h' => ⟨p1, p2, Or.inr ⟨j, hj, rfl⟩, p4, fun e => absurd e (m1_ne j (by omega))⟩⟩
    · unfold fX9_stopHere
      rw [o_0, if_pos (by rw [nI_leI (by decide) (by omega)]; omega)]
    · unfold fX12_wrong
      rw [o_0, if_pos (by rw [nI_leI (by decide) (by omega)]; omega)]
theorem lay_no {j : Nat} {v : Int32} {cd : Nat → Int32} {t : Int32} (hj : j < 2 ^ 31) : fX12_lay v (nI j) cd t = some (cd, t) := by
  unfold fX12_lay
  rw [o_0, if_pos (by rw [nI_leI (by decide) hj]; omega)]
/-- nothing that is read here: the reference's way -/
theorem q_nothing {a t : Nat} {f : Int32} {cd : Nat → Int32} {o : Nat} (ruM : (Nat → Int32) → Int32 → Int32 → Int32 → Int32 → Int32 → Int32 → (Nat → Int32) → Int32 → Option T12) {f' : Int32} {c : Int32} (hnm : nmi < 2) (hh : fX12_here d (nI base) (nI a) (nI n) f = some c) (hc : c = m1 ∨ ∃ b, b < 256 ∧ c = nI b ∧ b ≠ 33 ∧ b ≠ 40 ∧ seeB 2 b = false ∧ seeB nmi b = false) (hw : fX12_wrong (nI a) f = some f') (hf : ∃ j, j ≤ n ∧ f' = nI j) (hn : n ≤ 50) : fbX12_unit ruM d (nI base) (nI a) (nI n) f (nI o) (nI nmi) cd (nI t) = some (nI a, f', nI o, cd, nI t) := by
  have h33 : ¬ c = (33 : Int32) := by
    rw [o_33]
    rcases hc with rfl | ⟨b, hb, rfl, h1, -⟩
    · exact eq_m1 (by decide)
    · rw [nI_eq (by omega) (by decide)]
      exact h1
  have h40 : ¬ c = (40 : Int32) := by
    rw [o_40]
    rcases hc with rfl | ⟨b, hb, rfl, -, h1, -⟩
    · exact eq_m1 (by decide)
    · rw [nI_eq (by omega) (by decide)]
      exact h1
  have hnam : fX12_nameOf c (nI nmi) = some m1 := by
    rcases hc with rfl | ⟨b, hb, rfl, -, -, -, h1⟩
    · exact nm_m1 nmi hnm
    · rw [nm_all nmi hnm b hb, h1]
      rfl
  have hin : fX12_in c.toInt64 (48 : Int64) (57 : Int64) = some (nI 0) := by
    rw [show (48 : Int64) = (nI 48).toInt64 by decide +kernel, show (57 : Int64) = (nI 57).toInt64 by decide +kernel, m_in, b2_f]
    rcases hc with rfl | ⟨b, hb, rfl, -, -, hs, -⟩
    · decide
    · rw [nI_leI (by omega) (by omega), nI_leI (by omega) (by omega)]
      intro h
      rw [(see_3 b hb).2.2.2.mpr h] at hs
      exact absurd hs (by decide)
  obtain ⟨j, hj, rfl⟩ := hf
  unfold fbX12_unit
  rw [bd_of hh, if_neg h33, if_neg h40, bd_of hnam, if_pos (show m1 < 0 by decide)]
  unfold fX12_unit_58
  have hl : lp (fun σ : Int32 × Int32 × Int32 => fX12_unit_58B ruM d (nI base) (nI n) f (nI o) (nI nmi) cd (nI t) (σ.1) (σ.2.1) (σ.2.2)) FU ((0 : Int32), (0 : Int32), nI a) = some ((0 : Int32), (0 : Int32), nI a) := by
    refine lp_inr (n := 999999) ?_
    show fX12_unit_58B ruM d (nI base) (nI n) f (nI o) (nI nmi) cd (nI t) 0 0 (nI a) = _
    unfold fX12_unit_58B
    rw [if_neg (by decide), bd_of hh, bd_of hin, if_pos (show nI 0 = (0 : Int32) from rfl)]
  refine (bd_of hl).trans ?_
  show fX12_unit_110 ruM 0 0 d (nI base) (nI a) (nI n) f (nI o) (nI nmi) cd (nI t) = _
  unfold fX12_unit_110
  rw [if_pos rfl, bd_of hw, bd_of (lay_no (by omega))]
end PR3
