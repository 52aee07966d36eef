/-! the start -/
theorem c_fillV (n : Nat) (hn : n ≤ 100) (v : Int32) (arr : Nat → Int32) : ∃ arr', fJ7_fill_53178 n v arr = some arr' ∧ ∀ k, k < n → arr' k = v := by
  unfold fJ7_fill_53178 fJ7_fill_53178_5
  obtain ⟨⟨x, a2⟩, l1, h⟩ := lpE (fun σ : Int32 × (Nat → Int32) => fJ7_fill_53178_5B n v (nI n) (σ.1) (σ.2)) (fun i s => s.1 = nI i ∧ ∀ k, k < i → s.2 k = v) (fun r => ∀ k, k < n → r.2 k = v) n
    (fun i s hi hI => by
      obtain ⟨x, a2⟩ := s
      obtain ⟨h1, h2⟩ := hI
      have h1 : x = nI i := h1
      subst h1
      refine Or.inl ⟨(nI (i + 1), upd a2 i v), ?_, rfl, fun k hk => ?_⟩
      · show fJ7_fill_53178_5B n v (nI n) (nI i) a2 = _
        unfold fJ7_fill_53178_5B
        rw [if_neg (by rw [nI_leI (by omega) (by omega)]; omega), ckI_s (by omega) (by omega), nI_clamp (by omega), bnd_q, o_1, nI_add, bnd_q]
      · show upd a2 i v k = _
        by_cases e : k = i
        · rw [e, upd_s]
        · rw [upd_n e]
          exact h2 k (by omega))
    (fun s hI => by
      obtain ⟨x, a2⟩ := s
      obtain ⟨h1, h2⟩ := hI
      have h1 : x = nI n := h1
      subst h1
      refine ⟨(nI n, a2), ?_, h2⟩
      show fJ7_fill_53178_5B n v (nI n) (nI n) a2 = _
      unfold fJ7_fill_53178_5B
      rw [if_pos ((nI_leI (by omega) (by omega)).mpr (Nat.le_refl _))])
    (FU_lt (by omega)) (nI 0, arr) ⟨rfl, fun k hk => absurd hk (Nat.not_lt_zero _)⟩
  refine ⟨a2, ?_, h⟩
  rw [bnd_q]
  exact (bd_of l1).trans rfl
def A0 : AS := (0, 0, 0, fun j => j % 10, fun _ => 0, fun _ => 0, fun _ => 0, fun _ => 0, fun _ => 0, fun _ => 0, fun _ _ => 0)
theorem Wf_A0 : Wf A0 := ⟨Nat.zero_le _, Nat.zero_le _, by decide, fun j => by show j % 10 ≤ 9; omega, fun _ => Nat.zero_le _, fun _ => Nat.zero_le _, fun _ => Nat.zero_le _, fun _ => Nat.zero_le _, fun _ => Nat.zero_le _, fun _ => Nat.zero_le _, fun _ _ => Nat.zero_le _⟩
theorem st_lp {σ : Type} (b : Int32 × (Nat → Int32) → Option ((Int32 × (Nat → Int32)) ⊕ (Int32 × (Nat → Int32)))) (n off : Nat) (hn : n ≤ 100) (g : Nat → Int32) (hb : ∀ i f, i < n → b (nI i, f) = some (.inl (nI (i + 1), upd f (off + i) (g i)))) (he : ∀ f, b (nI n, f) = some (.inr (nI n, f))) (f : Nat → Int32) : ∃ f', lp b FU (nI 0, f) = some (nI n, f') ∧ ∀ x, f' x = if off ≤ x ∧ x < off + n then g (x - off) else f x := by
  obtain ⟨⟨x, a2⟩, l1, e1, h⟩ := lpE b (fun i s => s.1 = nI i ∧ ∀ x, s.2 x = if off ≤ x ∧ x < off + i then g (x - off) else f x) (fun r => r.1 = nI n ∧ ∀ x, r.2 x = if off ≤ x ∧ x < off + n then g (x - off) else f x) n
    (fun i s hi hI => by
      obtain ⟨x, a2⟩ := s
      obtain ⟨h1, h2⟩ := hI
      have h1 : x = nI i := h1
      subst h1
      refine Or.inl ⟨_, hb i a2 hi, rfl, fun j => ?_⟩
      show upd a2 (off + i) (g i) j = _
      have h3 : a2 j = _ := h2 j
      by_cases e : j = off + i
      · rw [e, upd_s, if_pos ⟨by omega, by omega⟩]
        congr 1
        omega
      · rw [upd_n e, h3]
        by_cases q : off ≤ j ∧ j < off + i
        · rw [if_pos q, if_pos ⟨q.1, by omega⟩]
        · rw [if_neg q, if_neg (fun h => q ⟨h.1, by omega⟩)])
    (fun s hI => by
      obtain ⟨x, a2⟩ := s
      obtain ⟨h1, h2⟩ := hI
      have h1 : x = nI n := h1
      subst h1
      exact ⟨_, he a2, rfl, h2⟩)
    (FU_lt (by omega)) (nI 0, f) ⟨rfl, fun x => by rw [if_neg (by omega)]⟩
  have e1 : x = nI n := e1
  subst e1
  exact ⟨a2, l1, h⟩
theorem rem10 (i : Nat) (hi : i < 12) : nI i - nI i / nI 10 * nI 10 = nI (i % 10) := pk_rem (by omega) (by decide) (by decide)
theorem E_start : ∃ (weightR swSR waSR dR : Nat → Int32), fX3_init = some (weightR, swSR, waSR) ∧ fX12_init = some dR ∧ ∀ tx : Nat → TXc, Rh weightR (0 : Int32) (0 : Int32) swSR (fun _ => (0 : Int32)) waSR (0 : Int32) (fun _ => (0 : Int32)) (fun _ => (0 : Int32)) (fun _ => (0 : Int32)) (fun _ => (0 : Int64)) (fun _ => none) (fun _ => (0 : Int32)) (0 : Int32) (1 : Int32) (fun _ => (0 : Int32)) (0 : Int32) dR [] tx := by
  obtain ⟨we, l1, h1⟩ := st_lp (σ := Unit) (fun σ : Int32 × (Nat → Int32) => fX3_init_103B (fun _ => (0 : Int32)) (fun _ => (0 : Int32)) (σ.1) (σ.2)) 12 0 (by decide) (fun i => nI (i % 10)) (fun i f hi => by
    show fX3_init_103B _ _ (nI i) f = _
    unfold fX3_init_103B
    rw [o_12, if_neg (by rw [nI_leI (by omega) (by omega)]; omega), o_10, rem10 i hi, bnd_q, ckI_s (by omega) (by omega), nI_clamp (by omega), bnd_q, o_1, nI_add, bnd_q, Nat.zero_add]) (fun f => by
    show fX3_init_103B _ _ (nI 12) f = _
    unfold fX3_init_103B
    rw [if_pos (by decide)]) (fun _ => (0 : Int32))
  obtain ⟨swS, f1, f2⟩ := c_fillV 6 (by decide) (-1 : Int32) (fun _ => (0 : Int32))
  obtain ⟨waS, f3, f4⟩ := c_fillV 4 (by decide) (-1 : Int32) (fun _ => (0 : Int32))
  obtain ⟨d1, m1', n1⟩ := st_lp (σ := Unit) (fun σ : Int32 × (Nat → Int32) => fX12_init_119B (σ.1) (σ.2)) 12 6 (by decide) (fun i => nI (i % 10)) (fun i f hi => by
    show fX12_init_119B (nI i) f = _
    unfold fX12_init_119B
    rw [o_12, if_neg (by rw [nI_leI (by omega) (by omega)]; omega), o_10, rem10 i hi, bnd_q, show (6 : Int32) = nI 6 from rfl, nI_add, ckI_s (by omega) (by omega), nI_clamp (by omega), bnd_q, o_1, nI_add, bnd_q]) (fun f => by
    show fX12_init_119B (nI 12) f = _
    unfold fX12_init_119B
    rw [if_pos (by decide)]) (upd (fun _ => (0 : Int32)) 3 (nI 1))
  obtain ⟨d2, m2, n2⟩ := st_lp (σ := Unit) (fun σ : Int32 × (Nat → Int32) => fX12_init_146B (σ.1) (σ.2)) 6 18 (by decide) (fun i => (-1 : Int32)) (fun i f hi => by
    show fX12_init_146B (nI i) f = _
    unfold fX12_init_146B
    rw [show (6 : Int32) = nI 6 from rfl, if_neg (by rw [nI_leI (by omega) (by omega)]; omega), show (18 : Int32) = nI 18 from rfl, nI_add, ckI_s (by omega) (by omega), nI_clamp (by omega), bnd_q, show nI i + (1 : Int32) = nI (i + 1) from nI_add _ 1, bnd_q]) (fun f => by
    show fX12_init_146B (nI 6) f = _
    unfold fX12_init_146B
    rw [if_pos (by decide)]) d1
  obtain ⟨d3, m3, n3⟩ := st_lp (σ := Unit) (fun σ : Int32 × (Nat → Int32) => fX12_init_170B (σ.1) (σ.2)) 4 30 (by decide) (fun i => (-1 : Int32)) (fun i f hi => by
    show fX12_init_170B (nI i) f = _
    unfold fX12_init_170B
    rw [show (4 : Int32) = nI 4 from rfl, if_neg (by rw [nI_leI (by omega) (by omega)]; omega), show (30 : Int32) = nI 30 from rfl, nI_add, ckI_s (by omega) (by omega), nI_clamp (by omega), bnd_q, show nI i + (1 : Int32) = nI (i + 1) from nI_add _ 1, bnd_q]) (fun f => by
    show fX12_init_170B (nI 4) f = _
    unfold fX12_init_170B
    rw [if_pos (by decide)]) d2
  have hd : ∀ x, d3 x = if 30 ≤ x ∧ x < 34 then (-1 : Int32) else if 18 ≤ x ∧ x < 24 then (-1 : Int32) else if 6 ≤ x ∧ x < 18 then nI ((x - 6) % 10) else if x = 3 then nI 1 else nI 0 := fun x => by
    rw [n3, n2, n1]
    rfl
  have hz : ∀ x, 34 ≤ x → d3 x = nI 0 := fun x hx => by
    rw [hd, if_neg (by omega), if_neg (by omega), if_neg (by omega), if_neg (by omega)]
  refine ⟨we, swS, waS, d3, ?_, ?_, fun tx => ⟨A0, fun _ a _ _ => a, Wf_A0, Nat.zero_le _, ⟨?_, ?_, ?_, ?_, ?_, ?_, ?_, ?_, ?_, ?_, ?_⟩, ⟨?_, rfl, rfl, ?_, fun _ _ => rfl, ?_, rfl, fun _ _ => rfl, fun _ _ => rfl, fun _ _ => rfl, fun _ _ => ?_⟩, fun use hu => ⟨fun _ => 0, 0, by decide, fun h => by omega, ?_, fun k hk => by omega, ?_⟩, fun use hu => Or.inl ⟨rfl, rfl⟩, ?_, ⟨0, by decide, rfl, ?_, fun j hj => by omega⟩, 0, by decide, rfl, ?_, fun j hj => by omega⟩⟩
  · unfold fX3_init fX3_init_103
    refine (bd_of l1).trans ?_
    dsimp only
    rw [bd_of f1, bd_of f3]
  · unfold fX12_init
    rw [show (3 : Int32) = nI 3 from rfl, ckI_s (by decide) (by decide), nI_clamp (by decide), bnd_q]
    unfold fX12_init_119
    refine (bd_of m1').trans ?_
    dsimp only
    unfold fX12_init_146
    refine (bd_of m2).trans ?_
    dsimp only
    unfold fX12_init_170
    exact (bd_of m3).trans rfl
  · exact hd 0
  · exact hd 1
  · exact hd 2
  · intro j hj
    rw [hd, if_neg (by omega), if_neg (by omega), if_pos (by omega), show 6 + j - 6 = j by omega]
    rfl
  · intro j hj
    rw [hd, if_neg (by omega), if_pos (by omega)]
    rfl
  · intro j hj
    rw [hd, if_neg (by omega), if_neg (by omega), if_neg (by omega), if_neg (by omega)]
    rfl
  · intro j hj
    rw [hd, if_pos (by omega)]
    rfl
  · exact fun s hs => hz _ (by omega)
  · exact fun s hs => hz _ (by omega)
  · exact fun s hs => hz _ (by omega)
  · exact fun s hs w hw => hz _ (by omega)
  · intro j hj
    rw [h1, if_pos (by omega)]
    rfl
  · intro j hj
    rw [f2 j hj]
    rfl
  · intro j hj
    rw [f4 j hj]
    rfl
  · show (0 : Int64) = lN (pk12 fun _ => 0)
    rw [pk0 (fun _ _ => rfl)]
    rfl
  · exact hz _ (by omega)
  · funext a b c
    unfold evV
    rw [if_pos rfl]
  · exact (hd 3).symm
  · exact hd 4
  · exact hd 5
