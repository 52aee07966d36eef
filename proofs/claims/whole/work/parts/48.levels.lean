/-! the texts' reader, level by level -/
theorem o_61 : (61 : Int32) = nI 61 := rfl
theorem o_107 : (107 : Int32) = nI 107 := rfl
theorem o_110 : (110 : Int32) = nI 110 := rfl
theorem o_114 : (114 : Int32) = nI 114 := rfl
theorem o_115 : (115 : Int32) = nI 115 := rfl
theorem o_119 : (119 : Int32) = nI 119 := rfl
theorem o_20038 : (20038 : Int32) = nI 20038 := rfl
theorem o_20124 : (20124 : Int32) = nI 20124 := rfl
section PR2
variable {n base : Nat} {byt d : Nat → Int32} {by0 : Nat → Nat} {nmi : Nat}
theorem sim_join {o si : Nat} {C0 C : Int32 → Int32 → Int32 → (Nat → Int32) → Option T9} {M0 M : Int32 → Int32 → Int32 → (Nat → Int32) → Int32 → Option T12} (hB : BY n base byt d by0) (hsi : si < 11) (h33 : ∀ c, seeB si c = true → c ≠ 33) (hS : SimP n o C M)
    (b9 : Int32 × T9 → Option ((Int32 × T9) ⊕ (Int32 × T9))) (b12 : T12 → Option (T12 ⊕ T12))
    (h9 : ∀ s, b9 s = (if (50 : Int32) ≤ s.1 then some (.inr s) else bd (fX9_sees nmi n byt si s.2.1 s.2.2.2.1) fun r => (if r = 0 then some (.inr s) else bd (fX9_take nmi n byt s.2.1) fun q => bd (C q.2 s.2.2.1 s.2.2.2.1 s.2.2.2.2) fun x => bd (fX9_write nmi n byt ((20000 : Int32) + q.1) x.2.1 x.2.2.1 x.2.2.2) fun y => bnd (s.1 + (1 : Int32)) fun z => some (.inl (z, x.1, y.1, x.2.2.1, y.2)))))
    (hno : ∀ (a : Nat) (f op : Int32) (cd : Nat → Int32) (t : Int32), a ≤ n → (f = m1 ∨ ∃ j, j ≤ n ∧ f = nI j) → ¬ (f = m1 ∧ a < n ∧ seeB si (by0 a) = true) → b12 (nI a, f, op, cd, t) = some (.inr (nI a, f, op, cd, t)))
    (hyes : ∀ (a : Nat) (op : Int32) (cd : Nat → Int32) (t : Int32), a < n → seeB si (by0 a) = true → b12 (nI a, m1, op, cd, t) = bd (M (nI (a + 1)) m1 op cd t) fun x => bd (fX12_lay (nI 20000 + nI (by0 a)) x.2.1 x.2.2.2.1 x.2.2.2.2) fun y => some (.inl (x.1, x.2.1, x.2.2.1, y.1, y.2)))
    (hC0 : ∀ a t f co, C0 a t f co = bd (C a t f co) fun x => bd (lp b9 FU (nI 0, x)) fun r => some r.2)
    (hM0 : ∀ a f op cd t, M0 a f op cd t = bd (M a f op cd t) fun x => bd (lp b12 FU x) fun r => some r) : SimP n o C0 M0 := by
  intro a t f co cd h hP
  obtain ⟨a1, t1, f1, co1, cd1, g1, g2, g3, g4, g5⟩ := hS a t f co cd h hP
  obtain ⟨v, a2, t2, f2, co2, cd2, k1, k2, k3, k4, k5⟩ := sim_loop hB hsi h33 hS b9 b12 h9 hno hyes a1 t1 f1 co1 cd1 h g3
  refine ⟨a2, t2, f2, co2, cd2, ?_, ?_, k3, by omega, by omega⟩
  · rw [hC0, bd_of g1, bd_of k1]
  · rw [hM0, bd_of g2, bd_of k2]
theorem q_hn {si a : Nat} {f : Int32} (hB : BY n base byt d by0) (ha : a ≤ n) (hf : f = m1 ∨ ∃ j, j ≤ n ∧ f = nI j) (hc : ¬ (f = m1 ∧ a < n ∧ seeB si (by0 a) = true)) : ∃ c, fX12_here d (nI base) (nI a) (nI n) f = some c ∧ (c = m1 ∨ ∃ b, b < 256 ∧ c = nI b ∧ seeB si b = false) := by
  refine ⟨_, q_here hB ha hf, ?_⟩
  by_cases h : f = m1 ∧ a < n
  · rw [if_pos h]
    refine Or.inr ⟨by0 a, (hB.2.2 a h.2).1, rfl, ?_⟩
    cases e : seeB si (by0 a) with
    | false => rfl
    | true => exact absurd ⟨h.1, h.2, e⟩ hc
  · rw [if_neg h]
    exact Or.inl rfl
theorem q_hy {a : Nat} (hB : BY n base byt d by0) (ha : a < n) : fX12_here d (nI base) (nI a) (nI n) m1 = some (nI (by0 a)) := by
  rw [q_here hB (Nat.le_of_lt ha) (Or.inl rfl), if_pos ⟨rfl, ha⟩]
theorem eq_m1 {b : Nat} (h : b < 256) : ¬ m1 = nI b := fun e => m1_ne b (by omega) e.symm

theorem sim_Product {o : Nat} {ruC : Int32 → Int32 → Int32 → Int32 → (Nat → Int32) → Option T9} {ruM : (Nat → Int32) → Int32 → Int32 → Int32 → Int32 → Int32 → Int32 → (Nat → Int32) → Int32 → Option T12} {isR : Int32} (hB : BY n base byt d by0) (hS : SimP n o (fun a t f co => ruC (nI o) a t f co) (fun a f op cd t => ruM d (nI base) a (nI n) f op isR cd t)) : SimP n o (fun a t f co => fX9_readProduct ruC nmi n byt (nI o) a t f co) (fun a f op cd t => fX12_product ruM d (nI base) a (nI n) f op isR cd t) := by
  refine sim_join (nmi := nmi) (si := 6) hB (by decide) (fun c hc e => by subst e; exact absurd hc (by decide)) hS (fun σ => fX9_readProduct_7B ruC nmi n byt (nI o) (σ.1) (σ.2.1) (σ.2.2.1) (σ.2.2.2.1) (σ.2.2.2.2)) (fun σ => fX12_product_4B ruM d (nI base) (nI n) isR (σ.1) (σ.2.1) (σ.2.2.1) (σ.2.2.2.1) (σ.2.2.2.2)) (fun s => rfl) (fun a f op cd t ha hf hc => ?_) (fun a op cd t ha hs => ?_) (fun a t f co => rfl) (fun a f op cd t => rfl)
  · obtain ⟨c, h1, h2⟩ := q_hn hB ha hf hc
    show fX12_product_4B ruM d (nI base) (nI n) isR (nI a) f op cd t = _
    unfold fX12_product_4B
    have n42 : ¬ c = (42 : Int32) := by
      rw [o_42]
      rcases h2 with rfl | ⟨b, hb, rfl, hse⟩
      · exact eq_m1 (by decide)
      · rw [nI_eq (by omega) (by decide)]
        intro e
        subst e
        exact absurd hse (by decide)
    have n47 : ¬ c = (47 : Int32) := by
      rw [o_47]
      rcases h2 with rfl | ⟨b, hb, rfl, hse⟩
      · exact eq_m1 (by decide)
      · rw [nI_eq (by omega) (by decide)]
        intro e
        subst e
        exact absurd hse (by decide)
    have n37 : ¬ c = (37 : Int32) := by
      rw [o_37]
      rcases h2 with rfl | ⟨b, hb, rfl, hse⟩
      · exact eq_m1 (by decide)
      · rw [nI_eq (by omega) (by decide)]
        intro e
        subst e
        exact absurd hse (by decide)
    rw [bd_of h1, if_neg n42, bd_of h1, if_neg n47, bd_of h1, if_neg n37]
  · have h1 := q_hy hB ha
    show fX12_product_4B ruM d (nI base) (nI n) isR (nI a) m1 op cd t = _
    have h2 : by0 a = 42 ∨ by0 a = 47 ∨ by0 a = 37 := by
      simpa [seeB, or_assoc] using hs
    rcases h2 with e | e | e
    · rw [e] at h1 ⊢
      unfold fX12_product_4B fX12_product_31
      rw [bd_of h1, if_pos (show nI 42 = (42 : Int32) from rfl), bd_of h1, bnd_q, o_1, nI_add, o_20000]
    · rw [e] at h1 ⊢
      unfold fX12_product_4B fX12_product_31
      rw [bd_of h1, if_neg (show ¬ nI 47 = (42 : Int32) by decide), bd_of h1, if_pos (show nI 47 = (47 : Int32) from rfl), bd_of h1, bnd_q, o_1, nI_add, o_20000]
    · rw [e] at h1 ⊢
      unfold fX12_product_4B fX12_product_31
      rw [bd_of h1, if_neg (show ¬ nI 37 = (42 : Int32) by decide), bd_of h1, if_neg (show ¬ nI 37 = (47 : Int32) by decide), bd_of h1, if_pos (show nI 37 = (37 : Int32) from rfl), bd_of h1, bnd_q, o_1, nI_add, o_20000]
theorem sim_Sum {o : Nat} {ruC : Int32 → Int32 → Int32 → Int32 → (Nat → Int32) → Option T9} {ruM : (Nat → Int32) → Int32 → Int32 → Int32 → Int32 → Int32 → Int32 → (Nat → Int32) → Int32 → Option T12} {isR : Int32} (hB : BY n base byt d by0) (hS : SimP n o (fun a t f co => fX9_readProduct ruC nmi n byt (nI o) a t f co) (fun a f op cd t => fX12_product ruM d (nI base) a (nI n) f op isR cd t)) : SimP n o (fun a t f co => fX9_readSum ruC nmi n byt (nI o) a t f co) (fun a f op cd t => fX12_sum ruM d (nI base) a (nI n) f op isR cd t) := by
  refine sim_join (nmi := nmi) (si := 7) hB (by decide) (fun c hc e => by subst e; exact absurd hc (by decide)) hS (fun σ => fX9_readSum_7B ruC nmi n byt (nI o) (σ.1) (σ.2.1) (σ.2.2.1) (σ.2.2.2.1) (σ.2.2.2.2)) (fun σ => fX12_sum_4B ruM d (nI base) (nI n) isR (σ.1) (σ.2.1) (σ.2.2.1) (σ.2.2.2.1) (σ.2.2.2.2)) (fun s => rfl) (fun a f op cd t ha hf hc => ?_) (fun a op cd t ha hs => ?_) (fun a t f co => rfl) (fun a f op cd t => rfl)
  · obtain ⟨c, h1, h2⟩ := q_hn hB ha hf hc
    show fX12_sum_4B ruM d (nI base) (nI n) isR (nI a) f op cd t = _
    unfold fX12_sum_4B
    have n43 : ¬ c = (43 : Int32) := by
      rw [o_43]
      rcases h2 with rfl | ⟨b, hb, rfl, hse⟩
      · exact eq_m1 (by decide)
      · rw [nI_eq (by omega) (by decide)]
        intro e
        subst e
        exact absurd hse (by decide)
    have n45 : ¬ c = (45 : Int32) := by
      rw [o_45]
      rcases h2 with rfl | ⟨b, hb, rfl, hse⟩
      · exact eq_m1 (by decide)
      · rw [nI_eq (by omega) (by decide)]
        intro e
        subst e
        exact absurd hse (by decide)
    rw [bd_of h1, if_neg n43, bd_of h1, if_neg n45]
  · have h1 := q_hy hB ha
    show fX12_sum_4B ruM d (nI base) (nI n) isR (nI a) m1 op cd t = _
    have h2 : by0 a = 43 ∨ by0 a = 45 := by
      simpa [seeB, or_assoc] using hs
    rcases h2 with e | e
    · rw [e] at h1 ⊢
      unfold fX12_sum_4B fX12_sum_22
      rw [bd_of h1, if_pos (show nI 43 = (43 : Int32) from rfl), bd_of h1, bnd_q, o_1, nI_add, o_20000]
    · rw [e] at h1 ⊢
      unfold fX12_sum_4B fX12_sum_22
      rw [bd_of h1, if_neg (show ¬ nI 45 = (43 : Int32) by decide), bd_of h1, if_pos (show nI 45 = (45 : Int32) from rfl), bd_of h1, bnd_q, o_1, nI_add, o_20000]
theorem sim_Both {o : Nat} {ruC : Int32 → Int32 → Int32 → Int32 → (Nat → Int32) → Option T9} {ruM : (Nat → Int32) → Int32 → Int32 → Int32 → Int32 → Int32 → Int32 → (Nat → Int32) → Int32 → Option T12} {isR : Int32} (hB : BY n base byt d by0) (hS : SimP n o (fun a t f co => fX9_readCompared ruC nmi n byt (nI o) a t f co) (fun a f op cd t => fX12_compared ruM d (nI base) a (nI n) f op isR cd t)) : SimP n o (fun a t f co => fX9_readBoth ruC nmi n byt (nI o) a t f co) (fun a f op cd t => fX12_both ruM d (nI base) a (nI n) f op isR cd t) := by
  refine sim_join (nmi := nmi) (si := 9) hB (by decide) (fun c hc e => by subst e; exact absurd hc (by decide)) hS (fun σ => fX9_readBoth_7B ruC nmi n byt (nI o) (σ.1) (σ.2.1) (σ.2.2.1) (σ.2.2.2.1) (σ.2.2.2.2)) (fun σ => fX12_both_4B ruM d (nI base) (nI n) isR (σ.1) (σ.2.1) (σ.2.2.1) (σ.2.2.2.1) (σ.2.2.2.2)) (fun s => rfl) (fun a f op cd t ha hf hc => ?_) (fun a op cd t ha hs => ?_) (fun a t f co => rfl) (fun a f op cd t => rfl)
  · obtain ⟨c, h1, h2⟩ := q_hn hB ha hf hc
    show fX12_both_4B ruM d (nI base) (nI n) isR (nI a) f op cd t = _
    unfold fX12_both_4B fX12_takes
    have n38 : ¬ c = (38 : Int32) := by
      rw [o_38]
      rcases h2 with rfl | ⟨b, hb, rfl, hse⟩
      · exact eq_m1 (by decide)
      · rw [nI_eq (by omega) (by decide)]
        intro e
        subst e
        exact absurd hse (by decide)
    rw [bd_of h1, if_neg n38, bd_q]
    rfl
  · have h1 := q_hy hB ha
    show fX12_both_4B ruM d (nI base) (nI n) isR (nI a) m1 op cd t = _
    have h2 : by0 a = 38 := by
      simpa [seeB] using hs
    rw [h2] at h1 ⊢
    unfold fX12_both_4B fX12_takes
    rw [bd_of h1, if_pos (show nI 38 = (38 : Int32) from rfl), bnd_q, bd_q, o_1, nI_add, nI_add]
    rfl
theorem sim_All {o : Nat} {ruC : Int32 → Int32 → Int32 → Int32 → (Nat → Int32) → Option T9} {ruM : (Nat → Int32) → Int32 → Int32 → Int32 → Int32 → Int32 → Int32 → (Nat → Int32) → Int32 → Option T12} {isR : Int32} (hB : BY n base byt d by0) (hS : SimP n o (fun a t f co => fX9_readBoth ruC nmi n byt (nI o) a t f co) (fun a f op cd t => fX12_both ruM d (nI base) a (nI n) f op isR cd t)) : SimP n o (fun a t f co => fX9_readAll ruC nmi n byt (nI o) a t f co) (fun a f op cd t => fX12_either ruM d (nI base) a (nI n) f op isR cd t) := by
  refine sim_join (nmi := nmi) (si := 10) hB (by decide) (fun c hc e => by subst e; exact absurd hc (by decide)) hS (fun σ => fX9_readAll_7B ruC nmi n byt (nI o) (σ.1) (σ.2.1) (σ.2.2.1) (σ.2.2.2.1) (σ.2.2.2.2)) (fun σ => fX12_either_4B ruM d (nI base) (nI n) isR (σ.1) (σ.2.1) (σ.2.2.1) (σ.2.2.2.1) (σ.2.2.2.2)) (fun s => rfl) (fun a f op cd t ha hf hc => ?_) (fun a op cd t ha hs => ?_) (fun a t f co => rfl) (fun a f op cd t => rfl)
  · obtain ⟨c, h1, h2⟩ := q_hn hB ha hf hc
    show fX12_either_4B ruM d (nI base) (nI n) isR (nI a) f op cd t = _
    unfold fX12_either_4B fX12_takes
    have n124 : ¬ c = (124 : Int32) := by
      rw [o_124]
      rcases h2 with rfl | ⟨b, hb, rfl, hse⟩
      · exact eq_m1 (by decide)
      · rw [nI_eq (by omega) (by decide)]
        intro e
        subst e
        exact absurd hse (by decide)
    rw [bd_of h1, if_neg n124, bd_q]
    rfl
  · have h1 := q_hy hB ha
    show fX12_either_4B ruM d (nI base) (nI n) isR (nI a) m1 op cd t = _
    have h2 : by0 a = 124 := by
      simpa [seeB] using hs
    rw [h2] at h1 ⊢
    unfold fX12_either_4B fX12_takes
    rw [bd_of h1, if_pos (show nI 124 = (124 : Int32) from rfl), bnd_q, bd_q, o_1, nI_add, nI_add]
    rfl
theorem sim_Compared {o : Nat} {ruC : Int32 → Int32 → Int32 → Int32 → (Nat → Int32) → Option T9} {ruM : (Nat → Int32) → Int32 → Int32 → Int32 → Int32 → Int32 → Int32 → (Nat → Int32) → Int32 → Option T12} {isR : Int32} (hB : BY n base byt d by0) (hS : SimP n o (fun a t f co => fX9_readSum ruC nmi n byt (nI o) a t f co) (fun a f op cd t => fX12_sum ruM d (nI base) a (nI n) f op isR cd t)) : SimP n o (fun a t f co => fX9_readCompared ruC nmi n byt (nI o) a t f co) (fun a f op cd t => fX12_compared ruM d (nI base) a (nI n) f op isR cd t) := by
  intro a t f co cd h hP
  have hn : n ≤ 50 := hB.1
  obtain ⟨a1, t1, f1, co1, cd1, g1, g2, g3, g4, g5⟩ := hS a t f co cd h hP
  have g3' := g3
  obtain ⟨p1, p2, p3, p4, p5⟩ := g3'
  have g1 : fX9_readSum ruC nmi n byt (nI o) (nI a) (nI t) f co = some (nI a1, nI t1, f1, co1) := g1
  have g2 : fX12_sum ruM d (nI base) (nI a) (nI n) f (nI o) isR cd (nI t) = some (nI a1, f1, nI o, cd1, nI t1) := g2
  by_cases hc : f1 = m1 ∧ a1 < n ∧ seeB 8 (by0 a1) = true
  · obtain ⟨hf, hlt, hse⟩ := hc
    subst hf
    obtain ⟨a2, t2, f2, co2, cd2, k1, k2, k3, k4, k5⟩ := hS (a1 + 1) t1 m1 co1 cd1 (h + 1) ⟨hlt, by omega, p3, p4, p5⟩
    have k1 : fX9_readSum ruC nmi n byt (nI o) (nI (a1 + 1)) (nI t1) m1 co1 = some (nI a2, nI t2, f2, co2) := k1
    have k2 : fX12_sum ruM d (nI base) (nI (a1 + 1)) (nI n) m1 (nI o) isR cd1 (nI t1) = some (nI a2, f2, nI o, cd2, nI t2) := k2
    have hne : by0 a1 ≠ 33 := fun e => by rw [e] at hse; exact absurd hse (by decide)
    obtain ⟨t3, co3, cd3, w1, w2, w3, w4⟩ := p_write (nmi := nmi) (byt := byt) hn k3 (show t2 < a2 by omega) (htS_op (hB.2.2 a1 hlt).1 hne (by omega))
    refine ⟨a2, t3, f2, co3, cd3, ?_, ?_, w3, by omega, by omega⟩
    · show fX9_readCompared ruC nmi n byt (nI o) (nI a) (nI t) f co = _
      unfold fX9_readCompared
      rw [bd_of g1]
      dsimp only
      rw [p_see hB (by decide) p1 p3, bd_q, b2_t ⟨rfl, hlt, hse⟩, if_neg (by decide), p_take hB hlt, bd_q]
      dsimp only
      rw [bd_of k1]
      dsimp only
      rw [o_20000, bd_of w1]
    · show fX12_compared ruM d (nI base) (nI a) (nI n) f (nI o) isR cd (nI t) = _
      have h1 := q_hy hB hlt
      have h2 : by0 a1 = 60 ∨ by0 a1 = 61 ∨ by0 a1 = 62 := by simpa [seeB, or_assoc] using hse
      have hk : fX12_compared_27 ruM (nI (by0 a1)) d (nI base) (nI a1) (nI n) m1 (nI o) isR cd1 (nI t1) = some (nI a2, f2, nI o, cd3, nI t3) := by
        unfold fX12_compared_27
        rw [bnd_q, o_1, nI_add, bd_of k2]
        dsimp only
        rw [o_20000, bd_of w2]
      unfold fX12_compared
      rw [bd_of g2]
      dsimp only
      rw [bd_of h1]
      rcases h2 with e | e | e
      · rw [e] at hk ⊢
        rw [if_pos (show nI 60 = (60 : Int32) from rfl)]
        exact hk
      · rw [e] at hk ⊢
        rw [if_neg (show ¬ nI 61 = (60 : Int32) by decide), if_pos (show nI 61 = (61 : Int32) from rfl)]
        exact hk
      · rw [e] at hk ⊢
        rw [if_neg (show ¬ nI 62 = (60 : Int32) by decide), if_neg (show ¬ nI 62 = (61 : Int32) by decide), if_pos (show nI 62 = (62 : Int32) from rfl)]
        exact hk
  · refine ⟨a1, t1, f1, co1, cd1, ?_, ?_, g3, g4, g5⟩
    · show fX9_readCompared ruC nmi n byt (nI o) (nI a) (nI t) f co = _
      unfold fX9_readCompared
      rw [bd_of g1]
      dsimp only
      rw [p_see hB (by decide) p1 p3, bd_q, b2_f hc]
      rfl
    · show fX12_compared ruM d (nI base) (nI a) (nI n) f (nI o) isR cd (nI t) = _
      obtain ⟨c, h1, h2⟩ := q_hn hB p1 p3 hc
      have hne : ∀ x, x < 256 → seeB 8 x = true → ¬ c = nI x := fun x hx hs e => by
        rcases h2 with rfl | ⟨b, hb, rfl, hse⟩
        · exact eq_m1 hx e
        · rw [nI_eq (by omega) (by omega)] at e
          rw [e, hs] at hse
          exact absurd hse (by decide)
      unfold fX12_compared
      rw [bd_of g2]
      dsimp only
      rw [bd_of h1, o_60, if_neg (hne 60 (by decide) (by decide)), o_61, if_neg (hne 61 (by decide) (by decide)), o_62, if_neg (hne 62 (by decide) (by decide))]
theorem sim_levels {o : Nat} {ruC : Int32 → Int32 → Int32 → Int32 → (Nat → Int32) → Option T9} {ruM : (Nat → Int32) → Int32 → Int32 → Int32 → Int32 → Int32 → Int32 → (Nat → Int32) → Int32 → Option T12} {isR : Int32} (hB : BY n base byt d by0) (hS : SimP n o (fun a t f co => ruC (nI o) a t f co) (fun a f op cd t => ruM d (nI base) a (nI n) f op isR cd t)) : SimP n o (fun a t f co => fX9_readAll ruC nmi n byt (nI o) a t f co) (fun a f op cd t => fX12_either ruM d (nI base) a (nI n) f op isR cd t) :=
  sim_All hB (sim_Both hB (sim_Compared hB (sim_Sum hB (sim_Product hB hS))))
end PR2
