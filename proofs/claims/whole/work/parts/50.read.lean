/-! the texts' reader: one that it reads, by depth; the whole -/
section PR4
variable {n base : Nat} {byt d : Nat → Int32} {by0 : Nat → Nat} {nmi : Nat}
theorem p_nothing {a t o : Nat} {f f' : Int32} {co : Nat → Int32} (ruC : Int32 → Int32 → Int32 → Int32 → (Nat → Int32) → Option T9) (ho : o ≤ 5) (s2 : fX9_sees nmi n byt 2 (nI a) f = some (nI 0)) (sn : fX9_sees nmi n byt nmi (nI a) f = some (nI 0)) (s34 : o = 5 ∨ (fX9_sees nmi n byt 3 (nI a) f = some (nI 0) ∧ fX9_sees nmi n byt 4 (nI a) f = some (nI 0))) (hst : fX9_stopHere nmi n byt (nI a) f = some f') : fbX9_readOne ruC nmi n byt (nI o) (nI a) (nI t) f co = some (nI a, nI t, f', co) := by
  unfold fbX9_readOne
  rw [bd_of s2, if_pos (show nI 0 = (0 : Int32) from rfl), bd_of sn, if_pos (show nI 0 = (0 : Int32) from rfl), o_5]
  unfold fX9_readOne_88
  rw [o_5]
  by_cases h5 : 5 ≤ o
  · rw [if_pos ((nI_leI (by decide) (by omega)).mpr h5), if_pos ((nI_leI (by decide) (by omega)).mpr h5), bd_of hst]
  · rcases s34 with h | ⟨s3, s4⟩
    · omega
    · rw [if_neg (fun h => h5 ((nI_leI (by decide) (by omega)).mp h)), bd_of s3, if_pos (show nI 0 = (0 : Int32) from rfl), if_neg (fun h => h5 ((nI_leI (by decide) (by omega)).mp h)), bd_of s4, if_pos (show nI 0 = (0 : Int32) from rfl), bd_of hst]
theorem sim_unit (hnm : nmi < 2) (hB : BY n base byt d by0) : ∀ k o, k + o = 8 → o ≤ 5 → SimP n o (fun a t f co => fX9_readOne nmi n byt k (nI o) a t f co) (fun a f op cd t => fX12_unit k d (nI base) a (nI n) f op (nI nmi) cd t) := by
  have hn : n ≤ 50 := hB.1
  intro k
  induction k with
  | zero => intro o h1 h2; omega
  | succ k ih =>
    intro o hko ho a t f co cd h hP
    have hP0 := hP
    obtain ⟨q1, q2, q3, q4, q5⟩ := hP0
    have hsee : ∀ si, si < 11 → fX9_sees nmi n byt si (nI a) f = some (b2 (f = m1 ∧ a < n ∧ seeB si (by0 a) = true)) := fun si hsi => p_see hB hsi q1 q3
    show ∃ (a' t' : Nat) (f' : Int32) (co' cd' : Nat → Int32), fbX9_readOne (fX9_readOne nmi n byt k) nmi n byt (nI o) (nI a) (nI t) f co = some (nI a', nI t', f', co') ∧ fbX12_unit (fX12_unit k) d (nI base) (nI a) (nI n) f (nI o) (nI nmi) cd (nI t) = some (nI a', f', nI o, cd', nI t') ∧ PS n a' t' f' co' cd' (h + 1) ∧ a ≤ a' ∧ t' + a ≤ t + a'
    by_cases hc : f = m1 ∧ a < n
    · obtain ⟨hf, hlt⟩ := hc
      subst hf
      have hb := (hB.2.2 a hlt).1
      have hh := q_hy hB hlt
      have hx := see_ex nmi hnm (by0 a) hb
      have hx3 := see_3 (by0 a) hb
      by_cases d1 : seeB 2 (by0 a) = true
      · obtain ⟨m, i, hm, hi, hai, l1, l2⟩ := p_num (nmi := nmi) (t := t) (co := co) (cd := cd) (f0 := nI nmi) (o0 := nI o) (fX12_unit k) hB hlt d1
        obtain ⟨t', co', cd', w1, w2, w3, w4⟩ := p_write (nmi := nmi) (byt := byt) (a := a + i) (v := nI m) hn ⟨hai, by omega, q3, q4, q5⟩ (by omega) (htS_num hm)
        refine ⟨a + i, t', m1, co', cd', ?_, ?_, w3, by omega, by omega⟩
        · have hrn : fX9_readNumber nmi n byt (nI a) (nI t) m1 co = some (nI (a + i), nI t', co') := by
            unfold fX9_readNumber fX9_readNumber_4
            refine (bd_of l1).trans ?_
            dsimp only
            rw [bd_of w1]
          unfold fbX9_readOne
          rw [bd_of (hsee 2 (by decide)), b2_t ⟨rfl, hlt, d1⟩, if_neg (by decide), bd_of hrn]
        · have h3 := hx.1 d1
          unfold fbX12_unit
          rw [bd_of hh, o_33, if_neg (by rw [nI_eq (by omega) (by decide)]; exact h3.2.1), o_40, if_neg (by rw [nI_eq (by omega) (by decide)]; exact h3.2.2), bd_of (nm_all nmi hnm _ hb), h3.1, if_neg (show ¬ (false = true) by decide), if_pos (show m1 < 0 by decide)]
          unfold fX12_unit_58
          refine (bd_of l2).trans ?_
          show fX12_unit_110 (fX12_unit k) (nI m) (nI i) d (nI base) (nI (a + i)) (nI n) m1 (nI o) (nI nmi) cd (nI t) = _
          unfold fX12_unit_110
          rw [o_0, if_neg (by rw [nI_eq (by omega) (by decide)]; omega), bd_of w2]
      · by_cases d2 : seeB nmi (by0 a) = true
        · have hix := ixN_le nmi (by0 a)
          obtain ⟨t', co', cd', w1, w2, w3, w4⟩ := p_write (nmi := nmi) (byt := byt) (a := a + 1) (v := nI (10000 + ixN nmi (by0 a))) hn ⟨hlt, by omega, q3, q4, q5⟩ (by omega) (htS_nam hix)
          refine ⟨a + 1, t', m1, co', cd', ?_, ?_, w3, by omega, by omega⟩
          · unfold fbX9_readOne
            rw [bd_of (hsee 2 (by decide)), b2_f (fun h => d1 h.2.2), if_pos (show nI 0 = (0 : Int32) from rfl), bd_of (hsee nmi (by omega)), b2_t ⟨rfl, hlt, d2⟩, if_neg (by decide), bd_of (p_take hB hlt)]
            dsimp only
            rw [ck_s (show nmi < 11 by omega), bd_of (ix_nm nmi hnm _ hb d2), o_10000, nI_add, bd_of w1]
          · have h3 := hx.2.1 d2
            unfold fbX12_unit
            rw [bd_of hh, o_33, if_neg (by rw [nI_eq (by omega) (by decide)]; exact h3.1), o_40, if_neg (by rw [nI_eq (by omega) (by decide)]; exact h3.2), bd_of (nm_all nmi hnm _ hb), d2, if_pos rfl, o_0, if_neg (by rw [nI_ltI (by omega) (by decide)]; omega), bnd_q, o_1, nI_add, o_10000, nI_add, bd_of w2]
        · have s2 : fX9_sees nmi n byt 2 (nI a) m1 = some (nI 0) := by rw [hsee 2 (by decide), b2_f (fun h => d1 h.2.2)]
          have sn : fX9_sees nmi n byt nmi (nI a) m1 = some (nI 0) := by rw [hsee nmi (by omega), b2_f (fun h => d2 h.2.2)]
          have e1 : seeB 2 (by0 a) = false := by
            cases e : seeB 2 (by0 a) with
            | false => rfl
            | true => exact absurd e d1
          have e2 : seeB nmi (by0 a) = false := by
            cases e : seeB nmi (by0 a) with
            | false => rfl
            | true => exact absurd e d2
          obtain ⟨f', st1, st2, st3, st4⟩ := p_stop (nmi := nmi) (byt := byt) hn hP
          by_cases d34 : by0 a = 33 ∨ by0 a = 40
          · by_cases h5 : o = 5
            · -- too deep
              refine ⟨a, t, f', co, cd, p_nothing _ ho s2 sn (Or.inl h5) st1, ?_, st4 _, Nat.le_refl _, Nat.le_refl _⟩
              subst h5
              have hop : ∀ kk, fX12_opens (fX12_unit k) kk d (nI base) (nI a) (nI n) m1 (nI 5) (nI nmi) cd (nI t) = some (nI a, f', nI 5, cd, nI t) := fun kk => by
                unfold fX12_opens
                rw [if_pos (show nI 5 = (5 : Int32) from rfl), bd_of st2]
              unfold fbX12_unit
              rw [bd_of hh]
              rcases d34 with e | e
              · rw [e, if_pos (show nI 33 = (33 : Int32) from rfl), bd_of (hop _)]
              · rw [e, if_neg (show ¬ nI 40 = (33 : Int32) by decide), if_pos (show nI 40 = (40 : Int32) from rfl), bd_of (hop _)]
            · have hS := ih (o + 1) (by omega) (by omega)
              have hge : ¬ (5 : Int32) ≤ nI o := by
                rw [o_5, nI_leI (by decide) (by omega)]
                omega
              have hne5 : ¬ nI o = (5 : Int32) := by
                rw [o_5, nI_eq (by omega) (by decide)]
                exact h5
              rcases d34 with e | e
              · -- a not
                obtain ⟨a2, t2, f2, co2, cd2, g1, g2, g3, g4, g5⟩ := hS (a + 1) t m1 co cd h ⟨hlt, by omega, q3, q4, q5⟩
                have g1 : fX9_readOne nmi n byt k (nI (o + 1)) (nI (a + 1)) (nI t) m1 co = some (nI a2, nI t2, f2, co2) := g1
                have g2 : fX12_unit k d (nI base) (nI (a + 1)) (nI n) m1 (nI (o + 1)) (nI nmi) cd (nI t) = some (nI a2, f2, nI (o + 1), cd2, nI t2) := g2
                obtain ⟨t3, co3, cd3, w1, w2, w3, w4⟩ := p_write (nmi := nmi) (byt := byt) (v := nI 20033) hn g3 (show t2 < a2 by omega) (htS_not (by omega))
                refine ⟨a2, t3, f2, co3, cd3, ?_, ?_, w3, by omega, by omega⟩
                · unfold fbX9_readOne
                  rw [bd_of s2, if_pos (show nI 0 = (0 : Int32) from rfl), bd_of sn, if_pos (show nI 0 = (0 : Int32) from rfl), if_neg hge, bd_of (hsee 3 (by decide)), b2_t ⟨rfl, hlt, hx3.1.mpr e⟩, if_neg (by decide), bd_of (p_take hB hlt)]
                  dsimp only
                  rw [o_1, nI_add, bd_of g1]
                  dsimp only
                  rw [e, o_20000, nI_add, bd_of w1]
                · unfold fbX12_unit
                  rw [bd_of hh, e, if_pos (show nI 33 = (33 : Int32) from rfl)]
                  unfold fX12_opens
                  rw [if_neg hne5, bnd_q, bnd_q, if_pos (show nI 33 = (33 : Int32) from rfl), o_1, nI_add, nI_add, bd_of g2]
                  dsimp only
                  rw [o_20033, bd_of w2]
                  dsimp only
                  unfold fX12_opens_70
                  rw [bnd_q, o_1, pk_sub (by omega)]
                  rfl
              · -- a bracket
                have hA := sim_levels (nmi := nmi) hB (ruC := fX9_readOne nmi n byt k) (ruM := fX12_unit k) (isR := nI nmi) hS
                obtain ⟨a2, t2, f2, co2, cd2, g1, g2, g3, g4, g5⟩ := hA (a + 1) t m1 co cd h ⟨hlt, by omega, q3, q4, q5⟩
                have g1 : fX9_readAll (fX9_readOne nmi n byt k) nmi n byt (nI (o + 1)) (nI (a + 1)) (nI t) m1 co = some (nI a2, nI t2, f2, co2) := g1
                have g2 : fX12_either (fX12_unit k) d (nI base) (nI (a + 1)) (nI n) m1 (nI (o + 1)) (nI nmi) cd (nI t) = some (nI a2, f2, nI (o + 1), cd2, nI t2) := g2
                have g3' := g3
                obtain ⟨p1, p2, p3, p4, p5⟩ := g3'
                have s5 := p_see (nmi := nmi) (si := 5) hB (by decide) p1 p3
                have hx40 := hx.2.2.2 e
                have s3 : fX9_sees nmi n byt 3 (nI a) m1 = some (nI 0) := by rw [hsee 3 (by decide), b2_f (fun h => by rw [hx40.2.2] at h; exact absurd h.2.2 (by decide))]
                by_cases hc5 : f2 = m1 ∧ a2 < n ∧ seeB 5 (by0 a2) = true
                · obtain ⟨hf2, hl2, hs2⟩ := hc5
                  subst hf2
                  have hh2 := q_hy hB hl2
                  have e41 := (see_3 (by0 a2) (hB.2.2 a2 hl2).1).2.2.1.mp hs2
                  refine ⟨a2 + 1, t2, m1, co2, cd2, ?_, ?_, ⟨hl2, by omega, p3, p4, p5⟩, by omega, by omega⟩
                  · unfold fbX9_readOne
                    rw [bd_of s2, if_pos (show nI 0 = (0 : Int32) from rfl), bd_of sn, if_pos (show nI 0 = (0 : Int32) from rfl), if_neg hge, bd_of s3, if_pos (show nI 0 = (0 : Int32) from rfl)]
                    unfold fX9_readOne_88
                    rw [if_neg hge, bd_of (hsee 4 (by decide)), b2_t ⟨rfl, hlt, hx3.2.1.mpr e⟩, if_neg (by decide), bd_of (p_take hB hlt)]
                    dsimp only
                    rw [o_1, nI_add, bd_of g1]
                    dsimp only
                    rw [bd_of s5, b2_t ⟨rfl, hl2, hs2⟩, if_neg (by decide), bd_of (p_take hB hl2)]
                  · unfold fbX12_unit
                    rw [bd_of hh, e, if_neg (show ¬ nI 40 = (33 : Int32) by decide), if_pos (show nI 40 = (40 : Int32) from rfl)]
                    unfold fX12_opens
                    rw [if_neg hne5, bnd_q, bnd_q, if_neg (show ¬ nI 40 = (33 : Int32) by decide), o_1, nI_add, nI_add, bd_of g2]
                    dsimp only
                    unfold fX12_takes
                    rw [bd_of hh2, e41, if_pos (show nI 41 = (41 : Int32) from rfl), bnd_q, bd_q]
                    dsimp only
                    rw [if_neg (by decide)]
                    unfold fX12_opens_70
                    rw [bnd_q, bd_q, o_1, nI_add, pk_sub (by omega)]
                    rfl
                · obtain ⟨f3, u1, u2, u3, u4⟩ := p_stop (nmi := nmi) (byt := byt) hn g3
                  obtain ⟨c, k1, k2⟩ := q_hn (si := 5) hB p1 p3 hc5
                  have hc41 : ¬ c = (41 : Int32) := by
                    rw [o_41]
                    rcases k2 with rfl | ⟨b, hb5, rfl, hs⟩
                    · exact eq_m1 (by decide)
                    · rw [nI_eq (by omega) (by decide)]
                      intro e5
                      subst e5
                      exact absurd hs (by decide)
                  refine ⟨a2, t2, f3, co2, cd2, ?_, ?_, u4 _, by omega, by omega⟩
                  · unfold fbX9_readOne
                    rw [bd_of s2, if_pos (show nI 0 = (0 : Int32) from rfl), bd_of sn, if_pos (show nI 0 = (0 : Int32) from rfl), if_neg hge, bd_of s3, if_pos (show nI 0 = (0 : Int32) from rfl)]
                    unfold fX9_readOne_88
                    rw [if_neg hge, bd_of (hsee 4 (by decide)), b2_t ⟨rfl, hlt, hx3.2.1.mpr e⟩, if_neg (by decide), bd_of (p_take hB hlt)]
                    dsimp only
                    rw [o_1, nI_add, bd_of g1]
                    dsimp only
                    rw [bd_of s5, b2_f hc5, if_pos (show nI 0 = (0 : Int32) from rfl), bd_of u1]
                  · unfold fbX12_unit
                    rw [bd_of hh, e, if_neg (show ¬ nI 40 = (33 : Int32) by decide), if_pos (show nI 40 = (40 : Int32) from rfl)]
                    unfold fX12_opens
                    rw [if_neg hne5, bnd_q, bnd_q, if_neg (show ¬ nI 40 = (33 : Int32) by decide), o_1, nI_add, nI_add, bd_of g2]
                    dsimp only
                    unfold fX12_takes
                    rw [bd_of k1, if_neg hc41, bd_q]
                    dsimp only
                    rw [if_pos (show (0 : Int32) = 0 from rfl), bd_of u2]
                    unfold fX12_opens_70
                    rw [bnd_q, bd_q, o_1, pk_sub (by omega)]
                    rfl
          · have s3 : fX9_sees nmi n byt 3 (nI a) m1 = some (nI 0) := by rw [hsee 3 (by decide), b2_f (fun h => d34 (Or.inl (hx3.1.mp h.2.2)))]
            have s4 : fX9_sees nmi n byt 4 (nI a) m1 = some (nI 0) := by rw [hsee 4 (by decide), b2_f (fun h => d34 (Or.inr (hx3.2.1.mp h.2.2)))]
            exact ⟨a, t, f', co, cd, p_nothing _ ho s2 sn (Or.inr ⟨s3, s4⟩) st1, q_nothing _ hnm hh (Or.inr ⟨by0 a, hb, rfl, fun e => d34 (Or.inl e), fun e => d34 (Or.inr e), e1, e2⟩) st2 st3 hn, st4 _, Nat.le_refl _, Nat.le_refl _⟩
    · have hz : ∀ si, si < 11 → fX9_sees nmi n byt si (nI a) f = some (nI 0) := fun si hsi => by rw [hsee si hsi, b2_f (fun h => hc ⟨h.1, h.2.1⟩)]
      obtain ⟨f', st1, st2, st3, st4⟩ := p_stop (nmi := nmi) (byt := byt) hn hP
      have hh := q_here hB q1 q3
      rw [if_neg hc] at hh
      exact ⟨a, t, f', co, cd, p_nothing _ ho (hz 2 (by decide)) (hz nmi (by omega)) (Or.inr ⟨hz 3 (by decide), hz 4 (by decide)⟩) st1, q_nothing _ hnm hh (Or.inl rfl) st2 st3 hn, st4 _, Nat.le_refl _, Nat.le_refl _⟩
/-- what is read: as a text, or a fault -/
theorem sim_read (hnm : nmi < 2) (hB : BY n base byt d by0) (co cd : Nat → Int32) : ∃ (a t : Nat) (f : Int32) (co' cd' : Nat → Int32), fX9_readAll (fX9_readOne nmi n byt 8) nmi n byt (nI 0) (nI 0) (nI 0) m1 co = some (nI a, nI t, f, co') ∧ fX12_either (fX12_unit 8) d (nI base) (nI 0) (nI n) m1 (nI 0) (nI nmi) cd (nI 0) = some (nI a, f, nI 0, cd', nI t) ∧ PS n a t f co' cd' 1 := by
  have hS := sim_unit hnm hB 8 0 rfl (by decide)
  obtain ⟨a, t, f, co', cd', g1, g2, g3, -, -⟩ := sim_levels (nmi := nmi) hB (ruC := fX9_readOne nmi n byt 8) (ruM := fX12_unit 8) (isR := nI nmi) hS 0 0 m1 co cd 0 ⟨Nat.zero_le _, Nat.le_refl _, Or.inl rfl, fun j hj => by omega, fun _ => rfl⟩
  exact ⟨a, t, f, co', cd', g1, g2, g3⟩
end PR4
