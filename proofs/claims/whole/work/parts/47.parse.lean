/-! the texts' reader: the class and the reference side by side -/
def htS (v : Int32) (h : Nat) : Option Nat := if v < nI 10000 then some (h + 1) else if v = nI 10000 ∨ v = nI 10001 ∨ v = nI 10002 then some (h + 1) else if v < nI 20000 then none else if v = nI 20033 then (if 1 ≤ h then some h else none) else if 2 ≤ h then some (h - 1) else none
/-- how high the pile is behind n codes -/
def htF (co : Nat → Int32) : Nat → Option Nat
  | 0 => some 0
  | n + 1 => match htF co n with
    | none => none
    | some h => htS (co n) h
theorem htF_cong {co cd : Nat → Int32} : ∀ {n : Nat}, (∀ j, j < n → co j = cd j) → htF co n = htF cd n
  | 0, _ => rfl
  | n + 1, h => by
    show (match htF co n with | none => none | some x => htS (co n) x) = (match htF cd n with | none => none | some x => htS (cd n) x)
    rw [htF_cong (n := n) fun j hj => h j (by omega), h n (by omega)]
theorem htF_s {co : Nat → Int32} {n h : Nat} (e : htF co n = some h) : htF co (n + 1) = htS (co n) h := by
  show (match htF co n with | none => none | some x => htS (co n) x) = _
  rw [e]
def m1 : Int32 := nI 0 - nI 1
theorem m1_neg : ¬ nI 0 ≤ m1 := by decide
theorem m1_ne (j : Nat) (h : j < 2 ^ 31) : nI j ≠ m1 := fun e => by
  have h1 : (nI j).toInt = m1.toInt := congrArg Int32.toInt e
  rw [nI_toInt h, show m1.toInt = -1 by decide] at h1
  omega
/-- a reader's state: place, codes, fault -/
def PS (n a t : Nat) (f : Int32) (co cd : Nat → Int32) (h : Nat) : Prop := a ≤ n ∧ t ≤ a ∧ (f = m1 ∨ ∃ j, j ≤ n ∧ f = nI j) ∧ (∀ j, j < t → co j = cd j) ∧ (f = m1 → htF co t = some h)
def seeB (si c : Nat) : Bool := match si with
  | 0 => c == 107 || c == 119 || c == 115
  | 1 => c == 114 || c == 115 || c == 110
  | 2 => decide (48 ≤ c) && decide (c ≤ 57)
  | 3 => c == 33
  | 4 => c == 40
  | 5 => c == 41
  | 6 => c == 42 || c == 47 || c == 37
  | 7 => c == 43 || c == 45
  | 8 => c == 60 || c == 61 || c == 62
  | 9 => c == 38
  | _ => c == 124
theorem ix_all : ∀ si, si < 11 → ∀ c, c < 256 → (match fJ0_indexOf_0f7a4 si (i2cJ (nI c)) with | none => false | some r => (decide (r < nI 0) == !seeB si c)) = true := by decide +kernel
theorem ix_see {si c : Nat} (hs : si < 11) (hc : c < 256) : ∃ r, fJ0_indexOf_0f7a4 si (i2cJ (nI c)) = some r ∧ (r < nI 0 ↔ seeB si c = false) := by
  have h := ix_all si hs c hc
  cases e : fJ0_indexOf_0f7a4 si (i2cJ (nI c)) with
  | none => rw [e] at h; cases h
  | some r =>
    rw [e] at h
    refine ⟨r, rfl, ?_⟩
    have h : (decide (r < nI 0) == !seeB si c) = true := h
    rw [beq_iff_eq] at h
    by_cases h2 : r < nI 0
    · rw [decide_eq_true h2] at h
      have : seeB si c = false := by
        cases h3 : seeB si c with
        | false => rfl
        | true => rw [h3] at h; cases h
      simp [h2, this]
    · rw [decide_eq_false h2] at h
      have : seeB si c = true := by
        cases h3 : seeB si c with
        | true => rfl
        | false => rw [h3] at h; cases h
      simp [h2, this]
theorem ix_nm0 : ∀ c, c < 256 → seeB 0 c = true → fJ0_indexOf_0f7a4 0 (i2cJ (nI c)) = some (if c = 107 then nI 0 else if c = 119 then nI 1 else nI 2) := by decide +kernel
theorem ix_nm1 : ∀ c, c < 256 → seeB 1 c = true → fJ0_indexOf_0f7a4 1 (i2cJ (nI c)) = some (if c = 114 then nI 0 else if c = 115 then nI 1 else nI 2) := by decide +kernel
section PR
variable {n base : Nat} {byt d : Nat → Int32} {by0 : Nat → Nat} {nmi : Nat}
/-- the tape's bytes, on both sides -/
def BY (n base : Nat) (byt d : Nat → Int32) (by0 : Nat → Nat) : Prop := n ≤ 50 ∧ base + n ≤ 326 ∧ ∀ j, j < n → by0 j < 256 ∧ byt j = nI (by0 j) ∧ d (base + j) = nI (by0 j)
theorem p_see {si a : Nat} {f : Int32} (hB : BY n base byt d by0) (hs : si < 11) (ha : a ≤ n) (hf : f = m1 ∨ ∃ j, j ≤ n ∧ f = nI j) : fX9_sees nmi n byt si (nI a) f = some (b2 (f = m1 ∧ a < n ∧ seeB si (by0 a) = true)) := by
  obtain ⟨hn, hb, hby⟩ := hB
  unfold fX9_sees
  rw [o_0]
  rcases hf with rfl | ⟨j, hj, rfl⟩
  · rw [if_neg m1_neg]
    by_cases h : a < n
    · obtain ⟨h1, h2, -⟩ := hby a h
      obtain ⟨r, h3, h4⟩ := ix_see hs h1
      rw [if_neg (by rw [nI_leI (by omega) (by omega)]; omega), ckI_s h (by omega), ck_s hs, nI_clamp (by omega), h2, bd_of h3]
      by_cases h5 : r < nI 0
      · rw [if_pos h5, b2_f (fun h6 => by rw [h4.mp h5] at h6; exact absurd h6.2.2 (by decide))]
      · rw [if_neg h5, b2_t ⟨rfl, h, by cases h7 : seeB si (by0 a) with | true => rfl | false => exact absurd (h4.mpr h7) h5⟩]
        rfl
    · rw [if_pos (by rw [nI_leI (by omega) (by omega)]; omega), b2_f (fun h6 => h h6.2.1)]
  · rw [if_pos (by rw [nI_leI (by decide) (by omega)]; omega), b2_f (fun h6 => m1_ne j (by omega) h6.1)]
theorem p_take {a : Nat} (hB : BY n base byt d by0) (ha : a < n) : fX9_take nmi n byt (nI a) = some (nI (by0 a), nI (a + 1)) := by
  obtain ⟨hn, hb, hby⟩ := hB
  obtain ⟨h1, h2, -⟩ := hby a ha
  simp (disch := omega) only [fX9_take, h2, if_true, if_false, nI_add, pk_mul, nI_clamp, nI_leI, nI_ltI, nI_eq, ckI_s, bd_q, bnd_q, if_pos, if_neg, o_0, o_1, o_2, o_3, o_4, o_5, o_6, o_7, o_8, o_9, o_10, o_11, o_12, o_13, o_14, o_15, o_16, o_17, o_18, o_19, o_20, o_21, o_22, o_23, o_24, o_25, o_26, o_27, o_28, o_29, o_30, o_31, o_32, o_33, o_34, o_35, o_36, o_37, o_38, o_39, o_40, o_41, o_42, o_43, o_44, o_45, o_46, o_47, o_48, o_49, o_50, o_51, o_52, o_53, o_54, o_55, o_56, o_57, o_58, o_59, o_60, o_62, o_70, o_71, o_99, o_124, o_154, o_156, o_176, o_255, o_276, o_326, o_4095, o_9999, o_10000, o_10001, o_20000, o_20033]
theorem q_here {a : Nat} {f : Int32} (hB : BY n base byt d by0) (ha : a ≤ n) (hf : f = m1 ∨ ∃ j, j ≤ n ∧ f = nI j) : fX12_here d (nI base) (nI a) (nI n) f = some (if f = m1 ∧ a < n then nI (by0 a) else m1) := by
  obtain ⟨hn, hb, hby⟩ := hB
  unfold fX12_here
  by_cases h : a < n
  · rw [if_neg (by rw [nI_leI (by omega) (by omega)]; omega), o_0]
    rcases hf with rfl | ⟨j, hj, rfl⟩
    · obtain ⟨h1, -, h2⟩ := hby a h
      rw [if_neg m1_neg, if_pos ⟨rfl, h⟩, nI_add, ckI_s (by omega) (by omega), nI_clamp (by omega), h2]
    · rw [if_pos (by rw [nI_leI (by decide) (by omega)]; omega), if_neg (fun h6 => m1_ne j (by omega) h6.1)]
      rfl
  · rw [if_pos (by rw [nI_leI (by omega) (by omega)]; omega), if_neg (fun h6 => h h6.2)]
    rfl
/-- one more code, on both sides -/
theorem p_write {a t : Nat} {f : Int32} {co cd : Nat → Int32} {h h' : Nat} {v : Int32} (hn : n ≤ 50) (hP : PS n a t f co cd h) (hta : t < a) (hv : htS v h = some h') : ∃ t' co' cd', fX9_write nmi n byt v (nI t) f co = some (nI t', co') ∧ fX12_lay v f cd (nI t) = some (cd', nI t') ∧ PS n a t' f co' cd' h' ∧ t' ≤ t + 1 := by
  obtain ⟨p1, p2, p3, p4, p5⟩ := hP
  rcases p3 with rfl | ⟨j, hj, rfl⟩
  · refine ⟨t + 1, upd co t v, upd cd t v, ?_, ?_, ⟨p1, by omega, Or.inl rfl, fun j hj => ?_, fun _ => ?_⟩, Nat.le_refl _⟩
    · unfold fX9_write
      rw [o_0, if_neg m1_neg]
      simp (disch := omega) only [if_true, if_false, nI_add, pk_mul, nI_clamp, nI_leI, nI_ltI, nI_eq, ckI_s, bd_q, bnd_q, if_pos, if_neg, o_0, o_1, o_2, o_3, o_4, o_5, o_6, o_7, o_8, o_9, o_10, o_11, o_12, o_13, o_14, o_15, o_16, o_17, o_18, o_19, o_20, o_21, o_22, o_23, o_24, o_25, o_26, o_27, o_28, o_29, o_30, o_31, o_32, o_33, o_34, o_35, o_36, o_37, o_38, o_39, o_40, o_41, o_42, o_43, o_44, o_45, o_46, o_47, o_48, o_49, o_50, o_51, o_52, o_53, o_54, o_55, o_56, o_57, o_58, o_59, o_60, o_62, o_70, o_71, o_99, o_124, o_154, o_156, o_176, o_255, o_276, o_326, o_4095, o_9999, o_10000, o_10001, o_20000, o_20033]
    · unfold fX12_lay
      rw [o_0, if_neg m1_neg]
      simp (disch := omega) only [if_true, if_false, nI_add, pk_mul, nI_clamp, nI_leI, nI_ltI, nI_eq, ckI_s, bd_q, bnd_q, if_pos, if_neg, o_0, o_1, o_2, o_3, o_4, o_5, o_6, o_7, o_8, o_9, o_10, o_11, o_12, o_13, o_14, o_15, o_16, o_17, o_18, o_19, o_20, o_21, o_22, o_23, o_24, o_25, o_26, o_27, o_28, o_29, o_30, o_31, o_32, o_33, o_34, o_35, o_36, o_37, o_38, o_39, o_40, o_41, o_42, o_43, o_44, o_45, o_46, o_47, o_48, o_49, o_50, o_51, o_52, o_53, o_54, o_55, o_56, o_57, o_58, o_59, o_60, o_62, o_70, o_71, o_99, o_124, o_154, o_156, o_176, o_255, o_276, o_326, o_4095, o_9999, o_10000, o_10001, o_20000, o_20033]
    · by_cases h1 : j = t
      · subst h1
        rw [upd_s, upd_s]
      · rw [upd_n h1, upd_n h1]
        exact p4 j (by omega)
    · have e1 : htF (upd co t v) t = some h := by
        rw [htF_cong (cd := co) fun j hj => upd_n (by omega)]
        exact p5 rfl
      rw [htF_s e1, upd_s, hv]
  · refine ⟨t, co, cd, ?_, ?_, ⟨p1, p2, Or.inr ⟨j, hj, rfl⟩, p4, fun e => absurd e (m1_ne j (by omega))⟩, by omega⟩
    · unfold fX9_write
      rw [o_0, if_pos (by rw [nI_leI (by decide) (by omega)]; omega)]
    · unfold fX12_lay
      rw [o_0, if_pos (by rw [nI_leI (by decide) (by omega)]; omega)]
abbrev T9 : Type := Int32 × Int32 × Int32 × (Nat → Int32)
abbrev T12 : Type := Int32 × Int32 × Int32 × (Nat → Int32) × Int32
/-- a piece of the class's reader and one of the reference's go alike -/
def SimP (n o : Nat) (C : Int32 → Int32 → Int32 → (Nat → Int32) → Option T9) (M : Int32 → Int32 → Int32 → (Nat → Int32) → Int32 → Option T12) : Prop :=
  ∀ (a t : Nat) (f : Int32) (co cd : Nat → Int32) (h : Nat), PS n a t f co cd h → ∃ (a' t' : Nat) (f' : Int32) (co' cd' : Nat → Int32), C (nI a) (nI t) f co = some (nI a', nI t', f', co') ∧ M (nI a) f (nI o) cd (nI t) = some (nI a', f', nI o, cd', nI t') ∧ PS n a' t' f' co' cd' (h + 1) ∧ a ≤ a' ∧ t' + a ≤ t + a'
theorem htS_op {c h : Nat} (hc : c < 256) (h33 : c ≠ 33) (hh : 2 ≤ h) : htS (nI 20000 + nI c) h = some (h - 1) := by
  rw [nI_add]
  unfold htS
  simp (disch := omega) only [if_true, if_false, nI_add, pk_mul, nI_clamp, nI_leI, nI_ltI, nI_eq, ckI_s, bd_q, bnd_q, if_pos, if_neg, o_0, o_1, o_2, o_3, o_4, o_5, o_6, o_7, o_8, o_9, o_10, o_11, o_12, o_13, o_14, o_15, o_16, o_17, o_18, o_19, o_20, o_21, o_22, o_23, o_24, o_25, o_26, o_27, o_28, o_29, o_30, o_31, o_32, o_33, o_34, o_35, o_36, o_37, o_38, o_39, o_40, o_41, o_42, o_43, o_44, o_45, o_46, o_47, o_48, o_49, o_50, o_51, o_52, o_53, o_54, o_55, o_56, o_57, o_58, o_59, o_60, o_62, o_70, o_71, o_99, o_124, o_154, o_156, o_176, o_255, o_276, o_326, o_4095, o_9999, o_10000, o_10001, o_20000, o_20033]
theorem sim_loop {o si : Nat} {C : Int32 → Int32 → Int32 → (Nat → Int32) → Option T9} {M : Int32 → Int32 → Int32 → (Nat → Int32) → Int32 → Option T12} (hB : BY n base byt d by0) (hsi : si < 11) (h33 : ∀ c, seeB si c = true → c ≠ 33) (hS : SimP n o C M)
    (b9 : Int32 × T9 → Option ((Int32 × T9) ⊕ (Int32 × T9))) (b12 : T12 → Option (T12 ⊕ T12))
    (h9 : ∀ s, b9 s = (if (50 : Int32) ≤ s.1 then some (.inr s) else bd (fX9_sees nmi n byt si s.2.1 s.2.2.2.1) fun r => (if r = 0 then some (.inr s) else bd (fX9_take nmi n byt s.2.1) fun q => bd (C q.2 s.2.2.1 s.2.2.2.1 s.2.2.2.2) fun x => bd (fX9_write nmi n byt ((20000 : Int32) + q.1) x.2.1 x.2.2.1 x.2.2.2) fun y => bnd (s.1 + (1 : Int32)) fun z => some (.inl (z, x.1, y.1, x.2.2.1, y.2)))))
    (hno : ∀ (a : Nat) (f op : Int32) (cd : Nat → Int32) (t : Int32), a ≤ n → (f = m1 ∨ ∃ j, j ≤ n ∧ f = nI j) → ¬ (f = m1 ∧ a < n ∧ seeB si (by0 a) = true) → b12 (nI a, f, op, cd, t) = some (.inr (nI a, f, op, cd, t)))
    (hyes : ∀ (a : Nat) (op : Int32) (cd : Nat → Int32) (t : Int32), a < n → seeB si (by0 a) = true → b12 (nI a, m1, op, cd, t) = bd (M (nI (a + 1)) m1 op cd t) fun x => bd (fX12_lay (nI 20000 + nI (by0 a)) x.2.1 x.2.2.2.1 x.2.2.2.2) fun y => some (.inl (x.1, x.2.1, x.2.2.1, y.1, y.2)))
    (a t : Nat) (f : Int32) (co cd : Nat → Int32) (h : Nat) (hP : PS n a t f co cd (h + 1)) : ∃ (v : Int32) (a' t' : Nat) (f' : Int32) (co' cd' : Nat → Int32), lp b9 FU (nI 0, nI a, nI t, f, co) = some (v, nI a', nI t', f', co') ∧ lp b12 FU (nI a, f, nI o, cd, nI t) = some (nI a', f', nI o, cd', nI t') ∧ PS n a' t' f' co' cd' (h + 1) ∧ a ≤ a' ∧ t' + a ≤ t + a' := by
  have hn : n ≤ 50 := hB.1
  obtain ⟨r, q, h1, h2, v, a', t', f', co', cd', e1, e2, e3⟩ := lpQ b9 b12 (fun i s u => ∃ (a1 t1 : Nat) (f1 : Int32) (co1 cd1 : Nat → Int32), s = (nI i, nI a1, nI t1, f1, co1) ∧ u = (nI a1, f1, nI o, cd1, nI t1) ∧ PS n a1 t1 f1 co1 cd1 (h + 1) ∧ a + i ≤ a1 ∧ t1 + a ≤ t + a1)
    (fun r q => ∃ (v : Int32) (a1 t1 : Nat) (f1 : Int32) (co1 cd1 : Nat → Int32), r = (v, nI a1, nI t1, f1, co1) ∧ q = (nI a1, f1, nI o, cd1, nI t1) ∧ PS n a1 t1 f1 co1 cd1 (h + 1) ∧ a ≤ a1 ∧ t1 + a ≤ t + a1) 50
    (fun i s u hi hI => by
      obtain ⟨a1, t1, f1, co1, cd1, rfl, rfl, hP1, hai, hta⟩ := hI
      have hP0 := hP1
      obtain ⟨p1, p2, p3, p4, p5⟩ := hP0
      by_cases hc : f1 = m1 ∧ a1 < n ∧ seeB si (by0 a1) = true
      · obtain ⟨hf, hlt, hse⟩ := hc
        subst hf
        obtain ⟨hby, -, -⟩ := hB.2.2 a1 hlt
        obtain ⟨a2, t2, f2, co2, cd2, g1, g2, g3, g4, g5⟩ := hS (a1 + 1) t1 m1 co1 cd1 (h + 1) ⟨hlt, by omega, p3, p4, p5⟩
        obtain ⟨t3, co3, cd3, w1, w2, w3, w4⟩ := p_write (nmi := nmi) (byt := byt) hn g3 (show t2 < a2 by omega) (htS_op hby (h33 _ hse) (by omega))
        refine Or.inl ⟨(nI (i + 1), nI a2, nI t3, f2, co3), (nI a2, f2, nI o, cd3, nI t3), ?_, ?_, a2, t3, f2, co3, cd3, rfl, rfl, w3, by omega, by omega⟩
        · rw [h9]
          dsimp only
          rw [o_50, if_neg (by rw [nI_leI (by omega) (by omega)]; omega), p_see hB hsi p1 p3, bd_q, b2_t ⟨rfl, hlt, hse⟩, if_neg (by decide), p_take hB hlt, bd_q]
          dsimp only
          rw [bd_of g1]
          dsimp only
          rw [o_20000, bd_of w1, bnd_q, o_1, nI_add]
        · rw [hyes a1 _ _ _ hlt hse, bd_of g2]
          dsimp only
          rw [bd_of w2]
      · refine Or.inr ⟨(nI i, nI a1, nI t1, f1, co1), (nI a1, f1, nI o, cd1, nI t1), ?_, hno a1 f1 _ _ _ p1 p3 hc, _, a1, t1, f1, co1, cd1, rfl, rfl, hP1, by omega, hta⟩
        rw [h9]
        dsimp only
        rw [o_50, if_neg (by rw [nI_leI (by omega) (by omega)]; omega), p_see hB hsi p1 p3, bd_q, b2_f hc]
        rfl)
    (fun s u hI => by
      obtain ⟨a1, t1, f1, co1, cd1, rfl, rfl, hP1, hai, hta⟩ := hI
      have hP0 := hP1
      obtain ⟨p1, p2, p3, p4, p5⟩ := hP0
      refine ⟨(nI 50, nI a1, nI t1, f1, co1), (nI a1, f1, nI o, cd1, nI t1), ?_, hno a1 f1 _ _ _ p1 p3 (fun h => by omega), _, a1, t1, f1, co1, cd1, rfl, rfl, hP1, by omega, hta⟩
      rw [h9]
      rfl)
    (FU_lt (by decide)) (nI 0, nI a, nI t, f, co) (nI a, f, nI o, cd, nI t) ⟨a, t, f, co, cd, rfl, rfl, hP, by omega, by omega⟩
  subst e1
  subst e2
  exact ⟨v, a', t', f', co', cd', h1, h2, e3⟩
end PR
