/-! what a text works out, on both sides -/
def jnV (sg v w : Int32) : Int32 := (fX9_joined sg v w).getD 0
theorem jn_c (sg v w : Int32) : fX9_joined sg v w = some (jnV sg v w) := by
  have h : ∃ r, fX9_joined sg v w = some r := by
    unfold fX9_joined
    repeat' split
    all_goals first
      | exact ⟨_, rfl⟩
      | (rename_i h; exact ⟨_, ck_s h⟩)
  obtain ⟨r, h⟩ := h
  unfold jnV
  rw [h]
  rfl
theorem jn_m (sg v w : Int32) : fX12_done sg v w = some (jnV sg v w) := jn_c sg v w
def nmV (x a b c : Int32) : Int32 := if x = nI 10000 then a else if x = nI 10001 then b else c
def hgt (co : Nat → Int32) (k : Nat) : Nat := (htF co k).getD 0
/-- the pile behind k codes -/
def exS (co : Nat → Int32) (a b c : Int32) : Nat → (Nat → Int32)
  | 0 => fun _ => 0
  | k + 1 => if co k < nI 10000 then upd (exS co a b c k) (hgt co k) (co k) else if co k < nI 20000 then upd (exS co a b c k) (hgt co k) (nmV (co k) a b c) else if co k = nI 20033 then upd (exS co a b c k) (hgt co k - 1) (if exS co a b c k (hgt co k - 1) = 0 then nI 1 else nI 0) else upd (exS co a b c k) (hgt co k - 2) (jnV (co k - nI 20000) (exS co a b c k (hgt co k - 2)) (exS co a b c k (hgt co k - 1)))
theorem htF_pre {co : Nat → Int32} {i h : Nat} (e : htF co (i + 1) = some h) : ∃ g, htF co i = some g ∧ htS (co i) g = some h := by
  cases e1 : htF co i with
  | none =>
    have e2 : (match htF co i with | none => none | some x => htS (co i) x) = some h := e
    rw [e1] at e2
    cases e2
  | some g => exact ⟨g, rfl, (htF_s e1).symm.trans e⟩
theorem htF_all {co : Nat → Int32} : ∀ {n h : Nat}, htF co n = some h → ∀ i, i ≤ n → ∃ g, htF co i = some g
  | 0, h, e, i, hi => ⟨h, by rw [show i = 0 by omega]; exact e⟩
  | n + 1, h, e, i, hi => by
    obtain ⟨g, h1, -⟩ := htF_pre e
    by_cases h2 : i = n + 1
    · exact ⟨h, h2 ▸ e⟩
    · exact htF_all h1 i (by omega)
theorem htS_b {v : Int32} {h g : Nat} (e : htS v h = some g) : g ≤ h + 1 := by
  unfold htS at e
  repeat' split at e
  all_goals first
    | (cases e; done)
    | (have := Option.some.inj e; omega)
theorem htF_le {co : Nat → Int32} : ∀ {n h : Nat}, htF co n = some h → h ≤ n
  | 0, h, e => by have := Option.some.inj e; omega
  | n + 1, h, e => by
    obtain ⟨g, h1, h2⟩ := htF_pre e
    have := htF_le h1
    have := htS_b h2
    omega
/-- what a code may be, and what it does to the height -/
theorem htS_c {v : Int32} {h g : Nat} (e : htS v h = some g) : (v < nI 10000 ∧ g = h + 1) ∨ (¬ v < nI 10000 ∧ v < nI 20000 ∧ (v = nI 10000 ∨ v = nI 10001 ∨ v = nI 10002) ∧ g = h + 1) ∨ (¬ v < nI 10000 ∧ ¬ v < nI 20000 ∧ v = nI 20033 ∧ 1 ≤ h ∧ g = h) ∨ (¬ v < nI 10000 ∧ ¬ v < nI 20000 ∧ v ≠ nI 20033 ∧ 2 ≤ h ∧ g = h - 1) := by
  unfold htS at e
  split at e
  · rename_i h1
    exact Or.inl ⟨h1, (Option.some.inj e).symm⟩
  · rename_i h1
    split at e
    · rename_i h2
      refine Or.inr (Or.inl ⟨h1, ?_, h2, (Option.some.inj e).symm⟩)
      rcases h2 with rfl | rfl | rfl <;> decide
    · split at e
      · cases e
      · rename_i h3
        split at e
        · rename_i h4
          split at e
          · rename_i h5
            exact Or.inr (Or.inr (Or.inl ⟨h1, h3, h4, h5, (Option.some.inj e).symm⟩))
          · cases e
        · rename_i h4
          split at e
          · rename_i h5
            exact Or.inr (Or.inr (Or.inr ⟨h1, h3, h4, h5, (Option.some.inj e).symm⟩))
          · cases e
theorem nlt_le {a b : Int32} (h : ¬ a < b) : b ≤ a := by
  rw [q_lt] at h
  rw [q_le]
  omega
theorem lt_nle {a b : Int32} (h : a < b) : ¬ b ≤ a := by
  rw [q_lt] at h
  rw [q_le]
  omega
theorem hgt_of {co : Nat → Int32} {k h : Nat} (e : htF co k = some h) : hgt co k = h := by
  unfold hgt
  rw [e]
  rfl
section EVL
variable {co : Nat → Int32} {a b c : Int32}
/-- the class's step -/
theorem c_ev {t : TXc} {i h g len : Nat} {stk : Nat → Int32} (hL : tL t = nI len) (hK : ∀ k, k < len → tK t k = co k) (hz : tZ t ≤ 50) (hzl : len ≤ tZ t) (hi : i < len) (e : htF co i = some h) (e2 : htS (co i) h = some g) (hs : ∀ j, j < h → stk j = exS co a b c i j) : ∃ stk', fX9_workOut_6B t a b c (nI h) (nI i) stk = some (.inl (nI g, nI (i + 1), stk')) ∧ ∀ j, j < g → stk' j = exS co a b c (i + 1) j := by
  have hh := htF_le e
  have hg := hgt_of e
  have hk : tK t i = co i := hK i hi
  rcases htS_c e2 with ⟨k1, rfl⟩ | ⟨k1, k2, k3, rfl⟩ | ⟨k1, k2, k3, k4, rfl⟩ | ⟨k1, k2, k3, k4, rfl⟩
  · refine ⟨upd stk h (co i), ?_, fun j hj => ?_⟩
    · have n1 := lt_nle k1
      simp (disch := omega) only [fX9_workOut_6B, fX9_workOut_167, hL, hk, if_neg n1, if_true, if_false, nI_add, pk_mul, nI_clamp, nI_leI, nI_ltI, nI_eq, ckI_s, bd_q, bnd_q, if_pos, if_neg, o_0, o_1, o_2, o_3, o_4, o_5, o_6, o_7, o_8, o_9, o_10, o_11, o_12, o_13, o_14, o_15, o_16, o_17, o_18, o_19, o_20, o_21, o_22, o_23, o_24, o_25, o_26, o_27, o_28, o_29, o_30, o_31, o_32, o_33, o_34, o_35, o_36, o_37, o_38, o_39, o_40, o_41, o_42, o_43, o_44, o_45, o_46, o_47, o_48, o_49, o_50, o_51, o_52, o_53, o_54, o_55, o_56, o_57, o_58, o_59, o_60, o_62, o_70, o_71, o_99, o_124, o_154, o_156, o_176, o_255, o_276, o_326, o_4095, o_9999, o_10000, o_10001, o_20000, o_20033]
    · show _ = exS co a b c (i + 1) j
      rw [exS, if_pos k1, hg]
      by_cases hj2 : j = h
      · rw [hj2, upd_s, upd_s]
      · rw [upd_n hj2, upd_n hj2]
        exact hs j (by omega)
  · refine ⟨upd stk h (nmV (co i) a b c), ?_, fun j hj => ?_⟩
    · have n1 := nlt_le k1
      have n2 := lt_nle k2
      unfold fX9_workOut_6B
      rw [hL, if_neg (by rw [nI_leI (by omega) (by omega)]; omega), ckI_s (by omega) (by omega), nI_clamp (by omega), bnd_q, hk, o_10000, o_20000, o_10001, if_pos n1, if_neg n2]
      unfold fX9_workOut_86 fX9_workOut_167
      rcases k3 with e | e | e
      · rw [e, if_pos rfl, ckI_s (by omega) (by omega), nI_clamp (by omega), bnd_q, bnd_q, bnd_q, o_1, nI_add, nI_add]
        rfl
      · rw [e, if_neg (by decide), if_pos rfl, ckI_s (by omega) (by omega), nI_clamp (by omega), bnd_q, bnd_q, bnd_q, o_1, nI_add, nI_add]
        rfl
      · rw [e, if_neg (by decide), if_neg (by decide), ckI_s (by omega) (by omega), nI_clamp (by omega), bnd_q, bnd_q, bnd_q, o_1, nI_add, nI_add]
        rfl
    · rw [exS, if_neg k1, if_pos k2, hg]
      by_cases hj2 : j = h
      · rw [hj2, upd_s, upd_s]
      · rw [upd_n hj2, upd_n hj2]
        exact hs j (by omega)
  · refine ⟨upd stk (g - 1) (if stk (g - 1) = 0 then nI 1 else nI 0), ?_, fun j hj => ?_⟩
    · have n1 := nlt_le k1
      have n2 := nlt_le k2
      unfold fX9_workOut_6B
      rw [hL, if_neg (by rw [nI_leI (by omega) (by omega)]; omega), ckI_s (by omega) (by omega), nI_clamp (by omega), bnd_q, hk, o_10000, o_20000, o_20033, if_pos n1, if_pos n2, if_pos k3, o_1, pk_sub k4, ckI_s (by omega) (by omega), nI_clamp (by omega)]
      unfold fX9_workOut_126 fX9_workOut_167
      by_cases h0 : stk (g - 1) = 0
      · rw [if_pos h0, if_pos h0, ckI_s (by omega) (by omega), nI_clamp (by omega), bnd_q, bnd_q, o_1, nI_add]
      · rw [if_neg h0, if_neg h0, ckI_s (by omega) (by omega), nI_clamp (by omega), bnd_q, bnd_q, o_1, nI_add]
        rfl
    · rw [exS, if_neg k1, if_neg k2, if_pos k3, hg, hs (g - 1) (by omega)]
      by_cases hj2 : j = g - 1
      · rw [hj2, upd_s, upd_s]
      · rw [upd_n hj2, upd_n hj2]
        exact hs j (by omega)
  · refine ⟨upd stk (h - 2) (jnV (co i - nI 20000) (stk (h - 2)) (stk (h - 1))), ?_, fun j hj => ?_⟩
    · have n1 := nlt_le k1
      have n2 := nlt_le k2
      have e1 : nI h + (-1 : Int32) = nI (h - 1) := by
        have : nI (h - 1 + 1) + (-1 : Int32) = nI (h - 1) := pk_m1 (h - 1)
        rw [show h - 1 + 1 = h by omega] at this
        exact this
      unfold fX9_workOut_6B
      rw [hL, if_neg (by rw [nI_leI (by omega) (by omega)]; omega), ckI_s (by omega) (by omega), nI_clamp (by omega), bnd_q, hk, o_10000, o_20000, o_20033, if_pos n1, if_pos n2, if_neg k3, bnd_q, e1, o_1, pk_sub (by omega), show h - 1 - 1 = h - 2 by omega, ckI_s (by omega) (by omega), ckI_s (by omega) (by omega), nI_clamp (by omega), nI_clamp (by omega), bd_of (jn_c _ _ _), ckI_s (by omega) (by omega), bnd_q]
      unfold fX9_workOut_167
      rw [bnd_q, o_1, nI_add]
    · rw [exS, if_neg k1, if_neg k2, if_neg k3, hg, hs (h - 1) (by omega), hs (h - 2) (by omega)]
      by_cases hj2 : j = h - 2
      · rw [hj2, upd_s, upd_s]
      · rw [upd_n hj2, upd_n hj2]
        exact hs j (by omega)
/-- the reference's step -/
theorem m_ev {d nm : Nat → Int32} {i h g len base : Nat} {stk : Nat → Int32} (hK : ∀ k, k < len → d (base + k) = co k) (hb : base + len ≤ 326) (hl : len ≤ 50) (hn : nm 0 = a ∧ nm 1 = b ∧ nm 2 = c) (hi : i < len) (e : htF co i = some h) (e2 : htS (co i) h = some g) (hs : ∀ j, j < h → stk j = exS co a b c i j) : ∃ stk', fX12_worked_5B (nI base) (nI len) d nm (nI h) (nI (base + i)) stk = some (.inl (nI g, nI (base + (i + 1)), stk')) ∧ ∀ j, j < g → stk' j = exS co a b c (i + 1) j := by
  have hh := htF_le e
  have hg := hgt_of e
  have hk : d (base + i) = co i := hK i hi
  have hst : ∀ x : Option ((Int32 × Int32 × (Nat → Int32)) ⊕ (Int32 × Int32 × (Nat → Int32))), bnd (d (nI (base + i)).toNatClampNeg) (fun y_4 => x) = x := fun x => rfl
  rcases htS_c e2 with ⟨k1, rfl⟩ | ⟨k1, k2, k3, rfl⟩ | ⟨k1, k2, k3, k4, rfl⟩ | ⟨k1, k2, k3, k4, rfl⟩
  · refine ⟨upd stk h (co i), ?_, fun j hj => ?_⟩
    · have n1 := lt_nle k1
      have n2 : ¬ nI 20000 ≤ co i := by
        rw [q_lt] at k1
        rw [q_le]
        rw [nI_toInt (by decide)] at k1 ⊢
        omega
      unfold fX12_worked_5B
      rw [nI_add, if_neg (by rw [nI_leI (by omega) (by omega)]; omega), ckI_s (by omega) (by omega), nI_clamp (by omega), bnd_q, hk, o_10000, o_20000, if_neg n2, if_neg n1]
      unfold fX12_worked_59 fX12_worked_135
      rw [ckI_s (by omega) (by omega), nI_clamp (by omega), bnd_q, bnd_q, bnd_q, o_1, nI_add, nI_add, Nat.add_assoc]
    · rw [exS, if_pos k1, hg]
      by_cases hj2 : j = h
      · rw [hj2, upd_s, upd_s]
      · rw [upd_n hj2, upd_n hj2]
        exact hs j (by omega)
  · refine ⟨upd stk h (nmV (co i) a b c), ?_, fun j hj => ?_⟩
    · have n1 := nlt_le k1
      have n2 := lt_nle k2
      obtain ⟨na, nb, nc⟩ := hn
      unfold fX12_worked_5B
      rw [nI_add, if_neg (by rw [nI_leI (by omega) (by omega)]; omega), ckI_s (by omega) (by omega), nI_clamp (by omega), bnd_q, hk, o_10000, o_20000, if_neg n2, if_pos n1]
      unfold fX12_worked_59 fX12_worked_135
      rcases k3 with e | e | e
      · rw [e, pk_sub (show 10000 ≤ 10000 by decide), ckI_s (by decide) (by decide), nI_clamp (show 10000 - 10000 < 2 ^ 31 by decide), ckI_s (by omega) (by omega), nI_clamp (by omega), bnd_q, bnd_q, bnd_q, o_1, nI_add, nI_add, Nat.add_assoc]
        rw [show nm (10000 - 10000) = a from na]
        rfl
      · rw [e, pk_sub (show 10000 ≤ 10001 by decide), ckI_s (by decide) (by decide), nI_clamp (show 10001 - 10000 < 2 ^ 31 by decide), ckI_s (by omega) (by omega), nI_clamp (by omega), bnd_q, bnd_q, bnd_q, o_1, nI_add, nI_add, Nat.add_assoc]
        rw [show nm (10001 - 10000) = b from nb]
        rfl
      · rw [e, pk_sub (show 10000 ≤ 10002 by decide), ckI_s (by decide) (by decide), nI_clamp (show 10002 - 10000 < 2 ^ 31 by decide), ckI_s (by omega) (by omega), nI_clamp (by omega), bnd_q, bnd_q, bnd_q, o_1, nI_add, nI_add, Nat.add_assoc]
        rw [show nm (10002 - 10000) = c from nc]
        rfl
    · rw [exS, if_neg k1, if_pos k2, hg]
      by_cases hj2 : j = h
      · rw [hj2, upd_s, upd_s]
      · rw [upd_n hj2, upd_n hj2]
        exact hs j (by omega)
  · refine ⟨upd stk (g - 1) (if stk (g - 1) = 0 then nI 1 else nI 0), ?_, fun j hj => ?_⟩
    · have n2 := nlt_le k2
      unfold fX12_worked_5B
      rw [nI_add, if_neg (by rw [nI_leI (by omega) (by omega)]; omega), ckI_s (by omega) (by omega), nI_clamp (by omega), bnd_q, hk, o_20000, o_20033, if_pos n2, if_pos k3, o_1, pk_sub k4, ckI_s (by omega) (by omega), nI_clamp (by omega)]
      unfold fX12_worked_97 fX12_worked_135
      by_cases h0 : stk (g - 1) = 0
      · rw [if_pos h0, if_pos h0, ckI_s (by omega) (by omega), nI_clamp (by omega), bnd_q, bnd_q, o_1, nI_add, Nat.add_assoc]
      · rw [if_neg h0, if_neg h0, ckI_s (by omega) (by omega), nI_clamp (by omega), bnd_q, bnd_q, o_1, nI_add, Nat.add_assoc]
        rfl
    · rw [exS, if_neg k1, if_neg k2, if_pos k3, hg, hs (g - 1) (by omega)]
      by_cases hj2 : j = g - 1
      · rw [hj2, upd_s, upd_s]
      · rw [upd_n hj2, upd_n hj2]
        exact hs j (by omega)
  · refine ⟨upd stk (h - 2) (jnV (co i - nI 20000) (stk (h - 2)) (stk (h - 1))), ?_, fun j hj => ?_⟩
    · have n2 := nlt_le k2
      have e1 : nI h + (-1 : Int32) = nI (h - 1) := by
        have : nI (h - 1 + 1) + (-1 : Int32) = nI (h - 1) := pk_m1 (h - 1)
        rw [show h - 1 + 1 = h by omega] at this
        exact this
      unfold fX12_worked_5B
      rw [nI_add, if_neg (by rw [nI_leI (by omega) (by omega)]; omega), ckI_s (by omega) (by omega), nI_clamp (by omega), bnd_q, hk, o_20000, o_20033, if_pos n2, if_neg k3, bnd_q, e1, o_1, pk_sub (by omega), show h - 1 - 1 = h - 2 by omega, ckI_s (by omega) (by omega), ckI_s (by omega) (by omega), nI_clamp (by omega), nI_clamp (by omega), bd_of (jn_m _ _ _), ckI_s (by omega) (by omega), bnd_q]
      unfold fX12_worked_135
      rw [bnd_q, o_1, nI_add, Nat.add_assoc]
    · rw [exS, if_neg k1, if_neg k2, if_neg k3, hg, hs (h - 1) (by omega), hs (h - 2) (by omega)]
      by_cases hj2 : j = h - 2
      · rw [hj2, upd_s, upd_s]
      · rw [upd_n hj2, upd_n hj2]
        exact hs j (by omega)
theorem c_work {t : TXc} {len : Nat} (hL : tL t = nI len) (hK : ∀ k, k < len → tK t k = co k) (hz : tZ t ≤ 50) (hzl : len ≤ tZ t) (h1 : 1 ≤ len) (hw : htF co len = some 1) (stk : Nat → Int32) : ∃ stk', fX9_workOut t a b c stk = some (exS co a b c len 0, stk') := by
  unfold fX9_workOut fX9_workOut_6
  obtain ⟨⟨x, y, s1⟩, k1, k2⟩ := lpE (fun σ : Int32 × Int32 × (Nat → Int32) => fX9_workOut_6B t a b c (σ.1) (σ.2.1) (σ.2.2)) (fun i σ => ∃ h, htF co i = some h ∧ σ.1 = nI h ∧ σ.2.1 = nI i ∧ ∀ j, j < h → σ.2.2 j = exS co a b c i j) (fun r => r.2.2 0 = exS co a b c len 0) len
    (fun i σ hi hI => by
      obtain ⟨x, y, s1⟩ := σ
      obtain ⟨h, e1, e2, e3, e4⟩ := hI
      dsimp only at e2 e3 e4
      subst e2
      subst e3
      obtain ⟨g, e5⟩ := htF_all hw (i + 1) (by omega)
      obtain ⟨h', e6, e7⟩ := htF_pre e5
      have e8 : h = h' := Option.some.inj (e1.symm.trans e6)
      subst e8
      obtain ⟨s2, g1, g2⟩ := c_ev hL hK hz hzl hi e1 e7 e4
      exact Or.inl ⟨_, g1, g, e5, rfl, rfl, g2⟩)
    (fun σ hI => by
      obtain ⟨x, y, s1⟩ := σ
      obtain ⟨h, e1, e2, e3, e4⟩ := hI
      dsimp only at e2 e3 e4
      subst e2
      subst e3
      have e8 : h = 1 := Option.some.inj (e1.symm.trans hw)
      subst e8
      refine ⟨(nI 1, nI len, s1), ?_, e4 0 (by decide)⟩
      simp (disch := omega) only [fX9_workOut_6B, hL, if_true, if_false, nI_add, pk_mul, nI_clamp, nI_leI, nI_ltI, nI_eq, ckI_s, bd_q, bnd_q, if_pos, if_neg, o_0, o_1, o_2, o_3, o_4, o_5, o_6, o_7, o_8, o_9, o_10, o_11, o_12, o_13, o_14, o_15, o_16, o_17, o_18, o_19, o_20, o_21, o_22, o_23, o_24, o_25, o_26, o_27, o_28, o_29, o_30, o_31, o_32, o_33, o_34, o_35, o_36, o_37, o_38, o_39, o_40, o_41, o_42, o_43, o_44, o_45, o_46, o_47, o_48, o_49, o_50, o_51, o_52, o_53, o_54, o_55, o_56, o_57, o_58, o_59, o_60, o_62, o_70, o_71, o_99, o_124, o_154, o_156, o_176, o_255, o_276, o_326, o_4095, o_9999, o_10000, o_10001, o_20000, o_20033])
    (FU_lt (by omega)) (nI 0, nI 0, stk) ⟨0, rfl, rfl, rfl, fun j hj => by omega⟩
  refine ⟨s1, (bd_of k1).trans ?_⟩
  dsimp only at k2 ⊢
  rw [o_0, ckI_s (by omega) (by omega), nI_clamp (by decide), k2]
theorem m_work {d nm : Nat → Int32} {len base : Nat} (hK : ∀ k, k < len → d (base + k) = co k) (hb : base + len ≤ 326) (hl : len ≤ 50) (hn : nm 0 = a ∧ nm 1 = b ∧ nm 2 = c) (h1 : 1 ≤ len) (hw : htF co len = some 1) (stk : Nat → Int32) : ∃ stk', fX12_worked (nI base) (nI len) d nm stk = some (exS co a b c len 0, stk') := by
  unfold fX12_worked fX12_worked_5
  obtain ⟨⟨x, y, s1⟩, k1, k2⟩ := lpE (fun σ : Int32 × Int32 × (Nat → Int32) => fX12_worked_5B (nI base) (nI len) d nm (σ.1) (σ.2.1) (σ.2.2)) (fun i σ => ∃ h, htF co i = some h ∧ σ.1 = nI h ∧ σ.2.1 = nI (base + i) ∧ ∀ j, j < h → σ.2.2 j = exS co a b c i j) (fun r => r.2.2 0 = exS co a b c len 0) len
    (fun i σ hi hI => by
      obtain ⟨x, y, s1⟩ := σ
      obtain ⟨h, e1, e2, e3, e4⟩ := hI
      dsimp only at e2 e3 e4
      subst e2
      subst e3
      obtain ⟨g, e5⟩ := htF_all hw (i + 1) (by omega)
      obtain ⟨h', e6, e7⟩ := htF_pre e5
      have e8 : h = h' := Option.some.inj (e1.symm.trans e6)
      subst e8
      obtain ⟨s2, g1, g2⟩ := m_ev hK hb hl hn hi e1 e7 e4
      exact Or.inl ⟨_, g1, g, e5, rfl, rfl, g2⟩)
    (fun σ hI => by
      obtain ⟨x, y, s1⟩ := σ
      obtain ⟨h, e1, e2, e3, e4⟩ := hI
      dsimp only at e2 e3 e4
      subst e2
      subst e3
      have e8 : h = 1 := Option.some.inj (e1.symm.trans hw)
      subst e8
      refine ⟨(nI 1, nI (base + len), s1), ?_, e4 0 (by decide)⟩
      simp (disch := omega) only [fX12_worked_5B, if_true, if_false, nI_add, pk_mul, nI_clamp, nI_leI, nI_ltI, nI_eq, ckI_s, bd_q, bnd_q, if_pos, if_neg, o_0, o_1, o_2, o_3, o_4, o_5, o_6, o_7, o_8, o_9, o_10, o_11, o_12, o_13, o_14, o_15, o_16, o_17, o_18, o_19, o_20, o_21, o_22, o_23, o_24, o_25, o_26, o_27, o_28, o_29, o_30, o_31, o_32, o_33, o_34, o_35, o_36, o_37, o_38, o_39, o_40, o_41, o_42, o_43, o_44, o_45, o_46, o_47, o_48, o_49, o_50, o_51, o_52, o_53, o_54, o_55, o_56, o_57, o_58, o_59, o_60, o_62, o_70, o_71, o_99, o_124, o_154, o_156, o_176, o_255, o_276, o_326, o_4095, o_9999, o_10000, o_10001, o_20000, o_20033])
    (FU_lt (by omega)) (nI 0, nI base, stk) ⟨0, rfl, rfl, rfl, fun j hj => by omega⟩
  refine ⟨s1, (bd_of k1).trans ?_⟩
  dsimp only at k2 ⊢
  rw [o_0, ckI_s (by omega) (by omega), nI_clamp (by decide), k2]
end EVL
/-- what a use gives, before it is held -/
def evV (co : Nat → Int32) (len : Nat) (a b c : Int32) : Int32 := if len = 0 then a else exS co a b c len 0
/-- the texts of the reference, by their codes -/
def TMc (d : Nat → Int32) (E : EVt) : Prop := ∀ use, use < 2 → ∃ (co : Nat → Int32) (len : Nat), len ≤ 50 ∧ (1 ≤ len → htF co len = some 1) ∧ d (154 + use) = nI len ∧ (∀ k, k < len → d (176 + 50 * use + k) = co k) ∧ E use = evV co len
/-- the texts of the class, by their codes -/
def TCc (texts : Nat → Option Nat) (L : List Nat) (tx : Nat → TXc) (E : EVt) : Prop := ∀ use, use < 2 → (texts use = none ∧ E use = fun a _ _ => a) ∨ ∃ (o : Nat) (co : Nat → Int32) (len : Nat), texts use = some o ∧ o ∈ L ∧ 1 ≤ len ∧ htF co len = some 1 ∧ tL (tx o) = nI len ∧ tZ (tx o) ≤ 50 ∧ len ≤ tZ (tx o) ∧ (∀ k, k < len → tK (tx o) k = co k) ∧ E use = evV co len
theorem TMc.tg {d : Nat → Int32} {E : EVt} (h : TMc d E) : TG d E := by
  intro use hu a b c nm pl
  obtain ⟨co, len, h1, h2, h3, h4, h5⟩ := h use hu
  have hlim : ∀ (v : Int32) (n' p' : Nat → Int32), fX12_textGives_62 (nI use) v d n' p' = some (nI (hld v (limU use)), n', p') := fun v n' p' => by
    rcases (show use = 0 ∨ use = 1 by omega) with e | e
    · subst e
      unfold fX12_textGives_62
      rw [if_pos (show nI 0 = (0 : Int32) from rfl), o_0, o_9, bd_of (m_held v (by decide))]
      rfl
    · subst e
      unfold fX12_textGives_62
      rw [if_neg (show ¬ nI 1 = (0 : Int32) by decide), o_0, o_20, bd_of (m_held v (by decide))]
      rfl
  unfold fX12_textGives
  rw [o_154, nI_add, ckI_s (by omega) (by omega), nI_clamp (by omega), h3, o_0, h5]
  by_cases hl : len ≤ 0
  · rw [if_pos ((nI_leI (by omega) (by omega)).mpr hl)]
    refine ⟨nm, pl, ?_⟩
    rw [hlim]
    unfold evV
    rw [if_pos (by omega)]
  · rw [if_neg (fun e => hl ((nI_leI (by omega) (by omega)).mp e))]
    obtain ⟨pl', h6⟩ := m_work (a := a) (b := b) (c := c) (nm := upd (upd (upd nm 0 a) 1 b) 2 c) (base := 176 + 50 * use) h4 (by omega) h1 ⟨rfl, rfl, rfl⟩ (by omega) (h2 (by omega)) pl
    refine ⟨upd (upd (upd nm 0 a) 1 b) 2 c, pl', ?_⟩
    unfold evV
    rw [if_neg (by omega)]
    simp (disch := omega) only [h6, hlim, if_true, if_false, nI_add, pk_mul, nI_clamp, nI_leI, nI_ltI, nI_eq, ckI_s, bd_q, bnd_q, if_pos, if_neg, o_0, o_1, o_2, o_3, o_4, o_5, o_6, o_7, o_8, o_9, o_10, o_11, o_12, o_13, o_14, o_15, o_16, o_17, o_18, o_19, o_20, o_21, o_22, o_23, o_24, o_25, o_26, o_27, o_28, o_29, o_30, o_31, o_32, o_33, o_34, o_35, o_36, o_37, o_38, o_39, o_40, o_41, o_42, o_43, o_44, o_45, o_46, o_47, o_48, o_49, o_50, o_51, o_52, o_53, o_54, o_55, o_56, o_57, o_58, o_59, o_60, o_62, o_70, o_71, o_99, o_124, o_154, o_156, o_176, o_255, o_276, o_326, o_4095, o_9999, o_10000, o_10001, o_20000, o_20033]
theorem TMc.sm {d d' : Nat → Int32} {E : EVt} (h : TMc d E) (g : Sm d d') : TMc d' E := fun use hu => by
  obtain ⟨co, len, h1, h2, h3, h4, h5⟩ := h use hu
  exact ⟨co, len, h1, h2, (g.2.2.2 _ (by omega)).trans h3, fun k hk => (g.2.2.2 _ (by omega)).trans (h4 k hk), h5⟩
theorem TMc.tgs {d : Nat → Int32} {E : EVt} (h : TMc d E) : TGs E d := fun d' g => (h.sm g).tg
theorem j_held (x : Int32) {m : Nat} (hm : m < 2 ^ 31) : jmax (nI 0) (jmin x (nI m)) = nI (hld x m) := by
  unfold jmax jmin
  by_cases h : x < nI 0
  · have h0 : x.toNatClampNeg = 0 := by
      rw [q_lt, nI_toInt (by decide)] at h
      show x.toInt.toNat = 0
      omega
    have h1 : ¬ nI m < x := by
      rw [q_lt, nI_toInt (by decide)] at h
      rw [q_lt, nI_toInt hm]
      omega
    have h2 : ¬ nI 0 < x := by
      rw [q_lt] at h ⊢
      omega
    rw [if_neg h1, if_neg h2]
    unfold hld
    rw [h0]
    simp
  · obtain ⟨j, hj, rfl⟩ := nI_of (x := x) h
    rw [hld_nI hj]
    by_cases h1 : m < j
    · rw [if_pos ((nI_ltI hm hj).mpr h1), Nat.min_eq_left (by omega)]
      by_cases h2 : 0 < m
      · rw [if_pos ((nI_ltI (by decide) hm).mpr h2)]
      · rw [if_neg (fun e => h2 ((nI_ltI (by decide) hm).mp e)), show m = 0 by omega]
    · rw [if_neg (fun e => h1 ((nI_ltI hm hj).mp e)), Nat.min_eq_right (by omega)]
      by_cases h2 : 0 < j
      · rw [if_pos ((nI_ltI (by decide) hj).mpr h2)]
      · rw [if_neg (fun e => h2 ((nI_ltI (by decide) hj).mp e)), show j = 0 by omega]
theorem TCc.gc {texts : Nat → Option Nat} {L : List Nat} {tx : Nat → TXc} {E : EVt} (h : TCc texts L tx E) : GC texts L tx E := by
  intro use hu a b c tst
  have hlim : ∀ (v : Int32) (t' : Nat → Nat → Int32), fX3_given_26 (nI use) v texts L tx t' = some (nI (hld v (limU use)), t') := fun v t' => by
    rcases (show use = 0 ∨ use = 1 by omega) with e | e
    · subst e
      unfold fX3_given_26
      rw [if_pos (show nI 0 = (0 : Int32) from rfl), o_0, o_9, j_held v (by decide)]
      rfl
    · subst e
      unfold fX3_given_26
      rw [if_neg (show ¬ nI 1 = (0 : Int32) by decide), o_0, o_20, j_held v (by decide)]
      rfl
  unfold fX3_given
  rw [ckI_s hu (by omega), nI_clamp (by omega)]
  rcases h use hu with ⟨h1, h2⟩ | ⟨o, co, len, h1, h2, h3, h4, h5, h6, h7, h8, h9⟩
  · rw [h1, onO_none, h2]
    exact ⟨tst, hlim _ _⟩
  · obtain ⟨s', hw⟩ := c_work (a := a) (b := b) (c := c) h5 h8 h6 h7 h3 h4 (tst o)
    rw [h1, onO_some, ck_s h2, bd_of hw]
    dsimp only
    rw [bnd_q, h9]
    refine ⟨va_up tst o s', ?_⟩
    unfold evV
    rw [if_neg (by omega)]
    exact hlim _ _
