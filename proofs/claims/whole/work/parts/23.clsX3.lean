def fX9_workOut_167 (t : TXc) (v1_6 : Int32) (v2_6 : Int32) (v3_6 : Int32) (v4_167 : Int32) (v5_167 : Int32) (stk_167 : Nat → Int32) : Option ((Int32 × Int32 × (Nat → Int32)) ⊕ (Int32 × Int32 × (Nat → Int32))) :=
  bnd (v5_167 + (1 : Int32)) fun y_15 => some (.inl (v4_167, y_15, stk_167))
def fX9_workOut_126 (t : TXc) (v1_6 : Int32) (v2_6 : Int32) (v3_6 : Int32) (v4_126 : Int32) (v5_126 : Int32) (k0_126 : Int32) (k1_126 : Int32) (stk_126 : Nat → Int32) : Option ((Int32 × Int32 × (Nat → Int32)) ⊕ (Int32 × Int32 × (Nat → Int32))) :=
  ckI k1_126 (tZ t) (bnd (upd stk_126 (k1_126).toNatClampNeg k0_126) fun stk_19 => fX9_workOut_167 t v1_6 v2_6 v3_6 v4_126 v5_126 stk_19)
def fX9_workOut_86 (t : TXc) (v1_6 : Int32) (v2_6 : Int32) (v3_6 : Int32) (v4_86 : Int32) (v5_86 : Int32) (k0_86 : Int32) (k1_86 : Int32) (stk_86 : Nat → Int32) : Option ((Int32 × Int32 × (Nat → Int32)) ⊕ (Int32 × Int32 × (Nat → Int32))) :=
  ckI k1_86 (tZ t) (bnd (upd stk_86 (k1_86).toNatClampNeg k0_86) fun stk_23 => bnd (v4_86 + (1 : Int32)) fun y_24 => fX9_workOut_167 t v1_6 v2_6 v3_6 y_24 v5_86 stk_23)
def fX9_workOut_6B (t : TXc) (v1_6 : Int32) (v2_6 : Int32) (v3_6 : Int32) (v4_6b : Int32) (v5_6b : Int32) (stk_6b : Nat → Int32) : Option ((Int32 × Int32 × (Nat → Int32)) ⊕ (Int32 × Int32 × (Nat → Int32))) :=
  (if (tL t) ≤ v5_6b then some (.inr (v4_6b, v5_6b, stk_6b)) else ckI v5_6b (tZ t) (bnd ((tK t) (v5_6b).toNatClampNeg) fun y_4 => (if (10000 : Int32) ≤ y_4 then (if (20000 : Int32) ≤ y_4 then (if y_4 = (20033 : Int32) then ckI (v4_6b - (1 : Int32)) (tZ t) ((if (stk_6b ((v4_6b - (1 : Int32))).toNatClampNeg) = 0 then fX9_workOut_126 t v1_6 v2_6 v3_6 v4_6b v5_6b (1 : Int32) (v4_6b - (1 : Int32)) stk_6b else fX9_workOut_126 t v1_6 v2_6 v3_6 v4_6b v5_6b (0 : Int32) (v4_6b - (1 : Int32)) stk_6b)) else bnd (v4_6b + (-1 : Int32)) fun y_8 => ckI (y_8 - (1 : Int32)) (tZ t) (ckI y_8 (tZ t) (bd (fX9_joined (y_4 - (20000 : Int32)) (stk_6b ((y_8 - (1 : Int32))).toNatClampNeg) (stk_6b (y_8).toNatClampNeg)) fun r_11 => ckI (y_8 - (1 : Int32)) (tZ t) (bnd (upd stk_6b ((y_8 - (1 : Int32))).toNatClampNeg r_11) fun stk_14 => fX9_workOut_167 t v1_6 v2_6 v3_6 y_8 v5_6b stk_14)))) else (if y_4 = (10000 : Int32) then fX9_workOut_86 t v1_6 v2_6 v3_6 v4_6b v5_6b v1_6 v4_6b stk_6b else (if y_4 = (10001 : Int32) then fX9_workOut_86 t v1_6 v2_6 v3_6 v4_6b v5_6b v2_6 v4_6b stk_6b else fX9_workOut_86 t v1_6 v2_6 v3_6 v4_6b v5_6b v3_6 v4_6b stk_6b))) else ckI v4_6b (tZ t) (bnd (upd stk_6b (v4_6b).toNatClampNeg y_4) fun stk_26 => bnd (v4_6b + (1 : Int32)) fun y_27 => fX9_workOut_167 t v1_6 v2_6 v3_6 y_27 v5_6b stk_26))))
def fX9_workOut_6 (t : TXc) (v1_6 : Int32) (v2_6 : Int32) (v3_6 : Int32) (v4_6 : Int32) (v5_6 : Int32) (stk_6 : Nat → Int32) : Option (Int32 × (Nat → Int32)) :=
  bd (lp (fun σ : Int32 × Int32 × (Nat → Int32) => fX9_workOut_6B t v1_6 v2_6 v3_6 (σ.1) (σ.2.1) (σ.2.2)) FU (v4_6, v5_6, stk_6)) fun ρ => match ρ with | (v4_6r, v5_6r, stk_6r) => ckI (0 : Int32) (tZ t) (some ((stk_6r ((0 : Int32)).toNatClampNeg), stk_6r))
def fX9_workOut (t : TXc) (x : Int32) (y : Int32) (z : Int32) (stk : Nat → Int32) : Option (Int32 × (Nat → Int32)) :=
  fX9_workOut_6 t x y z (0 : Int32) (0 : Int32) stk
set_option maxHeartbeats 4000000 in
set_option maxRecDepth 100000 in
theorem c_X9_workOut (l : Launch) (G : Nat → Nat) (D : va_G) (cA : Nat → ClassId) (a : Nat) (t : TXc) (sz : Nat) (stk : Nat → Int32) (x : Int32) (y : Int32) (z : Int32) (rR : Int32) (stkR : Nat → Int32) (h : fX9_workOut t x y z stk = some (rR, stkR)) : Met l yX9_workOut wsX9_workOut ({ frames := 1, cells := 0, slots := 0, locals := 22 } : Room) (PW G D (tyC cA) sz (wTW cA a t stk) [.ref a, .int x, .int y, .int z]) (QI D (tyC cA) (va_A (wTW cA a t stk) sz) rR (wTW cA a t stkR)) 0 0 (va_A (wTW cA a t stk) sz) := by
  refine ent (cc := cX9_workOut) (maxL := 7) (ret := (some .int)) (fun A => QI D (tyC cA) A rR (wTW cA a t stkR)) (by decide +kernel) rfl (Nat.le_of_ble_eq_true rfl) ?_
  intro p e s m args below meth c A ls H hx hb hml hr hlk hts hown hA hK hE hP hD hS hv hmm
  have hv : lv_has ls 7 [(0, .ref a), (1, .int x), (2, .int y), (3, .int z)] := hv
  have in_9 : ∀ w ∈ u_ws RX9 TX9 7, w ∈ wsX9_workOut := fun _ h => List.mem_cons_of_mem _ (List.mem_append_right _ h)
  have w_0 := hts (.fieldLink RX9 32 "SpoonsLast$Text" "stack" "[I") (List.mem_of_getElem? (i := 3) rfl)
  have w_1 := hts (.fieldLink RX9 98 "SpoonsLast$Text" "length" "I") (List.mem_of_getElem? (i := 1) rfl)
  have w_2 := hts (.fieldLink RX9 29 "SpoonsLast$Text" "codes" "[I") (List.mem_of_getElem? (i := 2) rfl)
  generalize hQ : MQ below _ args s 0 0 A = Q
  have C_6 : ∀ (v1_6 : Int32) (v2_6 : Int32) (v3_6 : Int32) (v4_6 : Int32) (v5_6 : Int32) (stk_6 : Nat → Int32), fX9_workOut_6 t v1_6 v2_6 v3_6 v4_6 v5_6 stk_6 = some (rR, stkR) → WW p l e ({ frames := 1, cells := 0, slots := 0, locals := 22 } : Room) s m args below meth c D A 0 0 Q (wTW cA a t stk_6) 7 [(0, .ref a), (1, .int v1_6), (2, .int v2_6), (3, .int v3_6), (4, .int v4_6), (5, .int v5_6)] 6 [] := by
    intro v1_6 v2_6 v3_6 v4_6 v5_6 stk_6 h
    unfold fX9_workOut_6 at h
    obtain ⟨⟨v4_6r, v5_6r, stk_6r⟩, ho, h⟩ := bd_ex h
    have LE : WW p l e ({ frames := 1, cells := 0, slots := 0, locals := 22 } : Room) s m args below meth c D A 0 0 Q (wTW cA a t stk_6r) 7 [(0, .ref a)] 173 [] := by
      intro H locs ls hP hD hS hv
      refine lv_aload_n hx hb dX9_workOut_173 rfl (lv_at hv 0 rfl) ?_
      refine va_get (D := D) (ci := 9) (v := .ref (tS t)) (C := RX9) (T := TX9) (N := 7) hx hb hts in_9 hown hK hP 0 rfl rfl 5 (by decide) w_0 (fun _ h9 => h9) rfl dX9_workOut_174 ?_
      refine lv_iconst (v := (0 : Int32)) hx hb dX9_workOut_177 (by decide) ?_
      obtain ⟨c_1, h⟩ := ckI_ex h
      refine va_iald (D := D) hx hb hK hP 2 0 rfl rfl c_1 dX9_workOut_178 ?_
      have h := Option.some.inj h
      have ee0 : (stk_6r ((0 : Int32)).toNatClampNeg) = rR := congrArg (fun q => q.1) h
      have ee1 : stk_6r = stkR := congrArg (fun q => q.2) h
      subst ee0
      subst ee1
      rw [← hQ]
      exact retI hx hb hr hlk hK hP hD hS dX9_workOut_179 ⟨Nat.le_of_ble_eq_true rfl, Nat.le_of_ble_eq_true rfl⟩
    have LB : ∀ (nf : Nat) (v4_6b : Int32) (v5_6b : Int32) (stk_6b : Nat → Int32), lp (fun σ : Int32 × Int32 × (Nat → Int32) => fX9_workOut_6B t v1_6 v2_6 v3_6 (σ.1) (σ.2.1) (σ.2.2)) nf (v4_6b, v5_6b, stk_6b) = some (v4_6r, v5_6r, stk_6r) → WW p l e ({ frames := 1, cells := 0, slots := 0, locals := 22 } : Room) s m args below meth c D A 0 0 Q (wTW cA a t stk_6b) 7 [(0, .ref a), (1, .int v1_6), (2, .int v2_6), (3, .int v3_6), (4, .int v4_6b), (5, .int v5_6b)] 6 [] := by
      intro nf
      induction nf with
      | zero => intro v4_6b v5_6b stk_6b hl; cases hl
      | succ nf ih =>
        intro v4_6b v5_6b stk_6b hl
        obtain ⟨x, h, hl⟩ := lp_ex hl
        have h : fX9_workOut_6B t v1_6 v2_6 v3_6 v4_6b v5_6b stk_6b = some x := h
        unfold fX9_workOut_6B at h
        have C_167 : ∀ (v4_167 : Int32) (v5_167 : Int32) (stk_167 : Nat → Int32) (x : (Int32 × Int32 × (Nat → Int32)) ⊕ (Int32 × Int32 × (Nat → Int32))), fX9_workOut_167 t v1_6 v2_6 v3_6 v4_167 v5_167 stk_167 = some x → lpk (fun σ : Int32 × Int32 × (Nat → Int32) => fX9_workOut_6B t v1_6 v2_6 v3_6 (σ.1) (σ.2.1) (σ.2.2)) nf x = some (v4_6r, v5_6r, stk_6r) → WW p l e ({ frames := 1, cells := 0, slots := 0, locals := 22 } : Room) s m args below meth c D A 0 0 Q (wTW cA a t stk_167) 7 [(0, .ref a), (1, .int v1_6), (2, .int v2_6), (3, .int v3_6), (4, .int v4_167), (5, .int v5_167)] 167 [] := by
          intro v4_167 v5_167 stk_167 x h hl
          unfold fX9_workOut_167 at h
          intro H locs ls hP hD hS hv
          obtain ⟨y_15, ey_15, h⟩ := bnd_ex h
          refine lv_iinc (v := y_15) (lv' := [(5, .int y_15), (0, .ref a), (1, .int v1_6), (2, .int v2_6), (3, .int v3_6), (4, .int v4_167)]) hx hb dX9_workOut_167 hv (k := 5) rfl (by rw [ey_15]; rfl) (by decide) rfl (fun ls hv => ?_)
          refine lv_goto (tgt := 6) hx hb dX9_workOut_170 (by decide) ?_
          cases h
          exact ih v4_167 y_15 stk_167 hl _ _ _ hP hD hS (lv_sub hv [1, 2, 3, 4, 5, 0] rfl)
        have C_126 : ∀ (v4_126 : Int32) (v5_126 : Int32) (k0_126 : Int32) (k1_126 : Int32) (stk_126 : Nat → Int32) (x : (Int32 × Int32 × (Nat → Int32)) ⊕ (Int32 × Int32 × (Nat → Int32))), fX9_workOut_126 t v1_6 v2_6 v3_6 v4_126 v5_126 k0_126 k1_126 stk_126 = some x → lpk (fun σ : Int32 × Int32 × (Nat → Int32) => fX9_workOut_6B t v1_6 v2_6 v3_6 (σ.1) (σ.2.1) (σ.2.2)) nf x = some (v4_6r, v5_6r, stk_6r) → WW p l e ({ frames := 1, cells := 0, slots := 0, locals := 22 } : Room) s m args below meth c D A 0 0 Q (wTW cA a t stk_126) 7 [(0, .ref a), (1, .int v1_6), (2, .int v2_6), (3, .int v3_6), (4, .int v4_126), (5, .int v5_126)] 126 [.int k0_126, .int k1_126, .ref (tS t)] := by
          intro v4_126 v5_126 k0_126 k1_126 stk_126 x h hl
          unfold fX9_workOut_126 at h
          intro H locs ls hP hD hS hv
          obtain ⟨c_18, h⟩ := ckI_ex h
          obtain ⟨stk_19, estk_19, h⟩ := bnd_ex h
          refine va_iast (D := D) hx hb hK hP hD hS 2 0 rfl rfl c_18 dX9_workOut_126 (fun H locs hP hD hS => ?_)
          rw [← estk_19] at hP hD
          have hP : va_P D vwCl (wTW cA a t stk_19) H := hP
          have hD : va_D A (wTW cA a t stk_19) := hD
          refine lv_goto (tgt := 167) hx hb dX9_workOut_127 (by decide) ?_
          exact C_167 v4_126 v5_126 stk_19 _ h hl _ _ _ hP hD hS (lv_sub hv [0, 1, 2, 3, 4, 5] rfl)
        have C_86 : ∀ (v4_86 : Int32) (v5_86 : Int32) (k0_86 : Int32) (k1_86 : Int32) (stk_86 : Nat → Int32) (x : (Int32 × Int32 × (Nat → Int32)) ⊕ (Int32 × Int32 × (Nat → Int32))), fX9_workOut_86 t v1_6 v2_6 v3_6 v4_86 v5_86 k0_86 k1_86 stk_86 = some x → lpk (fun σ : Int32 × Int32 × (Nat → Int32) => fX9_workOut_6B t v1_6 v2_6 v3_6 (σ.1) (σ.2.1) (σ.2.2)) nf x = some (v4_6r, v5_6r, stk_6r) → WW p l e ({ frames := 1, cells := 0, slots := 0, locals := 22 } : Room) s m args below meth c D A 0 0 Q (wTW cA a t stk_86) 7 [(0, .ref a), (1, .int v1_6), (2, .int v2_6), (3, .int v3_6), (4, .int v4_86), (5, .int v5_86)] 86 [.int k0_86, .int k1_86, .ref (tS t)] := by
          intro v4_86 v5_86 k0_86 k1_86 stk_86 x h hl
          unfold fX9_workOut_86 at h
          intro H locs ls hP hD hS hv
          obtain ⟨c_22, h⟩ := ckI_ex h
          obtain ⟨stk_23, estk_23, h⟩ := bnd_ex h
          refine va_iast (D := D) hx hb hK hP hD hS 2 0 rfl rfl c_22 dX9_workOut_86 (fun H locs hP hD hS => ?_)
          rw [← estk_23] at hP hD
          have hP : va_P D vwCl (wTW cA a t stk_23) H := hP
          have hD : va_D A (wTW cA a t stk_23) := hD
          obtain ⟨y_24, ey_24, h⟩ := bnd_ex h
          refine lv_iinc (v := y_24) (lv' := [(4, .int y_24), (0, .ref a), (1, .int v1_6), (2, .int v2_6), (3, .int v3_6), (5, .int v5_86)]) hx hb dX9_workOut_87 hv (k := 4) rfl (by rw [ey_24]; rfl) (by decide) rfl (fun ls hv => ?_)
          refine lv_goto (tgt := 167) hx hb dX9_workOut_90 (by decide) ?_
          exact C_167 y_24 v5_86 stk_23 _ h hl _ _ _ hP hD hS (lv_sub hv [1, 2, 3, 4, 0, 5] rfl)
        intro H locs ls hP hD hS hv
        refine lv_iload hx hb dX9_workOut_6 (lv_at hv 5 rfl) ?_
        refine lv_aload_n hx hb dX9_workOut_8 rfl (lv_at hv 0 rfl) ?_
        refine va_get (D := D) (ci := 9) (v := .int (tL t)) (C := RX9) (T := TX9) (N := 7) hx hb hts in_9 hown hK hP 0 rfl rfl 4 (by decide) w_1 (fun _ h9 => h9) rfl dX9_workOut_9 ?_
        refine lv_icmp_ge (tgt := 173) hx hb dX9_workOut_12 (by decide) (fun c_2 => ?_) (fun c_2 => ?_)
        · have h := ite_t c_2 h
          cases h
          have hl : some (v4_6b, v5_6b, stk_6b) = some (v4_6r, v5_6r, stk_6r) := hl
          have hl := Option.some.inj hl
          have ee0 : v4_6b = v4_6r := congrArg (fun q => q.1) hl
          have ee1 : v5_6b = v5_6r := congrArg (fun q => q.2.1) hl
          have ee2 : stk_6b = stk_6r := congrArg (fun q => q.2.2) hl
          subst ee0
          subst ee1
          subst ee2
          exact LE _ _ _ hP hD hS (lv_sub hv [0] rfl)
        · have h := ite_f c_2 h
          refine lv_aload_n hx hb dX9_workOut_15 rfl (lv_at hv 0 rfl) ?_
          refine va_get (D := D) (ci := 9) (v := .ref (tC t)) (C := RX9) (T := TX9) (N := 7) hx hb hts in_9 hown hK hP 0 rfl rfl 3 (by decide) w_2 (fun _ h9 => h9) rfl dX9_workOut_16 ?_
          refine lv_iload hx hb dX9_workOut_19 (lv_at hv 5 rfl) ?_
          obtain ⟨c_3, h⟩ := ckI_ex h
          refine va_iald (D := D) hx hb hK hP 1 0 rfl rfl c_3 dX9_workOut_21 ?_
          obtain ⟨y_4, ey_4, h⟩ := bnd_ex h
          refine lv_nm ey_4 ?_
          refine lv_istore (lv' := [(6, .int y_4), (0, .ref a), (1, .int v1_6), (2, .int v2_6), (3, .int v3_6), (4, .int v4_6b), (5, .int v5_6b)]) hx hb dX9_workOut_22 hv (by decide) rfl (fun ls hv => ?_)
          refine lv_iload hx hb dX9_workOut_24 (lv_at hv 0 rfl) ?_
          refine lv_sipush (v := (10000 : Int32)) hx hb dX9_workOut_26 (by decide) ?_
          refine lv_icmp_ge (tgt := 47) hx hb dX9_workOut_29 (by decide) (fun c_5 => ?_) (fun c_5 => ?_)
          · have h := ite_t c_5 h
            refine lv_iload hx hb dX9_workOut_47 (lv_at hv 0 rfl) ?_
            refine lv_sipush (v := (20000 : Int32)) hx hb dX9_workOut_49 (by decide) ?_
            refine lv_icmp_ge (tgt := 93) hx hb dX9_workOut_52 (by decide) (fun c_6 => ?_) (fun c_6 => ?_)
            · have h := ite_t c_6 h
              refine lv_iload hx hb dX9_workOut_93 (lv_at hv 0 rfl) ?_
              refine lv_sipush (v := (20033 : Int32)) hx hb dX9_workOut_95 (by decide) ?_
              refine lv_icmp_ne (tgt := 130) hx hb dX9_workOut_98 (by decide) (fun c_7 => ?_) (fun c_7 => ?_)
              · have h := ite_f c_7 h
                obtain ⟨y_8, ey_8, h⟩ := bnd_ex h
                refine lv_iinc (v := y_8) (lv' := [(4, .int y_8), (6, .int y_4), (0, .ref a), (1, .int v1_6), (2, .int v2_6), (3, .int v3_6), (5, .int v5_6b)]) hx hb dX9_workOut_130 hv (k := 5) rfl (by rw [ey_8]; rfl) (by decide) rfl (fun ls hv => ?_)
                refine lv_aload_n hx hb dX9_workOut_133 rfl (lv_at hv 2 rfl) ?_
                refine va_get (D := D) (ci := 9) (v := .ref (tS t)) (C := RX9) (T := TX9) (N := 7) hx hb hts in_9 hown hK hP 0 rfl rfl 5 (by decide) w_0 (fun _ h9 => h9) rfl dX9_workOut_134 ?_
                refine lv_iload hx hb dX9_workOut_137 (lv_at hv 0 rfl) ?_
                refine lv_iconst (v := (1 : Int32)) hx hb dX9_workOut_139 (by decide) ?_
                refine lv_isub hx hb dX9_workOut_140 ?_
                refine lv_iload hx hb dX9_workOut_141 (lv_at hv 1 rfl) ?_
                refine lv_sipush (v := (20000 : Int32)) hx hb dX9_workOut_143 (by decide) ?_
                refine lv_isub hx hb dX9_workOut_146 ?_
                refine lv_aload_n hx hb dX9_workOut_147 rfl (lv_at hv 2 rfl) ?_
                refine va_get (D := D) (ci := 9) (v := .ref (tS t)) (C := RX9) (T := TX9) (N := 7) hx hb hts in_9 hown hK hP 0 rfl rfl 5 (by decide) w_0 (fun _ h9 => h9) rfl dX9_workOut_148 ?_
                refine lv_iload hx hb dX9_workOut_151 (lv_at hv 0 rfl) ?_
                refine lv_iconst (v := (1 : Int32)) hx hb dX9_workOut_153 (by decide) ?_
                refine lv_isub hx hb dX9_workOut_154 ?_
                obtain ⟨c_9, h⟩ := ckI_ex h
                refine va_iald (D := D) hx hb hK hP 2 0 rfl rfl c_9 dX9_workOut_155 ?_
                refine lv_aload_n hx hb dX9_workOut_156 rfl (lv_at hv 2 rfl) ?_
                refine va_get (D := D) (ci := 9) (v := .ref (tS t)) (C := RX9) (T := TX9) (N := 7) hx hb hts in_9 hown hK hP 0 rfl rfl 5 (by decide) w_0 (fun _ h9 => h9) rfl dX9_workOut_157 ?_
                refine lv_iload hx hb dX9_workOut_160 (lv_at hv 0 rfl) ?_
                obtain ⟨c_10, h⟩ := ckI_ex h
                refine va_iald (D := D) hx hb hK hP 2 0 rfl rfl c_10 dX9_workOut_162 ?_
                obtain ⟨r_11, hf_12, h⟩ := bd_ex h
                have sb := Sb.nil hP hD hS hA
                refine calI (va_runS (As := [.int (y_4 - (20000 : Int32)), .int (stk_6b ((y_8 - (1 : Int32))).toNatClampNeg), .int (stk_6b (y_8).toNatClampNeg)]) (rest := [.int (y_8 - (1 : Int32)), .ref (tS t)]) ⟨hx, hb, hml, hown, hts⟩ (c_X9_joined l G D cA  _ (y_4 - (20000 : Int32)) (stk_6b ((y_8 - (1 : Int32))).toNatClampNeg) (stk_6b (y_8).toNatClampNeg) r_11 hf_12) (va_cwS 3 hts gX9_workOut_X9_joined rfl rfl rfl (by decide +kernel) ⟨Nat.le_of_ble_eq_true rfl, Nat.le_of_ble_eq_true rfl⟩) (pvS hE hK hS sb) rfl rfl hv.1 rfl (lv_room (Nat.le_of_ble_eq_true rfl)) dX9_workOut_163 ⟨Nat.le_of_ble_eq_true rfl, Nat.le_of_ble_eq_true rfl⟩) hS sb (Jn.nil hP hD) (fun H locs hP hD hS => ?_)
                have hP : va_P D vwCl (wTW cA a t stk_6b) H := hP
                have hD : va_D A (wTW cA a t stk_6b) := hD
                obtain ⟨c_13, h⟩ := ckI_ex h
                obtain ⟨stk_14, estk_14, h⟩ := bnd_ex h
                refine va_iast (D := D) hx hb hK hP hD hS 2 0 rfl rfl c_13 dX9_workOut_166 (fun H locs hP hD hS => ?_)
                rw [← estk_14] at hP hD
                have hP : va_P D vwCl (wTW cA a t stk_14) H := hP
                have hD : va_D A (wTW cA a t stk_14) := hD
                exact C_167 y_8 v5_6b stk_14 _ h hl _ _ _ hP hD hS (lv_sub hv [2, 3, 4, 5, 0, 6] rfl)
              · have h := ite_t c_7 h
                refine lv_aload_n hx hb dX9_workOut_101 rfl (lv_at hv 1 rfl) ?_
                refine va_get (D := D) (ci := 9) (v := .ref (tS t)) (C := RX9) (T := TX9) (N := 7) hx hb hts in_9 hown hK hP 0 rfl rfl 5 (by decide) w_0 (fun _ h9 => h9) rfl dX9_workOut_102 ?_
                refine lv_iload hx hb dX9_workOut_105 (lv_at hv 5 rfl) ?_
                refine lv_iconst (v := (1 : Int32)) hx hb dX9_workOut_107 (by decide) ?_
                refine lv_isub hx hb dX9_workOut_108 ?_
                refine lv_aload_n hx hb dX9_workOut_109 rfl (lv_at hv 1 rfl) ?_
                refine va_get (D := D) (ci := 9) (v := .ref (tS t)) (C := RX9) (T := TX9) (N := 7) hx hb hts in_9 hown hK hP 0 rfl rfl 5 (by decide) w_0 (fun _ h9 => h9) rfl dX9_workOut_110 ?_
                refine lv_iload hx hb dX9_workOut_113 (lv_at hv 5 rfl) ?_
                refine lv_iconst (v := (1 : Int32)) hx hb dX9_workOut_115 (by decide) ?_
                refine lv_isub hx hb dX9_workOut_116 ?_
                obtain ⟨c_16, h⟩ := ckI_ex h
                refine va_iald (D := D) hx hb hK hP 2 0 rfl rfl c_16 dX9_workOut_117 ?_
                refine lv_if_ne (tgt := 125) hx hb dX9_workOut_118 (by decide) (fun c_17 => ?_) (fun c_17 => ?_)
                · have h := ite_f c_17 h
                  refine lv_iconst (v := (0 : Int32)) hx hb dX9_workOut_125 (by decide) ?_
                  exact C_126 v4_6b v5_6b (0 : Int32) (v4_6b - (1 : Int32)) stk_6b _ h hl _ _ _ hP hD hS (lv_sub hv [1, 2, 3, 4, 5, 6] rfl)
                · have h := ite_t c_17 h
                  refine lv_iconst (v := (1 : Int32)) hx hb dX9_workOut_121 (by decide) ?_
                  refine lv_goto (tgt := 126) hx hb dX9_workOut_122 (by decide) ?_
                  exact C_126 v4_6b v5_6b (1 : Int32) (v4_6b - (1 : Int32)) stk_6b _ h hl _ _ _ hP hD hS (lv_sub hv [1, 2, 3, 4, 5, 6] rfl)
            · have h := ite_f c_6 h
              refine lv_aload_n hx hb dX9_workOut_55 rfl (lv_at hv 1 rfl) ?_
              refine va_get (D := D) (ci := 9) (v := .ref (tS t)) (C := RX9) (T := TX9) (N := 7) hx hb hts in_9 hown hK hP 0 rfl rfl 5 (by decide) w_0 (fun _ h9 => h9) rfl dX9_workOut_56 ?_
              refine lv_iload hx hb dX9_workOut_59 (lv_at hv 5 rfl) ?_
              refine lv_iload hx hb dX9_workOut_61 (lv_at hv 0 rfl) ?_
              refine lv_sipush (v := (10000 : Int32)) hx hb dX9_workOut_63 (by decide) ?_
              refine lv_icmp_ne (tgt := 73) hx hb dX9_workOut_66 (by decide) (fun c_20 => ?_) (fun c_20 => ?_)
              · have h := ite_f c_20 h
                refine lv_iload hx hb dX9_workOut_73 (lv_at hv 0 rfl) ?_
                refine lv_sipush (v := (10001 : Int32)) hx hb dX9_workOut_75 (by decide) ?_
                refine lv_icmp_ne (tgt := 85) hx hb dX9_workOut_78 (by decide) (fun c_21 => ?_) (fun c_21 => ?_)
                · have h := ite_f c_21 h
                  refine lv_iload_n hx hb dX9_workOut_85 rfl (lv_at hv 4 rfl) ?_
                  exact C_86 v4_6b v5_6b v3_6 v4_6b stk_6b _ h hl _ _ _ hP hD hS (lv_sub hv [1, 2, 3, 4, 5, 6] rfl)
                · have h := ite_t c_21 h
                  refine lv_iload_n hx hb dX9_workOut_81 rfl (lv_at hv 3 rfl) ?_
                  refine lv_goto (tgt := 86) hx hb dX9_workOut_82 (by decide) ?_
                  exact C_86 v4_6b v5_6b v2_6 v4_6b stk_6b _ h hl _ _ _ hP hD hS (lv_sub hv [1, 2, 3, 4, 5, 6] rfl)
              · have h := ite_t c_20 h
                refine lv_iload_n hx hb dX9_workOut_69 rfl (lv_at hv 2 rfl) ?_
                refine lv_goto (tgt := 86) hx hb dX9_workOut_70 (by decide) ?_
                exact C_86 v4_6b v5_6b v1_6 v4_6b stk_6b _ h hl _ _ _ hP hD hS (lv_sub hv [1, 2, 3, 4, 5, 6] rfl)
          · have h := ite_f c_5 h
            refine lv_aload_n hx hb dX9_workOut_32 rfl (lv_at hv 1 rfl) ?_
            refine va_get (D := D) (ci := 9) (v := .ref (tS t)) (C := RX9) (T := TX9) (N := 7) hx hb hts in_9 hown hK hP 0 rfl rfl 5 (by decide) w_0 (fun _ h9 => h9) rfl dX9_workOut_33 ?_
            refine lv_iload hx hb dX9_workOut_36 (lv_at hv 5 rfl) ?_
            refine lv_iload hx hb dX9_workOut_38 (lv_at hv 0 rfl) ?_
            obtain ⟨c_25, h⟩ := ckI_ex h
            obtain ⟨stk_26, estk_26, h⟩ := bnd_ex h
            refine va_iast (D := D) hx hb hK hP hD hS 2 0 rfl rfl c_25 dX9_workOut_40 (fun H locs hP hD hS => ?_)
            rw [← estk_26] at hP hD
            have hP : va_P D vwCl (wTW cA a t stk_26) H := hP
            have hD : va_D A (wTW cA a t stk_26) := hD
            obtain ⟨y_27, ey_27, h⟩ := bnd_ex h
            refine lv_iinc (v := y_27) (lv' := [(4, .int y_27), (6, .int y_4), (0, .ref a), (1, .int v1_6), (2, .int v2_6), (3, .int v3_6), (5, .int v5_6b)]) hx hb dX9_workOut_41 hv (k := 5) rfl (by rw [ey_27]; rfl) (by decide) rfl (fun ls hv => ?_)
            refine lv_goto (tgt := 167) hx hb dX9_workOut_44 (by decide) ?_
            exact C_167 y_27 v5_6b stk_26 _ h hl _ _ _ hP hD hS (lv_sub hv [2, 3, 4, 5, 0, 6] rfl)
    exact LB FU v4_6 v5_6 stk_6 ho
  have hP : va_P D vwCl (wTW cA a t stk) H := hP
  unfold fX9_workOut at h
  refine lv_iconst (v := (0 : Int32)) hx hb dX9_workOut_0 (by decide) ?_
  refine lv_istore (lv' := [(4, .int (0 : Int32)), (0, .ref a), (1, .int x), (2, .int y), (3, .int z)]) hx hb dX9_workOut_1 hv (by decide) rfl (fun ls hv => ?_)
  refine lv_iconst (v := (0 : Int32)) hx hb dX9_workOut_3 (by decide) ?_
  refine lv_istore (lv' := [(5, .int (0 : Int32)), (4, .int (0 : Int32)), (0, .ref a), (1, .int x), (2, .int y), (3, .int z)]) hx hb dX9_workOut_4 hv (by decide) rfl (fun ls hv => ?_)
  exact C_6 x y z (0 : Int32) (0 : Int32) stk h _ _ _ hP hD hS (lv_sub hv [2, 3, 4, 5, 1, 0] rfl)

