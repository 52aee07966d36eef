def fX9_stopHere (nmi : Nat) (tn : Nat) (byt : Nat → Int32) (tat : Int32) (tfault : Int32) : Option (Int32) :=
  (if 0 ≤ tfault then some tfault else some tat)
set_option maxHeartbeats 4000000 in
set_option maxRecDepth 100000 in
theorem c_X9_stopHere (l : Launch) (G : Nat → Nat) (D : va_G) (cA : Nat → ClassId) (to : Nat) (tb : Nat) (tc : Nat) (ts : Nat) (nmi : Nat) (tn : Nat) (byt : Nat → Int32) (stk : Nat → Int32) (sz : Nat) (tat : Int32) (tlen : Int32) (tfault : Int32) (codes : Nat → Int32) (tfaultR : Int32) (h : fX9_stopHere nmi tn byt tat tfault = some tfaultR) : Met l yX9_stopHere wsX9_stopHere ({ frames := 0, cells := 0, slots := 0, locals := 0 } : Room) (PW G D (tyC cA) sz (wT cA G to tb tc ts nmi tn byt stk tat tlen tfault codes) [.ref to]) (QV D (tyC cA) (va_A (wT cA G to tb tc ts nmi tn byt stk tat tlen tfault codes) sz) (wT cA G to tb tc ts nmi tn byt stk tat tlen tfaultR codes)) 0 0 (va_A (wT cA G to tb tc ts nmi tn byt stk tat tlen tfault codes) sz) := by
  refine ent (cc := cX9_stopHere) (maxL := 1) (ret := none) (fun A => QV D (tyC cA) A (wT cA G to tb tc ts nmi tn byt stk tat tlen tfaultR codes)) (by decide +kernel) rfl (Nat.le_of_ble_eq_true rfl) ?_
  intro p e s m args below meth c A ls H hx hb hml hr hlk hts hown hA hK hE hP hD hS hv hmm
  have hv : lv_has ls 1 [(0, .ref to)] := hv
  have in_9 : ∀ w ∈ u_ws RX9 TX9 7, w ∈ wsX9_stopHere := fun _ h => List.mem_cons_of_mem _ (List.mem_append_right _ h)
  have w_0 := hts (.fieldLink RX9 9 "SpoonsLast$Text" "fault" "I") (List.mem_of_getElem? (i := 1) rfl)
  have w_1 := hts (.fieldLink RX9 39 "SpoonsLast$Text" "at" "I") (List.mem_of_getElem? (i := 2) rfl)
  generalize hQ : MQ below _ args s 0 0 A = Q
  have hP : va_P D vwCl (wT cA G to tb tc ts nmi tn byt stk tat tlen tfault codes) H := hP
  unfold fX9_stopHere at h
  refine lv_aload_n hx hb dX9_stopHere_0 rfl (lv_at hv 0 rfl) ?_
  refine va_get (D := D) (ci := 9) (v := .int tfault) (C := RX9) (T := TX9) (N := 7) hx hb hts in_9 hown hK hP 0 rfl rfl 6 (by decide) w_0 (fun _ h9 => h9) rfl dX9_stopHere_1 ?_
  refine lv_if_ge (tgt := 15) hx hb dX9_stopHere_4 (by decide) (fun c_1 => ?_) (fun c_1 => ?_)
  · have h := ite_t c_1 h
    have h := Option.some.inj h
    have ee0 : tfault = tfaultR := congrArg (fun q => q) h
    subst ee0
    rw [← hQ]
    exact retV hx hb hr hlk hK hP hD hS dX9_stopHere_15 ⟨Nat.le_of_ble_eq_true rfl, Nat.le_of_ble_eq_true rfl⟩
  · have h := ite_f c_1 h
    refine lv_aload_n hx hb dX9_stopHere_7 rfl (lv_at hv 0 rfl) ?_
    refine lv_aload_n hx hb dX9_stopHere_8 rfl (lv_at hv 0 rfl) ?_
    refine va_get (D := D) (ci := 9) (v := .int tat) (C := RX9) (T := TX9) (N := 7) hx hb hts in_9 hown hK hP 0 rfl rfl 2 (by decide) w_1 (fun _ h9 => h9) rfl dX9_stopHere_9 ?_
    refine va_put (D := D) (ci := 9) (v := .int tat) (ty := .int) (C := RX9) (T := TX9) (N := 7) hx hb hts in_9 tyX9 tyX9_ok nmX9 hown hK hP hD hS 0 rfl rfl 6 (by decide) w_0 (fun _ h9 => h9) rfl (by decide +kernel) rfl rfl (Nat.le_of_ble_eq_true rfl) dX9_stopHere_12 (fun H locs hP hD hS => ?_)
    have hP : va_P D vwCl (wT cA G to tb tc ts nmi tn byt stk tat tlen tat codes) H := hP
    have hD : va_D A (wT cA G to tb tc ts nmi tn byt stk tat tlen tat codes) := hD
    have h := Option.some.inj h
    have ee0 : tat = tfaultR := congrArg (fun q => q) h
    subst ee0
    rw [← hQ]
    exact retV hx hb hr hlk hK hP hD hS dX9_stopHere_15 ⟨Nat.le_of_ble_eq_true rfl, Nat.le_of_ble_eq_true rfl⟩

def fX9_sees (nmi : Nat) (tn : Nat) (byt : Nat → Int32) (si : Nat) (tat : Int32) (tfault : Int32) : Option (Int32) :=
  (if 0 ≤ tfault then some (0 : Int32) else (if (nI tn) ≤ tat then some (0 : Int32) else ckI tat tn (ck (si < 11) (bd (fJ0_indexOf_0f7a4 si (i2cJ (byt (tat).toNatClampNeg))) fun r_5 => (if r_5 < 0 then some (0 : Int32) else some (1 : Int32))))))
set_option maxHeartbeats 4000000 in
set_option maxRecDepth 100000 in
theorem c_X9_sees (l : Launch) (G : Nat → Nat) (D : va_G) (cA : Nat → ClassId) (to : Nat) (tb : Nat) (tc : Nat) (ts : Nat) (nmi : Nat) (tn : Nat) (byt : Nat → Int32) (stk : Nat → Int32) (sz : Nat) (tat : Int32) (tlen : Int32) (tfault : Int32) (codes : Nat → Int32) (si : Nat) (rR : Int32) (h : fX9_sees nmi tn byt si tat tfault = some rR) : Met l yX9_sees wsX9_sees ({ frames := 4, cells := 0, slots := 0, locals := 96 } : Room) (PW G D (tyC cA) sz (wT cA G to tb tc ts nmi tn byt stk tat tlen tfault codes) [.ref to, .ref (G si)]) (QI D (tyC cA) (va_A (wT cA G to tb tc ts nmi tn byt stk tat tlen tfault codes) sz) rR (wT cA G to tb tc ts nmi tn byt stk tat tlen tfault codes)) 0 0 (va_A (wT cA G to tb tc ts nmi tn byt stk tat tlen tfault codes) sz) := by
  refine ent (cc := cX9_sees) (maxL := 2) (ret := (some .boolean)) (fun A => QI D (tyC cA) A rR (wT cA G to tb tc ts nmi tn byt stk tat tlen tfault codes)) (by decide +kernel) rfl (Nat.le_of_ble_eq_true rfl) ?_
  intro p e s m args below meth c A ls H hx hb hml hr hlk hts hown hA hK hE hP hD hS hv hmm
  have hv : lv_has ls 2 [(0, .ref to), (1, .ref (G si))] := hv
  have in_9 : ∀ w ∈ u_ws RX9 TX9 7, w ∈ wsX9_sees := fun _ h => List.mem_cons_of_mem _ (List.mem_append_right _ h)
  have w_0 := hts (.fieldLink RX9 9 "SpoonsLast$Text" "fault" "I") (List.mem_of_getElem? (i := 1) rfl)
  have w_1 := hts (.fieldLink RX9 39 "SpoonsLast$Text" "at" "I") (List.mem_of_getElem? (i := 2) rfl)
  have w_2 := hts (.fieldLink RX9 21 "SpoonsLast$Text" "bytes" "[I") (List.mem_of_getElem? (i := 3) rfl)
  generalize hQ : MQ below _ args s 0 0 A = Q
  have hP : va_P D vwCl (wT cA G to tb tc ts nmi tn byt stk tat tlen tfault codes) H := hP
  unfold fX9_sees at h
  refine lv_aload_n hx hb dX9_sees_0 rfl (lv_at hv 0 rfl) ?_
  refine va_get (D := D) (ci := 9) (v := .int tfault) (C := RX9) (T := TX9) (N := 7) hx hb hts in_9 hown hK hP 0 rfl rfl 6 (by decide) w_0 (fun _ h9 => h9) rfl dX9_sees_1 ?_
  refine lv_if_ge (tgt := 40) hx hb dX9_sees_4 (by decide) (fun c_1 => ?_) (fun c_1 => ?_)
  · have h := ite_t c_1 h
    refine lv_iconst (v := (0 : Int32)) hx hb dX9_sees_40 (by decide) ?_
    have h := Option.some.inj h
    have ee0 : (0 : Int32) = rR := congrArg (fun q => q) h
    subst ee0
    rw [← hQ]
    exact retZ (by decide) hx hb hr hlk hK hP hD hS dX9_sees_41 ⟨Nat.le_of_ble_eq_true rfl, Nat.le_of_ble_eq_true rfl⟩
  · have h := ite_f c_1 h
    refine lv_aload_n hx hb dX9_sees_7 rfl (lv_at hv 0 rfl) ?_
    refine va_get (D := D) (ci := 9) (v := .int tat) (C := RX9) (T := TX9) (N := 7) hx hb hts in_9 hown hK hP 0 rfl rfl 2 (by decide) w_1 (fun _ h9 => h9) rfl dX9_sees_8 ?_
    refine lv_aload_n hx hb dX9_sees_11 rfl (lv_at hv 0 rfl) ?_
    refine va_get (D := D) (ci := 9) (v := .ref tb) (C := RX9) (T := TX9) (N := 7) hx hb hts in_9 hown hK hP 0 rfl rfl 0 (by decide) w_2 (fun _ h9 => h9) rfl dX9_sees_12 ?_
    refine va_alen (D := D) (v := (nI tn)) hx hb hK hP 1 0 rfl rfl rfl dX9_sees_15 ?_
    refine lv_icmp_ge (tgt := 40) hx hb dX9_sees_16 (by decide) (fun c_2 => ?_) (fun c_2 => ?_)
    · have h := ite_t c_2 h
      refine lv_iconst (v := (0 : Int32)) hx hb dX9_sees_40 (by decide) ?_
      have h := Option.some.inj h
      have ee0 : (0 : Int32) = rR := congrArg (fun q => q) h
      subst ee0
      rw [← hQ]
      exact retZ (by decide) hx hb hr hlk hK hP hD hS dX9_sees_41 ⟨Nat.le_of_ble_eq_true rfl, Nat.le_of_ble_eq_true rfl⟩
    · have h := ite_f c_2 h
      refine lv_aload_n hx hb dX9_sees_19 rfl (lv_at hv 1 rfl) ?_
      refine lv_aload_n hx hb dX9_sees_20 rfl (lv_at hv 0 rfl) ?_
      refine va_get (D := D) (ci := 9) (v := .ref tb) (C := RX9) (T := TX9) (N := 7) hx hb hts in_9 hown hK hP 0 rfl rfl 0 (by decide) w_2 (fun _ h9 => h9) rfl dX9_sees_21 ?_
      refine lv_aload_n hx hb dX9_sees_24 rfl (lv_at hv 0 rfl) ?_
      refine va_get (D := D) (ci := 9) (v := .int tat) (C := RX9) (T := TX9) (N := 7) hx hb hts in_9 hown hK hP 0 rfl rfl 2 (by decide) w_1 (fun _ h9 => h9) rfl dX9_sees_25 ?_
      obtain ⟨c_3, h⟩ := ckI_ex h
      refine va_iald (D := D) hx hb hK hP 1 0 rfl rfl c_3 dX9_sees_28 ?_
      refine lv_i2c (v := (i2cJ (byt (tat).toNatClampNeg))) hx hb dX9_sees_29 rfl ?_
      obtain ⟨c_4, h⟩ := ck_ex h
      obtain ⟨r_5, hf_6, h⟩ := bd_ex h
      have sb := Sb.nil hP hD hS hA
      refine calI (va_runV (As := [.int (i2cJ (byt (tat).toNatClampNeg))]) (rest := []) ⟨hx, hb, hml, hown, hts⟩ (c_J0_indexOf_0f7a4 l G D cA  _ si (i2cJ (byt (tat).toNatClampNeg)) r_5 hf_6) (cwV 1 hts gX9_sees_J0_indexOf_0f7a4 rfl rfl rfl (by decide +kernel) ⟨Nat.le_of_ble_eq_true rfl, Nat.le_of_ble_eq_true rfl⟩) (pvV hE hK hS sb (vk_recv hE.2.1 c_4 hS)) rfl rfl hv.1 rfl (lv_room (Nat.le_of_ble_eq_true rfl)) dX9_sees_30 ⟨Nat.le_of_ble_eq_true rfl, Nat.le_of_ble_eq_true rfl⟩) hS sb (Jn.nil hP hD) (fun H locs hP hD hS => ?_)
      have hP : va_P D vwCl (wT cA G to tb tc ts nmi tn byt stk tat tlen tfault codes) H := hP
      have hD : va_D A (wT cA G to tb tc ts nmi tn byt stk tat tlen tfault codes) := hD
      refine lv_if_lt (tgt := 40) hx hb dX9_sees_33 (by decide) (fun c_7 => ?_) (fun c_7 => ?_)
      · have h := ite_t c_7 h
        refine lv_iconst (v := (0 : Int32)) hx hb dX9_sees_40 (by decide) ?_
        have h := Option.some.inj h
        have ee0 : (0 : Int32) = rR := congrArg (fun q => q) h
        subst ee0
        rw [← hQ]
        exact retZ (by decide) hx hb hr hlk hK hP hD hS dX9_sees_41 ⟨Nat.le_of_ble_eq_true rfl, Nat.le_of_ble_eq_true rfl⟩
      · have h := ite_f c_7 h
        refine lv_iconst (v := (1 : Int32)) hx hb dX9_sees_36 (by decide) ?_
        refine lv_goto (tgt := 41) hx hb dX9_sees_37 (by decide) ?_
        have h := Option.some.inj h
        have ee0 : (1 : Int32) = rR := congrArg (fun q => q) h
        subst ee0
        rw [← hQ]
        exact retZ (by decide) hx hb hr hlk hK hP hD hS dX9_sees_41 ⟨Nat.le_of_ble_eq_true rfl, Nat.le_of_ble_eq_true rfl⟩

def fX9_take (nmi : Nat) (tn : Nat) (byt : Nat → Int32) (tat : Int32) : Option (Int32 × Int32) :=
  ckI tat tn (bnd (byt (tat).toNatClampNeg) fun y_2 => bnd (tat + (1 : Int32)) fun y_3 => some (y_2, y_3))
set_option maxHeartbeats 4000000 in
set_option maxRecDepth 100000 in
theorem c_X9_take (l : Launch) (G : Nat → Nat) (D : va_G) (cA : Nat → ClassId) (to : Nat) (tb : Nat) (tc : Nat) (ts : Nat) (nmi : Nat) (tn : Nat) (byt : Nat → Int32) (stk : Nat → Int32) (sz : Nat) (tat : Int32) (tlen : Int32) (tfault : Int32) (codes : Nat → Int32) (rR : Int32) (tatR : Int32) (h : fX9_take nmi tn byt tat = some (rR, tatR)) : Met l yX9_take wsX9_take ({ frames := 0, cells := 0, slots := 0, locals := 0 } : Room) (PW G D (tyC cA) sz (wT cA G to tb tc ts nmi tn byt stk tat tlen tfault codes) [.ref to]) (QI D (tyC cA) (va_A (wT cA G to tb tc ts nmi tn byt stk tat tlen tfault codes) sz) rR (wT cA G to tb tc ts nmi tn byt stk tatR tlen tfault codes)) 0 0 (va_A (wT cA G to tb tc ts nmi tn byt stk tat tlen tfault codes) sz) := by
  refine ent (cc := cX9_take) (maxL := 2) (ret := (some .int)) (fun A => QI D (tyC cA) A rR (wT cA G to tb tc ts nmi tn byt stk tatR tlen tfault codes)) (by decide +kernel) rfl (Nat.le_of_ble_eq_true rfl) ?_
  intro p e s m args below meth c A ls H hx hb hml hr hlk hts hown hA hK hE hP hD hS hv hmm
  have hv : lv_has ls 2 [(0, .ref to)] := hv
  have in_9 : ∀ w ∈ u_ws RX9 TX9 7, w ∈ wsX9_take := fun _ h => List.mem_cons_of_mem _ (List.mem_append_right _ h)
  have w_0 := hts (.fieldLink RX9 21 "SpoonsLast$Text" "bytes" "[I") (List.mem_of_getElem? (i := 1) rfl)
  have w_1 := hts (.fieldLink RX9 39 "SpoonsLast$Text" "at" "I") (List.mem_of_getElem? (i := 2) rfl)
  generalize hQ : MQ below _ args s 0 0 A = Q
  have hP : va_P D vwCl (wT cA G to tb tc ts nmi tn byt stk tat tlen tfault codes) H := hP
  unfold fX9_take at h
  refine lv_aload_n hx hb dX9_take_0 rfl (lv_at hv 0 rfl) ?_
  refine va_get (D := D) (ci := 9) (v := .ref tb) (C := RX9) (T := TX9) (N := 7) hx hb hts in_9 hown hK hP 0 rfl rfl 0 (by decide) w_0 (fun _ h9 => h9) rfl dX9_take_1 ?_
  refine lv_aload_n hx hb dX9_take_4 rfl (lv_at hv 0 rfl) ?_
  refine va_get (D := D) (ci := 9) (v := .int tat) (C := RX9) (T := TX9) (N := 7) hx hb hts in_9 hown hK hP 0 rfl rfl 2 (by decide) w_1 (fun _ h9 => h9) rfl dX9_take_5 ?_
  obtain ⟨c_1, h⟩ := ckI_ex h
  refine va_iald (D := D) hx hb hK hP 1 0 rfl rfl c_1 dX9_take_8 ?_
  obtain ⟨y_2, ey_2, h⟩ := bnd_ex h
  refine lv_nm ey_2 ?_
  refine lv_istore_n (lv' := [(1, .int y_2), (0, .ref to)]) hx hb dX9_take_9 rfl hv (by decide) rfl (fun ls hv => ?_)
  refine lv_aload_n hx hb dX9_take_10 rfl (lv_at hv 1 rfl) ?_
  refine lv_dup hx hb dX9_take_11 rfl ?_
  refine va_get (D := D) (ci := 9) (v := .int tat) (C := RX9) (T := TX9) (N := 7) hx hb hts in_9 hown hK hP 0 rfl rfl 2 (by decide) w_1 (fun _ h9 => h9) rfl dX9_take_12 ?_
  refine lv_iconst (v := (1 : Int32)) hx hb dX9_take_15 (by decide) ?_
  refine lv_iadd hx hb dX9_take_16 ?_
  obtain ⟨y_3, ey_3, h⟩ := bnd_ex h
  refine lv_nm ey_3 ?_
  refine va_put (D := D) (ci := 9) (v := .int y_3) (ty := .int) (C := RX9) (T := TX9) (N := 7) hx hb hts in_9 tyX9 tyX9_ok nmX9 hown hK hP hD hS 0 rfl rfl 2 (by decide) w_1 (fun _ h9 => h9) rfl (by decide +kernel) rfl rfl (Nat.le_of_ble_eq_true rfl) dX9_take_17 (fun H locs hP hD hS => ?_)
  have hP : va_P D vwCl (wT cA G to tb tc ts nmi tn byt stk y_3 tlen tfault codes) H := hP
  have hD : va_D A (wT cA G to tb tc ts nmi tn byt stk y_3 tlen tfault codes) := hD
  refine lv_iload_n hx hb dX9_take_20 rfl (lv_at hv 0 rfl) ?_
  have h := Option.some.inj h
  have ee0 : y_2 = rR := congrArg (fun q => q.1) h
  have ee1 : y_3 = tatR := congrArg (fun q => q.2) h
  subst ee0
  subst ee1
  rw [← hQ]
  exact retI hx hb hr hlk hK hP hD hS dX9_take_21 ⟨Nat.le_of_ble_eq_true rfl, Nat.le_of_ble_eq_true rfl⟩

def fX9_write (nmi : Nat) (tn : Nat) (byt : Nat → Int32) (v : Int32) (tlen : Int32) (tfault : Int32) (codes : Nat → Int32) : Option (Int32 × (Nat → Int32)) :=
  (if 0 ≤ tfault then some (tlen, codes) else ckI tlen tn (bnd (upd codes (tlen).toNatClampNeg v) fun codes_3 => bnd (tlen + (1 : Int32)) fun y_4 => some (y_4, codes_3)))
set_option maxHeartbeats 4000000 in
set_option maxRecDepth 100000 in
theorem c_X9_write (l : Launch) (G : Nat → Nat) (D : va_G) (cA : Nat → ClassId) (to : Nat) (tb : Nat) (tc : Nat) (ts : Nat) (nmi : Nat) (tn : Nat) (byt : Nat → Int32) (stk : Nat → Int32) (sz : Nat) (tat : Int32) (tlen : Int32) (tfault : Int32) (codes : Nat → Int32) (v : Int32) (tlenR : Int32) (codesR : Nat → Int32) (h : fX9_write nmi tn byt v tlen tfault codes = some (tlenR, codesR)) : Met l yX9_write wsX9_write ({ frames := 0, cells := 0, slots := 0, locals := 0 } : Room) (PW G D (tyC cA) sz (wT cA G to tb tc ts nmi tn byt stk tat tlen tfault codes) [.ref to, .int v]) (QV D (tyC cA) (va_A (wT cA G to tb tc ts nmi tn byt stk tat tlen tfault codes) sz) (wT cA G to tb tc ts nmi tn byt stk tat tlenR tfault codesR)) 0 0 (va_A (wT cA G to tb tc ts nmi tn byt stk tat tlen tfault codes) sz) := by
  refine ent (cc := cX9_write) (maxL := 2) (ret := none) (fun A => QV D (tyC cA) A (wT cA G to tb tc ts nmi tn byt stk tat tlenR tfault codesR)) (by decide +kernel) rfl (Nat.le_of_ble_eq_true rfl) ?_
  intro p e s m args below meth c A ls H hx hb hml hr hlk hts hown hA hK hE hP hD hS hv hmm
  have hv : lv_has ls 2 [(0, .ref to), (1, .int v)] := hv
  have in_9 : ∀ w ∈ u_ws RX9 TX9 7, w ∈ wsX9_write := fun _ h => List.mem_cons_of_mem _ (List.mem_append_right _ h)
  have w_0 := hts (.fieldLink RX9 9 "SpoonsLast$Text" "fault" "I") (List.mem_of_getElem? (i := 1) rfl)
  have w_1 := hts (.fieldLink RX9 29 "SpoonsLast$Text" "codes" "[I") (List.mem_of_getElem? (i := 2) rfl)
  have w_2 := hts (.fieldLink RX9 98 "SpoonsLast$Text" "length" "I") (List.mem_of_getElem? (i := 3) rfl)
  generalize hQ : MQ below _ args s 0 0 A = Q
  have hP : va_P D vwCl (wT cA G to tb tc ts nmi tn byt stk tat tlen tfault codes) H := hP
  unfold fX9_write at h
  refine lv_aload_n hx hb dX9_write_0 rfl (lv_at hv 0 rfl) ?_
  refine va_get (D := D) (ci := 9) (v := .int tfault) (C := RX9) (T := TX9) (N := 7) hx hb hts in_9 hown hK hP 0 rfl rfl 6 (by decide) w_0 (fun _ h9 => h9) rfl dX9_write_1 ?_
  refine lv_if_ge (tgt := 27) hx hb dX9_write_4 (by decide) (fun c_1 => ?_) (fun c_1 => ?_)
  · have h := ite_t c_1 h
    have h := Option.some.inj h
    have ee0 : tlen = tlenR := congrArg (fun q => q.1) h
    have ee1 : codes = codesR := congrArg (fun q => q.2) h
    subst ee0
    subst ee1
    rw [← hQ]
    exact retV hx hb hr hlk hK hP hD hS dX9_write_27 ⟨Nat.le_of_ble_eq_true rfl, Nat.le_of_ble_eq_true rfl⟩
  · have h := ite_f c_1 h
    refine lv_aload_n hx hb dX9_write_7 rfl (lv_at hv 0 rfl) ?_
    refine va_get (D := D) (ci := 9) (v := .ref tc) (C := RX9) (T := TX9) (N := 7) hx hb hts in_9 hown hK hP 0 rfl rfl 3 (by decide) w_1 (fun _ h9 => h9) rfl dX9_write_8 ?_
    refine lv_aload_n hx hb dX9_write_11 rfl (lv_at hv 0 rfl) ?_
    refine va_get (D := D) (ci := 9) (v := .int tlen) (C := RX9) (T := TX9) (N := 7) hx hb hts in_9 hown hK hP 0 rfl rfl 4 (by decide) w_2 (fun _ h9 => h9) rfl dX9_write_12 ?_
    refine lv_iload_n hx hb dX9_write_15 rfl (lv_at hv 1 rfl) ?_
    obtain ⟨c_2, h⟩ := ckI_ex h
    obtain ⟨codes_3, ecodes_3, h⟩ := bnd_ex h
    refine va_iast (D := D) hx hb hK hP hD hS 2 0 rfl rfl c_2 dX9_write_16 (fun H locs hP hD hS => ?_)
    rw [← ecodes_3] at hP hD
    have hP : va_P D vwCl (wT cA G to tb tc ts nmi tn byt stk tat tlen tfault codes_3) H := hP
    have hD : va_D A (wT cA G to tb tc ts nmi tn byt stk tat tlen tfault codes_3) := hD
    refine lv_aload_n hx hb dX9_write_17 rfl (lv_at hv 0 rfl) ?_
    refine lv_dup hx hb dX9_write_18 rfl ?_
    refine va_get (D := D) (ci := 9) (v := .int tlen) (C := RX9) (T := TX9) (N := 7) hx hb hts in_9 hown hK hP 0 rfl rfl 4 (by decide) w_2 (fun _ h9 => h9) rfl dX9_write_19 ?_
    refine lv_iconst (v := (1 : Int32)) hx hb dX9_write_22 (by decide) ?_
    refine lv_iadd hx hb dX9_write_23 ?_
    obtain ⟨y_4, ey_4, h⟩ := bnd_ex h
    refine lv_nm ey_4 ?_
    refine va_put (D := D) (ci := 9) (v := .int y_4) (ty := .int) (C := RX9) (T := TX9) (N := 7) hx hb hts in_9 tyX9 tyX9_ok nmX9 hown hK hP hD hS 0 rfl rfl 4 (by decide) w_2 (fun _ h9 => h9) rfl (by decide +kernel) rfl rfl (Nat.le_of_ble_eq_true rfl) dX9_write_24 (fun H locs hP hD hS => ?_)
    have hP : va_P D vwCl (wT cA G to tb tc ts nmi tn byt stk tat y_4 tfault codes_3) H := hP
    have hD : va_D A (wT cA G to tb tc ts nmi tn byt stk tat y_4 tfault codes_3) := hD
    have h := Option.some.inj h
    have ee0 : y_4 = tlenR := congrArg (fun q => q.1) h
    have ee1 : codes_3 = codesR := congrArg (fun q => q.2) h
    subst ee0
    subst ee1
    rw [← hQ]
    exact retV hx hb hr hlk hK hP hD hS dX9_write_27 ⟨Nat.le_of_ble_eq_true rfl, Nat.le_of_ble_eq_true rfl⟩

def fX9_readNumber_4B (nmi : Nat) (tn : Nat) (byt : Nat → Int32) (tlen_4 : Int32) (tfault : Int32) (codes_4 : Nat → Int32) (v1_4b : Int32) (v2_4b : Int32) (tat_4b : Int32) : Option ((Int32 × Int32 × Int32) ⊕ (Int32 × Int32 × Int32)) :=
  (if (4 : Int32) ≤ v2_4b then some (.inr (v1_4b, v2_4b, tat_4b)) else bd (fX9_sees nmi tn byt 2 tat_4b tfault) fun r_5 => (if r_5 = 0 then some (.inr (v1_4b, v2_4b, tat_4b)) else bd (fX9_take nmi tn byt tat_4b) fun (r_8, tat_9) => bnd (((v1_4b * (10 : Int32)) + r_8) - (48 : Int32)) fun y_11 => bnd (v2_4b + (1 : Int32)) fun y_12 => some (.inl (y_11, y_12, tat_9))))
def fX9_readNumber_4 (nmi : Nat) (tn : Nat) (byt : Nat → Int32) (v1_4 : Int32) (v2_4 : Int32) (tat_4 : Int32) (tlen_4 : Int32) (tfault : Int32) (codes_4 : Nat → Int32) : Option (Int32 × Int32 × (Nat → Int32)) :=
  bd (lp (fun σ : Int32 × Int32 × Int32 => fX9_readNumber_4B nmi tn byt tlen_4 tfault codes_4 (σ.1) (σ.2.1) (σ.2.2)) FU (v1_4, v2_4, tat_4)) fun ρ => match ρ with | (v1_4r, v2_4r, tat_4r) => bd (fX9_write nmi tn byt v1_4r tlen_4 tfault codes_4) fun (tlen_1, codes_2) => some (tat_4r, tlen_1, codes_2)
def fX9_readNumber (nmi : Nat) (tn : Nat) (byt : Nat → Int32) (tat : Int32) (tlen : Int32) (tfault : Int32) (codes : Nat → Int32) : Option (Int32 × Int32 × (Nat → Int32)) :=
  fX9_readNumber_4 nmi tn byt (0 : Int32) (0 : Int32) tat tlen tfault codes
set_option maxHeartbeats 4000000 in
set_option maxRecDepth 100000 in
theorem c_X9_readNumber (l : Launch) (G : Nat → Nat) (D : va_G) (cA : Nat → ClassId) (to : Nat) (tb : Nat) (tc : Nat) (ts : Nat) (nmi : Nat) (tn : Nat) (byt : Nat → Int32) (stk : Nat → Int32) (sz : Nat) (tat : Int32) (tlen : Int32) (tfault : Int32) (codes : Nat → Int32) (tatR : Int32) (tlenR : Int32) (codesR : Nat → Int32) (h : fX9_readNumber nmi tn byt tat tlen tfault codes = some (tatR, tlenR, codesR)) : Met l yX9_readNumber wsX9_readNumber ({ frames := 5, cells := 0, slots := 0, locals := 117 } : Room) (PW G D (tyC cA) sz (wT cA G to tb tc ts nmi tn byt stk tat tlen tfault codes) [.ref to]) (QV D (tyC cA) (va_A (wT cA G to tb tc ts nmi tn byt stk tat tlen tfault codes) sz) (wT cA G to tb tc ts nmi tn byt stk tatR tlenR tfault codesR)) 0 0 (va_A (wT cA G to tb tc ts nmi tn byt stk tat tlen tfault codes) sz) := by
  refine ent (cc := cX9_readNumber) (maxL := 3) (ret := none) (fun A => QV D (tyC cA) A (wT cA G to tb tc ts nmi tn byt stk tatR tlenR tfault codesR)) (by decide +kernel) rfl (Nat.le_of_ble_eq_true rfl) ?_
  intro p e s m args below meth c A ls H hx hb hml hr hlk hts hown hA hK hE hP hD hS hv hmm
  have hv : lv_has ls 3 [(0, .ref to)] := hv
  generalize hQ : MQ below _ args s 0 0 A = Q
  have C_4 : ∀ (v1_4 : Int32) (v2_4 : Int32) (tat_4 : Int32) (tlen_4 : Int32) (codes_4 : Nat → Int32), fX9_readNumber_4 nmi tn byt v1_4 v2_4 tat_4 tlen_4 tfault codes_4 = some (tatR, tlenR, codesR) → WW p l e ({ frames := 5, cells := 0, slots := 0, locals := 117 } : Room) s m args below meth c D A 0 0 Q (wT cA G to tb tc ts nmi tn byt stk tat_4 tlen_4 tfault codes_4) 3 [(0, .ref to), (1, .int v1_4), (2, .int v2_4)] 4 [] := by
    intro v1_4 v2_4 tat_4 tlen_4 codes_4 h
    unfold fX9_readNumber_4 at h
    obtain ⟨⟨v1_4r, v2_4r, tat_4r⟩, ho, h⟩ := bd_ex h
    have LE : WW p l e ({ frames := 5, cells := 0, slots := 0, locals := 117 } : Room) s m args below meth c D A 0 0 Q (wT cA G to tb tc ts nmi tn byt stk tat_4r tlen_4 tfault codes_4) 3 [(0, .ref to), (1, .int v1_4r)] 37 [] := by
      intro H locs ls hP hD hS hv
      refine lv_aload_n hx hb dX9_readNumber_37 rfl (lv_at hv 0 rfl) ?_
      refine lv_iload_n hx hb dX9_readNumber_38 rfl (lv_at hv 1 rfl) ?_
      obtain ⟨⟨tlen_1, codes_2⟩, hf_3, h⟩ := bd_ex h
      have sb := Sb.same hP hD hS hA
      refine calV (va_runV (As := [.int v1_4r]) (rest := []) ⟨hx, hb, hml, hown, hts⟩ (c_X9_write l G D cA to tb tc ts nmi tn byt stk _ tat_4r tlen_4 tfault codes_4 v1_4r tlen_1 codes_2 hf_3) (cwV 1 hts gX9_readNumber_X9_write rfl rfl rfl (by decide +kernel) ⟨Nat.le_of_ble_eq_true rfl, Nat.le_of_ble_eq_true rfl⟩) (pvV hE hK hS sb (va_recv hK hP (ci := 9) (q0 := 0) rfl rfl)) rfl rfl hv.1 rfl (lv_room (Nat.le_of_ble_eq_true rfl)) dX9_readNumber_39 ⟨Nat.le_of_ble_eq_true rfl, Nat.le_of_ble_eq_true rfl⟩) hS sb (Jn.same sb) (fun H locs hP hD hS => ?_)
      have hP : va_P D vwCl (wT cA G to tb tc ts nmi tn byt stk tat_4r tlen_1 tfault codes_2) H := hP
      have hD : va_D A (wT cA G to tb tc ts nmi tn byt stk tat_4r tlen_1 tfault codes_2) := hD
      have h := Option.some.inj h
      have ee0 : tat_4r = tatR := congrArg (fun q => q.1) h
      have ee1 : tlen_1 = tlenR := congrArg (fun q => q.2.1) h
      have ee2 : codes_2 = codesR := congrArg (fun q => q.2.2) h
      subst ee0
      subst ee1
      subst ee2
      rw [← hQ]
      exact retV hx hb hr hlk hK hP hD hS dX9_readNumber_42 ⟨Nat.le_of_ble_eq_true rfl, Nat.le_of_ble_eq_true rfl⟩
    have LB : ∀ (nf : Nat) (v1_4b : Int32) (v2_4b : Int32) (tat_4b : Int32), lp (fun σ : Int32 × Int32 × Int32 => fX9_readNumber_4B nmi tn byt tlen_4 tfault codes_4 (σ.1) (σ.2.1) (σ.2.2)) nf (v1_4b, v2_4b, tat_4b) = some (v1_4r, v2_4r, tat_4r) → WW p l e ({ frames := 5, cells := 0, slots := 0, locals := 117 } : Room) s m args below meth c D A 0 0 Q (wT cA G to tb tc ts nmi tn byt stk tat_4b tlen_4 tfault codes_4) 3 [(0, .ref to), (1, .int v1_4b), (2, .int v2_4b)] 4 [] := by
      intro nf
      induction nf with
      | zero => intro v1_4b v2_4b tat_4b hl; cases hl
      | succ nf ih =>
        intro v1_4b v2_4b tat_4b hl
        obtain ⟨x, h, hl⟩ := lp_ex hl
        have h : fX9_readNumber_4B nmi tn byt tlen_4 tfault codes_4 v1_4b v2_4b tat_4b = some x := h
        unfold fX9_readNumber_4B at h
        intro H locs ls hP hD hS hv
        refine lv_iload_n hx hb dX9_readNumber_4 rfl (lv_at hv 2 rfl) ?_
        refine lv_iconst (v := (4 : Int32)) hx hb dX9_readNumber_5 (by decide) ?_
        refine lv_icmp_ge (tgt := 37) hx hb dX9_readNumber_6 (by decide) (fun c_4 => ?_) (fun c_4 => ?_)
        · have h := ite_t c_4 h
          cases h
          have hl : some (v1_4b, v2_4b, tat_4b) = some (v1_4r, v2_4r, tat_4r) := hl
          have hl := Option.some.inj hl
          have ee0 : v1_4b = v1_4r := congrArg (fun q => q.1) hl
          have ee1 : v2_4b = v2_4r := congrArg (fun q => q.2.1) hl
          have ee2 : tat_4b = tat_4r := congrArg (fun q => q.2.2) hl
          subst ee0
          subst ee1
          subst ee2
          exact LE _ _ _ hP hD hS (lv_sub hv [0, 1] rfl)
        · have h := ite_f c_4 h
          refine lv_aload_n hx hb dX9_readNumber_9 rfl (lv_at hv 0 rfl) ?_
          refine va_ldcS (tx := "0123456789") hx hb hown (show vk_R RX9 78 "0123456789" (G 2) s from hE.2.2.1 2 (by decide)) dX9_readNumber_10 ?_
          obtain ⟨r_5, hf_6, h⟩ := bd_ex h
          have sb := Sb.same hP hD hS hA
          refine calI (va_runV (As := [.ref (G 2)]) (rest := []) ⟨hx, hb, hml, hown, hts⟩ (c_X9_sees l G D cA to tb tc ts nmi tn byt stk _ tat_4b tlen_4 tfault codes_4 2 r_5 hf_6) (cwV 1 hts gX9_readNumber_X9_sees rfl rfl rfl (by decide +kernel) ⟨Nat.le_of_ble_eq_true rfl, Nat.le_of_ble_eq_true rfl⟩) (pvV hE hK hS sb (va_recv hK hP (ci := 9) (q0 := 0) rfl rfl)) rfl rfl hv.1 rfl (lv_room (Nat.le_of_ble_eq_true rfl)) dX9_readNumber_12 ⟨Nat.le_of_ble_eq_true rfl, Nat.le_of_ble_eq_true rfl⟩) hS sb (Jn.same sb) (fun H locs hP hD hS => ?_)
          have hP : va_P D vwCl (wT cA G to tb tc ts nmi tn byt stk tat_4b tlen_4 tfault codes_4) H := hP
          have hD : va_D A (wT cA G to tb tc ts nmi tn byt stk tat_4b tlen_4 tfault codes_4) := hD
          refine lv_if_eq (tgt := 37) hx hb dX9_readNumber_15 (by decide) (fun c_7 => ?_) (fun c_7 => ?_)
          · have h := ite_t c_7 h
            cases h
            have hl : some (v1_4b, v2_4b, tat_4b) = some (v1_4r, v2_4r, tat_4r) := hl
            have hl := Option.some.inj hl
            have ee0 : v1_4b = v1_4r := congrArg (fun q => q.1) hl
            have ee1 : v2_4b = v2_4r := congrArg (fun q => q.2.1) hl
            have ee2 : tat_4b = tat_4r := congrArg (fun q => q.2.2) hl
            subst ee0
            subst ee1
            subst ee2
            exact LE _ _ _ hP hD hS (lv_sub hv [0, 1] rfl)
          · have h := ite_f c_7 h
            refine lv_iload_n hx hb dX9_readNumber_18 rfl (lv_at hv 1 rfl) ?_
            refine lv_bipush (v := (10 : Int32)) hx hb dX9_readNumber_19 (by decide) ?_
            refine lv_imul hx hb dX9_readNumber_21 ?_
            refine lv_aload_n hx hb dX9_readNumber_22 rfl (lv_at hv 0 rfl) ?_
            obtain ⟨⟨r_8, tat_9⟩, hf_10, h⟩ := bd_ex h
            have sb := Sb.same hP hD hS hA
            refine calI (va_runV (As := []) (rest := [.int (v1_4b * (10 : Int32))]) ⟨hx, hb, hml, hown, hts⟩ (c_X9_take l G D cA to tb tc ts nmi tn byt stk _ tat_4b tlen_4 tfault codes_4 r_8 tat_9 hf_10) (cwV 0 hts gX9_readNumber_X9_take rfl rfl rfl (by decide +kernel) ⟨Nat.le_of_ble_eq_true rfl, Nat.le_of_ble_eq_true rfl⟩) (pvV hE hK hS sb (va_recv hK hP (ci := 9) (q0 := 0) rfl rfl)) rfl rfl hv.1 rfl (lv_room (Nat.le_of_ble_eq_true rfl)) dX9_readNumber_23 ⟨Nat.le_of_ble_eq_true rfl, Nat.le_of_ble_eq_true rfl⟩) hS sb (Jn.same sb) (fun H locs hP hD hS => ?_)
            have hP : va_P D vwCl (wT cA G to tb tc ts nmi tn byt stk tat_9 tlen_4 tfault codes_4) H := hP
            have hD : va_D A (wT cA G to tb tc ts nmi tn byt stk tat_9 tlen_4 tfault codes_4) := hD
            refine lv_iadd hx hb dX9_readNumber_26 ?_
            refine lv_bipush (v := (48 : Int32)) hx hb dX9_readNumber_27 (by decide) ?_
            refine lv_isub hx hb dX9_readNumber_29 ?_
            obtain ⟨y_11, ey_11, h⟩ := bnd_ex h
            refine lv_nm ey_11 ?_
            refine lv_istore_n (lv' := [(1, .int y_11), (0, .ref to), (2, .int v2_4b)]) hx hb dX9_readNumber_30 rfl hv (by decide) rfl (fun ls hv => ?_)
            obtain ⟨y_12, ey_12, h⟩ := bnd_ex h
            refine lv_iinc (v := y_12) (lv' := [(2, .int y_12), (1, .int y_11), (0, .ref to)]) hx hb dX9_readNumber_31 hv (k := 2) rfl (by rw [ey_12]; rfl) (by decide) rfl (fun ls hv => ?_)
            refine lv_goto (tgt := 4) hx hb dX9_readNumber_34 (by decide) ?_
            cases h
            exact ih y_11 y_12 tat_9 hl _ _ _ hP hD hS (lv_sub hv [2, 1, 0] rfl)
    exact LB FU v1_4 v2_4 tat_4 ho
  have hP : va_P D vwCl (wT cA G to tb tc ts nmi tn byt stk tat tlen tfault codes) H := hP
  unfold fX9_readNumber at h
  refine lv_iconst (v := (0 : Int32)) hx hb dX9_readNumber_0 (by decide) ?_
  refine lv_istore_n (lv' := [(1, .int (0 : Int32)), (0, .ref to)]) hx hb dX9_readNumber_1 rfl hv (by decide) rfl (fun ls hv => ?_)
  refine lv_iconst (v := (0 : Int32)) hx hb dX9_readNumber_2 (by decide) ?_
  refine lv_istore_n (lv' := [(2, .int (0 : Int32)), (1, .int (0 : Int32)), (0, .ref to)]) hx hb dX9_readNumber_3 rfl hv (by decide) rfl (fun ls hv => ?_)
  exact C_4 (0 : Int32) (0 : Int32) tat tlen codes h _ _ _ hP hD hS (lv_sub hv [2, 1, 0] rfl)

def fX9_readProduct_7B (ru : Int32 → Int32 → Int32 → Int32 → (Nat → Int32) → Option (Int32 × Int32 × Int32 × (Nat → Int32))) (nmi : Nat) (tn : Nat) (byt : Nat → Int32) (v1_7 : Int32) (v2_7b : Int32) (tat_7b : Int32) (tlen_7b : Int32) (tfault_7b : Int32) (codes_7b : Nat → Int32) : Option ((Int32 × Int32 × Int32 × Int32 × (Nat → Int32)) ⊕ (Int32 × Int32 × Int32 × Int32 × (Nat → Int32))) :=
  (if (50 : Int32) ≤ v2_7b then some (.inr (v2_7b, tat_7b, tlen_7b, tfault_7b, codes_7b)) else bd (fX9_sees nmi tn byt 6 tat_7b tfault_7b) fun r_7 => (if r_7 = 0 then some (.inr (v2_7b, tat_7b, tlen_7b, tfault_7b, codes_7b)) else bd (fX9_take nmi tn byt tat_7b) fun (r_10, tat_11) => bd (ru v1_7 tat_11 tlen_7b tfault_7b codes_7b) fun (tat_13, tlen_14, tfault_15, codes_16) => bd (fX9_write nmi tn byt ((20000 : Int32) + r_10) tlen_14 tfault_15 codes_16) fun (tlen_18, codes_19) => bnd (v2_7b + (1 : Int32)) fun y_21 => some (.inl (y_21, tat_13, tlen_18, tfault_15, codes_19))))
def fX9_readProduct_7 (ru : Int32 → Int32 → Int32 → Int32 → (Nat → Int32) → Option (Int32 × Int32 × Int32 × (Nat → Int32))) (nmi : Nat) (tn : Nat) (byt : Nat → Int32) (v1_7 : Int32) (v2_7 : Int32) (tat_7 : Int32) (tlen_7 : Int32) (tfault_7 : Int32) (codes_7 : Nat → Int32) : Option (Int32 × Int32 × Int32 × (Nat → Int32)) :=
  bd (lp (fun σ : Int32 × Int32 × Int32 × Int32 × (Nat → Int32) => fX9_readProduct_7B ru nmi tn byt v1_7 (σ.1) (σ.2.1) (σ.2.2.1) (σ.2.2.2.1) (σ.2.2.2.2)) FU (v2_7, tat_7, tlen_7, tfault_7, codes_7)) fun ρ => match ρ with | (v2_7r, tat_7r, tlen_7r, tfault_7r, codes_7r) => some (tat_7r, tlen_7r, tfault_7r, codes_7r)
def fX9_readProduct (ru : Int32 → Int32 → Int32 → Int32 → (Nat → Int32) → Option (Int32 × Int32 × Int32 × (Nat → Int32))) (nmi : Nat) (tn : Nat) (byt : Nat → Int32) (o : Int32) (tat : Int32) (tlen : Int32) (tfault : Int32) (codes : Nat → Int32) : Option (Int32 × Int32 × Int32 × (Nat → Int32)) :=
  bd (ru o tat tlen tfault codes) fun (tat_1, tlen_2, tfault_3, codes_4) => fX9_readProduct_7 ru nmi tn byt o (0 : Int32) tat_1 tlen_2 tfault_3 codes_4
set_option maxHeartbeats 4000000 in
set_option maxRecDepth 100000 in
theorem c_X9_readProduct (l : Launch) (G : Nat → Nat) (D : va_G) (cA : Nat → ClassId) (to : Nat) (tb : Nat) (tc : Nat) (ts : Nat) (nmi : Nat) (tn : Nat) (byt : Nat → Int32) (stk : Nat → Int32) (sz : Nat) (tat : Int32) (tlen : Int32) (tfault : Int32) (codes : Nat → Int32) (ru : Int32 → Int32 → Int32 → Int32 → (Nat → Int32) → Option (Int32 × Int32 × Int32 × (Nat → Int32))) (a b : Nat) (hru : ∀ (sz : Nat) (tat : Int32) (tlen : Int32) (tfault : Int32) (codes : Nat → Int32) (o : Int32) (tatR : Int32) (tlenR : Int32) (tfaultR : Int32) (codesR : Nat → Int32), ru o tat tlen tfault codes = some (tatR, tlenR, tfaultR, codesR) → Met l yX9_readOne wsX9_readOne ({ frames := a, cells := 0, slots := 0, locals := b } : Room) (PW G D (tyC cA) sz (wT cA G to tb tc ts nmi tn byt stk tat tlen tfault codes) [.ref to, .int o]) (QV D (tyC cA) (va_A (wT cA G to tb tc ts nmi tn byt stk tat tlen tfault codes) sz) (wT cA G to tb tc ts nmi tn byt stk tatR tlenR tfaultR codesR)) 0 0 (va_A (wT cA G to tb tc ts nmi tn byt stk tat tlen tfault codes) sz)) (o : Int32) (tatR : Int32) (tlenR : Int32) (tfaultR : Int32) (codesR : Nat → Int32) (h : fX9_readProduct ru nmi tn byt o tat tlen tfault codes = some (tatR, tlenR, tfaultR, codesR)) : Met l yX9_readProduct wsX9_readProduct ({ frames := a + 5, cells := 0, slots := 0, locals := b + 117 } : Room) (PW G D (tyC cA) sz (wT cA G to tb tc ts nmi tn byt stk tat tlen tfault codes) [.ref to, .int o]) (QV D (tyC cA) (va_A (wT cA G to tb tc ts nmi tn byt stk tat tlen tfault codes) sz) (wT cA G to tb tc ts nmi tn byt stk tatR tlenR tfaultR codesR)) 0 0 (va_A (wT cA G to tb tc ts nmi tn byt stk tat tlen tfault codes) sz) := by
  refine ent (cc := cX9_readProduct) (maxL := 4) (ret := none) (fun A => QV D (tyC cA) A (wT cA G to tb tc ts nmi tn byt stk tatR tlenR tfaultR codesR)) (by decide +kernel) rfl (Nat.le_of_ble_eq_true rfl) ?_
  intro p e s m args below meth c A ls H hx hb hml hr hlk hts hown hA hK hE hP hD hS hv hmm
  have hv : lv_has ls 4 [(0, .ref to), (1, .int o)] := hv
  generalize hQ : MQ below _ args s 0 0 A = Q
  have C_7 : ∀ (v1_7 : Int32) (v2_7 : Int32) (tat_7 : Int32) (tlen_7 : Int32) (tfault_7 : Int32) (codes_7 : Nat → Int32), fX9_readProduct_7 ru nmi tn byt v1_7 v2_7 tat_7 tlen_7 tfault_7 codes_7 = some (tatR, tlenR, tfaultR, codesR) → WW p l e ({ frames := a + 5, cells := 0, slots := 0, locals := b + 117 } : Room) s m args below meth c D A 0 0 Q (wT cA G to tb tc ts nmi tn byt stk tat_7 tlen_7 tfault_7 codes_7) 4 [(0, .ref to), (1, .int v1_7), (2, .int v2_7)] 7 [] := by
    intro v1_7 v2_7 tat_7 tlen_7 tfault_7 codes_7 h
    unfold fX9_readProduct_7 at h
    obtain ⟨⟨v2_7r, tat_7r, tlen_7r, tfault_7r, codes_7r⟩, ho, h⟩ := bd_ex h
    have LE : WW p l e ({ frames := a + 5, cells := 0, slots := 0, locals := b + 117 } : Room) s m args below meth c D A 0 0 Q (wT cA G to tb tc ts nmi tn byt stk tat_7r tlen_7r tfault_7r codes_7r) 4 [] 47 [] := by
      intro H locs ls hP hD hS hv
      have h := Option.some.inj h
      have ee0 : tat_7r = tatR := congrArg (fun q => q.1) h
      have ee1 : tlen_7r = tlenR := congrArg (fun q => q.2.1) h
      have ee2 : tfault_7r = tfaultR := congrArg (fun q => q.2.2.1) h
      have ee3 : codes_7r = codesR := congrArg (fun q => q.2.2.2) h
      subst ee0
      subst ee1
      subst ee2
      subst ee3
      rw [← hQ]
      exact retV hx hb hr hlk hK hP hD hS dX9_readProduct_47 ⟨Nat.le_of_ble_eq_true rfl, Nat.le_of_ble_eq_true rfl⟩
    have LB : ∀ (nf : Nat) (v2_7b : Int32) (tat_7b : Int32) (tlen_7b : Int32) (tfault_7b : Int32) (codes_7b : Nat → Int32), lp (fun σ : Int32 × Int32 × Int32 × Int32 × (Nat → Int32) => fX9_readProduct_7B ru nmi tn byt v1_7 (σ.1) (σ.2.1) (σ.2.2.1) (σ.2.2.2.1) (σ.2.2.2.2)) nf (v2_7b, tat_7b, tlen_7b, tfault_7b, codes_7b) = some (v2_7r, tat_7r, tlen_7r, tfault_7r, codes_7r) → WW p l e ({ frames := a + 5, cells := 0, slots := 0, locals := b + 117 } : Room) s m args below meth c D A 0 0 Q (wT cA G to tb tc ts nmi tn byt stk tat_7b tlen_7b tfault_7b codes_7b) 4 [(0, .ref to), (1, .int v1_7), (2, .int v2_7b)] 7 [] := by
      intro nf
      induction nf with
      | zero => intro v2_7b tat_7b tlen_7b tfault_7b codes_7b hl; cases hl
      | succ nf ih =>
        intro v2_7b tat_7b tlen_7b tfault_7b codes_7b hl
        obtain ⟨x, h, hl⟩ := lp_ex hl
        have h : fX9_readProduct_7B ru nmi tn byt v1_7 v2_7b tat_7b tlen_7b tfault_7b codes_7b = some x := h
        unfold fX9_readProduct_7B at h
        intro H locs ls hP hD hS hv
        refine lv_iload_n hx hb dX9_readProduct_7 rfl (lv_at hv 2 rfl) ?_
        refine lv_bipush (v := (50 : Int32)) hx hb dX9_readProduct_8 (by decide) ?_
        refine lv_icmp_ge (tgt := 47) hx hb dX9_readProduct_10 (by decide) (fun c_6 => ?_) (fun c_6 => ?_)
        · have h := ite_t c_6 h
          cases h
          have hl : some (v2_7b, tat_7b, tlen_7b, tfault_7b, codes_7b) = some (v2_7r, tat_7r, tlen_7r, tfault_7r, codes_7r) := hl
          have hl := Option.some.inj hl
          have ee0 : v2_7b = v2_7r := congrArg (fun q => q.1) hl
          have ee1 : tat_7b = tat_7r := congrArg (fun q => q.2.1) hl
          have ee2 : tlen_7b = tlen_7r := congrArg (fun q => q.2.2.1) hl
          have ee3 : tfault_7b = tfault_7r := congrArg (fun q => q.2.2.2.1) hl
          have ee4 : codes_7b = codes_7r := congrArg (fun q => q.2.2.2.2) hl
          subst ee0
          subst ee1
          subst ee2
          subst ee3
          subst ee4
          exact LE _ _ _ hP hD hS (lv_sub hv [] rfl)
        · have h := ite_f c_6 h
          refine lv_aload_n hx hb dX9_readProduct_13 rfl (lv_at hv 0 rfl) ?_
          refine va_ldcS (tx := "*/%") hx hb hown (show vk_R RX9 76 "*/%" (G 6) s from hE.2.2.1 6 (by decide)) dX9_readProduct_14 ?_
          obtain ⟨r_7, hf_8, h⟩ := bd_ex h
          have sb := Sb.same hP hD hS hA
          refine calI (va_runV (As := [.ref (G 6)]) (rest := []) ⟨hx, hb, hml, hown, hts⟩ (c_X9_sees l G D cA to tb tc ts nmi tn byt stk _ tat_7b tlen_7b tfault_7b codes_7b 6 r_7 hf_8) (cwV 1 hts gX9_readProduct_X9_sees rfl rfl rfl (by decide +kernel) ⟨show 4 + 1 ≤ a + 5 by omega, show 8 + (2 + 11) + 96 ≤ b + 117 by omega⟩) (pvV hE hK hS sb (va_recv hK hP (ci := 9) (q0 := 0) rfl rfl)) rfl rfl hv.1 rfl (lv_room (Nat.le_of_ble_eq_true rfl)) dX9_readProduct_16 ⟨Nat.le_of_ble_eq_true rfl, Nat.le_of_ble_eq_true rfl⟩) hS sb (Jn.same sb) (fun H locs hP hD hS => ?_)
          have hP : va_P D vwCl (wT cA G to tb tc ts nmi tn byt stk tat_7b tlen_7b tfault_7b codes_7b) H := hP
          have hD : va_D A (wT cA G to tb tc ts nmi tn byt stk tat_7b tlen_7b tfault_7b codes_7b) := hD
          refine lv_if_eq (tgt := 47) hx hb dX9_readProduct_19 (by decide) (fun c_9 => ?_) (fun c_9 => ?_)
          · have h := ite_t c_9 h
            cases h
            have hl : some (v2_7b, tat_7b, tlen_7b, tfault_7b, codes_7b) = some (v2_7r, tat_7r, tlen_7r, tfault_7r, codes_7r) := hl
            have hl := Option.some.inj hl
            have ee0 : v2_7b = v2_7r := congrArg (fun q => q.1) hl
            have ee1 : tat_7b = tat_7r := congrArg (fun q => q.2.1) hl
            have ee2 : tlen_7b = tlen_7r := congrArg (fun q => q.2.2.1) hl
            have ee3 : tfault_7b = tfault_7r := congrArg (fun q => q.2.2.2.1) hl
            have ee4 : codes_7b = codes_7r := congrArg (fun q => q.2.2.2.2) hl
            subst ee0
            subst ee1
            subst ee2
            subst ee3
            subst ee4
            exact LE _ _ _ hP hD hS (lv_sub hv [] rfl)
          · have h := ite_f c_9 h
            refine lv_aload_n hx hb dX9_readProduct_22 rfl (lv_at hv 0 rfl) ?_
            obtain ⟨⟨r_10, tat_11⟩, hf_12, h⟩ := bd_ex h
            have sb := Sb.same hP hD hS hA
            refine calI (va_runV (As := []) (rest := []) ⟨hx, hb, hml, hown, hts⟩ (c_X9_take l G D cA to tb tc ts nmi tn byt stk _ tat_7b tlen_7b tfault_7b codes_7b r_10 tat_11 hf_12) (cwV 0 hts gX9_readProduct_X9_take rfl rfl rfl (by decide +kernel) ⟨show 0 + 1 ≤ a + 5 by omega, show 8 + (2 + 11) + 0 ≤ b + 117 by omega⟩) (pvV hE hK hS sb (va_recv hK hP (ci := 9) (q0 := 0) rfl rfl)) rfl rfl hv.1 rfl (lv_room (Nat.le_of_ble_eq_true rfl)) dX9_readProduct_23 ⟨Nat.le_of_ble_eq_true rfl, Nat.le_of_ble_eq_true rfl⟩) hS sb (Jn.same sb) (fun H locs hP hD hS => ?_)
            have hP : va_P D vwCl (wT cA G to tb tc ts nmi tn byt stk tat_11 tlen_7b tfault_7b codes_7b) H := hP
            have hD : va_D A (wT cA G to tb tc ts nmi tn byt stk tat_11 tlen_7b tfault_7b codes_7b) := hD
            refine lv_istore_n (lv' := [(3, .int r_10), (0, .ref to), (1, .int v1_7), (2, .int v2_7b)]) hx hb dX9_readProduct_26 rfl hv (by decide) rfl (fun ls hv => ?_)
            refine lv_aload_n hx hb dX9_readProduct_27 rfl (lv_at hv 1 rfl) ?_
            refine lv_iload_n hx hb dX9_readProduct_28 rfl (lv_at hv 2 rfl) ?_
            obtain ⟨⟨tat_13, tlen_14, tfault_15, codes_16⟩, hf_17, h⟩ := bd_ex h
            have sb := Sb.same hP hD hS hA
            refine calV (va_runV (As := [.int v1_7]) (rest := []) ⟨hx, hb, hml, hown, hts⟩ (hru _ tat_11 tlen_7b tfault_7b codes_7b v1_7 tat_13 tlen_14 tfault_15 codes_16 hf_17) (cwV 1 hts gX9_readProduct_X9_readOne rfl rfl rfl (by decide +kernel) ⟨show a + 1 ≤ a + 5 by omega, show 8 + (3 + 11) + b ≤ b + 117 by omega⟩) (pvV hE hK hS sb (va_recv hK hP (ci := 9) (q0 := 0) rfl rfl)) rfl rfl hv.1 rfl (lv_room (Nat.le_of_ble_eq_true rfl)) dX9_readProduct_29 ⟨Nat.le_of_ble_eq_true rfl, Nat.le_of_ble_eq_true rfl⟩) hS sb (Jn.same sb) (fun H locs hP hD hS => ?_)
            have hP : va_P D vwCl (wT cA G to tb tc ts nmi tn byt stk tat_13 tlen_14 tfault_15 codes_16) H := hP
            have hD : va_D A (wT cA G to tb tc ts nmi tn byt stk tat_13 tlen_14 tfault_15 codes_16) := hD
            refine lv_aload_n hx hb dX9_readProduct_32 rfl (lv_at hv 1 rfl) ?_
            refine lv_sipush (v := (20000 : Int32)) hx hb dX9_readProduct_33 (by decide) ?_
            refine lv_iload_n hx hb dX9_readProduct_36 rfl (lv_at hv 0 rfl) ?_
            refine lv_iadd hx hb dX9_readProduct_37 ?_
            obtain ⟨⟨tlen_18, codes_19⟩, hf_20, h⟩ := bd_ex h
            have sb := Sb.same hP hD hS hA
            refine calV (va_runV (As := [.int ((20000 : Int32) + r_10)]) (rest := []) ⟨hx, hb, hml, hown, hts⟩ (c_X9_write l G D cA to tb tc ts nmi tn byt stk _ tat_13 tlen_14 tfault_15 codes_16 ((20000 : Int32) + r_10) tlen_18 codes_19 hf_20) (cwV 1 hts gX9_readProduct_X9_write rfl rfl rfl (by decide +kernel) ⟨show 0 + 1 ≤ a + 5 by omega, show 8 + (2 + 11) + 0 ≤ b + 117 by omega⟩) (pvV hE hK hS sb (va_recv hK hP (ci := 9) (q0 := 0) rfl rfl)) rfl rfl hv.1 rfl (lv_room (Nat.le_of_ble_eq_true rfl)) dX9_readProduct_38 ⟨Nat.le_of_ble_eq_true rfl, Nat.le_of_ble_eq_true rfl⟩) hS sb (Jn.same sb) (fun H locs hP hD hS => ?_)
            have hP : va_P D vwCl (wT cA G to tb tc ts nmi tn byt stk tat_13 tlen_18 tfault_15 codes_19) H := hP
            have hD : va_D A (wT cA G to tb tc ts nmi tn byt stk tat_13 tlen_18 tfault_15 codes_19) := hD
            obtain ⟨y_21, ey_21, h⟩ := bnd_ex h
            refine lv_iinc (v := y_21) (lv' := [(2, .int y_21), (3, .int r_10), (0, .ref to), (1, .int v1_7)]) hx hb dX9_readProduct_41 hv (k := 3) rfl (by rw [ey_21]; rfl) (by decide) rfl (fun ls hv => ?_)
            refine lv_goto (tgt := 7) hx hb dX9_readProduct_44 (by decide) ?_
            cases h
            exact ih y_21 tat_13 tlen_18 tfault_15 codes_19 hl _ _ _ hP hD hS (lv_sub hv [2, 3, 0] rfl)
    exact LB FU v2_7 tat_7 tlen_7 tfault_7 codes_7 ho
  have hP : va_P D vwCl (wT cA G to tb tc ts nmi tn byt stk tat tlen tfault codes) H := hP
  unfold fX9_readProduct at h
  refine lv_aload_n hx hb dX9_readProduct_0 rfl (lv_at hv 0 rfl) ?_
  refine lv_iload_n hx hb dX9_readProduct_1 rfl (lv_at hv 1 rfl) ?_
  obtain ⟨⟨tat_1, tlen_2, tfault_3, codes_4⟩, hf_5, h⟩ := bd_ex h
  have sb := Sb.same hP hD hS hA
  refine calV (va_runV (As := [.int o]) (rest := []) ⟨hx, hb, hml, hown, hts⟩ (hru _ tat tlen tfault codes o tat_1 tlen_2 tfault_3 codes_4 hf_5) (cwV 1 hts gX9_readProduct_X9_readOne rfl rfl rfl (by decide +kernel) ⟨show a + 1 ≤ a + 5 by omega, show 8 + (3 + 11) + b ≤ b + 117 by omega⟩) (pvV hE hK hS sb (va_recv hK hP (ci := 9) (q0 := 0) rfl rfl)) rfl rfl hv.1 rfl (lv_room (Nat.le_of_ble_eq_true rfl)) dX9_readProduct_2 ⟨Nat.le_of_ble_eq_true rfl, Nat.le_of_ble_eq_true rfl⟩) hS sb (Jn.same sb) (fun H locs hP hD hS => ?_)
  have hP : va_P D vwCl (wT cA G to tb tc ts nmi tn byt stk tat_1 tlen_2 tfault_3 codes_4) H := hP
  have hD : va_D A (wT cA G to tb tc ts nmi tn byt stk tat_1 tlen_2 tfault_3 codes_4) := hD
  refine lv_iconst (v := (0 : Int32)) hx hb dX9_readProduct_5 (by decide) ?_
  refine lv_istore_n (lv' := [(2, .int (0 : Int32)), (0, .ref to), (1, .int o)]) hx hb dX9_readProduct_6 rfl hv (by decide) rfl (fun ls hv => ?_)
  exact C_7 o (0 : Int32) tat_1 tlen_2 tfault_3 codes_4 h _ _ _ hP hD hS (lv_sub hv [1, 2, 0] rfl)

def fX9_readSum_7B (ru : Int32 → Int32 → Int32 → Int32 → (Nat → Int32) → Option (Int32 × Int32 × Int32 × (Nat → Int32))) (nmi : Nat) (tn : Nat) (byt : Nat → Int32) (v1_7 : Int32) (v2_7b : Int32) (tat_7b : Int32) (tlen_7b : Int32) (tfault_7b : Int32) (codes_7b : Nat → Int32) : Option ((Int32 × Int32 × Int32 × Int32 × (Nat → Int32)) ⊕ (Int32 × Int32 × Int32 × Int32 × (Nat → Int32))) :=
  (if (50 : Int32) ≤ v2_7b then some (.inr (v2_7b, tat_7b, tlen_7b, tfault_7b, codes_7b)) else bd (fX9_sees nmi tn byt 7 tat_7b tfault_7b) fun r_7 => (if r_7 = 0 then some (.inr (v2_7b, tat_7b, tlen_7b, tfault_7b, codes_7b)) else bd (fX9_take nmi tn byt tat_7b) fun (r_10, tat_11) => bd (fX9_readProduct ru nmi tn byt v1_7 tat_11 tlen_7b tfault_7b codes_7b) fun (tat_13, tlen_14, tfault_15, codes_16) => bd (fX9_write nmi tn byt ((20000 : Int32) + r_10) tlen_14 tfault_15 codes_16) fun (tlen_18, codes_19) => bnd (v2_7b + (1 : Int32)) fun y_21 => some (.inl (y_21, tat_13, tlen_18, tfault_15, codes_19))))
def fX9_readSum_7 (ru : Int32 → Int32 → Int32 → Int32 → (Nat → Int32) → Option (Int32 × Int32 × Int32 × (Nat → Int32))) (nmi : Nat) (tn : Nat) (byt : Nat → Int32) (v1_7 : Int32) (v2_7 : Int32) (tat_7 : Int32) (tlen_7 : Int32) (tfault_7 : Int32) (codes_7 : Nat → Int32) : Option (Int32 × Int32 × Int32 × (Nat → Int32)) :=
  bd (lp (fun σ : Int32 × Int32 × Int32 × Int32 × (Nat → Int32) => fX9_readSum_7B ru nmi tn byt v1_7 (σ.1) (σ.2.1) (σ.2.2.1) (σ.2.2.2.1) (σ.2.2.2.2)) FU (v2_7, tat_7, tlen_7, tfault_7, codes_7)) fun ρ => match ρ with | (v2_7r, tat_7r, tlen_7r, tfault_7r, codes_7r) => some (tat_7r, tlen_7r, tfault_7r, codes_7r)
def fX9_readSum (ru : Int32 → Int32 → Int32 → Int32 → (Nat → Int32) → Option (Int32 × Int32 × Int32 × (Nat → Int32))) (nmi : Nat) (tn : Nat) (byt : Nat → Int32) (o : Int32) (tat : Int32) (tlen : Int32) (tfault : Int32) (codes : Nat → Int32) : Option (Int32 × Int32 × Int32 × (Nat → Int32)) :=
  bd (fX9_readProduct ru nmi tn byt o tat tlen tfault codes) fun (tat_1, tlen_2, tfault_3, codes_4) => fX9_readSum_7 ru nmi tn byt o (0 : Int32) tat_1 tlen_2 tfault_3 codes_4
set_option maxHeartbeats 4000000 in
set_option maxRecDepth 100000 in
theorem c_X9_readSum (l : Launch) (G : Nat → Nat) (D : va_G) (cA : Nat → ClassId) (to : Nat) (tb : Nat) (tc : Nat) (ts : Nat) (nmi : Nat) (tn : Nat) (byt : Nat → Int32) (stk : Nat → Int32) (sz : Nat) (tat : Int32) (tlen : Int32) (tfault : Int32) (codes : Nat → Int32) (ru : Int32 → Int32 → Int32 → Int32 → (Nat → Int32) → Option (Int32 × Int32 × Int32 × (Nat → Int32))) (a b : Nat) (hru : ∀ (sz : Nat) (tat : Int32) (tlen : Int32) (tfault : Int32) (codes : Nat → Int32) (o : Int32) (tatR : Int32) (tlenR : Int32) (tfaultR : Int32) (codesR : Nat → Int32), ru o tat tlen tfault codes = some (tatR, tlenR, tfaultR, codesR) → Met l yX9_readOne wsX9_readOne ({ frames := a, cells := 0, slots := 0, locals := b } : Room) (PW G D (tyC cA) sz (wT cA G to tb tc ts nmi tn byt stk tat tlen tfault codes) [.ref to, .int o]) (QV D (tyC cA) (va_A (wT cA G to tb tc ts nmi tn byt stk tat tlen tfault codes) sz) (wT cA G to tb tc ts nmi tn byt stk tatR tlenR tfaultR codesR)) 0 0 (va_A (wT cA G to tb tc ts nmi tn byt stk tat tlen tfault codes) sz)) (o : Int32) (tatR : Int32) (tlenR : Int32) (tfaultR : Int32) (codesR : Nat → Int32) (h : fX9_readSum ru nmi tn byt o tat tlen tfault codes = some (tatR, tlenR, tfaultR, codesR)) : Met l yX9_readSum wsX9_readSum ({ frames := a + 6, cells := 0, slots := 0, locals := b + 140 } : Room) (PW G D (tyC cA) sz (wT cA G to tb tc ts nmi tn byt stk tat tlen tfault codes) [.ref to, .int o]) (QV D (tyC cA) (va_A (wT cA G to tb tc ts nmi tn byt stk tat tlen tfault codes) sz) (wT cA G to tb tc ts nmi tn byt stk tatR tlenR tfaultR codesR)) 0 0 (va_A (wT cA G to tb tc ts nmi tn byt stk tat tlen tfault codes) sz) := by
  refine ent (cc := cX9_readSum) (maxL := 4) (ret := none) (fun A => QV D (tyC cA) A (wT cA G to tb tc ts nmi tn byt stk tatR tlenR tfaultR codesR)) (by decide +kernel) rfl (Nat.le_of_ble_eq_true rfl) ?_
  intro p e s m args below meth c A ls H hx hb hml hr hlk hts hown hA hK hE hP hD hS hv hmm
  have hv : lv_has ls 4 [(0, .ref to), (1, .int o)] := hv
  generalize hQ : MQ below _ args s 0 0 A = Q
  have C_7 : ∀ (v1_7 : Int32) (v2_7 : Int32) (tat_7 : Int32) (tlen_7 : Int32) (tfault_7 : Int32) (codes_7 : Nat → Int32), fX9_readSum_7 ru nmi tn byt v1_7 v2_7 tat_7 tlen_7 tfault_7 codes_7 = some (tatR, tlenR, tfaultR, codesR) → WW p l e ({ frames := a + 6, cells := 0, slots := 0, locals := b + 140 } : Room) s m args below meth c D A 0 0 Q (wT cA G to tb tc ts nmi tn byt stk tat_7 tlen_7 tfault_7 codes_7) 4 [(0, .ref to), (1, .int v1_7), (2, .int v2_7)] 7 [] := by
    intro v1_7 v2_7 tat_7 tlen_7 tfault_7 codes_7 h
    unfold fX9_readSum_7 at h
    obtain ⟨⟨v2_7r, tat_7r, tlen_7r, tfault_7r, codes_7r⟩, ho, h⟩ := bd_ex h
    have LE : WW p l e ({ frames := a + 6, cells := 0, slots := 0, locals := b + 140 } : Room) s m args below meth c D A 0 0 Q (wT cA G to tb tc ts nmi tn byt stk tat_7r tlen_7r tfault_7r codes_7r) 4 [] 47 [] := by
      intro H locs ls hP hD hS hv
      have h := Option.some.inj h
      have ee0 : tat_7r = tatR := congrArg (fun q => q.1) h
      have ee1 : tlen_7r = tlenR := congrArg (fun q => q.2.1) h
      have ee2 : tfault_7r = tfaultR := congrArg (fun q => q.2.2.1) h
      have ee3 : codes_7r = codesR := congrArg (fun q => q.2.2.2) h
      subst ee0
      subst ee1
      subst ee2
      subst ee3
      rw [← hQ]
      exact retV hx hb hr hlk hK hP hD hS dX9_readSum_47 ⟨Nat.le_of_ble_eq_true rfl, Nat.le_of_ble_eq_true rfl⟩
    have LB : ∀ (nf : Nat) (v2_7b : Int32) (tat_7b : Int32) (tlen_7b : Int32) (tfault_7b : Int32) (codes_7b : Nat → Int32), lp (fun σ : Int32 × Int32 × Int32 × Int32 × (Nat → Int32) => fX9_readSum_7B ru nmi tn byt v1_7 (σ.1) (σ.2.1) (σ.2.2.1) (σ.2.2.2.1) (σ.2.2.2.2)) nf (v2_7b, tat_7b, tlen_7b, tfault_7b, codes_7b) = some (v2_7r, tat_7r, tlen_7r, tfault_7r, codes_7r) → WW p l e ({ frames := a + 6, cells := 0, slots := 0, locals := b + 140 } : Room) s m args below meth c D A 0 0 Q (wT cA G to tb tc ts nmi tn byt stk tat_7b tlen_7b tfault_7b codes_7b) 4 [(0, .ref to), (1, .int v1_7), (2, .int v2_7b)] 7 [] := by
      intro nf
      induction nf with
      | zero => intro v2_7b tat_7b tlen_7b tfault_7b codes_7b hl; cases hl
      | succ nf ih =>
        intro v2_7b tat_7b tlen_7b tfault_7b codes_7b hl
        obtain ⟨x, h, hl⟩ := lp_ex hl
        have h : fX9_readSum_7B ru nmi tn byt v1_7 v2_7b tat_7b tlen_7b tfault_7b codes_7b = some x := h
        unfold fX9_readSum_7B at h
        intro H locs ls hP hD hS hv
        refine lv_iload_n hx hb dX9_readSum_7 rfl (lv_at hv 2 rfl) ?_
        refine lv_bipush (v := (50 : Int32)) hx hb dX9_readSum_8 (by decide) ?_
        refine lv_icmp_ge (tgt := 47) hx hb dX9_readSum_10 (by decide) (fun c_6 => ?_) (fun c_6 => ?_)
        · have h := ite_t c_6 h
          cases h
          have hl : some (v2_7b, tat_7b, tlen_7b, tfault_7b, codes_7b) = some (v2_7r, tat_7r, tlen_7r, tfault_7r, codes_7r) := hl
          have hl := Option.some.inj hl
          have ee0 : v2_7b = v2_7r := congrArg (fun q => q.1) hl
          have ee1 : tat_7b = tat_7r := congrArg (fun q => q.2.1) hl
          have ee2 : tlen_7b = tlen_7r := congrArg (fun q => q.2.2.1) hl
          have ee3 : tfault_7b = tfault_7r := congrArg (fun q => q.2.2.2.1) hl
          have ee4 : codes_7b = codes_7r := congrArg (fun q => q.2.2.2.2) hl
          subst ee0
          subst ee1
          subst ee2
          subst ee3
          subst ee4
          exact LE _ _ _ hP hD hS (lv_sub hv [] rfl)
        · have h := ite_f c_6 h
          refine lv_aload_n hx hb dX9_readSum_13 rfl (lv_at hv 0 rfl) ?_
          refine va_ldcS (tx := "+-") hx hb hown (show vk_R RX9 71 "+-" (G 7) s from hE.2.2.1 7 (by decide)) dX9_readSum_14 ?_
          obtain ⟨r_7, hf_8, h⟩ := bd_ex h
          have sb := Sb.same hP hD hS hA
          refine calI (va_runV (As := [.ref (G 7)]) (rest := []) ⟨hx, hb, hml, hown, hts⟩ (c_X9_sees l G D cA to tb tc ts nmi tn byt stk _ tat_7b tlen_7b tfault_7b codes_7b 7 r_7 hf_8) (cwV 1 hts gX9_readSum_X9_sees rfl rfl rfl (by decide +kernel) ⟨show 4 + 1 ≤ a + 6 by omega, show 8 + (2 + 11) + 96 ≤ b + 140 by omega⟩) (pvV hE hK hS sb (va_recv hK hP (ci := 9) (q0 := 0) rfl rfl)) rfl rfl hv.1 rfl (lv_room (Nat.le_of_ble_eq_true rfl)) dX9_readSum_16 ⟨Nat.le_of_ble_eq_true rfl, Nat.le_of_ble_eq_true rfl⟩) hS sb (Jn.same sb) (fun H locs hP hD hS => ?_)
          have hP : va_P D vwCl (wT cA G to tb tc ts nmi tn byt stk tat_7b tlen_7b tfault_7b codes_7b) H := hP
          have hD : va_D A (wT cA G to tb tc ts nmi tn byt stk tat_7b tlen_7b tfault_7b codes_7b) := hD
          refine lv_if_eq (tgt := 47) hx hb dX9_readSum_19 (by decide) (fun c_9 => ?_) (fun c_9 => ?_)
          · have h := ite_t c_9 h
            cases h
            have hl : some (v2_7b, tat_7b, tlen_7b, tfault_7b, codes_7b) = some (v2_7r, tat_7r, tlen_7r, tfault_7r, codes_7r) := hl
            have hl := Option.some.inj hl
            have ee0 : v2_7b = v2_7r := congrArg (fun q => q.1) hl
            have ee1 : tat_7b = tat_7r := congrArg (fun q => q.2.1) hl
            have ee2 : tlen_7b = tlen_7r := congrArg (fun q => q.2.2.1) hl
            have ee3 : tfault_7b = tfault_7r := congrArg (fun q => q.2.2.2.1) hl
            have ee4 : codes_7b = codes_7r := congrArg (fun q => q.2.2.2.2) hl
            subst ee0
            subst ee1
            subst ee2
            subst ee3
            subst ee4
            exact LE _ _ _ hP hD hS (lv_sub hv [] rfl)
          · have h := ite_f c_9 h
            refine lv_aload_n hx hb dX9_readSum_22 rfl (lv_at hv 0 rfl) ?_
            obtain ⟨⟨r_10, tat_11⟩, hf_12, h⟩ := bd_ex h
            have sb := Sb.same hP hD hS hA
            refine calI (va_runV (As := []) (rest := []) ⟨hx, hb, hml, hown, hts⟩ (c_X9_take l G D cA to tb tc ts nmi tn byt stk _ tat_7b tlen_7b tfault_7b codes_7b r_10 tat_11 hf_12) (cwV 0 hts gX9_readSum_X9_take rfl rfl rfl (by decide +kernel) ⟨show 0 + 1 ≤ a + 6 by omega, show 8 + (2 + 11) + 0 ≤ b + 140 by omega⟩) (pvV hE hK hS sb (va_recv hK hP (ci := 9) (q0 := 0) rfl rfl)) rfl rfl hv.1 rfl (lv_room (Nat.le_of_ble_eq_true rfl)) dX9_readSum_23 ⟨Nat.le_of_ble_eq_true rfl, Nat.le_of_ble_eq_true rfl⟩) hS sb (Jn.same sb) (fun H locs hP hD hS => ?_)
            have hP : va_P D vwCl (wT cA G to tb tc ts nmi tn byt stk tat_11 tlen_7b tfault_7b codes_7b) H := hP
            have hD : va_D A (wT cA G to tb tc ts nmi tn byt stk tat_11 tlen_7b tfault_7b codes_7b) := hD
            refine lv_istore_n (lv' := [(3, .int r_10), (0, .ref to), (1, .int v1_7), (2, .int v2_7b)]) hx hb dX9_readSum_26 rfl hv (by decide) rfl (fun ls hv => ?_)
            refine lv_aload_n hx hb dX9_readSum_27 rfl (lv_at hv 1 rfl) ?_
            refine lv_iload_n hx hb dX9_readSum_28 rfl (lv_at hv 2 rfl) ?_
            obtain ⟨⟨tat_13, tlen_14, tfault_15, codes_16⟩, hf_17, h⟩ := bd_ex h
            have sb := Sb.same hP hD hS hA
            refine calV (va_runV (As := [.int v1_7]) (rest := []) ⟨hx, hb, hml, hown, hts⟩ (c_X9_readProduct l G D cA to tb tc ts nmi tn byt stk _ tat_11 tlen_7b tfault_7b codes_7b ru a b hru v1_7 tat_13 tlen_14 tfault_15 codes_16 hf_17) (cwV 1 hts gX9_readSum_X9_readProduct rfl rfl rfl (by decide +kernel) ⟨show a + 5 + 1 ≤ a + 6 by omega, show 8 + (4 + 11) + (b + 117) ≤ b + 140 by omega⟩) (pvV hE hK hS sb (va_recv hK hP (ci := 9) (q0 := 0) rfl rfl)) rfl rfl hv.1 rfl (lv_room (Nat.le_of_ble_eq_true rfl)) dX9_readSum_29 ⟨Nat.le_of_ble_eq_true rfl, Nat.le_of_ble_eq_true rfl⟩) hS sb (Jn.same sb) (fun H locs hP hD hS => ?_)
            have hP : va_P D vwCl (wT cA G to tb tc ts nmi tn byt stk tat_13 tlen_14 tfault_15 codes_16) H := hP
            have hD : va_D A (wT cA G to tb tc ts nmi tn byt stk tat_13 tlen_14 tfault_15 codes_16) := hD
            refine lv_aload_n hx hb dX9_readSum_32 rfl (lv_at hv 1 rfl) ?_
            refine lv_sipush (v := (20000 : Int32)) hx hb dX9_readSum_33 (by decide) ?_
            refine lv_iload_n hx hb dX9_readSum_36 rfl (lv_at hv 0 rfl) ?_
            refine lv_iadd hx hb dX9_readSum_37 ?_
            obtain ⟨⟨tlen_18, codes_19⟩, hf_20, h⟩ := bd_ex h
            have sb := Sb.same hP hD hS hA
            refine calV (va_runV (As := [.int ((20000 : Int32) + r_10)]) (rest := []) ⟨hx, hb, hml, hown, hts⟩ (c_X9_write l G D cA to tb tc ts nmi tn byt stk _ tat_13 tlen_14 tfault_15 codes_16 ((20000 : Int32) + r_10) tlen_18 codes_19 hf_20) (cwV 1 hts gX9_readSum_X9_write rfl rfl rfl (by decide +kernel) ⟨show 0 + 1 ≤ a + 6 by omega, show 8 + (2 + 11) + 0 ≤ b + 140 by omega⟩) (pvV hE hK hS sb (va_recv hK hP (ci := 9) (q0 := 0) rfl rfl)) rfl rfl hv.1 rfl (lv_room (Nat.le_of_ble_eq_true rfl)) dX9_readSum_38 ⟨Nat.le_of_ble_eq_true rfl, Nat.le_of_ble_eq_true rfl⟩) hS sb (Jn.same sb) (fun H locs hP hD hS => ?_)
            have hP : va_P D vwCl (wT cA G to tb tc ts nmi tn byt stk tat_13 tlen_18 tfault_15 codes_19) H := hP
            have hD : va_D A (wT cA G to tb tc ts nmi tn byt stk tat_13 tlen_18 tfault_15 codes_19) := hD
            obtain ⟨y_21, ey_21, h⟩ := bnd_ex h
            refine lv_iinc (v := y_21) (lv' := [(2, .int y_21), (3, .int r_10), (0, .ref to), (1, .int v1_7)]) hx hb dX9_readSum_41 hv (k := 3) rfl (by rw [ey_21]; rfl) (by decide) rfl (fun ls hv => ?_)
            refine lv_goto (tgt := 7) hx hb dX9_readSum_44 (by decide) ?_
            cases h
            exact ih y_21 tat_13 tlen_18 tfault_15 codes_19 hl _ _ _ hP hD hS (lv_sub hv [2, 3, 0] rfl)
    exact LB FU v2_7 tat_7 tlen_7 tfault_7 codes_7 ho
  have hP : va_P D vwCl (wT cA G to tb tc ts nmi tn byt stk tat tlen tfault codes) H := hP
  unfold fX9_readSum at h
  refine lv_aload_n hx hb dX9_readSum_0 rfl (lv_at hv 0 rfl) ?_
  refine lv_iload_n hx hb dX9_readSum_1 rfl (lv_at hv 1 rfl) ?_
  obtain ⟨⟨tat_1, tlen_2, tfault_3, codes_4⟩, hf_5, h⟩ := bd_ex h
  have sb := Sb.same hP hD hS hA
  refine calV (va_runV (As := [.int o]) (rest := []) ⟨hx, hb, hml, hown, hts⟩ (c_X9_readProduct l G D cA to tb tc ts nmi tn byt stk _ tat tlen tfault codes ru a b hru o tat_1 tlen_2 tfault_3 codes_4 hf_5) (cwV 1 hts gX9_readSum_X9_readProduct rfl rfl rfl (by decide +kernel) ⟨show a + 5 + 1 ≤ a + 6 by omega, show 8 + (4 + 11) + (b + 117) ≤ b + 140 by omega⟩) (pvV hE hK hS sb (va_recv hK hP (ci := 9) (q0 := 0) rfl rfl)) rfl rfl hv.1 rfl (lv_room (Nat.le_of_ble_eq_true rfl)) dX9_readSum_2 ⟨Nat.le_of_ble_eq_true rfl, Nat.le_of_ble_eq_true rfl⟩) hS sb (Jn.same sb) (fun H locs hP hD hS => ?_)
  have hP : va_P D vwCl (wT cA G to tb tc ts nmi tn byt stk tat_1 tlen_2 tfault_3 codes_4) H := hP
  have hD : va_D A (wT cA G to tb tc ts nmi tn byt stk tat_1 tlen_2 tfault_3 codes_4) := hD
  refine lv_iconst (v := (0 : Int32)) hx hb dX9_readSum_5 (by decide) ?_
  refine lv_istore_n (lv' := [(2, .int (0 : Int32)), (0, .ref to), (1, .int o)]) hx hb dX9_readSum_6 rfl hv (by decide) rfl (fun ls hv => ?_)
  exact C_7 o (0 : Int32) tat_1 tlen_2 tfault_3 codes_4 h _ _ _ hP hD hS (lv_sub hv [1, 2, 0] rfl)

def fX9_readCompared (ru : Int32 → Int32 → Int32 → Int32 → (Nat → Int32) → Option (Int32 × Int32 × Int32 × (Nat → Int32))) (nmi : Nat) (tn : Nat) (byt : Nat → Int32) (o : Int32) (tat : Int32) (tlen : Int32) (tfault : Int32) (codes : Nat → Int32) : Option (Int32 × Int32 × Int32 × (Nat → Int32)) :=
  bd (fX9_readSum ru nmi tn byt o tat tlen tfault codes) fun (tat_1, tlen_2, tfault_3, codes_4) => bd (fX9_sees nmi tn byt 8 tat_1 tfault_3) fun r_6 => (if r_6 = 0 then some (tat_1, tlen_2, tfault_3, codes_4) else bd (fX9_take nmi tn byt tat_1) fun (r_9, tat_10) => bd (fX9_readSum ru nmi tn byt o tat_10 tlen_2 tfault_3 codes_4) fun (tat_12, tlen_13, tfault_14, codes_15) => bd (fX9_write nmi tn byt ((20000 : Int32) + r_9) tlen_13 tfault_14 codes_15) fun (tlen_17, codes_18) => some (tat_12, tlen_17, tfault_14, codes_18))
set_option maxHeartbeats 4000000 in
set_option maxRecDepth 100000 in
theorem c_X9_readCompared (l : Launch) (G : Nat → Nat) (D : va_G) (cA : Nat → ClassId) (to : Nat) (tb : Nat) (tc : Nat) (ts : Nat) (nmi : Nat) (tn : Nat) (byt : Nat → Int32) (stk : Nat → Int32) (sz : Nat) (tat : Int32) (tlen : Int32) (tfault : Int32) (codes : Nat → Int32) (ru : Int32 → Int32 → Int32 → Int32 → (Nat → Int32) → Option (Int32 × Int32 × Int32 × (Nat → Int32))) (a b : Nat) (hru : ∀ (sz : Nat) (tat : Int32) (tlen : Int32) (tfault : Int32) (codes : Nat → Int32) (o : Int32) (tatR : Int32) (tlenR : Int32) (tfaultR : Int32) (codesR : Nat → Int32), ru o tat tlen tfault codes = some (tatR, tlenR, tfaultR, codesR) → Met l yX9_readOne wsX9_readOne ({ frames := a, cells := 0, slots := 0, locals := b } : Room) (PW G D (tyC cA) sz (wT cA G to tb tc ts nmi tn byt stk tat tlen tfault codes) [.ref to, .int o]) (QV D (tyC cA) (va_A (wT cA G to tb tc ts nmi tn byt stk tat tlen tfault codes) sz) (wT cA G to tb tc ts nmi tn byt stk tatR tlenR tfaultR codesR)) 0 0 (va_A (wT cA G to tb tc ts nmi tn byt stk tat tlen tfault codes) sz)) (o : Int32) (tatR : Int32) (tlenR : Int32) (tfaultR : Int32) (codesR : Nat → Int32) (h : fX9_readCompared ru nmi tn byt o tat tlen tfault codes = some (tatR, tlenR, tfaultR, codesR)) : Met l yX9_readCompared wsX9_readCompared ({ frames := a + 7, cells := 0, slots := 0, locals := b + 163 } : Room) (PW G D (tyC cA) sz (wT cA G to tb tc ts nmi tn byt stk tat tlen tfault codes) [.ref to, .int o]) (QV D (tyC cA) (va_A (wT cA G to tb tc ts nmi tn byt stk tat tlen tfault codes) sz) (wT cA G to tb tc ts nmi tn byt stk tatR tlenR tfaultR codesR)) 0 0 (va_A (wT cA G to tb tc ts nmi tn byt stk tat tlen tfault codes) sz) := by
  refine ent (cc := cX9_readCompared) (maxL := 3) (ret := none) (fun A => QV D (tyC cA) A (wT cA G to tb tc ts nmi tn byt stk tatR tlenR tfaultR codesR)) (by decide +kernel) rfl (Nat.le_of_ble_eq_true rfl) ?_
  intro p e s m args below meth c A ls H hx hb hml hr hlk hts hown hA hK hE hP hD hS hv hmm
  have hv : lv_has ls 3 [(0, .ref to), (1, .int o)] := hv
  generalize hQ : MQ below _ args s 0 0 A = Q
  have hP : va_P D vwCl (wT cA G to tb tc ts nmi tn byt stk tat tlen tfault codes) H := hP
  unfold fX9_readCompared at h
  refine lv_aload_n hx hb dX9_readCompared_0 rfl (lv_at hv 0 rfl) ?_
  refine lv_iload_n hx hb dX9_readCompared_1 rfl (lv_at hv 1 rfl) ?_
  obtain ⟨⟨tat_1, tlen_2, tfault_3, codes_4⟩, hf_5, h⟩ := bd_ex h
  have sb := Sb.same hP hD hS hA
  refine calV (va_runV (As := [.int o]) (rest := []) ⟨hx, hb, hml, hown, hts⟩ (c_X9_readSum l G D cA to tb tc ts nmi tn byt stk _ tat tlen tfault codes ru a b hru o tat_1 tlen_2 tfault_3 codes_4 hf_5) (cwV 1 hts gX9_readCompared_X9_readSum rfl rfl rfl (by decide +kernel) ⟨show a + 6 + 1 ≤ a + 7 by omega, show 8 + (4 + 11) + (b + 140) ≤ b + 163 by omega⟩) (pvV hE hK hS sb (va_recv hK hP (ci := 9) (q0 := 0) rfl rfl)) rfl rfl hv.1 rfl (lv_room (Nat.le_of_ble_eq_true rfl)) dX9_readCompared_2 ⟨Nat.le_of_ble_eq_true rfl, Nat.le_of_ble_eq_true rfl⟩) hS sb (Jn.same sb) (fun H locs hP hD hS => ?_)
  have hP : va_P D vwCl (wT cA G to tb tc ts nmi tn byt stk tat_1 tlen_2 tfault_3 codes_4) H := hP
  have hD : va_D A (wT cA G to tb tc ts nmi tn byt stk tat_1 tlen_2 tfault_3 codes_4) := hD
  refine lv_aload_n hx hb dX9_readCompared_5 rfl (lv_at hv 0 rfl) ?_
  refine va_ldcS (tx := "<=>") hx hb hown (show vk_R RX9 66 "<=>" (G 8) s from hE.2.2.1 8 (by decide)) dX9_readCompared_6 ?_
  obtain ⟨r_6, hf_7, h⟩ := bd_ex h
  have sb := Sb.same hP hD hS hA
  refine calI (va_runV (As := [.ref (G 8)]) (rest := []) ⟨hx, hb, hml, hown, hts⟩ (c_X9_sees l G D cA to tb tc ts nmi tn byt stk _ tat_1 tlen_2 tfault_3 codes_4 8 r_6 hf_7) (cwV 1 hts gX9_readCompared_X9_sees rfl rfl rfl (by decide +kernel) ⟨show 4 + 1 ≤ a + 7 by omega, show 8 + (2 + 11) + 96 ≤ b + 163 by omega⟩) (pvV hE hK hS sb (va_recv hK hP (ci := 9) (q0 := 0) rfl rfl)) rfl rfl hv.1 rfl (lv_room (Nat.le_of_ble_eq_true rfl)) dX9_readCompared_8 ⟨Nat.le_of_ble_eq_true rfl, Nat.le_of_ble_eq_true rfl⟩) hS sb (Jn.same sb) (fun H locs hP hD hS => ?_)
  have hP : va_P D vwCl (wT cA G to tb tc ts nmi tn byt stk tat_1 tlen_2 tfault_3 codes_4) H := hP
  have hD : va_D A (wT cA G to tb tc ts nmi tn byt stk tat_1 tlen_2 tfault_3 codes_4) := hD
  refine lv_if_eq (tgt := 33) hx hb dX9_readCompared_11 (by decide) (fun c_8 => ?_) (fun c_8 => ?_)
  · have h := ite_t c_8 h
    have h := Option.some.inj h
    have ee0 : tat_1 = tatR := congrArg (fun q => q.1) h
    have ee1 : tlen_2 = tlenR := congrArg (fun q => q.2.1) h
    have ee2 : tfault_3 = tfaultR := congrArg (fun q => q.2.2.1) h
    have ee3 : codes_4 = codesR := congrArg (fun q => q.2.2.2) h
    subst ee0
    subst ee1
    subst ee2
    subst ee3
    rw [← hQ]
    exact retV hx hb hr hlk hK hP hD hS dX9_readCompared_33 ⟨Nat.le_of_ble_eq_true rfl, Nat.le_of_ble_eq_true rfl⟩
  · have h := ite_f c_8 h
    refine lv_aload_n hx hb dX9_readCompared_14 rfl (lv_at hv 0 rfl) ?_
    obtain ⟨⟨r_9, tat_10⟩, hf_11, h⟩ := bd_ex h
    have sb := Sb.same hP hD hS hA
    refine calI (va_runV (As := []) (rest := []) ⟨hx, hb, hml, hown, hts⟩ (c_X9_take l G D cA to tb tc ts nmi tn byt stk _ tat_1 tlen_2 tfault_3 codes_4 r_9 tat_10 hf_11) (cwV 0 hts gX9_readCompared_X9_take rfl rfl rfl (by decide +kernel) ⟨show 0 + 1 ≤ a + 7 by omega, show 8 + (2 + 11) + 0 ≤ b + 163 by omega⟩) (pvV hE hK hS sb (va_recv hK hP (ci := 9) (q0 := 0) rfl rfl)) rfl rfl hv.1 rfl (lv_room (Nat.le_of_ble_eq_true rfl)) dX9_readCompared_15 ⟨Nat.le_of_ble_eq_true rfl, Nat.le_of_ble_eq_true rfl⟩) hS sb (Jn.same sb) (fun H locs hP hD hS => ?_)
    have hP : va_P D vwCl (wT cA G to tb tc ts nmi tn byt stk tat_10 tlen_2 tfault_3 codes_4) H := hP
    have hD : va_D A (wT cA G to tb tc ts nmi tn byt stk tat_10 tlen_2 tfault_3 codes_4) := hD
    refine lv_istore_n (lv' := [(2, .int r_9), (0, .ref to), (1, .int o)]) hx hb dX9_readCompared_18 rfl hv (by decide) rfl (fun ls hv => ?_)
    refine lv_aload_n hx hb dX9_readCompared_19 rfl (lv_at hv 1 rfl) ?_
    refine lv_iload_n hx hb dX9_readCompared_20 rfl (lv_at hv 2 rfl) ?_
    obtain ⟨⟨tat_12, tlen_13, tfault_14, codes_15⟩, hf_16, h⟩ := bd_ex h
    have sb := Sb.same hP hD hS hA
    refine calV (va_runV (As := [.int o]) (rest := []) ⟨hx, hb, hml, hown, hts⟩ (c_X9_readSum l G D cA to tb tc ts nmi tn byt stk _ tat_10 tlen_2 tfault_3 codes_4 ru a b hru o tat_12 tlen_13 tfault_14 codes_15 hf_16) (cwV 1 hts gX9_readCompared_X9_readSum rfl rfl rfl (by decide +kernel) ⟨show a + 6 + 1 ≤ a + 7 by omega, show 8 + (4 + 11) + (b + 140) ≤ b + 163 by omega⟩) (pvV hE hK hS sb (va_recv hK hP (ci := 9) (q0 := 0) rfl rfl)) rfl rfl hv.1 rfl (lv_room (Nat.le_of_ble_eq_true rfl)) dX9_readCompared_21 ⟨Nat.le_of_ble_eq_true rfl, Nat.le_of_ble_eq_true rfl⟩) hS sb (Jn.same sb) (fun H locs hP hD hS => ?_)
    have hP : va_P D vwCl (wT cA G to tb tc ts nmi tn byt stk tat_12 tlen_13 tfault_14 codes_15) H := hP
    have hD : va_D A (wT cA G to tb tc ts nmi tn byt stk tat_12 tlen_13 tfault_14 codes_15) := hD
    refine lv_aload_n hx hb dX9_readCompared_24 rfl (lv_at hv 1 rfl) ?_
    refine lv_sipush (v := (20000 : Int32)) hx hb dX9_readCompared_25 (by decide) ?_
    refine lv_iload_n hx hb dX9_readCompared_28 rfl (lv_at hv 0 rfl) ?_
    refine lv_iadd hx hb dX9_readCompared_29 ?_
    obtain ⟨⟨tlen_17, codes_18⟩, hf_19, h⟩ := bd_ex h
    have sb := Sb.same hP hD hS hA
    refine calV (va_runV (As := [.int ((20000 : Int32) + r_9)]) (rest := []) ⟨hx, hb, hml, hown, hts⟩ (c_X9_write l G D cA to tb tc ts nmi tn byt stk _ tat_12 tlen_13 tfault_14 codes_15 ((20000 : Int32) + r_9) tlen_17 codes_18 hf_19) (cwV 1 hts gX9_readCompared_X9_write rfl rfl rfl (by decide +kernel) ⟨show 0 + 1 ≤ a + 7 by omega, show 8 + (2 + 11) + 0 ≤ b + 163 by omega⟩) (pvV hE hK hS sb (va_recv hK hP (ci := 9) (q0 := 0) rfl rfl)) rfl rfl hv.1 rfl (lv_room (Nat.le_of_ble_eq_true rfl)) dX9_readCompared_30 ⟨Nat.le_of_ble_eq_true rfl, Nat.le_of_ble_eq_true rfl⟩) hS sb (Jn.same sb) (fun H locs hP hD hS => ?_)
    have hP : va_P D vwCl (wT cA G to tb tc ts nmi tn byt stk tat_12 tlen_17 tfault_14 codes_18) H := hP
    have hD : va_D A (wT cA G to tb tc ts nmi tn byt stk tat_12 tlen_17 tfault_14 codes_18) := hD
    have h := Option.some.inj h
    have ee0 : tat_12 = tatR := congrArg (fun q => q.1) h
    have ee1 : tlen_17 = tlenR := congrArg (fun q => q.2.1) h
    have ee2 : tfault_14 = tfaultR := congrArg (fun q => q.2.2.1) h
    have ee3 : codes_18 = codesR := congrArg (fun q => q.2.2.2) h
    subst ee0
    subst ee1
    subst ee2
    subst ee3
    rw [← hQ]
    exact retV hx hb hr hlk hK hP hD hS dX9_readCompared_33 ⟨Nat.le_of_ble_eq_true rfl, Nat.le_of_ble_eq_true rfl⟩

def fX9_readBoth_7B (ru : Int32 → Int32 → Int32 → Int32 → (Nat → Int32) → Option (Int32 × Int32 × Int32 × (Nat → Int32))) (nmi : Nat) (tn : Nat) (byt : Nat → Int32) (v1_7 : Int32) (v2_7b : Int32) (tat_7b : Int32) (tlen_7b : Int32) (tfault_7b : Int32) (codes_7b : Nat → Int32) : Option ((Int32 × Int32 × Int32 × Int32 × (Nat → Int32)) ⊕ (Int32 × Int32 × Int32 × Int32 × (Nat → Int32))) :=
  (if (50 : Int32) ≤ v2_7b then some (.inr (v2_7b, tat_7b, tlen_7b, tfault_7b, codes_7b)) else bd (fX9_sees nmi tn byt 9 tat_7b tfault_7b) fun r_7 => (if r_7 = 0 then some (.inr (v2_7b, tat_7b, tlen_7b, tfault_7b, codes_7b)) else bd (fX9_take nmi tn byt tat_7b) fun (r_10, tat_11) => bd (fX9_readCompared ru nmi tn byt v1_7 tat_11 tlen_7b tfault_7b codes_7b) fun (tat_13, tlen_14, tfault_15, codes_16) => bd (fX9_write nmi tn byt ((20000 : Int32) + r_10) tlen_14 tfault_15 codes_16) fun (tlen_18, codes_19) => bnd (v2_7b + (1 : Int32)) fun y_21 => some (.inl (y_21, tat_13, tlen_18, tfault_15, codes_19))))
def fX9_readBoth_7 (ru : Int32 → Int32 → Int32 → Int32 → (Nat → Int32) → Option (Int32 × Int32 × Int32 × (Nat → Int32))) (nmi : Nat) (tn : Nat) (byt : Nat → Int32) (v1_7 : Int32) (v2_7 : Int32) (tat_7 : Int32) (tlen_7 : Int32) (tfault_7 : Int32) (codes_7 : Nat → Int32) : Option (Int32 × Int32 × Int32 × (Nat → Int32)) :=
  bd (lp (fun σ : Int32 × Int32 × Int32 × Int32 × (Nat → Int32) => fX9_readBoth_7B ru nmi tn byt v1_7 (σ.1) (σ.2.1) (σ.2.2.1) (σ.2.2.2.1) (σ.2.2.2.2)) FU (v2_7, tat_7, tlen_7, tfault_7, codes_7)) fun ρ => match ρ with | (v2_7r, tat_7r, tlen_7r, tfault_7r, codes_7r) => some (tat_7r, tlen_7r, tfault_7r, codes_7r)
def fX9_readBoth (ru : Int32 → Int32 → Int32 → Int32 → (Nat → Int32) → Option (Int32 × Int32 × Int32 × (Nat → Int32))) (nmi : Nat) (tn : Nat) (byt : Nat → Int32) (o : Int32) (tat : Int32) (tlen : Int32) (tfault : Int32) (codes : Nat → Int32) : Option (Int32 × Int32 × Int32 × (Nat → Int32)) :=
  bd (fX9_readCompared ru nmi tn byt o tat tlen tfault codes) fun (tat_1, tlen_2, tfault_3, codes_4) => fX9_readBoth_7 ru nmi tn byt o (0 : Int32) tat_1 tlen_2 tfault_3 codes_4
set_option maxHeartbeats 4000000 in
set_option maxRecDepth 100000 in
theorem c_X9_readBoth (l : Launch) (G : Nat → Nat) (D : va_G) (cA : Nat → ClassId) (to : Nat) (tb : Nat) (tc : Nat) (ts : Nat) (nmi : Nat) (tn : Nat) (byt : Nat → Int32) (stk : Nat → Int32) (sz : Nat) (tat : Int32) (tlen : Int32) (tfault : Int32) (codes : Nat → Int32) (ru : Int32 → Int32 → Int32 → Int32 → (Nat → Int32) → Option (Int32 × Int32 × Int32 × (Nat → Int32))) (a b : Nat) (hru : ∀ (sz : Nat) (tat : Int32) (tlen : Int32) (tfault : Int32) (codes : Nat → Int32) (o : Int32) (tatR : Int32) (tlenR : Int32) (tfaultR : Int32) (codesR : Nat → Int32), ru o tat tlen tfault codes = some (tatR, tlenR, tfaultR, codesR) → Met l yX9_readOne wsX9_readOne ({ frames := a, cells := 0, slots := 0, locals := b } : Room) (PW G D (tyC cA) sz (wT cA G to tb tc ts nmi tn byt stk tat tlen tfault codes) [.ref to, .int o]) (QV D (tyC cA) (va_A (wT cA G to tb tc ts nmi tn byt stk tat tlen tfault codes) sz) (wT cA G to tb tc ts nmi tn byt stk tatR tlenR tfaultR codesR)) 0 0 (va_A (wT cA G to tb tc ts nmi tn byt stk tat tlen tfault codes) sz)) (o : Int32) (tatR : Int32) (tlenR : Int32) (tfaultR : Int32) (codesR : Nat → Int32) (h : fX9_readBoth ru nmi tn byt o tat tlen tfault codes = some (tatR, tlenR, tfaultR, codesR)) : Met l yX9_readBoth wsX9_readBoth ({ frames := a + 8, cells := 0, slots := 0, locals := b + 185 } : Room) (PW G D (tyC cA) sz (wT cA G to tb tc ts nmi tn byt stk tat tlen tfault codes) [.ref to, .int o]) (QV D (tyC cA) (va_A (wT cA G to tb tc ts nmi tn byt stk tat tlen tfault codes) sz) (wT cA G to tb tc ts nmi tn byt stk tatR tlenR tfaultR codesR)) 0 0 (va_A (wT cA G to tb tc ts nmi tn byt stk tat tlen tfault codes) sz) := by
  refine ent (cc := cX9_readBoth) (maxL := 4) (ret := none) (fun A => QV D (tyC cA) A (wT cA G to tb tc ts nmi tn byt stk tatR tlenR tfaultR codesR)) (by decide +kernel) rfl (Nat.le_of_ble_eq_true rfl) ?_
  intro p e s m args below meth c A ls H hx hb hml hr hlk hts hown hA hK hE hP hD hS hv hmm
  have hv : lv_has ls 4 [(0, .ref to), (1, .int o)] := hv
  generalize hQ : MQ below _ args s 0 0 A = Q
  have C_7 : ∀ (v1_7 : Int32) (v2_7 : Int32) (tat_7 : Int32) (tlen_7 : Int32) (tfault_7 : Int32) (codes_7 : Nat → Int32), fX9_readBoth_7 ru nmi tn byt v1_7 v2_7 tat_7 tlen_7 tfault_7 codes_7 = some (tatR, tlenR, tfaultR, codesR) → WW p l e ({ frames := a + 8, cells := 0, slots := 0, locals := b + 185 } : Room) s m args below meth c D A 0 0 Q (wT cA G to tb tc ts nmi tn byt stk tat_7 tlen_7 tfault_7 codes_7) 4 [(0, .ref to), (1, .int v1_7), (2, .int v2_7)] 7 [] := by
    intro v1_7 v2_7 tat_7 tlen_7 tfault_7 codes_7 h
    unfold fX9_readBoth_7 at h
    obtain ⟨⟨v2_7r, tat_7r, tlen_7r, tfault_7r, codes_7r⟩, ho, h⟩ := bd_ex h
    have LE : WW p l e ({ frames := a + 8, cells := 0, slots := 0, locals := b + 185 } : Room) s m args below meth c D A 0 0 Q (wT cA G to tb tc ts nmi tn byt stk tat_7r tlen_7r tfault_7r codes_7r) 4 [] 47 [] := by
      intro H locs ls hP hD hS hv
      have h := Option.some.inj h
      have ee0 : tat_7r = tatR := congrArg (fun q => q.1) h
      have ee1 : tlen_7r = tlenR := congrArg (fun q => q.2.1) h
      have ee2 : tfault_7r = tfaultR := congrArg (fun q => q.2.2.1) h
      have ee3 : codes_7r = codesR := congrArg (fun q => q.2.2.2) h
      subst ee0
      subst ee1
      subst ee2
      subst ee3
      rw [← hQ]
      exact retV hx hb hr hlk hK hP hD hS dX9_readBoth_47 ⟨Nat.le_of_ble_eq_true rfl, Nat.le_of_ble_eq_true rfl⟩
    have LB : ∀ (nf : Nat) (v2_7b : Int32) (tat_7b : Int32) (tlen_7b : Int32) (tfault_7b : Int32) (codes_7b : Nat → Int32), lp (fun σ : Int32 × Int32 × Int32 × Int32 × (Nat → Int32) => fX9_readBoth_7B ru nmi tn byt v1_7 (σ.1) (σ.2.1) (σ.2.2.1) (σ.2.2.2.1) (σ.2.2.2.2)) nf (v2_7b, tat_7b, tlen_7b, tfault_7b, codes_7b) = some (v2_7r, tat_7r, tlen_7r, tfault_7r, codes_7r) → WW p l e ({ frames := a + 8, cells := 0, slots := 0, locals := b + 185 } : Room) s m args below meth c D A 0 0 Q (wT cA G to tb tc ts nmi tn byt stk tat_7b tlen_7b tfault_7b codes_7b) 4 [(0, .ref to), (1, .int v1_7), (2, .int v2_7b)] 7 [] := by
      intro nf
      induction nf with
      | zero => intro v2_7b tat_7b tlen_7b tfault_7b codes_7b hl; cases hl
      | succ nf ih =>
        intro v2_7b tat_7b tlen_7b tfault_7b codes_7b hl
        obtain ⟨x, h, hl⟩ := lp_ex hl
        have h : fX9_readBoth_7B ru nmi tn byt v1_7 v2_7b tat_7b tlen_7b tfault_7b codes_7b = some x := h
        unfold fX9_readBoth_7B at h
        intro H locs ls hP hD hS hv
        refine lv_iload_n hx hb dX9_readBoth_7 rfl (lv_at hv 2 rfl) ?_
        refine lv_bipush (v := (50 : Int32)) hx hb dX9_readBoth_8 (by decide) ?_
        refine lv_icmp_ge (tgt := 47) hx hb dX9_readBoth_10 (by decide) (fun c_6 => ?_) (fun c_6 => ?_)
        · have h := ite_t c_6 h
          cases h
          have hl : some (v2_7b, tat_7b, tlen_7b, tfault_7b, codes_7b) = some (v2_7r, tat_7r, tlen_7r, tfault_7r, codes_7r) := hl
          have hl := Option.some.inj hl
          have ee0 : v2_7b = v2_7r := congrArg (fun q => q.1) hl
          have ee1 : tat_7b = tat_7r := congrArg (fun q => q.2.1) hl
          have ee2 : tlen_7b = tlen_7r := congrArg (fun q => q.2.2.1) hl
          have ee3 : tfault_7b = tfault_7r := congrArg (fun q => q.2.2.2.1) hl
          have ee4 : codes_7b = codes_7r := congrArg (fun q => q.2.2.2.2) hl
          subst ee0
          subst ee1
          subst ee2
          subst ee3
          subst ee4
          exact LE _ _ _ hP hD hS (lv_sub hv [] rfl)
        · have h := ite_f c_6 h
          refine lv_aload_n hx hb dX9_readBoth_13 rfl (lv_at hv 0 rfl) ?_
          refine va_ldcS (tx := "&") hx hb hown (show vk_R RX9 61 "&" (G 9) s from hE.2.2.1 9 (by decide)) dX9_readBoth_14 ?_
          obtain ⟨r_7, hf_8, h⟩ := bd_ex h
          have sb := Sb.same hP hD hS hA
          refine calI (va_runV (As := [.ref (G 9)]) (rest := []) ⟨hx, hb, hml, hown, hts⟩ (c_X9_sees l G D cA to tb tc ts nmi tn byt stk _ tat_7b tlen_7b tfault_7b codes_7b 9 r_7 hf_8) (cwV 1 hts gX9_readBoth_X9_sees rfl rfl rfl (by decide +kernel) ⟨show 4 + 1 ≤ a + 8 by omega, show 8 + (2 + 11) + 96 ≤ b + 185 by omega⟩) (pvV hE hK hS sb (va_recv hK hP (ci := 9) (q0 := 0) rfl rfl)) rfl rfl hv.1 rfl (lv_room (Nat.le_of_ble_eq_true rfl)) dX9_readBoth_16 ⟨Nat.le_of_ble_eq_true rfl, Nat.le_of_ble_eq_true rfl⟩) hS sb (Jn.same sb) (fun H locs hP hD hS => ?_)
          have hP : va_P D vwCl (wT cA G to tb tc ts nmi tn byt stk tat_7b tlen_7b tfault_7b codes_7b) H := hP
          have hD : va_D A (wT cA G to tb tc ts nmi tn byt stk tat_7b tlen_7b tfault_7b codes_7b) := hD
          refine lv_if_eq (tgt := 47) hx hb dX9_readBoth_19 (by decide) (fun c_9 => ?_) (fun c_9 => ?_)
          · have h := ite_t c_9 h
            cases h
            have hl : some (v2_7b, tat_7b, tlen_7b, tfault_7b, codes_7b) = some (v2_7r, tat_7r, tlen_7r, tfault_7r, codes_7r) := hl
            have hl := Option.some.inj hl
            have ee0 : v2_7b = v2_7r := congrArg (fun q => q.1) hl
            have ee1 : tat_7b = tat_7r := congrArg (fun q => q.2.1) hl
            have ee2 : tlen_7b = tlen_7r := congrArg (fun q => q.2.2.1) hl
            have ee3 : tfault_7b = tfault_7r := congrArg (fun q => q.2.2.2.1) hl
            have ee4 : codes_7b = codes_7r := congrArg (fun q => q.2.2.2.2) hl
            subst ee0
            subst ee1
            subst ee2
            subst ee3
            subst ee4
            exact LE _ _ _ hP hD hS (lv_sub hv [] rfl)
          · have h := ite_f c_9 h
            refine lv_aload_n hx hb dX9_readBoth_22 rfl (lv_at hv 0 rfl) ?_
            obtain ⟨⟨r_10, tat_11⟩, hf_12, h⟩ := bd_ex h
            have sb := Sb.same hP hD hS hA
            refine calI (va_runV (As := []) (rest := []) ⟨hx, hb, hml, hown, hts⟩ (c_X9_take l G D cA to tb tc ts nmi tn byt stk _ tat_7b tlen_7b tfault_7b codes_7b r_10 tat_11 hf_12) (cwV 0 hts gX9_readBoth_X9_take rfl rfl rfl (by decide +kernel) ⟨show 0 + 1 ≤ a + 8 by omega, show 8 + (2 + 11) + 0 ≤ b + 185 by omega⟩) (pvV hE hK hS sb (va_recv hK hP (ci := 9) (q0 := 0) rfl rfl)) rfl rfl hv.1 rfl (lv_room (Nat.le_of_ble_eq_true rfl)) dX9_readBoth_23 ⟨Nat.le_of_ble_eq_true rfl, Nat.le_of_ble_eq_true rfl⟩) hS sb (Jn.same sb) (fun H locs hP hD hS => ?_)
            have hP : va_P D vwCl (wT cA G to tb tc ts nmi tn byt stk tat_11 tlen_7b tfault_7b codes_7b) H := hP
            have hD : va_D A (wT cA G to tb tc ts nmi tn byt stk tat_11 tlen_7b tfault_7b codes_7b) := hD
            refine lv_istore_n (lv' := [(3, .int r_10), (0, .ref to), (1, .int v1_7), (2, .int v2_7b)]) hx hb dX9_readBoth_26 rfl hv (by decide) rfl (fun ls hv => ?_)
            refine lv_aload_n hx hb dX9_readBoth_27 rfl (lv_at hv 1 rfl) ?_
            refine lv_iload_n hx hb dX9_readBoth_28 rfl (lv_at hv 2 rfl) ?_
            obtain ⟨⟨tat_13, tlen_14, tfault_15, codes_16⟩, hf_17, h⟩ := bd_ex h
            have sb := Sb.same hP hD hS hA
            refine calV (va_runV (As := [.int v1_7]) (rest := []) ⟨hx, hb, hml, hown, hts⟩ (c_X9_readCompared l G D cA to tb tc ts nmi tn byt stk _ tat_11 tlen_7b tfault_7b codes_7b ru a b hru v1_7 tat_13 tlen_14 tfault_15 codes_16 hf_17) (cwV 1 hts gX9_readBoth_X9_readCompared rfl rfl rfl (by decide +kernel) ⟨show a + 7 + 1 ≤ a + 8 by omega, show 8 + (3 + 11) + (b + 163) ≤ b + 185 by omega⟩) (pvV hE hK hS sb (va_recv hK hP (ci := 9) (q0 := 0) rfl rfl)) rfl rfl hv.1 rfl (lv_room (Nat.le_of_ble_eq_true rfl)) dX9_readBoth_29 ⟨Nat.le_of_ble_eq_true rfl, Nat.le_of_ble_eq_true rfl⟩) hS sb (Jn.same sb) (fun H locs hP hD hS => ?_)
            have hP : va_P D vwCl (wT cA G to tb tc ts nmi tn byt stk tat_13 tlen_14 tfault_15 codes_16) H := hP
            have hD : va_D A (wT cA G to tb tc ts nmi tn byt stk tat_13 tlen_14 tfault_15 codes_16) := hD
            refine lv_aload_n hx hb dX9_readBoth_32 rfl (lv_at hv 1 rfl) ?_
            refine lv_sipush (v := (20000 : Int32)) hx hb dX9_readBoth_33 (by decide) ?_
            refine lv_iload_n hx hb dX9_readBoth_36 rfl (lv_at hv 0 rfl) ?_
            refine lv_iadd hx hb dX9_readBoth_37 ?_
            obtain ⟨⟨tlen_18, codes_19⟩, hf_20, h⟩ := bd_ex h
            have sb := Sb.same hP hD hS hA
            refine calV (va_runV (As := [.int ((20000 : Int32) + r_10)]) (rest := []) ⟨hx, hb, hml, hown, hts⟩ (c_X9_write l G D cA to tb tc ts nmi tn byt stk _ tat_13 tlen_14 tfault_15 codes_16 ((20000 : Int32) + r_10) tlen_18 codes_19 hf_20) (cwV 1 hts gX9_readBoth_X9_write rfl rfl rfl (by decide +kernel) ⟨show 0 + 1 ≤ a + 8 by omega, show 8 + (2 + 11) + 0 ≤ b + 185 by omega⟩) (pvV hE hK hS sb (va_recv hK hP (ci := 9) (q0 := 0) rfl rfl)) rfl rfl hv.1 rfl (lv_room (Nat.le_of_ble_eq_true rfl)) dX9_readBoth_38 ⟨Nat.le_of_ble_eq_true rfl, Nat.le_of_ble_eq_true rfl⟩) hS sb (Jn.same sb) (fun H locs hP hD hS => ?_)
            have hP : va_P D vwCl (wT cA G to tb tc ts nmi tn byt stk tat_13 tlen_18 tfault_15 codes_19) H := hP
            have hD : va_D A (wT cA G to tb tc ts nmi tn byt stk tat_13 tlen_18 tfault_15 codes_19) := hD
            obtain ⟨y_21, ey_21, h⟩ := bnd_ex h
            refine lv_iinc (v := y_21) (lv' := [(2, .int y_21), (3, .int r_10), (0, .ref to), (1, .int v1_7)]) hx hb dX9_readBoth_41 hv (k := 3) rfl (by rw [ey_21]; rfl) (by decide) rfl (fun ls hv => ?_)
            refine lv_goto (tgt := 7) hx hb dX9_readBoth_44 (by decide) ?_
            cases h
            exact ih y_21 tat_13 tlen_18 tfault_15 codes_19 hl _ _ _ hP hD hS (lv_sub hv [2, 3, 0] rfl)
    exact LB FU v2_7 tat_7 tlen_7 tfault_7 codes_7 ho
  have hP : va_P D vwCl (wT cA G to tb tc ts nmi tn byt stk tat tlen tfault codes) H := hP
  unfold fX9_readBoth at h
  refine lv_aload_n hx hb dX9_readBoth_0 rfl (lv_at hv 0 rfl) ?_
  refine lv_iload_n hx hb dX9_readBoth_1 rfl (lv_at hv 1 rfl) ?_
  obtain ⟨⟨tat_1, tlen_2, tfault_3, codes_4⟩, hf_5, h⟩ := bd_ex h
  have sb := Sb.same hP hD hS hA
  refine calV (va_runV (As := [.int o]) (rest := []) ⟨hx, hb, hml, hown, hts⟩ (c_X9_readCompared l G D cA to tb tc ts nmi tn byt stk _ tat tlen tfault codes ru a b hru o tat_1 tlen_2 tfault_3 codes_4 hf_5) (cwV 1 hts gX9_readBoth_X9_readCompared rfl rfl rfl (by decide +kernel) ⟨show a + 7 + 1 ≤ a + 8 by omega, show 8 + (3 + 11) + (b + 163) ≤ b + 185 by omega⟩) (pvV hE hK hS sb (va_recv hK hP (ci := 9) (q0 := 0) rfl rfl)) rfl rfl hv.1 rfl (lv_room (Nat.le_of_ble_eq_true rfl)) dX9_readBoth_2 ⟨Nat.le_of_ble_eq_true rfl, Nat.le_of_ble_eq_true rfl⟩) hS sb (Jn.same sb) (fun H locs hP hD hS => ?_)
  have hP : va_P D vwCl (wT cA G to tb tc ts nmi tn byt stk tat_1 tlen_2 tfault_3 codes_4) H := hP
  have hD : va_D A (wT cA G to tb tc ts nmi tn byt stk tat_1 tlen_2 tfault_3 codes_4) := hD
  refine lv_iconst (v := (0 : Int32)) hx hb dX9_readBoth_5 (by decide) ?_
  refine lv_istore_n (lv' := [(2, .int (0 : Int32)), (0, .ref to), (1, .int o)]) hx hb dX9_readBoth_6 rfl hv (by decide) rfl (fun ls hv => ?_)
  exact C_7 o (0 : Int32) tat_1 tlen_2 tfault_3 codes_4 h _ _ _ hP hD hS (lv_sub hv [1, 2, 0] rfl)

def fX9_readAll_7B (ru : Int32 → Int32 → Int32 → Int32 → (Nat → Int32) → Option (Int32 × Int32 × Int32 × (Nat → Int32))) (nmi : Nat) (tn : Nat) (byt : Nat → Int32) (v1_7 : Int32) (v2_7b : Int32) (tat_7b : Int32) (tlen_7b : Int32) (tfault_7b : Int32) (codes_7b : Nat → Int32) : Option ((Int32 × Int32 × Int32 × Int32 × (Nat → Int32)) ⊕ (Int32 × Int32 × Int32 × Int32 × (Nat → Int32))) :=
  (if (50 : Int32) ≤ v2_7b then some (.inr (v2_7b, tat_7b, tlen_7b, tfault_7b, codes_7b)) else bd (fX9_sees nmi tn byt 10 tat_7b tfault_7b) fun r_7 => (if r_7 = 0 then some (.inr (v2_7b, tat_7b, tlen_7b, tfault_7b, codes_7b)) else bd (fX9_take nmi tn byt tat_7b) fun (r_10, tat_11) => bd (fX9_readBoth ru nmi tn byt v1_7 tat_11 tlen_7b tfault_7b codes_7b) fun (tat_13, tlen_14, tfault_15, codes_16) => bd (fX9_write nmi tn byt ((20000 : Int32) + r_10) tlen_14 tfault_15 codes_16) fun (tlen_18, codes_19) => bnd (v2_7b + (1 : Int32)) fun y_21 => some (.inl (y_21, tat_13, tlen_18, tfault_15, codes_19))))
def fX9_readAll_7 (ru : Int32 → Int32 → Int32 → Int32 → (Nat → Int32) → Option (Int32 × Int32 × Int32 × (Nat → Int32))) (nmi : Nat) (tn : Nat) (byt : Nat → Int32) (v1_7 : Int32) (v2_7 : Int32) (tat_7 : Int32) (tlen_7 : Int32) (tfault_7 : Int32) (codes_7 : Nat → Int32) : Option (Int32 × Int32 × Int32 × (Nat → Int32)) :=
  bd (lp (fun σ : Int32 × Int32 × Int32 × Int32 × (Nat → Int32) => fX9_readAll_7B ru nmi tn byt v1_7 (σ.1) (σ.2.1) (σ.2.2.1) (σ.2.2.2.1) (σ.2.2.2.2)) FU (v2_7, tat_7, tlen_7, tfault_7, codes_7)) fun ρ => match ρ with | (v2_7r, tat_7r, tlen_7r, tfault_7r, codes_7r) => some (tat_7r, tlen_7r, tfault_7r, codes_7r)
def fX9_readAll (ru : Int32 → Int32 → Int32 → Int32 → (Nat → Int32) → Option (Int32 × Int32 × Int32 × (Nat → Int32))) (nmi : Nat) (tn : Nat) (byt : Nat → Int32) (o : Int32) (tat : Int32) (tlen : Int32) (tfault : Int32) (codes : Nat → Int32) : Option (Int32 × Int32 × Int32 × (Nat → Int32)) :=
  bd (fX9_readBoth ru nmi tn byt o tat tlen tfault codes) fun (tat_1, tlen_2, tfault_3, codes_4) => fX9_readAll_7 ru nmi tn byt o (0 : Int32) tat_1 tlen_2 tfault_3 codes_4
set_option maxHeartbeats 4000000 in
set_option maxRecDepth 100000 in
theorem c_X9_readAll (l : Launch) (G : Nat → Nat) (D : va_G) (cA : Nat → ClassId) (to : Nat) (tb : Nat) (tc : Nat) (ts : Nat) (nmi : Nat) (tn : Nat) (byt : Nat → Int32) (stk : Nat → Int32) (sz : Nat) (tat : Int32) (tlen : Int32) (tfault : Int32) (codes : Nat → Int32) (ru : Int32 → Int32 → Int32 → Int32 → (Nat → Int32) → Option (Int32 × Int32 × Int32 × (Nat → Int32))) (a b : Nat) (hru : ∀ (sz : Nat) (tat : Int32) (tlen : Int32) (tfault : Int32) (codes : Nat → Int32) (o : Int32) (tatR : Int32) (tlenR : Int32) (tfaultR : Int32) (codesR : Nat → Int32), ru o tat tlen tfault codes = some (tatR, tlenR, tfaultR, codesR) → Met l yX9_readOne wsX9_readOne ({ frames := a, cells := 0, slots := 0, locals := b } : Room) (PW G D (tyC cA) sz (wT cA G to tb tc ts nmi tn byt stk tat tlen tfault codes) [.ref to, .int o]) (QV D (tyC cA) (va_A (wT cA G to tb tc ts nmi tn byt stk tat tlen tfault codes) sz) (wT cA G to tb tc ts nmi tn byt stk tatR tlenR tfaultR codesR)) 0 0 (va_A (wT cA G to tb tc ts nmi tn byt stk tat tlen tfault codes) sz)) (o : Int32) (tatR : Int32) (tlenR : Int32) (tfaultR : Int32) (codesR : Nat → Int32) (h : fX9_readAll ru nmi tn byt o tat tlen tfault codes = some (tatR, tlenR, tfaultR, codesR)) : Met l yX9_readAll wsX9_readAll ({ frames := a + 9, cells := 0, slots := 0, locals := b + 208 } : Room) (PW G D (tyC cA) sz (wT cA G to tb tc ts nmi tn byt stk tat tlen tfault codes) [.ref to, .int o]) (QV D (tyC cA) (va_A (wT cA G to tb tc ts nmi tn byt stk tat tlen tfault codes) sz) (wT cA G to tb tc ts nmi tn byt stk tatR tlenR tfaultR codesR)) 0 0 (va_A (wT cA G to tb tc ts nmi tn byt stk tat tlen tfault codes) sz) := by
  refine ent (cc := cX9_readAll) (maxL := 4) (ret := none) (fun A => QV D (tyC cA) A (wT cA G to tb tc ts nmi tn byt stk tatR tlenR tfaultR codesR)) (by decide +kernel) rfl (Nat.le_of_ble_eq_true rfl) ?_
  intro p e s m args below meth c A ls H hx hb hml hr hlk hts hown hA hK hE hP hD hS hv hmm
  have hv : lv_has ls 4 [(0, .ref to), (1, .int o)] := hv
  generalize hQ : MQ below _ args s 0 0 A = Q
  have C_7 : ∀ (v1_7 : Int32) (v2_7 : Int32) (tat_7 : Int32) (tlen_7 : Int32) (tfault_7 : Int32) (codes_7 : Nat → Int32), fX9_readAll_7 ru nmi tn byt v1_7 v2_7 tat_7 tlen_7 tfault_7 codes_7 = some (tatR, tlenR, tfaultR, codesR) → WW p l e ({ frames := a + 9, cells := 0, slots := 0, locals := b + 208 } : Room) s m args below meth c D A 0 0 Q (wT cA G to tb tc ts nmi tn byt stk tat_7 tlen_7 tfault_7 codes_7) 4 [(0, .ref to), (1, .int v1_7), (2, .int v2_7)] 7 [] := by
    intro v1_7 v2_7 tat_7 tlen_7 tfault_7 codes_7 h
    unfold fX9_readAll_7 at h
    obtain ⟨⟨v2_7r, tat_7r, tlen_7r, tfault_7r, codes_7r⟩, ho, h⟩ := bd_ex h
    have LE : WW p l e ({ frames := a + 9, cells := 0, slots := 0, locals := b + 208 } : Room) s m args below meth c D A 0 0 Q (wT cA G to tb tc ts nmi tn byt stk tat_7r tlen_7r tfault_7r codes_7r) 4 [] 47 [] := by
      intro H locs ls hP hD hS hv
      have h := Option.some.inj h
      have ee0 : tat_7r = tatR := congrArg (fun q => q.1) h
      have ee1 : tlen_7r = tlenR := congrArg (fun q => q.2.1) h
      have ee2 : tfault_7r = tfaultR := congrArg (fun q => q.2.2.1) h
      have ee3 : codes_7r = codesR := congrArg (fun q => q.2.2.2) h
      subst ee0
      subst ee1
      subst ee2
      subst ee3
      rw [← hQ]
      exact retV hx hb hr hlk hK hP hD hS dX9_readAll_47 ⟨Nat.le_of_ble_eq_true rfl, Nat.le_of_ble_eq_true rfl⟩
    have LB : ∀ (nf : Nat) (v2_7b : Int32) (tat_7b : Int32) (tlen_7b : Int32) (tfault_7b : Int32) (codes_7b : Nat → Int32), lp (fun σ : Int32 × Int32 × Int32 × Int32 × (Nat → Int32) => fX9_readAll_7B ru nmi tn byt v1_7 (σ.1) (σ.2.1) (σ.2.2.1) (σ.2.2.2.1) (σ.2.2.2.2)) nf (v2_7b, tat_7b, tlen_7b, tfault_7b, codes_7b) = some (v2_7r, tat_7r, tlen_7r, tfault_7r, codes_7r) → WW p l e ({ frames := a + 9, cells := 0, slots := 0, locals := b + 208 } : Room) s m args below meth c D A 0 0 Q (wT cA G to tb tc ts nmi tn byt stk tat_7b tlen_7b tfault_7b codes_7b) 4 [(0, .ref to), (1, .int v1_7), (2, .int v2_7b)] 7 [] := by
      intro nf
      induction nf with
      | zero => intro v2_7b tat_7b tlen_7b tfault_7b codes_7b hl; cases hl
      | succ nf ih =>
        intro v2_7b tat_7b tlen_7b tfault_7b codes_7b hl
        obtain ⟨x, h, hl⟩ := lp_ex hl
        have h : fX9_readAll_7B ru nmi tn byt v1_7 v2_7b tat_7b tlen_7b tfault_7b codes_7b = some x := h
        unfold fX9_readAll_7B at h
        intro H locs ls hP hD hS hv
        refine lv_iload_n hx hb dX9_readAll_7 rfl (lv_at hv 2 rfl) ?_
        refine lv_bipush (v := (50 : Int32)) hx hb dX9_readAll_8 (by decide) ?_
        refine lv_icmp_ge (tgt := 47) hx hb dX9_readAll_10 (by decide) (fun c_6 => ?_) (fun c_6 => ?_)
        · have h := ite_t c_6 h
          cases h
          have hl : some (v2_7b, tat_7b, tlen_7b, tfault_7b, codes_7b) = some (v2_7r, tat_7r, tlen_7r, tfault_7r, codes_7r) := hl
          have hl := Option.some.inj hl
          have ee0 : v2_7b = v2_7r := congrArg (fun q => q.1) hl
          have ee1 : tat_7b = tat_7r := congrArg (fun q => q.2.1) hl
          have ee2 : tlen_7b = tlen_7r := congrArg (fun q => q.2.2.1) hl
          have ee3 : tfault_7b = tfault_7r := congrArg (fun q => q.2.2.2.1) hl
          have ee4 : codes_7b = codes_7r := congrArg (fun q => q.2.2.2.2) hl
          subst ee0
          subst ee1
          subst ee2
          subst ee3
          subst ee4
          exact LE _ _ _ hP hD hS (lv_sub hv [] rfl)
        · have h := ite_f c_6 h
          refine lv_aload_n hx hb dX9_readAll_13 rfl (lv_at hv 0 rfl) ?_
          refine va_ldcS (tx := "|") hx hb hown (show vk_R RX9 45 "|" (G 10) s from hE.2.2.1 10 (by decide)) dX9_readAll_14 ?_
          obtain ⟨r_7, hf_8, h⟩ := bd_ex h
          have sb := Sb.same hP hD hS hA
          refine calI (va_runV (As := [.ref (G 10)]) (rest := []) ⟨hx, hb, hml, hown, hts⟩ (c_X9_sees l G D cA to tb tc ts nmi tn byt stk _ tat_7b tlen_7b tfault_7b codes_7b 10 r_7 hf_8) (cwV 1 hts gX9_readAll_X9_sees rfl rfl rfl (by decide +kernel) ⟨show 4 + 1 ≤ a + 9 by omega, show 8 + (2 + 11) + 96 ≤ b + 208 by omega⟩) (pvV hE hK hS sb (va_recv hK hP (ci := 9) (q0 := 0) rfl rfl)) rfl rfl hv.1 rfl (lv_room (Nat.le_of_ble_eq_true rfl)) dX9_readAll_16 ⟨Nat.le_of_ble_eq_true rfl, Nat.le_of_ble_eq_true rfl⟩) hS sb (Jn.same sb) (fun H locs hP hD hS => ?_)
          have hP : va_P D vwCl (wT cA G to tb tc ts nmi tn byt stk tat_7b tlen_7b tfault_7b codes_7b) H := hP
          have hD : va_D A (wT cA G to tb tc ts nmi tn byt stk tat_7b tlen_7b tfault_7b codes_7b) := hD
          refine lv_if_eq (tgt := 47) hx hb dX9_readAll_19 (by decide) (fun c_9 => ?_) (fun c_9 => ?_)
          · have h := ite_t c_9 h
            cases h
            have hl : some (v2_7b, tat_7b, tlen_7b, tfault_7b, codes_7b) = some (v2_7r, tat_7r, tlen_7r, tfault_7r, codes_7r) := hl
            have hl := Option.some.inj hl
            have ee0 : v2_7b = v2_7r := congrArg (fun q => q.1) hl
            have ee1 : tat_7b = tat_7r := congrArg (fun q => q.2.1) hl
            have ee2 : tlen_7b = tlen_7r := congrArg (fun q => q.2.2.1) hl
            have ee3 : tfault_7b = tfault_7r := congrArg (fun q => q.2.2.2.1) hl
            have ee4 : codes_7b = codes_7r := congrArg (fun q => q.2.2.2.2) hl
            subst ee0
            subst ee1
            subst ee2
            subst ee3
            subst ee4
            exact LE _ _ _ hP hD hS (lv_sub hv [] rfl)
          · have h := ite_f c_9 h
            refine lv_aload_n hx hb dX9_readAll_22 rfl (lv_at hv 0 rfl) ?_
            obtain ⟨⟨r_10, tat_11⟩, hf_12, h⟩ := bd_ex h
            have sb := Sb.same hP hD hS hA
            refine calI (va_runV (As := []) (rest := []) ⟨hx, hb, hml, hown, hts⟩ (c_X9_take l G D cA to tb tc ts nmi tn byt stk _ tat_7b tlen_7b tfault_7b codes_7b r_10 tat_11 hf_12) (cwV 0 hts gX9_readAll_X9_take rfl rfl rfl (by decide +kernel) ⟨show 0 + 1 ≤ a + 9 by omega, show 8 + (2 + 11) + 0 ≤ b + 208 by omega⟩) (pvV hE hK hS sb (va_recv hK hP (ci := 9) (q0 := 0) rfl rfl)) rfl rfl hv.1 rfl (lv_room (Nat.le_of_ble_eq_true rfl)) dX9_readAll_23 ⟨Nat.le_of_ble_eq_true rfl, Nat.le_of_ble_eq_true rfl⟩) hS sb (Jn.same sb) (fun H locs hP hD hS => ?_)
            have hP : va_P D vwCl (wT cA G to tb tc ts nmi tn byt stk tat_11 tlen_7b tfault_7b codes_7b) H := hP
            have hD : va_D A (wT cA G to tb tc ts nmi tn byt stk tat_11 tlen_7b tfault_7b codes_7b) := hD
            refine lv_istore_n (lv' := [(3, .int r_10), (0, .ref to), (1, .int v1_7), (2, .int v2_7b)]) hx hb dX9_readAll_26 rfl hv (by decide) rfl (fun ls hv => ?_)
            refine lv_aload_n hx hb dX9_readAll_27 rfl (lv_at hv 1 rfl) ?_
            refine lv_iload_n hx hb dX9_readAll_28 rfl (lv_at hv 2 rfl) ?_
            obtain ⟨⟨tat_13, tlen_14, tfault_15, codes_16⟩, hf_17, h⟩ := bd_ex h
            have sb := Sb.same hP hD hS hA
            refine calV (va_runV (As := [.int v1_7]) (rest := []) ⟨hx, hb, hml, hown, hts⟩ (c_X9_readBoth l G D cA to tb tc ts nmi tn byt stk _ tat_11 tlen_7b tfault_7b codes_7b ru a b hru v1_7 tat_13 tlen_14 tfault_15 codes_16 hf_17) (cwV 1 hts gX9_readAll_X9_readBoth rfl rfl rfl (by decide +kernel) ⟨show a + 8 + 1 ≤ a + 9 by omega, show 8 + (4 + 11) + (b + 185) ≤ b + 208 by omega⟩) (pvV hE hK hS sb (va_recv hK hP (ci := 9) (q0 := 0) rfl rfl)) rfl rfl hv.1 rfl (lv_room (Nat.le_of_ble_eq_true rfl)) dX9_readAll_29 ⟨Nat.le_of_ble_eq_true rfl, Nat.le_of_ble_eq_true rfl⟩) hS sb (Jn.same sb) (fun H locs hP hD hS => ?_)
            have hP : va_P D vwCl (wT cA G to tb tc ts nmi tn byt stk tat_13 tlen_14 tfault_15 codes_16) H := hP
            have hD : va_D A (wT cA G to tb tc ts nmi tn byt stk tat_13 tlen_14 tfault_15 codes_16) := hD
            refine lv_aload_n hx hb dX9_readAll_32 rfl (lv_at hv 1 rfl) ?_
            refine lv_sipush (v := (20000 : Int32)) hx hb dX9_readAll_33 (by decide) ?_
            refine lv_iload_n hx hb dX9_readAll_36 rfl (lv_at hv 0 rfl) ?_
            refine lv_iadd hx hb dX9_readAll_37 ?_
            obtain ⟨⟨tlen_18, codes_19⟩, hf_20, h⟩ := bd_ex h
            have sb := Sb.same hP hD hS hA
            refine calV (va_runV (As := [.int ((20000 : Int32) + r_10)]) (rest := []) ⟨hx, hb, hml, hown, hts⟩ (c_X9_write l G D cA to tb tc ts nmi tn byt stk _ tat_13 tlen_14 tfault_15 codes_16 ((20000 : Int32) + r_10) tlen_18 codes_19 hf_20) (cwV 1 hts gX9_readAll_X9_write rfl rfl rfl (by decide +kernel) ⟨show 0 + 1 ≤ a + 9 by omega, show 8 + (2 + 11) + 0 ≤ b + 208 by omega⟩) (pvV hE hK hS sb (va_recv hK hP (ci := 9) (q0 := 0) rfl rfl)) rfl rfl hv.1 rfl (lv_room (Nat.le_of_ble_eq_true rfl)) dX9_readAll_38 ⟨Nat.le_of_ble_eq_true rfl, Nat.le_of_ble_eq_true rfl⟩) hS sb (Jn.same sb) (fun H locs hP hD hS => ?_)
            have hP : va_P D vwCl (wT cA G to tb tc ts nmi tn byt stk tat_13 tlen_18 tfault_15 codes_19) H := hP
            have hD : va_D A (wT cA G to tb tc ts nmi tn byt stk tat_13 tlen_18 tfault_15 codes_19) := hD
            obtain ⟨y_21, ey_21, h⟩ := bnd_ex h
            refine lv_iinc (v := y_21) (lv' := [(2, .int y_21), (3, .int r_10), (0, .ref to), (1, .int v1_7)]) hx hb dX9_readAll_41 hv (k := 3) rfl (by rw [ey_21]; rfl) (by decide) rfl (fun ls hv => ?_)
            refine lv_goto (tgt := 7) hx hb dX9_readAll_44 (by decide) ?_
            cases h
            exact ih y_21 tat_13 tlen_18 tfault_15 codes_19 hl _ _ _ hP hD hS (lv_sub hv [2, 3, 0] rfl)
    exact LB FU v2_7 tat_7 tlen_7 tfault_7 codes_7 ho
  have hP : va_P D vwCl (wT cA G to tb tc ts nmi tn byt stk tat tlen tfault codes) H := hP
  unfold fX9_readAll at h
  refine lv_aload_n hx hb dX9_readAll_0 rfl (lv_at hv 0 rfl) ?_
  refine lv_iload_n hx hb dX9_readAll_1 rfl (lv_at hv 1 rfl) ?_
  obtain ⟨⟨tat_1, tlen_2, tfault_3, codes_4⟩, hf_5, h⟩ := bd_ex h
  have sb := Sb.same hP hD hS hA
  refine calV (va_runV (As := [.int o]) (rest := []) ⟨hx, hb, hml, hown, hts⟩ (c_X9_readBoth l G D cA to tb tc ts nmi tn byt stk _ tat tlen tfault codes ru a b hru o tat_1 tlen_2 tfault_3 codes_4 hf_5) (cwV 1 hts gX9_readAll_X9_readBoth rfl rfl rfl (by decide +kernel) ⟨show a + 8 + 1 ≤ a + 9 by omega, show 8 + (4 + 11) + (b + 185) ≤ b + 208 by omega⟩) (pvV hE hK hS sb (va_recv hK hP (ci := 9) (q0 := 0) rfl rfl)) rfl rfl hv.1 rfl (lv_room (Nat.le_of_ble_eq_true rfl)) dX9_readAll_2 ⟨Nat.le_of_ble_eq_true rfl, Nat.le_of_ble_eq_true rfl⟩) hS sb (Jn.same sb) (fun H locs hP hD hS => ?_)
  have hP : va_P D vwCl (wT cA G to tb tc ts nmi tn byt stk tat_1 tlen_2 tfault_3 codes_4) H := hP
  have hD : va_D A (wT cA G to tb tc ts nmi tn byt stk tat_1 tlen_2 tfault_3 codes_4) := hD
  refine lv_iconst (v := (0 : Int32)) hx hb dX9_readAll_5 (by decide) ?_
  refine lv_istore_n (lv' := [(2, .int (0 : Int32)), (0, .ref to), (1, .int o)]) hx hb dX9_readAll_6 rfl hv (by decide) rfl (fun ls hv => ?_)
  exact C_7 o (0 : Int32) tat_1 tlen_2 tfault_3 codes_4 h _ _ _ hP hD hS (lv_sub hv [1, 2, 0] rfl)

def fX9_readOne_88 (ru : Int32 → Int32 → Int32 → Int32 → (Nat → Int32) → Option (Int32 × Int32 × Int32 × (Nat → Int32))) (nmi : Nat) (tn : Nat) (byt : Nat → Int32) (v1_88 : Int32) (tat_88 : Int32) (tlen_88 : Int32) (tfault_88 : Int32) (codes_88 : Nat → Int32) : Option (Int32 × Int32 × Int32 × (Nat → Int32)) :=
  (if (5 : Int32) ≤ v1_88 then bd (fX9_stopHere nmi tn byt tat_88 tfault_88) fun tfault_9 => some (tat_88, tlen_88, tfault_9, codes_88) else bd (fX9_sees nmi tn byt 4 tat_88 tfault_88) fun r_11 => (if r_11 = 0 then bd (fX9_stopHere nmi tn byt tat_88 tfault_88) fun tfault_14 => some (tat_88, tlen_88, tfault_14, codes_88) else bd (fX9_take nmi tn byt tat_88) fun (r_16, tat_17) => bd (fX9_readAll ru nmi tn byt (v1_88 + (1 : Int32)) tat_17 tlen_88 tfault_88 codes_88) fun (tat_19, tlen_20, tfault_21, codes_22) => bd (fX9_sees nmi tn byt 5 tat_19 tfault_21) fun r_24 => (if r_24 = 0 then bd (fX9_stopHere nmi tn byt tat_19 tfault_21) fun tfault_27 => some (tat_19, tlen_20, tfault_27, codes_22) else bd (fX9_take nmi tn byt tat_19) fun (r_29, tat_30) => some (tat_30, tlen_20, tfault_21, codes_22))))
def fbX9_readOne (ru : Int32 → Int32 → Int32 → Int32 → (Nat → Int32) → Option (Int32 × Int32 × Int32 × (Nat → Int32))) (nmi : Nat) (tn : Nat) (byt : Nat → Int32) (o : Int32) (tat : Int32) (tlen : Int32) (tfault : Int32) (codes : Nat → Int32) : Option (Int32 × Int32 × Int32 × (Nat → Int32)) :=
  bd (fX9_sees nmi tn byt 2 tat tfault) fun r_1 => (if r_1 = 0 then bd (fX9_sees nmi tn byt nmi tat tfault) fun r_4 => (if r_4 = 0 then (if (5 : Int32) ≤ o then fX9_readOne_88 ru nmi tn byt o tat tlen tfault codes else bd (fX9_sees nmi tn byt 3 tat tfault) fun r_32 => (if r_32 = 0 then fX9_readOne_88 ru nmi tn byt o tat tlen tfault codes else bd (fX9_take nmi tn byt tat) fun (r_35, tat_36) => bd (ru (o + (1 : Int32)) tat_36 tlen tfault codes) fun (tat_38, tlen_39, tfault_40, codes_41) => bd (fX9_write nmi tn byt ((20000 : Int32) + r_35) tlen_39 tfault_40 codes_41) fun (tlen_43, codes_44) => some (tat_38, tlen_43, tfault_40, codes_44))) else bd (fX9_take nmi tn byt tat) fun (r_46, tat_47) => ck (nmi < 11) (bd (fJ0_indexOf_0f7a4 nmi (i2cJ r_46)) fun r_50 => bd (fX9_write nmi tn byt ((10000 : Int32) + r_50) tlen tfault codes) fun (tlen_52, codes_53) => some (tat_47, tlen_52, tfault, codes_53))) else bd (fX9_readNumber nmi tn byt tat tlen tfault codes) fun (tat_55, tlen_56, codes_57) => some (tat_55, tlen_56, tfault, codes_57))
set_option maxHeartbeats 4000000 in
set_option maxRecDepth 100000 in
theorem cb_X9_readOne (l : Launch) (G : Nat → Nat) (D : va_G) (cA : Nat → ClassId) (to : Nat) (tb : Nat) (tc : Nat) (ts : Nat) (nmi : Nat) (tn : Nat) (byt : Nat → Int32) (stk : Nat → Int32) (sz : Nat) (tat : Int32) (tlen : Int32) (tfault : Int32) (codes : Nat → Int32) (ru : Int32 → Int32 → Int32 → Int32 → (Nat → Int32) → Option (Int32 × Int32 × Int32 × (Nat → Int32))) (a b : Nat) (hru : ∀ (sz : Nat) (tat : Int32) (tlen : Int32) (tfault : Int32) (codes : Nat → Int32) (o : Int32) (tatR : Int32) (tlenR : Int32) (tfaultR : Int32) (codesR : Nat → Int32), ru o tat tlen tfault codes = some (tatR, tlenR, tfaultR, codesR) → Met l yX9_readOne wsX9_readOne ({ frames := a, cells := 0, slots := 0, locals := b } : Room) (PW G D (tyC cA) sz (wT cA G to tb tc ts nmi tn byt stk tat tlen tfault codes) [.ref to, .int o]) (QV D (tyC cA) (va_A (wT cA G to tb tc ts nmi tn byt stk tat tlen tfault codes) sz) (wT cA G to tb tc ts nmi tn byt stk tatR tlenR tfaultR codesR)) 0 0 (va_A (wT cA G to tb tc ts nmi tn byt stk tat tlen tfault codes) sz)) (o : Int32) (tatR : Int32) (tlenR : Int32) (tfaultR : Int32) (codesR : Nat → Int32) (h : fbX9_readOne ru nmi tn byt o tat tlen tfault codes = some (tatR, tlenR, tfaultR, codesR)) : Met l yX9_readOne wsX9_readOne ({ frames := a + 10, cells := 0, slots := 0, locals := b + 231 } : Room) (PW G D (tyC cA) sz (wT cA G to tb tc ts nmi tn byt stk tat tlen tfault codes) [.ref to, .int o]) (QV D (tyC cA) (va_A (wT cA G to tb tc ts nmi tn byt stk tat tlen tfault codes) sz) (wT cA G to tb tc ts nmi tn byt stk tatR tlenR tfaultR codesR)) 0 0 (va_A (wT cA G to tb tc ts nmi tn byt stk tat tlen tfault codes) sz) := by
  refine ent (cc := cX9_readOne) (maxL := 3) (ret := none) (fun A => QV D (tyC cA) A (wT cA G to tb tc ts nmi tn byt stk tatR tlenR tfaultR codesR)) (by decide +kernel) rfl (Nat.le_of_ble_eq_true rfl) ?_
  intro p e s m args below meth c A ls H hx hb hml hr hlk hts hown hA hK hE hP hD hS hv hmm
  have hv : lv_has ls 3 [(0, .ref to), (1, .int o)] := hv
  have in_9 : ∀ w ∈ u_ws RX9 TX9 7, w ∈ wsX9_readOne := fun _ h => List.mem_cons_of_mem _ (List.mem_append_right _ h)
  have w_0 := hts (.fieldLink RX9 25 "SpoonsLast$Text" "names" "Ljava/lang/String;") (List.mem_of_getElem? (i := 1) rfl)
  generalize hQ : MQ below _ args s 0 0 A = Q
  have C_88 : ∀ (v1_88 : Int32) (tat_88 : Int32) (tlen_88 : Int32) (tfault_88 : Int32) (codes_88 : Nat → Int32), fX9_readOne_88 ru nmi tn byt v1_88 tat_88 tlen_88 tfault_88 codes_88 = some (tatR, tlenR, tfaultR, codesR) → WW p l e ({ frames := a + 10, cells := 0, slots := 0, locals := b + 231 } : Room) s m args below meth c D A 0 0 Q (wT cA G to tb tc ts nmi tn byt stk tat_88 tlen_88 tfault_88 codes_88) 3 [(0, .ref to), (1, .int v1_88)] 88 [] := by
    intro v1_88 tat_88 tlen_88 tfault_88 codes_88 h
    unfold fX9_readOne_88 at h
    intro H locs ls hP hD hS hv
    refine lv_iload_n hx hb dX9_readOne_88 rfl (lv_at hv 1 rfl) ?_
    refine lv_iconst (v := (5 : Int32)) hx hb dX9_readOne_89 (by decide) ?_
    refine lv_icmp_ge (tgt := 138) hx hb dX9_readOne_90 (by decide) (fun c_8 => ?_) (fun c_8 => ?_)
    · have h := ite_t c_8 h
      refine lv_aload_n hx hb dX9_readOne_138 rfl (lv_at hv 0 rfl) ?_
      obtain ⟨tfault_9, hf_10, h⟩ := bd_ex h
      have sb := Sb.same hP hD hS hA
      refine calV (va_runV (As := []) (rest := []) ⟨hx, hb, hml, hown, hts⟩ (c_X9_stopHere l G D cA to tb tc ts nmi tn byt stk _ tat_88 tlen_88 tfault_88 codes_88 tfault_9 hf_10) (cwV 0 hts gX9_readOne_X9_stopHere rfl rfl rfl (by decide +kernel) ⟨show 0 + 1 ≤ a + 10 by omega, show 8 + (1 + 11) + 0 ≤ b + 231 by omega⟩) (pvV hE hK hS sb (va_recv hK hP (ci := 9) (q0 := 0) rfl rfl)) rfl rfl hv.1 rfl (lv_room (Nat.le_of_ble_eq_true rfl)) dX9_readOne_139 ⟨Nat.le_of_ble_eq_true rfl, Nat.le_of_ble_eq_true rfl⟩) hS sb (Jn.same sb) (fun H locs hP hD hS => ?_)
      have hP : va_P D vwCl (wT cA G to tb tc ts nmi tn byt stk tat_88 tlen_88 tfault_9 codes_88) H := hP
      have hD : va_D A (wT cA G to tb tc ts nmi tn byt stk tat_88 tlen_88 tfault_9 codes_88) := hD
      have h := Option.some.inj h
      have ee0 : tat_88 = tatR := congrArg (fun q => q.1) h
      have ee1 : tlen_88 = tlenR := congrArg (fun q => q.2.1) h
      have ee2 : tfault_9 = tfaultR := congrArg (fun q => q.2.2.1) h
      have ee3 : codes_88 = codesR := congrArg (fun q => q.2.2.2) h
      subst ee0
      subst ee1
      subst ee2
      subst ee3
      rw [← hQ]
      exact retV hx hb hr hlk hK hP hD hS dX9_readOne_142 ⟨Nat.le_of_ble_eq_true rfl, Nat.le_of_ble_eq_true rfl⟩
    · have h := ite_f c_8 h
      refine lv_aload_n hx hb dX9_readOne_93 rfl (lv_at hv 0 rfl) ?_
      refine va_ldcS (tx := "(") hx hb hown (show vk_R RX9 91 "(" (G 4) s from hE.2.2.1 4 (by decide)) dX9_readOne_94 ?_
      obtain ⟨r_11, hf_12, h⟩ := bd_ex h
      have sb := Sb.same hP hD hS hA
      refine calI (va_runV (As := [.ref (G 4)]) (rest := []) ⟨hx, hb, hml, hown, hts⟩ (c_X9_sees l G D cA to tb tc ts nmi tn byt stk _ tat_88 tlen_88 tfault_88 codes_88 4 r_11 hf_12) (cwV 1 hts gX9_readOne_X9_sees rfl rfl rfl (by decide +kernel) ⟨show 4 + 1 ≤ a + 10 by omega, show 8 + (2 + 11) + 96 ≤ b + 231 by omega⟩) (pvV hE hK hS sb (va_recv hK hP (ci := 9) (q0 := 0) rfl rfl)) rfl rfl hv.1 rfl (lv_room (Nat.le_of_ble_eq_true rfl)) dX9_readOne_96 ⟨Nat.le_of_ble_eq_true rfl, Nat.le_of_ble_eq_true rfl⟩) hS sb (Jn.same sb) (fun H locs hP hD hS => ?_)
      have hP : va_P D vwCl (wT cA G to tb tc ts nmi tn byt stk tat_88 tlen_88 tfault_88 codes_88) H := hP
      have hD : va_D A (wT cA G to tb tc ts nmi tn byt stk tat_88 tlen_88 tfault_88 codes_88) := hD
      refine lv_if_eq (tgt := 138) hx hb dX9_readOne_99 (by decide) (fun c_13 => ?_) (fun c_13 => ?_)
      · have h := ite_t c_13 h
        refine lv_aload_n hx hb dX9_readOne_138 rfl (lv_at hv 0 rfl) ?_
        obtain ⟨tfault_14, hf_15, h⟩ := bd_ex h
        have sb := Sb.same hP hD hS hA
        refine calV (va_runV (As := []) (rest := []) ⟨hx, hb, hml, hown, hts⟩ (c_X9_stopHere l G D cA to tb tc ts nmi tn byt stk _ tat_88 tlen_88 tfault_88 codes_88 tfault_14 hf_15) (cwV 0 hts gX9_readOne_X9_stopHere rfl rfl rfl (by decide +kernel) ⟨show 0 + 1 ≤ a + 10 by omega, show 8 + (1 + 11) + 0 ≤ b + 231 by omega⟩) (pvV hE hK hS sb (va_recv hK hP (ci := 9) (q0 := 0) rfl rfl)) rfl rfl hv.1 rfl (lv_room (Nat.le_of_ble_eq_true rfl)) dX9_readOne_139 ⟨Nat.le_of_ble_eq_true rfl, Nat.le_of_ble_eq_true rfl⟩) hS sb (Jn.same sb) (fun H locs hP hD hS => ?_)
        have hP : va_P D vwCl (wT cA G to tb tc ts nmi tn byt stk tat_88 tlen_88 tfault_14 codes_88) H := hP
        have hD : va_D A (wT cA G to tb tc ts nmi tn byt stk tat_88 tlen_88 tfault_14 codes_88) := hD
        have h := Option.some.inj h
        have ee0 : tat_88 = tatR := congrArg (fun q => q.1) h
        have ee1 : tlen_88 = tlenR := congrArg (fun q => q.2.1) h
        have ee2 : tfault_14 = tfaultR := congrArg (fun q => q.2.2.1) h
        have ee3 : codes_88 = codesR := congrArg (fun q => q.2.2.2) h
        subst ee0
        subst ee1
        subst ee2
        subst ee3
        rw [← hQ]
        exact retV hx hb hr hlk hK hP hD hS dX9_readOne_142 ⟨Nat.le_of_ble_eq_true rfl, Nat.le_of_ble_eq_true rfl⟩
      · have h := ite_f c_13 h
        refine lv_aload_n hx hb dX9_readOne_102 rfl (lv_at hv 0 rfl) ?_
        obtain ⟨⟨r_16, tat_17⟩, hf_18, h⟩ := bd_ex h
        have sb := Sb.same hP hD hS hA
        refine calI (va_runV (As := []) (rest := []) ⟨hx, hb, hml, hown, hts⟩ (c_X9_take l G D cA to tb tc ts nmi tn byt stk _ tat_88 tlen_88 tfault_88 codes_88 r_16 tat_17 hf_18) (cwV 0 hts gX9_readOne_X9_take rfl rfl rfl (by decide +kernel) ⟨show 0 + 1 ≤ a + 10 by omega, show 8 + (2 + 11) + 0 ≤ b + 231 by omega⟩) (pvV hE hK hS sb (va_recv hK hP (ci := 9) (q0 := 0) rfl rfl)) rfl rfl hv.1 rfl (lv_room (Nat.le_of_ble_eq_true rfl)) dX9_readOne_103 ⟨Nat.le_of_ble_eq_true rfl, Nat.le_of_ble_eq_true rfl⟩) hS sb (Jn.same sb) (fun H locs hP hD hS => ?_)
        have hP : va_P D vwCl (wT cA G to tb tc ts nmi tn byt stk tat_17 tlen_88 tfault_88 codes_88) H := hP
        have hD : va_D A (wT cA G to tb tc ts nmi tn byt stk tat_17 tlen_88 tfault_88 codes_88) := hD
        refine lv_pop hx hb dX9_readOne_106 rfl ?_
        refine lv_aload_n hx hb dX9_readOne_107 rfl (lv_at hv 0 rfl) ?_
        refine lv_iload_n hx hb dX9_readOne_108 rfl (lv_at hv 1 rfl) ?_
        refine lv_iconst (v := (1 : Int32)) hx hb dX9_readOne_109 (by decide) ?_
        refine lv_iadd hx hb dX9_readOne_110 ?_
        obtain ⟨⟨tat_19, tlen_20, tfault_21, codes_22⟩, hf_23, h⟩ := bd_ex h
        have sb := Sb.same hP hD hS hA
        refine calV (va_runV (As := [.int (v1_88 + (1 : Int32))]) (rest := []) ⟨hx, hb, hml, hown, hts⟩ (c_X9_readAll l G D cA to tb tc ts nmi tn byt stk _ tat_17 tlen_88 tfault_88 codes_88 ru a b hru (v1_88 + (1 : Int32)) tat_19 tlen_20 tfault_21 codes_22 hf_23) (cwV 1 hts gX9_readOne_X9_readAll rfl rfl rfl (by decide +kernel) ⟨show a + 9 + 1 ≤ a + 10 by omega, show 8 + (4 + 11) + (b + 208) ≤ b + 231 by omega⟩) (pvV hE hK hS sb (va_recv hK hP (ci := 9) (q0 := 0) rfl rfl)) rfl rfl hv.1 rfl (lv_room (Nat.le_of_ble_eq_true rfl)) dX9_readOne_111 ⟨Nat.le_of_ble_eq_true rfl, Nat.le_of_ble_eq_true rfl⟩) hS sb (Jn.same sb) (fun H locs hP hD hS => ?_)
        have hP : va_P D vwCl (wT cA G to tb tc ts nmi tn byt stk tat_19 tlen_20 tfault_21 codes_22) H := hP
        have hD : va_D A (wT cA G to tb tc ts nmi tn byt stk tat_19 tlen_20 tfault_21 codes_22) := hD
        refine lv_aload_n hx hb dX9_readOne_114 rfl (lv_at hv 0 rfl) ?_
        refine va_ldcS (tx := ")") hx hb hown (show vk_R RX9 93 ")" (G 5) s from hE.2.2.1 5 (by decide)) dX9_readOne_115 ?_
        obtain ⟨r_24, hf_25, h⟩ := bd_ex h
        have sb := Sb.same hP hD hS hA
        refine calI (va_runV (As := [.ref (G 5)]) (rest := []) ⟨hx, hb, hml, hown, hts⟩ (c_X9_sees l G D cA to tb tc ts nmi tn byt stk _ tat_19 tlen_20 tfault_21 codes_22 5 r_24 hf_25) (cwV 1 hts gX9_readOne_X9_sees rfl rfl rfl (by decide +kernel) ⟨show 4 + 1 ≤ a + 10 by omega, show 8 + (2 + 11) + 96 ≤ b + 231 by omega⟩) (pvV hE hK hS sb (va_recv hK hP (ci := 9) (q0 := 0) rfl rfl)) rfl rfl hv.1 rfl (lv_room (Nat.le_of_ble_eq_true rfl)) dX9_readOne_117 ⟨Nat.le_of_ble_eq_true rfl, Nat.le_of_ble_eq_true rfl⟩) hS sb (Jn.same sb) (fun H locs hP hD hS => ?_)
        have hP : va_P D vwCl (wT cA G to tb tc ts nmi tn byt stk tat_19 tlen_20 tfault_21 codes_22) H := hP
        have hD : va_D A (wT cA G to tb tc ts nmi tn byt stk tat_19 tlen_20 tfault_21 codes_22) := hD
        refine lv_if_eq (tgt := 131) hx hb dX9_readOne_120 (by decide) (fun c_26 => ?_) (fun c_26 => ?_)
        · have h := ite_t c_26 h
          refine lv_aload_n hx hb dX9_readOne_131 rfl (lv_at hv 0 rfl) ?_
          obtain ⟨tfault_27, hf_28, h⟩ := bd_ex h
          have sb := Sb.same hP hD hS hA
          refine calV (va_runV (As := []) (rest := []) ⟨hx, hb, hml, hown, hts⟩ (c_X9_stopHere l G D cA to tb tc ts nmi tn byt stk _ tat_19 tlen_20 tfault_21 codes_22 tfault_27 hf_28) (cwV 0 hts gX9_readOne_X9_stopHere rfl rfl rfl (by decide +kernel) ⟨show 0 + 1 ≤ a + 10 by omega, show 8 + (1 + 11) + 0 ≤ b + 231 by omega⟩) (pvV hE hK hS sb (va_recv hK hP (ci := 9) (q0 := 0) rfl rfl)) rfl rfl hv.1 rfl (lv_room (Nat.le_of_ble_eq_true rfl)) dX9_readOne_132 ⟨Nat.le_of_ble_eq_true rfl, Nat.le_of_ble_eq_true rfl⟩) hS sb (Jn.same sb) (fun H locs hP hD hS => ?_)
          have hP : va_P D vwCl (wT cA G to tb tc ts nmi tn byt stk tat_19 tlen_20 tfault_27 codes_22) H := hP
          have hD : va_D A (wT cA G to tb tc ts nmi tn byt stk tat_19 tlen_20 tfault_27 codes_22) := hD
          refine lv_goto (tgt := 142) hx hb dX9_readOne_135 (by decide) ?_
          have h := Option.some.inj h
          have ee0 : tat_19 = tatR := congrArg (fun q => q.1) h
          have ee1 : tlen_20 = tlenR := congrArg (fun q => q.2.1) h
          have ee2 : tfault_27 = tfaultR := congrArg (fun q => q.2.2.1) h
          have ee3 : codes_22 = codesR := congrArg (fun q => q.2.2.2) h
          subst ee0
          subst ee1
          subst ee2
          subst ee3
          rw [← hQ]
          exact retV hx hb hr hlk hK hP hD hS dX9_readOne_142 ⟨Nat.le_of_ble_eq_true rfl, Nat.le_of_ble_eq_true rfl⟩
        · have h := ite_f c_26 h
          refine lv_aload_n hx hb dX9_readOne_123 rfl (lv_at hv 0 rfl) ?_
          obtain ⟨⟨r_29, tat_30⟩, hf_31, h⟩ := bd_ex h
          have sb := Sb.same hP hD hS hA
          refine calI (va_runV (As := []) (rest := []) ⟨hx, hb, hml, hown, hts⟩ (c_X9_take l G D cA to tb tc ts nmi tn byt stk _ tat_19 tlen_20 tfault_21 codes_22 r_29 tat_30 hf_31) (cwV 0 hts gX9_readOne_X9_take rfl rfl rfl (by decide +kernel) ⟨show 0 + 1 ≤ a + 10 by omega, show 8 + (2 + 11) + 0 ≤ b + 231 by omega⟩) (pvV hE hK hS sb (va_recv hK hP (ci := 9) (q0 := 0) rfl rfl)) rfl rfl hv.1 rfl (lv_room (Nat.le_of_ble_eq_true rfl)) dX9_readOne_124 ⟨Nat.le_of_ble_eq_true rfl, Nat.le_of_ble_eq_true rfl⟩) hS sb (Jn.same sb) (fun H locs hP hD hS => ?_)
          have hP : va_P D vwCl (wT cA G to tb tc ts nmi tn byt stk tat_30 tlen_20 tfault_21 codes_22) H := hP
          have hD : va_D A (wT cA G to tb tc ts nmi tn byt stk tat_30 tlen_20 tfault_21 codes_22) := hD
          refine lv_pop hx hb dX9_readOne_127 rfl ?_
          refine lv_goto (tgt := 142) hx hb dX9_readOne_128 (by decide) ?_
          have h := Option.some.inj h
          have ee0 : tat_30 = tatR := congrArg (fun q => q.1) h
          have ee1 : tlen_20 = tlenR := congrArg (fun q => q.2.1) h
          have ee2 : tfault_21 = tfaultR := congrArg (fun q => q.2.2.1) h
          have ee3 : codes_22 = codesR := congrArg (fun q => q.2.2.2) h
          subst ee0
          subst ee1
          subst ee2
          subst ee3
          rw [← hQ]
          exact retV hx hb hr hlk hK hP hD hS dX9_readOne_142 ⟨Nat.le_of_ble_eq_true rfl, Nat.le_of_ble_eq_true rfl⟩
  have hP : va_P D vwCl (wT cA G to tb tc ts nmi tn byt stk tat tlen tfault codes) H := hP
  unfold fbX9_readOne at h
  refine lv_aload_n hx hb dX9_readOne_0 rfl (lv_at hv 0 rfl) ?_
  refine va_ldcS (tx := "0123456789") hx hb hown (show vk_R RX9 78 "0123456789" (G 2) s from hE.2.2.1 2 (by decide)) dX9_readOne_1 ?_
  obtain ⟨r_1, hf_2, h⟩ := bd_ex h
  have sb := Sb.same hP hD hS hA
  refine calI (va_runV (As := [.ref (G 2)]) (rest := []) ⟨hx, hb, hml, hown, hts⟩ (c_X9_sees l G D cA to tb tc ts nmi tn byt stk _ tat tlen tfault codes 2 r_1 hf_2) (cwV 1 hts gX9_readOne_X9_sees rfl rfl rfl (by decide +kernel) ⟨show 4 + 1 ≤ a + 10 by omega, show 8 + (2 + 11) + 96 ≤ b + 231 by omega⟩) (pvV hE hK hS sb (va_recv hK hP (ci := 9) (q0 := 0) rfl rfl)) rfl rfl hv.1 rfl (lv_room (Nat.le_of_ble_eq_true rfl)) dX9_readOne_3 ⟨Nat.le_of_ble_eq_true rfl, Nat.le_of_ble_eq_true rfl⟩) hS sb (Jn.same sb) (fun H locs hP hD hS => ?_)
  have hP : va_P D vwCl (wT cA G to tb tc ts nmi tn byt stk tat tlen tfault codes) H := hP
  have hD : va_D A (wT cA G to tb tc ts nmi tn byt stk tat tlen tfault codes) := hD
  refine lv_if_eq (tgt := 16) hx hb dX9_readOne_6 (by decide) (fun c_3 => ?_) (fun c_3 => ?_)
  · have h := ite_t c_3 h
    refine lv_aload_n hx hb dX9_readOne_16 rfl (lv_at hv 0 rfl) ?_
    refine lv_aload_n hx hb dX9_readOne_17 rfl (lv_at hv 0 rfl) ?_
    refine va_get (D := D) (ci := 9) (v := .ref (G nmi)) (C := RX9) (T := TX9) (N := 7) hx hb hts in_9 hown hK hP 0 rfl rfl 1 (by decide) w_0 (fun _ h9 => h9) rfl dX9_readOne_18 ?_
    obtain ⟨r_4, hf_5, h⟩ := bd_ex h
    have sb := Sb.same hP hD hS hA
    refine calI (va_runV (As := [.ref (G nmi)]) (rest := []) ⟨hx, hb, hml, hown, hts⟩ (c_X9_sees l G D cA to tb tc ts nmi tn byt stk _ tat tlen tfault codes nmi r_4 hf_5) (cwV 1 hts gX9_readOne_X9_sees rfl rfl rfl (by decide +kernel) ⟨show 4 + 1 ≤ a + 10 by omega, show 8 + (2 + 11) + 96 ≤ b + 231 by omega⟩) (pvV hE hK hS sb (va_recv hK hP (ci := 9) (q0 := 0) rfl rfl)) rfl rfl hv.1 rfl (lv_room (Nat.le_of_ble_eq_true rfl)) dX9_readOne_21 ⟨Nat.le_of_ble_eq_true rfl, Nat.le_of_ble_eq_true rfl⟩) hS sb (Jn.same sb) (fun H locs hP hD hS => ?_)
    have hP : va_P D vwCl (wT cA G to tb tc ts nmi tn byt stk tat tlen tfault codes) H := hP
    have hD : va_D A (wT cA G to tb tc ts nmi tn byt stk tat tlen tfault codes) := hD
    refine lv_if_eq (tgt := 50) hx hb dX9_readOne_24 (by decide) (fun c_6 => ?_) (fun c_6 => ?_)
    · have h := ite_t c_6 h
      refine lv_iload_n hx hb dX9_readOne_50 rfl (lv_at hv 1 rfl) ?_
      refine lv_iconst (v := (5 : Int32)) hx hb dX9_readOne_51 (by decide) ?_
      refine lv_icmp_ge (tgt := 88) hx hb dX9_readOne_52 (by decide) (fun c_7 => ?_) (fun c_7 => ?_)
      · have h := ite_t c_7 h
        exact C_88 o tat tlen tfault codes h _ _ _ hP hD hS (lv_sub hv [0, 1] rfl)
      · have h := ite_f c_7 h
        refine lv_aload_n hx hb dX9_readOne_55 rfl (lv_at hv 0 rfl) ?_
        refine va_ldcS (tx := "!") hx hb hown (show vk_R RX9 89 "!" (G 3) s from hE.2.2.1 3 (by decide)) dX9_readOne_56 ?_
        obtain ⟨r_32, hf_33, h⟩ := bd_ex h
        have sb := Sb.same hP hD hS hA
        refine calI (va_runV (As := [.ref (G 3)]) (rest := []) ⟨hx, hb, hml, hown, hts⟩ (c_X9_sees l G D cA to tb tc ts nmi tn byt stk _ tat tlen tfault codes 3 r_32 hf_33) (cwV 1 hts gX9_readOne_X9_sees rfl rfl rfl (by decide +kernel) ⟨show 4 + 1 ≤ a + 10 by omega, show 8 + (2 + 11) + 96 ≤ b + 231 by omega⟩) (pvV hE hK hS sb (va_recv hK hP (ci := 9) (q0 := 0) rfl rfl)) rfl rfl hv.1 rfl (lv_room (Nat.le_of_ble_eq_true rfl)) dX9_readOne_58 ⟨Nat.le_of_ble_eq_true rfl, Nat.le_of_ble_eq_true rfl⟩) hS sb (Jn.same sb) (fun H locs hP hD hS => ?_)
        have hP : va_P D vwCl (wT cA G to tb tc ts nmi tn byt stk tat tlen tfault codes) H := hP
        have hD : va_D A (wT cA G to tb tc ts nmi tn byt stk tat tlen tfault codes) := hD
        refine lv_if_eq (tgt := 88) hx hb dX9_readOne_61 (by decide) (fun c_34 => ?_) (fun c_34 => ?_)
        · have h := ite_t c_34 h
          exact C_88 o tat tlen tfault codes h _ _ _ hP hD hS (lv_sub hv [0, 1] rfl)
        · have h := ite_f c_34 h
          refine lv_aload_n hx hb dX9_readOne_64 rfl (lv_at hv 0 rfl) ?_
          obtain ⟨⟨r_35, tat_36⟩, hf_37, h⟩ := bd_ex h
          have sb := Sb.same hP hD hS hA
          refine calI (va_runV (As := []) (rest := []) ⟨hx, hb, hml, hown, hts⟩ (c_X9_take l G D cA to tb tc ts nmi tn byt stk _ tat tlen tfault codes r_35 tat_36 hf_37) (cwV 0 hts gX9_readOne_X9_take rfl rfl rfl (by decide +kernel) ⟨show 0 + 1 ≤ a + 10 by omega, show 8 + (2 + 11) + 0 ≤ b + 231 by omega⟩) (pvV hE hK hS sb (va_recv hK hP (ci := 9) (q0 := 0) rfl rfl)) rfl rfl hv.1 rfl (lv_room (Nat.le_of_ble_eq_true rfl)) dX9_readOne_65 ⟨Nat.le_of_ble_eq_true rfl, Nat.le_of_ble_eq_true rfl⟩) hS sb (Jn.same sb) (fun H locs hP hD hS => ?_)
          have hP : va_P D vwCl (wT cA G to tb tc ts nmi tn byt stk tat_36 tlen tfault codes) H := hP
          have hD : va_D A (wT cA G to tb tc ts nmi tn byt stk tat_36 tlen tfault codes) := hD
          refine lv_istore_n (lv' := [(2, .int r_35), (0, .ref to), (1, .int o)]) hx hb dX9_readOne_68 rfl hv (by decide) rfl (fun ls hv => ?_)
          refine lv_aload_n hx hb dX9_readOne_69 rfl (lv_at hv 1 rfl) ?_
          refine lv_iload_n hx hb dX9_readOne_70 rfl (lv_at hv 2 rfl) ?_
          refine lv_iconst (v := (1 : Int32)) hx hb dX9_readOne_71 (by decide) ?_
          refine lv_iadd hx hb dX9_readOne_72 ?_
          obtain ⟨⟨tat_38, tlen_39, tfault_40, codes_41⟩, hf_42, h⟩ := bd_ex h
          have sb := Sb.same hP hD hS hA
          refine calV (va_runV (As := [.int (o + (1 : Int32))]) (rest := []) ⟨hx, hb, hml, hown, hts⟩ (hru _ tat_36 tlen tfault codes (o + (1 : Int32)) tat_38 tlen_39 tfault_40 codes_41 hf_42) (cwV 1 hts gX9_readOne_X9_readOne rfl rfl rfl (by decide +kernel) ⟨show a + 1 ≤ a + 10 by omega, show 8 + (3 + 11) + b ≤ b + 231 by omega⟩) (pvV hE hK hS sb (va_recv hK hP (ci := 9) (q0 := 0) rfl rfl)) rfl rfl hv.1 rfl (lv_room (Nat.le_of_ble_eq_true rfl)) dX9_readOne_73 ⟨Nat.le_of_ble_eq_true rfl, Nat.le_of_ble_eq_true rfl⟩) hS sb (Jn.same sb) (fun H locs hP hD hS => ?_)
          have hP : va_P D vwCl (wT cA G to tb tc ts nmi tn byt stk tat_38 tlen_39 tfault_40 codes_41) H := hP
          have hD : va_D A (wT cA G to tb tc ts nmi tn byt stk tat_38 tlen_39 tfault_40 codes_41) := hD
          refine lv_aload_n hx hb dX9_readOne_76 rfl (lv_at hv 1 rfl) ?_
          refine lv_sipush (v := (20000 : Int32)) hx hb dX9_readOne_77 (by decide) ?_
          refine lv_iload_n hx hb dX9_readOne_80 rfl (lv_at hv 0 rfl) ?_
          refine lv_iadd hx hb dX9_readOne_81 ?_
          obtain ⟨⟨tlen_43, codes_44⟩, hf_45, h⟩ := bd_ex h
          have sb := Sb.same hP hD hS hA
          refine calV (va_runV (As := [.int ((20000 : Int32) + r_35)]) (rest := []) ⟨hx, hb, hml, hown, hts⟩ (c_X9_write l G D cA to tb tc ts nmi tn byt stk _ tat_38 tlen_39 tfault_40 codes_41 ((20000 : Int32) + r_35) tlen_43 codes_44 hf_45) (cwV 1 hts gX9_readOne_X9_write rfl rfl rfl (by decide +kernel) ⟨show 0 + 1 ≤ a + 10 by omega, show 8 + (2 + 11) + 0 ≤ b + 231 by omega⟩) (pvV hE hK hS sb (va_recv hK hP (ci := 9) (q0 := 0) rfl rfl)) rfl rfl hv.1 rfl (lv_room (Nat.le_of_ble_eq_true rfl)) dX9_readOne_82 ⟨Nat.le_of_ble_eq_true rfl, Nat.le_of_ble_eq_true rfl⟩) hS sb (Jn.same sb) (fun H locs hP hD hS => ?_)
          have hP : va_P D vwCl (wT cA G to tb tc ts nmi tn byt stk tat_38 tlen_43 tfault_40 codes_44) H := hP
          have hD : va_D A (wT cA G to tb tc ts nmi tn byt stk tat_38 tlen_43 tfault_40 codes_44) := hD
          refine lv_goto (tgt := 142) hx hb dX9_readOne_85 (by decide) ?_
          have h := Option.some.inj h
          have ee0 : tat_38 = tatR := congrArg (fun q => q.1) h
          have ee1 : tlen_43 = tlenR := congrArg (fun q => q.2.1) h
          have ee2 : tfault_40 = tfaultR := congrArg (fun q => q.2.2.1) h
          have ee3 : codes_44 = codesR := congrArg (fun q => q.2.2.2) h
          subst ee0
          subst ee1
          subst ee2
          subst ee3
          rw [← hQ]
          exact retV hx hb hr hlk hK hP hD hS dX9_readOne_142 ⟨Nat.le_of_ble_eq_true rfl, Nat.le_of_ble_eq_true rfl⟩
    · have h := ite_f c_6 h
      refine lv_aload_n hx hb dX9_readOne_27 rfl (lv_at hv 0 rfl) ?_
      refine lv_sipush (v := (10000 : Int32)) hx hb dX9_readOne_28 (by decide) ?_
      refine lv_aload_n hx hb dX9_readOne_31 rfl (lv_at hv 0 rfl) ?_
      refine va_get (D := D) (ci := 9) (v := .ref (G nmi)) (C := RX9) (T := TX9) (N := 7) hx hb hts in_9 hown hK hP 0 rfl rfl 1 (by decide) w_0 (fun _ h9 => h9) rfl dX9_readOne_32 ?_
      refine lv_aload_n hx hb dX9_readOne_35 rfl (lv_at hv 0 rfl) ?_
      obtain ⟨⟨r_46, tat_47⟩, hf_48, h⟩ := bd_ex h
      have sb := Sb.same hP hD hS hA
      refine calI (va_runV (As := []) (rest := [.ref (G nmi), .int (10000 : Int32), .ref to]) ⟨hx, hb, hml, hown, hts⟩ (c_X9_take l G D cA to tb tc ts nmi tn byt stk _ tat tlen tfault codes r_46 tat_47 hf_48) (cwV 0 hts gX9_readOne_X9_take rfl rfl rfl (by decide +kernel) ⟨show 0 + 1 ≤ a + 10 by omega, show 8 + (2 + 11) + 0 ≤ b + 231 by omega⟩) (pvV hE hK hS sb (va_recv hK hP (ci := 9) (q0 := 0) rfl rfl)) rfl rfl hv.1 rfl (lv_room (Nat.le_of_ble_eq_true rfl)) dX9_readOne_36 ⟨Nat.le_of_ble_eq_true rfl, Nat.le_of_ble_eq_true rfl⟩) hS sb (Jn.same sb) (fun H locs hP hD hS => ?_)
      have hP : va_P D vwCl (wT cA G to tb tc ts nmi tn byt stk tat_47 tlen tfault codes) H := hP
      have hD : va_D A (wT cA G to tb tc ts nmi tn byt stk tat_47 tlen tfault codes) := hD
      refine lv_i2c (v := (i2cJ r_46)) hx hb dX9_readOne_39 rfl ?_
      obtain ⟨c_49, h⟩ := ck_ex h
      obtain ⟨r_50, hf_51, h⟩ := bd_ex h
      have sb := Sb.nil hP hD hS hA
      refine calI (va_runV (As := [.int (i2cJ r_46)]) (rest := [.int (10000 : Int32), .ref to]) ⟨hx, hb, hml, hown, hts⟩ (c_J0_indexOf_0f7a4 l G D cA  _ nmi (i2cJ r_46) r_50 hf_51) (cwV 1 hts gX9_readOne_J0_indexOf_0f7a4 rfl rfl rfl (by decide +kernel) ⟨show 3 + 1 ≤ a + 10 by omega, show 8 + (2 + 11) + 75 ≤ b + 231 by omega⟩) (pvV hE hK hS sb (vk_recv hE.2.1 c_49 hS)) rfl rfl hv.1 rfl (lv_room (Nat.le_of_ble_eq_true rfl)) dX9_readOne_40 ⟨Nat.le_of_ble_eq_true rfl, Nat.le_of_ble_eq_true rfl⟩) hS sb (Jn.nil hP hD) (fun H locs hP hD hS => ?_)
      have hP : va_P D vwCl (wT cA G to tb tc ts nmi tn byt stk tat_47 tlen tfault codes) H := hP
      have hD : va_D A (wT cA G to tb tc ts nmi tn byt stk tat_47 tlen tfault codes) := hD
      refine lv_iadd hx hb dX9_readOne_43 ?_
      obtain ⟨⟨tlen_52, codes_53⟩, hf_54, h⟩ := bd_ex h
      have sb := Sb.same hP hD hS hA
      refine calV (va_runV (As := [.int ((10000 : Int32) + r_50)]) (rest := []) ⟨hx, hb, hml, hown, hts⟩ (c_X9_write l G D cA to tb tc ts nmi tn byt stk _ tat_47 tlen tfault codes ((10000 : Int32) + r_50) tlen_52 codes_53 hf_54) (cwV 1 hts gX9_readOne_X9_write rfl rfl rfl (by decide +kernel) ⟨show 0 + 1 ≤ a + 10 by omega, show 8 + (2 + 11) + 0 ≤ b + 231 by omega⟩) (pvV hE hK hS sb (va_recv hK hP (ci := 9) (q0 := 0) rfl rfl)) rfl rfl hv.1 rfl (lv_room (Nat.le_of_ble_eq_true rfl)) dX9_readOne_44 ⟨Nat.le_of_ble_eq_true rfl, Nat.le_of_ble_eq_true rfl⟩) hS sb (Jn.same sb) (fun H locs hP hD hS => ?_)
      have hP : va_P D vwCl (wT cA G to tb tc ts nmi tn byt stk tat_47 tlen_52 tfault codes_53) H := hP
      have hD : va_D A (wT cA G to tb tc ts nmi tn byt stk tat_47 tlen_52 tfault codes_53) := hD
      refine lv_goto (tgt := 142) hx hb dX9_readOne_47 (by decide) ?_
      have h := Option.some.inj h
      have ee0 : tat_47 = tatR := congrArg (fun q => q.1) h
      have ee1 : tlen_52 = tlenR := congrArg (fun q => q.2.1) h
      have ee2 : tfault = tfaultR := congrArg (fun q => q.2.2.1) h
      have ee3 : codes_53 = codesR := congrArg (fun q => q.2.2.2) h
      subst ee0
      subst ee1
      subst ee2
      subst ee3
      rw [← hQ]
      exact retV hx hb hr hlk hK hP hD hS dX9_readOne_142 ⟨Nat.le_of_ble_eq_true rfl, Nat.le_of_ble_eq_true rfl⟩
  · have h := ite_f c_3 h
    refine lv_aload_n hx hb dX9_readOne_9 rfl (lv_at hv 0 rfl) ?_
    obtain ⟨⟨tat_55, tlen_56, codes_57⟩, hf_58, h⟩ := bd_ex h
    have sb := Sb.same hP hD hS hA
    refine calV (va_runV (As := []) (rest := []) ⟨hx, hb, hml, hown, hts⟩ (c_X9_readNumber l G D cA to tb tc ts nmi tn byt stk _ tat tlen tfault codes tat_55 tlen_56 codes_57 hf_58) (cwV 0 hts gX9_readOne_X9_readNumber rfl rfl rfl (by decide +kernel) ⟨show 5 + 1 ≤ a + 10 by omega, show 8 + (3 + 11) + 117 ≤ b + 231 by omega⟩) (pvV hE hK hS sb (va_recv hK hP (ci := 9) (q0 := 0) rfl rfl)) rfl rfl hv.1 rfl (lv_room (Nat.le_of_ble_eq_true rfl)) dX9_readOne_10 ⟨Nat.le_of_ble_eq_true rfl, Nat.le_of_ble_eq_true rfl⟩) hS sb (Jn.same sb) (fun H locs hP hD hS => ?_)
    have hP : va_P D vwCl (wT cA G to tb tc ts nmi tn byt stk tat_55 tlen_56 tfault codes_57) H := hP
    have hD : va_D A (wT cA G to tb tc ts nmi tn byt stk tat_55 tlen_56 tfault codes_57) := hD
    refine lv_goto (tgt := 142) hx hb dX9_readOne_13 (by decide) ?_
    have h := Option.some.inj h
    have ee0 : tat_55 = tatR := congrArg (fun q => q.1) h
    have ee1 : tlen_56 = tlenR := congrArg (fun q => q.2.1) h
    have ee2 : tfault = tfaultR := congrArg (fun q => q.2.2.1) h
    have ee3 : codes_57 = codesR := congrArg (fun q => q.2.2.2) h
    subst ee0
    subst ee1
    subst ee2
    subst ee3
    rw [← hQ]
    exact retV hx hb hr hlk hK hP hD hS dX9_readOne_142 ⟨Nat.le_of_ble_eq_true rfl, Nat.le_of_ble_eq_true rfl⟩
def fX9_readOne (nmi : Nat) (tn : Nat) (byt : Nat → Int32) : Nat → Int32 → Int32 → Int32 → Int32 → (Nat → Int32) → Option (Int32 × Int32 × Int32 × (Nat → Int32))
  | 0, _, _, _, _, _ => none
  | n + 1, o, tat, tlen, tfault, codes => fbX9_readOne (fX9_readOne nmi tn byt n) nmi tn byt o tat tlen tfault codes
theorem c_X9_readOne_n (n : Nat) (l : Launch) (G : Nat → Nat) (D : va_G) (cA : Nat → ClassId) (to : Nat) (tb : Nat) (tc : Nat) (ts : Nat) (nmi : Nat) (tn : Nat) (byt : Nat → Int32) (stk : Nat → Int32) (sz : Nat) (tat : Int32) (tlen : Int32) (tfault : Int32) (codes : Nat → Int32) (o : Int32) (tatR : Int32) (tlenR : Int32) (tfaultR : Int32) (codesR : Nat → Int32) (h : fX9_readOne nmi tn byt n o tat tlen tfault codes = some (tatR, tlenR, tfaultR, codesR)) : Met l yX9_readOne wsX9_readOne ({ frames := 10 * n, cells := 0, slots := 0, locals := 231 * n } : Room) (PW G D (tyC cA) sz (wT cA G to tb tc ts nmi tn byt stk tat tlen tfault codes) [.ref to, .int o]) (QV D (tyC cA) (va_A (wT cA G to tb tc ts nmi tn byt stk tat tlen tfault codes) sz) (wT cA G to tb tc ts nmi tn byt stk tatR tlenR tfaultR codesR)) 0 0 (va_A (wT cA G to tb tc ts nmi tn byt stk tat tlen tfault codes) sz) := by
  induction n generalizing sz tat tlen tfault codes o tatR tlenR tfaultR codesR with
  | zero => cases h
  | succ n ih => exact cb_X9_readOne l G D cA to tb tc ts nmi tn byt stk sz tat tlen tfault codes (fX9_readOne nmi tn byt n) (10 * n) (231 * n) ih o tatR tlenR tfaultR codesR h

