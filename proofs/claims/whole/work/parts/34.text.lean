def fX9_init (nmi : Nat) (arr : Nat → Int32) (n : Int32) : Option (Int32 × Int32 × Int32 × (Nat → Int32)) :=
  bd (fX9_readAll (fX9_readOne nmi n.toNatClampNeg (cpyOf arr n) 8) nmi n.toNatClampNeg (cpyOf arr n) 0 0 0 (-1) (fun _ => 0)) fun (tat, tlen, tfault, codes) => if 0 ≤ tfault then some (tat, tlen, tfault, codes) else if n ≤ tat then some (tat, tlen, tfault, codes) else some (tat, tlen, tat, codes)
set_option maxHeartbeats 4000000 in
set_option maxRecDepth 100000 in
theorem c_X9_init (l : Launch) (G : Nat → Nat) (D : va_G) (cA : Nat → ClassId) (sz o a nmi : Nat) (arr : Nat → Int32) (n : Int32) (hn : ¬ n < 0) (hn2 : n.toNatClampNeg ≤ 50) (tatR tlenR tfaultR : Int32) (codesR : Nat → Int32) (h : fX9_init nmi arr n = some (tatR, tlenR, tfaultR, codesR)) : Met l yX9_init wsX9_init ({ frames := 91, cells := 3, slots := 150, locals := 2200 } : Room) (PW G D (tyC cA) sz [(o, .inr (9, [.null, .null, .int 0, .null, .int 0, .null, .int 0])), (a, .inl (cA 0, 50, .inl arr))] [.ref o, .ref a, .int n, .ref (G nmi)]) (QX D (tyC cA) (va_A [(o, .inr (9, [.null, .null, .int 0, .null, .int 0, .null, .int 0])), (a, .inl (cA 0, 50, .inl arr))] sz) (fun w => ∃ q1 q2 q3 : Nat, w = [(o, .inr (9, [.ref q1, .ref (G nmi), .int tatR, .ref q2, .int tlenR, .ref q3, .int tfaultR])), (a, .inl (cA 0, 50, .inl arr)), (q1, .inl (cA 0, n.toNatClampNeg, .inl (cpyOf arr n))), (q2, .inl (cA 0, n.toNatClampNeg, .inl codesR)), (q3, .inl (cA 0, n.toNatClampNeg, .inl (fun _ => 0)))])) 3 150 (va_A [(o, .inr (9, [.null, .null, .int 0, .null, .int 0, .null, .int 0])), (a, .inl (cA 0, 50, .inl arr))] sz) := by
  refine ent (y := yX9_init) (av := [.ref o, .ref a, .int n, .ref (G nmi)]) (w0 := [(o, .inr (9, [.null, .null, .int 0, .null, .int 0, .null, .int 0])), (a, .inl (cA 0, 50, .inl arr))]) (cc := cX9_init) (maxL := 4) (ret := none) (fun A => QX D (tyC cA) A (fun w => ∃ q1 q2 q3 : Nat, w = [(o, .inr (9, [.ref q1, .ref (G nmi), .int tatR, .ref q2, .int tlenR, .ref q3, .int tfaultR])), (a, .inl (cA 0, 50, .inl arr)), (q1, .inl (cA 0, n.toNatClampNeg, .inl (cpyOf arr n))), (q2, .inl (cA 0, n.toNatClampNeg, .inl codesR)), (q3, .inl (cA 0, n.toNatClampNeg, .inl (fun _ => 0)))])) (by decide +kernel) rfl (Nat.le_of_ble_eq_true rfl) ?_
  intro p e s m args below meth c A ls H hx hb hml hr hlk hts hown hA hK hE hP hD hS hv hmm
  have hv : lv_has ls 4 [(0, .ref o), (1, .ref a), (2, .int n), (3, .ref (G nmi))] := hv
  have hinit : meth.name = "<init>" := (name_of_methodNamed hmm.1 hmm.2).1
  have in_9 : ∀ w ∈ u_ws RX9 TX9 7, w ∈ wsX9_init := fun _ h => List.mem_cons_of_mem _ (List.mem_append_right _ h)
  have w_0 := hts (.methodLink RX9 3 objectInit) (List.mem_of_getElem? (i := 1) rfl)
  have w_1 := hts (.instanceMethod objectInit) (List.mem_of_getElem? (i := 2) rfl)
  have w_2 := hts (.code objectInit ⟨#[0xb1]⟩ 1 none) (List.mem_of_getElem? (i := 3) rfl)
  have w_3 := hts (.fieldLink RX9 9 "SpoonsLast$Text" "fault" "I") (List.mem_of_getElem? (i := 4) rfl)
  have w_4 := hts (.fieldLink RX9 21 "SpoonsLast$Text" "bytes" "[I") (List.mem_of_getElem? (i := 5) rfl)
  have w_5 := hts (.fieldLink RX9 25 "SpoonsLast$Text" "names" "Ljava/lang/String;") (List.mem_of_getElem? (i := 6) rfl)
  have w_6 := hts (.arrayClass .int) (List.mem_of_getElem? (i := 7) rfl)
  have w_7 := hts (.fieldLink RX9 29 "SpoonsLast$Text" "codes" "[I") (List.mem_of_getElem? (i := 8) rfl)
  have w_8 := hts (.fieldLink RX9 32 "SpoonsLast$Text" "stack" "[I") (List.mem_of_getElem? (i := 9) rfl)
  have w_9 := hts (.fieldLink RX9 39 "SpoonsLast$Text" "at" "I") (List.mem_of_getElem? (i := 10) rfl)
  generalize hQ : MQ below _ args s 3 150 A = Q
  have hP : va_P D vwCl [(o, .inr (9, [.null, .null, .int 0, .null, .int 0, .null, .int 0])), (a, .inl (cA 0, 50, .inl arr))] H := hP
  have hD : va_D A [(o, .inr (9, [.null, .null, .int 0, .null, .int 0, .null, .int 0])), (a, .inl (cA 0, 50, .inl arr))] := hD
  refine lv_aload_n hx hb dX9_init_0 rfl (lv_at hv 0 rfl) ?_
  refine W.objInit hx hb hown w_0 w_1 w_2 rfl (hv.1.trans hml.symm) rfl dX9_init_1 (Nat.le_of_ble_eq_true rfl) (Nat.le_of_ble_eq_true rfl) ?_
  refine W.eq (g2 := F0 m 4 ls []) rfl ?_
  refine lv_aload_n hx hb dX9_init_4 rfl (lv_at hv 0 rfl) ?_
  refine lv_iconst (v := (-1 : Int32)) hx hb dX9_init_5 (by decide) ?_
  refine va_put (D := D) (ci := 9) (v := .int (-1)) (ty := .int) (C := RX9) (T := TX9) (N := 7) hx hb hts in_9 tyX9 tyX9_ok nmX9 hown hK hP hD hS 0 rfl rfl 6 (by decide) w_3 (fun _ h9 => h9) rfl (by decide +kernel) rfl rfl (Nat.le_of_ble_eq_true rfl) dX9_init_6 (fun H locs hP hD hS => ?_)
  have hP : va_P D vwCl [(o, .inr (9, [.null, .null, .int 0, .null, .int 0, .null, .int (-1)])), (a, .inl (cA 0, 50, .inl arr))] H := hP
  have hD : va_D A [(o, .inr (9, [.null, .null, .int 0, .null, .int 0, .null, .int (-1)])), (a, .inl (cA 0, 50, .inl arr))] := hD
  refine lv_aload_n hx hb dX9_init_9 rfl (lv_at hv 0 rfl) ?_
  refine lv_aload_n hx hb dX9_init_10 rfl (lv_at hv 1 rfl) ?_
  refine lv_iload_n hx hb dX9_init_11 rfl (lv_at hv 2 rfl) ?_
  have sb : Sb D A H (wA cA a 50 arr) := Sb.pl (ws := [(o, .inr (9, [.null, .null, .int 0, .null, .int 0, .null, .int (-1)])), (a, .inl (cA 0, 50, .inl arr))]) [1] (by decide) rfl hP hD hS hA
  refine calR (va_runS (As := [.ref a, .int n]) (rest := [.ref o]) ⟨hx, hb, hml, hown, hts⟩ (c_J7_copyOf_59c91 l G D cA _ a arr n hn hn2) (va_cwS 2 hts gX9_init_J7_copyOf_59c91 rfl rfl rfl (by decide +kernel) ⟨(Nat.le_of_ble_eq_true rfl), (Nat.le_of_ble_eq_true rfl)⟩) (pvS hE hK hS sb) rfl rfl hv.1 rfl (lv_room (Nat.le_of_ble_eq_true rfl)) dX9_init_12 ⟨(Nat.le_of_ble_eq_true rfl), (Nat.le_of_ble_eq_true rfl)⟩) hS sb (fun w1 q1 H1 locs1 hw1 hP1 hD1 hk1 hS1 => ?_)
  obtain ⟨hP2, hD2⟩ := Jn.grow (P := [(o, .inr (9, [.null, .null, .int 0, .null, .int 0, .null, .int (-1)]))]) (wc := wA cA a 50 arr) hP hD sb.2.2 H1 hP1 hD1 hk1
  subst hw1
  have hP : va_P D vwCl [(o, .inr (9, [.null, .null, .int 0, .null, .int 0, .null, .int (-1)])), (a, .inl (cA 0, 50, .inl arr)), (q1, .inl (cA 0, n.toNatClampNeg, .inl (cpyOf arr n)))] H1 := hP2
  have hD : va_D A [(o, .inr (9, [.null, .null, .int 0, .null, .int 0, .null, .int (-1)])), (a, .inl (cA 0, 50, .inl arr)), (q1, .inl (cA 0, n.toNatClampNeg, .inl (cpyOf arr n)))] := hD2
  clear hP2 hD2 hP1 hD1 hk1 sb hS
  have hS := hS1
  clear hS1
  refine va_putF (D := D) (ci := 9) (v := .ref q1) (ty := .array .int) (C := RX9) (T := TX9) (N := 7) hx hb hts in_9 tyX9 tyX9_ok nmX9 hown hK hP hD hS 0 rfl rfl 0 (by decide) w_4 (fun _ h9 => h9) rfl hinit rfl (by decide +kernel) rfl rfl (Nat.le_of_ble_eq_true rfl) dX9_init_15 (fun H locs hP hD hS => ?_)
  have hP : va_P D vwCl [(o, .inr (9, [.ref q1, .null, .int 0, .null, .int 0, .null, .int (-1)])), (a, .inl (cA 0, 50, .inl arr)), (q1, .inl (cA 0, n.toNatClampNeg, .inl (cpyOf arr n)))] H := hP
  have hD : va_D A [(o, .inr (9, [.ref q1, .null, .int 0, .null, .int 0, .null, .int (-1)])), (a, .inl (cA 0, 50, .inl arr)), (q1, .inl (cA 0, n.toNatClampNeg, .inl (cpyOf arr n)))] := hD
  refine lv_aload_n hx hb dX9_init_18 rfl (lv_at hv 0 rfl) ?_
  refine lv_aload_n hx hb dX9_init_19 rfl (lv_at hv 3 rfl) ?_
  refine va_putF (D := D) (ci := 9) (v := .ref (G nmi)) (ty := .object "java/lang/String") (C := RX9) (T := TX9) (N := 7) hx hb hts in_9 tyX9 tyX9_ok nmX9 hown hK hP hD hS 0 rfl rfl 1 (by decide) w_5 (fun _ h9 => h9) rfl hinit rfl (by decide +kernel) rfl rfl (Nat.le_of_ble_eq_true rfl) dX9_init_20 (fun H locs hP hD hS => ?_)
  have hP : va_P D vwCl [(o, .inr (9, [.ref q1, .ref (G nmi), .int 0, .null, .int 0, .null, .int (-1)])), (a, .inl (cA 0, 50, .inl arr)), (q1, .inl (cA 0, n.toNatClampNeg, .inl (cpyOf arr n)))] H := hP
  have hD : va_D A [(o, .inr (9, [.ref q1, .ref (G nmi), .int 0, .null, .int 0, .null, .int (-1)])), (a, .inl (cA 0, 50, .inl arr)), (q1, .inl (cA 0, n.toNatClampNeg, .inl (cpyOf arr n)))] := hD
  refine lv_aload_n hx hb dX9_init_23 rfl (lv_at hv 0 rfl) ?_
  refine lv_iload_n hx hb dX9_init_24 rfl (lv_at hv 2 rfl) ?_
  refine nwI hx hb hA w_6 rfl hK hP hD hS (n := n) (N' := n.toNatClampNeg) hn rfl (by omega) (Nat.le_of_ble_eq_true rfl) (by show 0 + 50 + _ ≤ 150; omega) dX9_init_25 ?_
  intro q2 H hP hD hS
  have hP : va_P D vwCl [(o, .inr (9, [.ref q1, .ref (G nmi), .int 0, .null, .int 0, .null, .int (-1)])), (a, .inl (cA 0, 50, .inl arr)), (q1, .inl (cA 0, n.toNatClampNeg, .inl (cpyOf arr n))), (q2, .inl (cA 0, n.toNatClampNeg, .inl (fun _ => 0)))] H := hP
  have hD : va_D A [(o, .inr (9, [.ref q1, .ref (G nmi), .int 0, .null, .int 0, .null, .int (-1)])), (a, .inl (cA 0, 50, .inl arr)), (q1, .inl (cA 0, n.toNatClampNeg, .inl (cpyOf arr n))), (q2, .inl (cA 0, n.toNatClampNeg, .inl (fun _ => 0)))] := hD
  refine va_putF (D := D) (ci := 9) (v := .ref q2) (ty := .array .int) (C := RX9) (T := TX9) (N := 7) hx hb hts in_9 tyX9 tyX9_ok nmX9 hown hK hP hD hS 0 rfl rfl 3 (by decide) w_7 (fun _ h9 => h9) rfl hinit rfl (by decide +kernel) rfl rfl (Nat.le_of_ble_eq_true rfl) dX9_init_27 (fun H locs hP hD hS => ?_)
  have hP : va_P D vwCl [(o, .inr (9, [.ref q1, .ref (G nmi), .int 0, .ref q2, .int 0, .null, .int (-1)])), (a, .inl (cA 0, 50, .inl arr)), (q1, .inl (cA 0, n.toNatClampNeg, .inl (cpyOf arr n))), (q2, .inl (cA 0, n.toNatClampNeg, .inl (fun _ => 0)))] H := hP
  have hD : va_D A [(o, .inr (9, [.ref q1, .ref (G nmi), .int 0, .ref q2, .int 0, .null, .int (-1)])), (a, .inl (cA 0, 50, .inl arr)), (q1, .inl (cA 0, n.toNatClampNeg, .inl (cpyOf arr n))), (q2, .inl (cA 0, n.toNatClampNeg, .inl (fun _ => 0)))] := hD
  refine lv_aload_n hx hb dX9_init_30 rfl (lv_at hv 0 rfl) ?_
  refine lv_iload_n hx hb dX9_init_31 rfl (lv_at hv 2 rfl) ?_
  refine nwI hx hb hA w_6 rfl hK hP hD hS (n := n) (N' := n.toNatClampNeg) hn rfl (by omega) (Nat.le_of_ble_eq_true rfl) (by show 0 + 50 + n.toNatClampNeg + _ ≤ 150; omega) dX9_init_32 ?_
  intro q3 H hP hD hS
  have hP : va_P D vwCl [(o, .inr (9, [.ref q1, .ref (G nmi), .int 0, .ref q2, .int 0, .null, .int (-1)])), (a, .inl (cA 0, 50, .inl arr)), (q1, .inl (cA 0, n.toNatClampNeg, .inl (cpyOf arr n))), (q2, .inl (cA 0, n.toNatClampNeg, .inl (fun _ => 0))), (q3, .inl (cA 0, n.toNatClampNeg, .inl (fun _ => 0)))] H := hP
  have hD : va_D A [(o, .inr (9, [.ref q1, .ref (G nmi), .int 0, .ref q2, .int 0, .null, .int (-1)])), (a, .inl (cA 0, 50, .inl arr)), (q1, .inl (cA 0, n.toNatClampNeg, .inl (cpyOf arr n))), (q2, .inl (cA 0, n.toNatClampNeg, .inl (fun _ => 0))), (q3, .inl (cA 0, n.toNatClampNeg, .inl (fun _ => 0)))] := hD
  refine va_putF (D := D) (ci := 9) (v := .ref q3) (ty := .array .int) (C := RX9) (T := TX9) (N := 7) hx hb hts in_9 tyX9 tyX9_ok nmX9 hown hK hP hD hS 0 rfl rfl 5 (by decide) w_8 (fun _ h9 => h9) rfl hinit rfl (by decide +kernel) rfl rfl (Nat.le_of_ble_eq_true rfl) dX9_init_34 (fun H locs hP hD hS => ?_)
  have hP : va_P D vwCl [(o, .inr (9, [.ref q1, .ref (G nmi), .int 0, .ref q2, .int 0, .ref q3, .int (-1)])), (a, .inl (cA 0, 50, .inl arr)), (q1, .inl (cA 0, n.toNatClampNeg, .inl (cpyOf arr n))), (q2, .inl (cA 0, n.toNatClampNeg, .inl (fun _ => 0))), (q3, .inl (cA 0, n.toNatClampNeg, .inl (fun _ => 0)))] H := hP
  have hD : va_D A [(o, .inr (9, [.ref q1, .ref (G nmi), .int 0, .ref q2, .int 0, .ref q3, .int (-1)])), (a, .inl (cA 0, 50, .inl arr)), (q1, .inl (cA 0, n.toNatClampNeg, .inl (cpyOf arr n))), (q2, .inl (cA 0, n.toNatClampNeg, .inl (fun _ => 0))), (q3, .inl (cA 0, n.toNatClampNeg, .inl (fun _ => 0)))] := hD
  refine lv_aload_n hx hb dX9_init_37 rfl (lv_at hv 0 rfl) ?_
  refine lv_iconst (v := (0 : Int32)) hx hb dX9_init_38 (by decide) ?_
  unfold fX9_init at h
  obtain ⟨⟨tat, tlen, tfault, codes⟩, hf, h⟩ := bd_ex h
  have sb : Sb D A H (wT cA G o q1 q2 q3 nmi n.toNatClampNeg (cpyOf arr n) (fun _ => 0) 0 0 (-1) (fun _ => 0)) := Sb.pl (ws := [(o, .inr (9, [.ref q1, .ref (G nmi), .int 0, .ref q2, .int 0, .ref q3, .int (-1)])), (a, .inl (cA 0, 50, .inl arr)), (q1, .inl (cA 0, n.toNatClampNeg, .inl (cpyOf arr n))), (q2, .inl (cA 0, n.toNatClampNeg, .inl (fun _ => 0))), (q3, .inl (cA 0, n.toNatClampNeg, .inl (fun _ => 0)))]) [0, 2, 3, 4] (by decide) rfl hP hD hS hA
  refine calV (va_runV (As := [.int 0]) (rest := []) ⟨hx, hb, hml, hown, hts⟩ (c_X9_readAll l G D cA o q1 q2 q3 nmi n.toNatClampNeg (cpyOf arr n) (fun _ => 0) _ 0 0 (-1) (fun _ => 0) (fX9_readOne nmi n.toNatClampNeg (cpyOf arr n) 8) 80 1848 (fun sz tat tlen tfault codes x a1 a2 a3 a4 h => c_X9_readOne_n 8 l G D cA o q1 q2 q3 nmi n.toNatClampNeg (cpyOf arr n) (fun _ => 0) sz tat tlen tfault codes x a1 a2 a3 a4 h) 0 tat tlen tfault codes hf) (cwV 1 hts gX9_init_X9_readAll rfl rfl rfl (by decide +kernel) ⟨(Nat.le_of_ble_eq_true rfl), (Nat.le_of_ble_eq_true rfl)⟩) (pvV hE hK hS sb (va_recv hK hP (ci := 9) (q0 := 0) rfl rfl)) rfl rfl hv.1 rfl (lv_room (Nat.le_of_ble_eq_true rfl)) dX9_init_39 ⟨(Nat.le_of_ble_eq_true rfl), by show 0 + 50 + n.toNatClampNeg + n.toNatClampNeg + 0 ≤ 150; omega⟩) hS sb (Jn.pl (ws := [(o, .inr (9, [.ref q1, .ref (G nmi), .int 0, .ref q2, .int 0, .ref q3, .int (-1)])), (a, .inl (cA 0, 50, .inl arr)), (q1, .inl (cA 0, n.toNatClampNeg, .inl (cpyOf arr n))), (q2, .inl (cA 0, n.toNatClampNeg, .inl (fun _ => 0))), (q3, .inl (cA 0, n.toNatClampNeg, .inl (fun _ => 0)))]) (w1 := (wT cA G o q1 q2 q3 nmi n.toNatClampNeg (cpyOf arr n) (fun _ => 0) tat tlen tfault codes)) (ws' := [(o, .inr (9, [.ref q1, .ref (G nmi), .int tat, .ref q2, .int tlen, .ref q3, .int tfault])), (a, .inl (cA 0, 50, .inl arr)), (q1, .inl (cA 0, n.toNatClampNeg, .inl (cpyOf arr n))), (q2, .inl (cA 0, n.toNatClampNeg, .inl codes)), (q3, .inl (cA 0, n.toNatClampNeg, .inl (fun _ => 0)))]) [0, 2, 3, 4] rfl rfl rfl rfl hP hD) (fun H locs hP hD hS => ?_)
  refine lv_aload_n hx hb dX9_init_42 rfl (lv_at hv 0 rfl) ?_
  refine va_get (D := D) (ci := 9) (v := .int tfault) (C := RX9) (T := TX9) (N := 7) hx hb hts in_9 hown hK hP 0 rfl rfl 6 (by decide) w_3 (fun _ h9 => h9) rfl dX9_init_43 ?_
  refine lv_if_ge (tgt := 65) hx hb dX9_init_46 (by decide) (fun c_1 => ?_) (fun c_1 => ?_)
  · have h := ite_t c_1 h
    have h := Option.some.inj h
    have ee_tatR : tat = tatR := congrArg (fun q => q.1) h
    have ee_tlenR : tlen = tlenR := congrArg (fun q => q.2.1) h
    have ee_tfaultR : tfault = tfaultR := congrArg (fun q => q.2.2.1) h
    have ee_codesR : codes = codesR := congrArg (fun q => q.2.2.2) h
    subst ee_tatR
    subst ee_tlenR
    subst ee_tfaultR
    subst ee_codesR
    rw [← hQ]
    exact retX (w1 := [(o, .inr (9, [.ref q1, .ref (G nmi), .int tat, .ref q2, .int tlen, .ref q3, .int tfault])), (a, .inl (cA 0, 50, .inl arr)), (q1, .inl (cA 0, n.toNatClampNeg, .inl (cpyOf arr n))), (q2, .inl (cA 0, n.toNatClampNeg, .inl codes)), (q3, .inl (cA 0, n.toNatClampNeg, .inl (fun _ => 0)))]) ⟨q1, q2, q3, rfl⟩ hx hb hr hlk hK hP hD hS dX9_init_65 ⟨(Nat.le_of_ble_eq_true rfl), by show 0 + 50 + n.toNatClampNeg + n.toNatClampNeg ≤ 150; omega⟩
  · have h := ite_f c_1 h
    refine lv_aload_n hx hb dX9_init_49 rfl (lv_at hv 0 rfl) ?_
    refine va_get (D := D) (ci := 9) (v := .int tat) (C := RX9) (T := TX9) (N := 7) hx hb hts in_9 hown hK hP 0 rfl rfl 2 (by decide) w_9 (fun _ h9 => h9) rfl dX9_init_50 ?_
    refine lv_iload_n hx hb dX9_init_53 rfl (lv_at hv 2 rfl) ?_
    refine lv_icmp_ge (tgt := 65) hx hb dX9_init_54 (by decide) (fun c_2 => ?_) (fun c_2 => ?_)
    · have h := ite_t c_2 h
      have h := Option.some.inj h
      have ee_tatR : tat = tatR := congrArg (fun q => q.1) h
      have ee_tlenR : tlen = tlenR := congrArg (fun q => q.2.1) h
      have ee_tfaultR : tfault = tfaultR := congrArg (fun q => q.2.2.1) h
      have ee_codesR : codes = codesR := congrArg (fun q => q.2.2.2) h
      subst ee_tatR
      subst ee_tlenR
      subst ee_tfaultR
      subst ee_codesR
      rw [← hQ]
      exact retX (w1 := [(o, .inr (9, [.ref q1, .ref (G nmi), .int tat, .ref q2, .int tlen, .ref q3, .int tfault])), (a, .inl (cA 0, 50, .inl arr)), (q1, .inl (cA 0, n.toNatClampNeg, .inl (cpyOf arr n))), (q2, .inl (cA 0, n.toNatClampNeg, .inl codes)), (q3, .inl (cA 0, n.toNatClampNeg, .inl (fun _ => 0)))]) ⟨q1, q2, q3, rfl⟩ hx hb hr hlk hK hP hD hS dX9_init_65 ⟨(Nat.le_of_ble_eq_true rfl), by show 0 + 50 + n.toNatClampNeg + n.toNatClampNeg ≤ 150; omega⟩
    · have h := ite_f c_2 h
      refine lv_aload_n hx hb dX9_init_57 rfl (lv_at hv 0 rfl) ?_
      refine lv_aload_n hx hb dX9_init_58 rfl (lv_at hv 0 rfl) ?_
      refine va_get (D := D) (ci := 9) (v := .int tat) (C := RX9) (T := TX9) (N := 7) hx hb hts in_9 hown hK hP 0 rfl rfl 2 (by decide) w_9 (fun _ h9 => h9) rfl dX9_init_59 ?_
      refine va_put (D := D) (ci := 9) (v := .int tat) (ty := .int) (C := RX9) (T := TX9) (N := 7) hx hb hts in_9 tyX9 tyX9_ok nmX9 hown hK hP hD hS 0 rfl rfl 6 (by decide) w_3 (fun _ h9 => h9) rfl (by decide +kernel) rfl rfl (Nat.le_of_ble_eq_true rfl) dX9_init_62 (fun H locs hP hD hS => ?_)
      have hP : va_P D vwCl [(o, .inr (9, [.ref q1, .ref (G nmi), .int tat, .ref q2, .int tlen, .ref q3, .int tat])), (a, .inl (cA 0, 50, .inl arr)), (q1, .inl (cA 0, n.toNatClampNeg, .inl (cpyOf arr n))), (q2, .inl (cA 0, n.toNatClampNeg, .inl codes)), (q3, .inl (cA 0, n.toNatClampNeg, .inl (fun _ => 0)))] H := hP
      have hD : va_D A [(o, .inr (9, [.ref q1, .ref (G nmi), .int tat, .ref q2, .int tlen, .ref q3, .int tat])), (a, .inl (cA 0, 50, .inl arr)), (q1, .inl (cA 0, n.toNatClampNeg, .inl (cpyOf arr n))), (q2, .inl (cA 0, n.toNatClampNeg, .inl codes)), (q3, .inl (cA 0, n.toNatClampNeg, .inl (fun _ => 0)))] := hD
      have h := Option.some.inj h
      have ee_tatR : tat = tatR := congrArg (fun q => q.1) h
      have ee_tlenR : tlen = tlenR := congrArg (fun q => q.2.1) h
      have ee_tfaultR : tat = tfaultR := congrArg (fun q => q.2.2.1) h
      have ee_codesR : codes = codesR := congrArg (fun q => q.2.2.2) h
      subst ee_tatR
      subst ee_tlenR
      subst ee_tfaultR
      subst ee_codesR
      rw [← hQ]
      exact retX (w1 := [(o, .inr (9, [.ref q1, .ref (G nmi), .int tat, .ref q2, .int tlen, .ref q3, .int tat])), (a, .inl (cA 0, 50, .inl arr)), (q1, .inl (cA 0, n.toNatClampNeg, .inl (cpyOf arr n))), (q2, .inl (cA 0, n.toNatClampNeg, .inl codes)), (q3, .inl (cA 0, n.toNatClampNeg, .inl (fun _ => 0)))]) ⟨q1, q2, q3, rfl⟩ hx hb hr hlk hK hP hD hS dX9_init_65 ⟨(Nat.le_of_ble_eq_true rfl), by show 0 + 50 + n.toNatClampNeg + n.toNatClampNeg ≤ 150; omega⟩
