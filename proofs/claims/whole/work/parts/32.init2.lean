theorem c_X8_init (l : Launch) (G : Nat → Nat) (D : va_G) (cA : Nat → ClassId) (sz o : Nat) : Met l yX8_init wsX8_init ({ frames := 1, cells := 0, slots := 0, locals := 12 } : Room) (PW G D (tyC cA) sz (wE) [.ref o]) (QV D (tyC cA) (va_A (wE) sz) (wE)) 0 0 (va_A (wE) sz) := by
  refine ent (cc := cX8_init) (maxL := 1) (ret := none) (fun A => QV D (tyC cA) A (wE)) (by decide +kernel) rfl (Nat.le_of_ble_eq_true rfl) ?_
  intro p e s m args below meth c A ls H hx hb hml hr hlk hts hown hA hK hE hP hD hS hv hmm
  have hv : lv_has ls 1 [(0, .ref o)] := hv
  generalize hQ : MQ below _ args s 0 0 A = Q
  have hP : va_P D vwCl (wE) H := hP
  have hD : va_D A (wE) := hD
  refine lv_aload_n hx hb dX8_init_0 rfl (lv_at hv 0 rfl) ?_
  refine W.objInit hx hb hown (hts (.methodLink RX8 1 objectInit) (by decide +kernel)) (hts (.instanceMethod objectInit) (by decide +kernel)) (hts (.code objectInit ⟨#[0xb1]⟩ 1 none) (by decide +kernel)) rfl (hv.1.trans hml.symm) rfl dX8_init_1 (Nat.le_of_ble_eq_true rfl) (Nat.le_of_ble_eq_true rfl) ?_
  refine W.eq (g2 := F0 m 4 ls []) rfl ?_
  rw [← hQ]
  exact retV hx hb hr hlk hK hP hD hS dX8_init_4 ⟨Nat.le_of_ble_eq_true rfl, Nat.le_of_ble_eq_true rfl⟩
theorem c_X2_init (l : Launch) (G : Nat → Nat) (D : va_G) (cA : Nat → ClassId) (sz o : Nat) : Met l yX2_init wsX2_init ({ frames := 2, cells := 0, slots := 0, locals := 32 } : Room) (PW G D (tyC cA) sz (wE) [.ref o]) (QV D (tyC cA) (va_A (wE) sz) (wE)) 0 0 (va_A (wE) sz) := by
  refine ent (cc := cX2_init) (maxL := 1) (ret := none) (fun A => QV D (tyC cA) A (wE)) (by decide +kernel) rfl (Nat.le_of_ble_eq_true rfl) ?_
  intro p e s m args below meth c A ls H hx hb hml hr hlk hts hown hA hK hE hP hD hS hv hmm
  have hv : lv_has ls 1 [(0, .ref o)] := hv
  generalize hQ : MQ below _ args s 0 0 A = Q
  have hP : va_P D vwCl (wE) H := hP
  have hD : va_D A (wE) := hD
  refine lv_aload_n hx hb dX2_init_0 rfl (lv_at hv 0 rfl) ?_
  have sb := Sb.nil hP hD hS hA
  refine calV (va_runIN (As := []) (rest := []) ⟨hx, hb, hml, hown, hts⟩ (c_X8_init l G D cA _ o) ⟨va_cnB 0 hts gX2_init_X8_init_n1 rfl rfl rfl (hE.1.1 (.methodLinkNest RX2 1 yX8_init RX11) (by decide +kernel)) (hts (.initialized RX8) (by decide +kernel)) (by decide +kernel) ⟨Nat.le_of_ble_eq_true rfl, Nat.le_of_ble_eq_true rfl⟩, rfl, (hts (.instanceMethod yX8_init) (by decide +kernel))⟩ (pvS hE hK hS sb) rfl rfl hv.1 rfl (lv_room (Nat.le_of_ble_eq_true rfl)) dX2_init_1 ⟨Nat.le_of_ble_eq_true rfl, Nat.le_of_ble_eq_true rfl⟩) hS sb (Jn.nil hP hD) (fun H locs hP hD hS => ?_)
  rw [← hQ]
  exact retV hx hb hr hlk hK hP hD hS dX2_init_4 ⟨Nat.le_of_ble_eq_true rfl, Nat.le_of_ble_eq_true rfl⟩
theorem c_X0_init (l : Launch) (G : Nat → Nat) (D : va_G) (cA : Nat → ClassId) (sz o : Nat) : Met l yX0_init wsX0_init ({ frames := 2, cells := 0, slots := 0, locals := 32 } : Room) (PW G D (tyC cA) sz (wE) [.ref o]) (QV D (tyC cA) (va_A (wE) sz) (wE)) 0 0 (va_A (wE) sz) := by
  refine ent (cc := cX0_init) (maxL := 1) (ret := none) (fun A => QV D (tyC cA) A (wE)) (by decide +kernel) rfl (Nat.le_of_ble_eq_true rfl) ?_
  intro p e s m args below meth c A ls H hx hb hml hr hlk hts hown hA hK hE hP hD hS hv hmm
  have hv : lv_has ls 1 [(0, .ref o)] := hv
  generalize hQ : MQ below _ args s 0 0 A = Q
  have hP : va_P D vwCl (wE) H := hP
  have hD : va_D A (wE) := hD
  refine lv_aload_n hx hb dX0_init_0 rfl (lv_at hv 0 rfl) ?_
  have sb := Sb.nil hP hD hS hA
  refine calV (va_runIN (As := []) (rest := []) ⟨hx, hb, hml, hown, hts⟩ (c_X8_init l G D cA _ o) ⟨va_cnB 0 hts gX0_init_X8_init_n1 rfl rfl rfl (hE.1.1 (.methodLinkNest RX0 1 yX8_init RX11) (by decide +kernel)) (hts (.initialized RX8) (by decide +kernel)) (by decide +kernel) ⟨Nat.le_of_ble_eq_true rfl, Nat.le_of_ble_eq_true rfl⟩, rfl, (hts (.instanceMethod yX8_init) (by decide +kernel))⟩ (pvS hE hK hS sb) rfl rfl hv.1 rfl (lv_room (Nat.le_of_ble_eq_true rfl)) dX0_init_1 ⟨Nat.le_of_ble_eq_true rfl, Nat.le_of_ble_eq_true rfl⟩) hS sb (Jn.nil hP hD) (fun H locs hP hD hS => ?_)
  rw [← hQ]
  exact retV hx hb hr hlk hK hP hD hS dX0_init_4 ⟨Nat.le_of_ble_eq_true rfl, Nat.le_of_ble_eq_true rfl⟩
theorem c_X5_init (l : Launch) (G : Nat → Nat) (D : va_G) (cA : Nat → ClassId) (sz o : Nat) : Met l yX5_init wsX5_init ({ frames := 2, cells := 0, slots := 0, locals := 32 } : Room) (PW G D (tyC cA) sz (wE) [.ref o]) (QV D (tyC cA) (va_A (wE) sz) (wE)) 0 0 (va_A (wE) sz) := by
  refine ent (cc := cX5_init) (maxL := 1) (ret := none) (fun A => QV D (tyC cA) A (wE)) (by decide +kernel) rfl (Nat.le_of_ble_eq_true rfl) ?_
  intro p e s m args below meth c A ls H hx hb hml hr hlk hts hown hA hK hE hP hD hS hv hmm
  have hv : lv_has ls 1 [(0, .ref o)] := hv
  generalize hQ : MQ below _ args s 0 0 A = Q
  have hP : va_P D vwCl (wE) H := hP
  have hD : va_D A (wE) := hD
  refine lv_aload_n hx hb dX5_init_0 rfl (lv_at hv 0 rfl) ?_
  have sb := Sb.nil hP hD hS hA
  refine calV (va_runIN (As := []) (rest := []) ⟨hx, hb, hml, hown, hts⟩ (c_X8_init l G D cA _ o) ⟨va_cnB 0 hts gX5_init_X8_init_n1 rfl rfl rfl (hE.1.1 (.methodLinkNest RX5 1 yX8_init RX11) (by decide +kernel)) (hts (.initialized RX8) (by decide +kernel)) (by decide +kernel) ⟨Nat.le_of_ble_eq_true rfl, Nat.le_of_ble_eq_true rfl⟩, rfl, (hts (.instanceMethod yX8_init) (by decide +kernel))⟩ (pvS hE hK hS sb) rfl rfl hv.1 rfl (lv_room (Nat.le_of_ble_eq_true rfl)) dX5_init_1 ⟨Nat.le_of_ble_eq_true rfl, Nat.le_of_ble_eq_true rfl⟩) hS sb (Jn.nil hP hD) (fun H locs hP hD hS => ?_)
  rw [← hQ]
  exact retV hx hb hr hlk hK hP hD hS dX5_init_4 ⟨Nat.le_of_ble_eq_true rfl, Nat.le_of_ble_eq_true rfl⟩
theorem c_X6_init (l : Launch) (G : Nat → Nat) (D : va_G) (cA : Nat → ClassId) (sz o : Nat) : Met l yX6_init wsX6_init ({ frames := 3, cells := 0, slots := 0, locals := 52 } : Room) (PW G D (tyC cA) sz (wE) [.ref o]) (QV D (tyC cA) (va_A (wE) sz) (wE)) 0 0 (va_A (wE) sz) := by
  refine ent (cc := cX6_init) (maxL := 1) (ret := none) (fun A => QV D (tyC cA) A (wE)) (by decide +kernel) rfl (Nat.le_of_ble_eq_true rfl) ?_
  intro p e s m args below meth c A ls H hx hb hml hr hlk hts hown hA hK hE hP hD hS hv hmm
  have hv : lv_has ls 1 [(0, .ref o)] := hv
  generalize hQ : MQ below _ args s 0 0 A = Q
  have hP : va_P D vwCl (wE) H := hP
  have hD : va_D A (wE) := hD
  refine lv_aload_n hx hb dX6_init_0 rfl (lv_at hv 0 rfl) ?_
  have sb := Sb.nil hP hD hS hA
  refine calV (va_runIN (As := []) (rest := []) ⟨hx, hb, hml, hown, hts⟩ (c_X2_init l G D cA _ o) ⟨va_cnB 0 hts gX6_init_X2_init_n1 rfl rfl rfl (hE.1.1 (.methodLinkNest RX6 1 yX2_init RX11) (by decide +kernel)) (hts (.initialized RX2) (by decide +kernel)) (by decide +kernel) ⟨Nat.le_of_ble_eq_true rfl, Nat.le_of_ble_eq_true rfl⟩, rfl, (hts (.instanceMethod yX2_init) (by decide +kernel))⟩ (pvS hE hK hS sb) rfl rfl hv.1 rfl (lv_room (Nat.le_of_ble_eq_true rfl)) dX6_init_1 ⟨Nat.le_of_ble_eq_true rfl, Nat.le_of_ble_eq_true rfl⟩) hS sb (Jn.nil hP hD) (fun H locs hP hD hS => ?_)
  rw [← hQ]
  exact retV hx hb hr hlk hK hP hD hS dX6_init_4 ⟨Nat.le_of_ble_eq_true rfl, Nat.le_of_ble_eq_true rfl⟩
theorem c_X4_init (l : Launch) (G : Nat → Nat) (D : va_G) (cA : Nat → ClassId) (sz o : Nat) : Met l yX4_init wsX4_init ({ frames := 3, cells := 0, slots := 0, locals := 52 } : Room) (PW G D (tyC cA) sz (wE) [.ref o]) (QV D (tyC cA) (va_A (wE) sz) (wE)) 0 0 (va_A (wE) sz) := by
  refine ent (cc := cX4_init) (maxL := 1) (ret := none) (fun A => QV D (tyC cA) A (wE)) (by decide +kernel) rfl (Nat.le_of_ble_eq_true rfl) ?_
  intro p e s m args below meth c A ls H hx hb hml hr hlk hts hown hA hK hE hP hD hS hv hmm
  have hv : lv_has ls 1 [(0, .ref o)] := hv
  generalize hQ : MQ below _ args s 0 0 A = Q
  have hP : va_P D vwCl (wE) H := hP
  have hD : va_D A (wE) := hD
  refine lv_aload_n hx hb dX4_init_0 rfl (lv_at hv 0 rfl) ?_
  have sb := Sb.nil hP hD hS hA
  refine calV (va_runIN (As := []) (rest := []) ⟨hx, hb, hml, hown, hts⟩ (c_X0_init l G D cA _ o) ⟨va_cnB 0 hts gX4_init_X0_init_n1 rfl rfl rfl (hE.1.1 (.methodLinkNest RX4 1 yX0_init RX11) (by decide +kernel)) (hts (.initialized RX0) (by decide +kernel)) (by decide +kernel) ⟨Nat.le_of_ble_eq_true rfl, Nat.le_of_ble_eq_true rfl⟩, rfl, (hts (.instanceMethod yX0_init) (by decide +kernel))⟩ (pvS hE hK hS sb) rfl rfl hv.1 rfl (lv_room (Nat.le_of_ble_eq_true rfl)) dX4_init_1 ⟨Nat.le_of_ble_eq_true rfl, Nat.le_of_ble_eq_true rfl⟩) hS sb (Jn.nil hP hD) (fun H locs hP hD hS => ?_)
  rw [← hQ]
  exact retV hx hb hr hlk hK hP hD hS dX4_init_4 ⟨Nat.le_of_ble_eq_true rfl, Nat.le_of_ble_eq_true rfl⟩
theorem c_X1_init (l : Launch) (G : Nat → Nat) (D : va_G) (cA : Nat → ClassId) (sz o : Nat) : Met l yX1_init wsX1_init ({ frames := 3, cells := 0, slots := 0, locals := 52 } : Room) (PW G D (tyC cA) sz (wE) [.ref o]) (QV D (tyC cA) (va_A (wE) sz) (wE)) 0 0 (va_A (wE) sz) := by
  refine ent (cc := cX1_init) (maxL := 1) (ret := none) (fun A => QV D (tyC cA) A (wE)) (by decide +kernel) rfl (Nat.le_of_ble_eq_true rfl) ?_
  intro p e s m args below meth c A ls H hx hb hml hr hlk hts hown hA hK hE hP hD hS hv hmm
  have hv : lv_has ls 1 [(0, .ref o)] := hv
  generalize hQ : MQ below _ args s 0 0 A = Q
  have hP : va_P D vwCl (wE) H := hP
  have hD : va_D A (wE) := hD
  refine lv_aload_n hx hb dX1_init_0 rfl (lv_at hv 0 rfl) ?_
  have sb := Sb.nil hP hD hS hA
  refine calV (va_runIN (As := []) (rest := []) ⟨hx, hb, hml, hown, hts⟩ (c_X5_init l G D cA _ o) ⟨va_cnB 0 hts gX1_init_X5_init_n1 rfl rfl rfl (hE.1.1 (.methodLinkNest RX1 1 yX5_init RX11) (by decide +kernel)) (hts (.initialized RX5) (by decide +kernel)) (by decide +kernel) ⟨Nat.le_of_ble_eq_true rfl, Nat.le_of_ble_eq_true rfl⟩, rfl, (hts (.instanceMethod yX5_init) (by decide +kernel))⟩ (pvS hE hK hS sb) rfl rfl hv.1 rfl (lv_room (Nat.le_of_ble_eq_true rfl)) dX1_init_1 ⟨Nat.le_of_ble_eq_true rfl, Nat.le_of_ble_eq_true rfl⟩) hS sb (Jn.nil hP hD) (fun H locs hP hD hS => ?_)
  rw [← hQ]
  exact retV hx hb hr hlk hK hP hD hS dX1_init_4 ⟨Nat.le_of_ble_eq_true rfl, Nat.le_of_ble_eq_true rfl⟩
theorem c_X7_init (l : Launch) (G : Nat → Nat) (D : va_G) (cA : Nat → ClassId) (sz o : Nat) : Met l yX7_init wsX7_init ({ frames := 1, cells := 1, slots := 40, locals := 12 } : Room) (PW G D (tyC cA) sz [(o, .inr (7, [.int 0, .int 0, .null]))] [.ref o]) (QX D (tyC cA) (va_A [(o, .inr (7, [.int 0, .int 0, .null]))] sz) (fun w => ∃ nd : Nat, w = wS cA o nd 0 0 (fun _ => 0))) 1 40 (va_A [(o, .inr (7, [.int 0, .int 0, .null]))] sz) := by
  refine ent (cc := cX7_init) (maxL := 1) (ret := none) (fun A => QX D (tyC cA) A (fun w => ∃ nd : Nat, w = wS cA o nd 0 0 (fun _ => 0))) (by decide +kernel) rfl (Nat.le_of_ble_eq_true rfl) ?_
  intro p e s m args below meth c A ls H hx hb hml hr hlk hts hown hA hK hE hP hD hS hv hmm
  have hv : lv_has ls 1 [(0, .ref o)] := hv
  have hinit : meth.name = "<init>" := (name_of_methodNamed hmm.1 hmm.2).1
  have in_7 : ∀ w ∈ u_ws RX7 TX7 3, w ∈ wsX7_init := fun _ h => List.mem_cons_of_mem _ (List.mem_append_right _ h)
  generalize hQ : MQ below _ args s 1 40 A = Q
  have hP : va_P D vwCl [(o, .inr (7, [.int 0, .int 0, .null]))] H := hP
  have hD : va_D A [(o, .inr (7, [.int 0, .int 0, .null]))] := hD
  refine lv_aload_n hx hb dX7_init_0 rfl (lv_at hv 0 rfl) ?_
  refine W.objInit hx hb hown (hts (.methodLink RX7 3 objectInit) (by decide +kernel)) (hts (.instanceMethod objectInit) (by decide +kernel)) (hts (.code objectInit ⟨#[0xb1]⟩ 1 none) (by decide +kernel)) rfl (hv.1.trans hml.symm) rfl dX7_init_1 (Nat.le_of_ble_eq_true rfl) (Nat.le_of_ble_eq_true rfl) ?_
  refine W.eq (g2 := F0 m 4 ls []) rfl ?_
  refine lv_aload_n hx hb dX7_init_4 rfl (lv_at hv 0 rfl) ?_
  refine lv_bipush (v := (40 : Int32)) hx hb dX7_init_5 (by decide) ?_
  refine nwI hx hb hA (hts (.arrayClass .int) (by decide +kernel)) rfl hK hP hD hS (n := (40 : Int32)) (N' := 40) (by decide) (by decide) (Nat.le_of_ble_eq_true rfl) (Nat.le_of_ble_eq_true rfl) (Nat.le_of_ble_eq_true rfl) dX7_init_7 ?_
  intro q1 H hP hD hS
  have hP : va_P D vwCl [(o, .inr (7, [.int 0, .int 0, .null])), (q1, .inl (cA 0, 40, .inl (fun _ => 0)))] H := hP
  have hD : va_D A [(o, .inr (7, [.int 0, .int 0, .null])), (q1, .inl (cA 0, 40, .inl (fun _ => 0)))] := hD
  refine va_putF (D := D) (ci := 7) (v := .ref q1) (ty := .array .int) (C := RX7) (T := TX7) (N := 3) hx hb hts in_7 tyX7 tyX7_ok nmX7 hown hK hP hD hS 0 rfl rfl 2 (by decide) (hts (.fieldLink RX7 9 "SpoonsLast$Sheet" "numbers" "[I") (by decide +kernel)) (fun _ h9 => h9) rfl hinit rfl (by decide +kernel) rfl rfl (Nat.le_of_ble_eq_true rfl) dX7_init_9 (fun H locs hP hD hS => ?_)
  rw [← hQ]
  exact retX (w1 := wS cA o q1 0 0 (fun _ => 0)) ⟨q1, rfl⟩ hx hb hr hlk hK hP hD hS dX7_init_12 ⟨Nat.le_of_ble_eq_true rfl, Nat.le_of_ble_eq_true rfl⟩
theorem c_X10_init (l : Launch) (G : Nat → Nat) (D : va_G) (cA : Nat → ClassId) (sz o : Nat) : Met l yX10_init wsX10_init ({ frames := 1, cells := 1, slots := 40, locals := 12 } : Room) (PW G D (tyC cA) sz [(o, .inr (10, [.int 0, .int 0, .int 0, .null]))] [.ref o]) (QX D (tyC cA) (va_A [(o, .inr (10, [.int 0, .int 0, .int 0, .null]))] sz) (fun w => ∃ vd : Nat → Nat, vd 0 = o ∧ w = wV cA vd 0 0 0 (fun _ => 0))) 1 40 (va_A [(o, .inr (10, [.int 0, .int 0, .int 0, .null]))] sz) := by
  refine ent (cc := cX10_init) (maxL := 1) (ret := none) (fun A => QX D (tyC cA) A (fun w => ∃ vd : Nat → Nat, vd 0 = o ∧ w = wV cA vd 0 0 0 (fun _ => 0))) (by decide +kernel) rfl (Nat.le_of_ble_eq_true rfl) ?_
  intro p e s m args below meth c A ls H hx hb hml hr hlk hts hown hA hK hE hP hD hS hv hmm
  have hv : lv_has ls 1 [(0, .ref o)] := hv
  have hinit : meth.name = "<init>" := (name_of_methodNamed hmm.1 hmm.2).1
  have in_10 : ∀ w ∈ u_ws RX10 TX10 4, w ∈ wsX10_init := fun _ h => List.mem_cons_of_mem _ (List.mem_append_right _ h)
  generalize hQ : MQ below _ args s 1 40 A = Q
  have hP : va_P D vwCl [(o, .inr (10, [.int 0, .int 0, .int 0, .null]))] H := hP
  have hD : va_D A [(o, .inr (10, [.int 0, .int 0, .int 0, .null]))] := hD
  refine lv_aload_n hx hb dX10_init_0 rfl (lv_at hv 0 rfl) ?_
  refine W.objInit hx hb hown (hts (.methodLink RX10 3 objectInit) (by decide +kernel)) (hts (.instanceMethod objectInit) (by decide +kernel)) (hts (.code objectInit ⟨#[0xb1]⟩ 1 none) (by decide +kernel)) rfl (hv.1.trans hml.symm) rfl dX10_init_1 (Nat.le_of_ble_eq_true rfl) (Nat.le_of_ble_eq_true rfl) ?_
  refine W.eq (g2 := F0 m 4 ls []) rfl ?_
  refine lv_aload_n hx hb dX10_init_4 rfl (lv_at hv 0 rfl) ?_
  refine lv_bipush (v := (40 : Int32)) hx hb dX10_init_5 (by decide) ?_
  refine nwI hx hb hA (hts (.arrayClass .int) (by decide +kernel)) rfl hK hP hD hS (n := (40 : Int32)) (N' := 40) (by decide) (by decide) (Nat.le_of_ble_eq_true rfl) (Nat.le_of_ble_eq_true rfl) (Nat.le_of_ble_eq_true rfl) dX10_init_7 ?_
  intro q1 H hP hD hS
  have hP : va_P D vwCl [(o, .inr (10, [.int 0, .int 0, .int 0, .null])), (q1, .inl (cA 0, 40, .inl (fun _ => 0)))] H := hP
  have hD : va_D A [(o, .inr (10, [.int 0, .int 0, .int 0, .null])), (q1, .inl (cA 0, 40, .inl (fun _ => 0)))] := hD
  refine va_putF (D := D) (ci := 10) (v := .ref q1) (ty := .array .int) (C := RX10) (T := TX10) (N := 4) hx hb hts in_10 tyX10 tyX10_ok nmX10 hown hK hP hD hS 0 rfl rfl 3 (by decide) (hts (.fieldLink RX10 9 "SpoonsLast$Voice" "bodies" "[I") (by decide +kernel)) (fun _ h9 => h9) rfl hinit rfl (by decide +kernel) rfl rfl (Nat.le_of_ble_eq_true rfl) dX10_init_9 (fun H locs hP hD hS => ?_)
  rw [← hQ]
  exact retX (w1 := wV cA (fun k => [o, q1].getD k 0) 0 0 0 (fun _ => 0)) ⟨fun k => [o, q1].getD k 0, rfl, rfl⟩ hx hb hr hlk hK hP hD hS dX10_init_12 ⟨Nat.le_of_ble_eq_true rfl, Nat.le_of_ble_eq_true rfl⟩
