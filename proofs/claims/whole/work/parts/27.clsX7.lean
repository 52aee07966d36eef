def fX11_refused (k : Int32) (errors : Nat → Int32) : Option (Int32 × (Nat → Int32)) :=
  ckI ((-1000000000 : Int32) - k) 6 (bnd ((errors (((-1000000000 : Int32) - k)).toNatClampNeg) + (1 : Int32)) fun y_2 => ckI ((-1000000000 : Int32) - k) 6 (bnd (upd errors (((-1000000000 : Int32) - k)).toNatClampNeg y_2) fun errors_4 => some (k, errors_4)))
set_option maxHeartbeats 4000000 in
set_option maxRecDepth 100000 in
theorem c_X11_refused (l : Launch) (G : Nat → Nat) (D : va_G) (cA : Nat → ClassId) (xd : Nat → Nat) (vd : Nat → Nat) (sd : Nat → Nat) (nd : Nat → Nat) (hd : Nat → Nat) (td : Nat → Nat) (ed : Nat → Nat) (kd : Nat → Nat) (sz : Nat) (images : Int32) (errors : Nat → Int32) (fewest : Nat → Int32) (vspoon : Int32) (vmark : Int32) (vcount : Int32) (vbodies : Nat → Int32) (sbits : Nat → Int32) (slens : Nat → Int32) (snum : Nat → Nat → Int32) (h_weight : Nat → Int32) (h_known : Int32) (h_hour : Int32) (h_swS : Nat → Int32) (h_swW : Nat → Int32) (h_waS : Nat → Int32) (h_spoons : Int32) (h_kind : Nat → Int32) (h_mark : Nat → Int32) (h_silver : Nat → Int32) (h_fresh : Nat → Int64) (h_texts : Nat → Option Nat) (h_tape : Nat → Int32) (h_tapeCount : Int32) (h_z : Int32) (h_waiting : Nat → Int32) (h_waitingCount : Int32) (t_weight : Nat → Int32) (t_known : Int32) (t_hour : Int32) (t_swS : Nat → Int32) (t_swW : Nat → Int32) (t_waS : Nat → Int32) (t_spoons : Int32) (t_kind : Nat → Int32) (t_mark : Nat → Int32) (t_silver : Nat → Int32) (t_fresh : Nat → Int64) (t_texts : Nat → Option Nat) (t_tape : Nat → Int32) (t_tapeCount : Int32) (t_z : Int32) (t_waiting : Nat → Int32) (t_waitingCount : Int32) (e_weight : Nat → Int32) (e_known : Int32) (e_hour : Int32) (e_swS : Nat → Int32) (e_swW : Nat → Int32) (e_waS : Nat → Int32) (e_spoons : Int32) (e_kind : Nat → Int32) (e_mark : Nat → Int32) (e_silver : Nat → Int32) (e_fresh : Nat → Int64) (e_texts : Nat → Option Nat) (e_tape : Nat → Int32) (e_tapeCount : Int32) (e_z : Int32) (e_waiting : Nat → Int32) (e_waitingCount : Int32) (L : List Nat) (tx : Nat → TXc) (tst : Nat → Nat → Int32) (k : Int32) (rR : Int32) (errorsR : Nat → Int32) (h : fX11_refused k errors = some (rR, errorsR)) : Met l yX11_refused wsX11_refused ({ frames := 0, cells := 0, slots := 0, locals := 0 } : Room) (PW G D (tyC cA) sz (wX cA xd vd sd nd hd td ed kd images errors fewest vspoon vmark vcount vbodies sbits slens snum h_weight h_known h_hour h_swS h_swW h_waS h_spoons h_kind h_mark h_silver h_fresh h_texts h_tape h_tapeCount h_z h_waiting h_waitingCount t_weight t_known t_hour t_swS t_swW t_waS t_spoons t_kind t_mark t_silver t_fresh t_texts t_tape t_tapeCount t_z t_waiting t_waitingCount e_weight e_known e_hour e_swS e_swW e_waS e_spoons e_kind e_mark e_silver e_fresh e_texts e_tape e_tapeCount e_z e_waiting e_waitingCount L tx tst) [.ref (xd 0), .int k]) (QI D (tyC cA) (va_A (wX cA xd vd sd nd hd td ed kd images errors fewest vspoon vmark vcount vbodies sbits slens snum h_weight h_known h_hour h_swS h_swW h_waS h_spoons h_kind h_mark h_silver h_fresh h_texts h_tape h_tapeCount h_z h_waiting h_waitingCount t_weight t_known t_hour t_swS t_swW t_waS t_spoons t_kind t_mark t_silver t_fresh t_texts t_tape t_tapeCount t_z t_waiting t_waitingCount e_weight e_known e_hour e_swS e_swW e_waS e_spoons e_kind e_mark e_silver e_fresh e_texts e_tape e_tapeCount e_z e_waiting e_waitingCount L tx tst) sz) rR (wX cA xd vd sd nd hd td ed kd images errorsR fewest vspoon vmark vcount vbodies sbits slens snum h_weight h_known h_hour h_swS h_swW h_waS h_spoons h_kind h_mark h_silver h_fresh h_texts h_tape h_tapeCount h_z h_waiting h_waitingCount t_weight t_known t_hour t_swS t_swW t_waS t_spoons t_kind t_mark t_silver t_fresh t_texts t_tape t_tapeCount t_z t_waiting t_waitingCount e_weight e_known e_hour e_swS e_swW e_waS e_spoons e_kind e_mark e_silver e_fresh e_texts e_tape e_tapeCount e_z e_waiting e_waitingCount L tx tst)) 0 0 (va_A (wX cA xd vd sd nd hd td ed kd images errors fewest vspoon vmark vcount vbodies sbits slens snum h_weight h_known h_hour h_swS h_swW h_waS h_spoons h_kind h_mark h_silver h_fresh h_texts h_tape h_tapeCount h_z h_waiting h_waitingCount t_weight t_known t_hour t_swS t_swW t_waS t_spoons t_kind t_mark t_silver t_fresh t_texts t_tape t_tapeCount t_z t_waiting t_waitingCount e_weight e_known e_hour e_swS e_swW e_waS e_spoons e_kind e_mark e_silver e_fresh e_texts e_tape e_tapeCount e_z e_waiting e_waitingCount L tx tst) sz) := by
  refine ent (cc := cX11_refused) (maxL := 2) (ret := (some .int)) (fun A => QI D (tyC cA) A rR (wX cA xd vd sd nd hd td ed kd images errorsR fewest vspoon vmark vcount vbodies sbits slens snum h_weight h_known h_hour h_swS h_swW h_waS h_spoons h_kind h_mark h_silver h_fresh h_texts h_tape h_tapeCount h_z h_waiting h_waitingCount t_weight t_known t_hour t_swS t_swW t_waS t_spoons t_kind t_mark t_silver t_fresh t_texts t_tape t_tapeCount t_z t_waiting t_waitingCount e_weight e_known e_hour e_swS e_swW e_waS e_spoons e_kind e_mark e_silver e_fresh e_texts e_tape e_tapeCount e_z e_waiting e_waitingCount L tx tst)) (by decide +kernel) rfl (Nat.le_of_ble_eq_true rfl) ?_
  intro p e s m args below meth c A ls H hx hb hml hr hlk hts hown hA hK hE hP hD hS hv hmm
  have hv : lv_has ls 2 [(0, .ref (xd 0)), (1, .int k)] := hv
  have in_11 : ∀ w ∈ u_ws RX11 TX11 9, w ∈ wsX11_refused := fun _ h => List.mem_cons_of_mem _ (List.mem_append_right _ h)
  have w_0 := hts (.fieldLink RX11 63 "SpoonsLast" "errors" "[I") (List.mem_of_getElem? (i := 1) rfl)
  have w_1 := hts (.constant RX11 303 (-1000000000)) (List.mem_of_getElem? (i := 2) rfl)
  generalize hQ : MQ below _ args s 0 0 A = Q
  have hP : va_P D vwCl (wX cA xd vd sd nd hd td ed kd images errors fewest vspoon vmark vcount vbodies sbits slens snum h_weight h_known h_hour h_swS h_swW h_waS h_spoons h_kind h_mark h_silver h_fresh h_texts h_tape h_tapeCount h_z h_waiting h_waitingCount t_weight t_known t_hour t_swS t_swW t_waS t_spoons t_kind t_mark t_silver t_fresh t_texts t_tape t_tapeCount t_z t_waiting t_waitingCount e_weight e_known e_hour e_swS e_swW e_waS e_spoons e_kind e_mark e_silver e_fresh e_texts e_tape e_tapeCount e_z e_waiting e_waitingCount L tx tst) H := hP
  unfold fX11_refused at h
  refine lv_aload_n hx hb dX11_refused_0 rfl (lv_at hv 0 rfl) ?_
  refine va_get (D := D) (ci := 11) (v := .ref (xd 2)) (C := RX11) (T := TX11) (N := 9) hx hb hts in_11 hown hK hP 0 rfl rfl 7 (by decide) w_0 (fun _ h9 => h9) rfl dX11_refused_1 ?_
  refine lv_ldcw (v := (-1000000000 : Int32)) hx hb hown w_1 dX11_refused_4 ?_
  refine lv_iload_n hx hb dX11_refused_7 rfl (lv_at hv 1 rfl) ?_
  refine lv_isub hx hb dX11_refused_8 ?_
  refine lv_dup2_11 hx hb dX11_refused_9 rfl rfl ?_
  obtain ⟨c_1, h⟩ := ckI_ex h
  refine va_iald (D := D) hx hb hK hP 2 0 rfl rfl c_1 dX11_refused_10 ?_
  refine lv_iconst (v := (1 : Int32)) hx hb dX11_refused_11 (by decide) ?_
  refine lv_iadd hx hb dX11_refused_12 ?_
  obtain ⟨y_2, ey_2, h⟩ := bnd_ex h
  refine lv_nm ey_2 ?_
  obtain ⟨c_3, h⟩ := ckI_ex h
  obtain ⟨errors_4, eerrors_4, h⟩ := bnd_ex h
  refine va_iast (D := D) hx hb hK hP hD hS 2 0 rfl rfl c_3 dX11_refused_13 (fun H locs hP hD hS => ?_)
  rw [← eerrors_4] at hP hD
  have hP : va_P D vwCl (wX cA xd vd sd nd hd td ed kd images errors_4 fewest vspoon vmark vcount vbodies sbits slens snum h_weight h_known h_hour h_swS h_swW h_waS h_spoons h_kind h_mark h_silver h_fresh h_texts h_tape h_tapeCount h_z h_waiting h_waitingCount t_weight t_known t_hour t_swS t_swW t_waS t_spoons t_kind t_mark t_silver t_fresh t_texts t_tape t_tapeCount t_z t_waiting t_waitingCount e_weight e_known e_hour e_swS e_swW e_waS e_spoons e_kind e_mark e_silver e_fresh e_texts e_tape e_tapeCount e_z e_waiting e_waitingCount L tx tst) H := hP
  have hD : va_D A (wX cA xd vd sd nd hd td ed kd images errors_4 fewest vspoon vmark vcount vbodies sbits slens snum h_weight h_known h_hour h_swS h_swW h_waS h_spoons h_kind h_mark h_silver h_fresh h_texts h_tape h_tapeCount h_z h_waiting h_waitingCount t_weight t_known t_hour t_swS t_swW t_waS t_spoons t_kind t_mark t_silver t_fresh t_texts t_tape t_tapeCount t_z t_waiting t_waitingCount e_weight e_known e_hour e_swS e_swW e_waS e_spoons e_kind e_mark e_silver e_fresh e_texts e_tape e_tapeCount e_z e_waiting e_waitingCount L tx tst) := hD
  refine lv_iload_n hx hb dX11_refused_14 rfl (lv_at hv 1 rfl) ?_
  have h := Option.some.inj h
  have ee0 : k = rR := congrArg (fun q => q.1) h
  have ee1 : errors_4 = errorsR := congrArg (fun q => q.2) h
  subst ee0
  subst ee1
  rw [← hQ]
  exact retI hx hb hr hlk hK hP hD hS dX11_refused_15 ⟨Nat.le_of_ble_eq_true rfl, Nat.le_of_ble_eq_true rfl⟩

def fX11_isSpoon (a : Int32) (h_spoons : Int32) : Option (Int32) :=
  bd (fX11_within a (0 : Int32) (h_spoons - (1 : Int32))) fun r_1 => ck (isZ r_1 = true) (some r_1)
set_option maxHeartbeats 4000000 in
set_option maxRecDepth 100000 in
theorem c_X11_isSpoon (l : Launch) (G : Nat → Nat) (D : va_G) (cA : Nat → ClassId) (xd : Nat → Nat) (vd : Nat → Nat) (sd : Nat → Nat) (nd : Nat → Nat) (hd : Nat → Nat) (td : Nat → Nat) (ed : Nat → Nat) (kd : Nat → Nat) (sz : Nat) (images : Int32) (errors : Nat → Int32) (fewest : Nat → Int32) (vspoon : Int32) (vmark : Int32) (vcount : Int32) (vbodies : Nat → Int32) (sbits : Nat → Int32) (slens : Nat → Int32) (snum : Nat → Nat → Int32) (h_weight : Nat → Int32) (h_known : Int32) (h_hour : Int32) (h_swS : Nat → Int32) (h_swW : Nat → Int32) (h_waS : Nat → Int32) (h_spoons : Int32) (h_kind : Nat → Int32) (h_mark : Nat → Int32) (h_silver : Nat → Int32) (h_fresh : Nat → Int64) (h_texts : Nat → Option Nat) (h_tape : Nat → Int32) (h_tapeCount : Int32) (h_z : Int32) (h_waiting : Nat → Int32) (h_waitingCount : Int32) (t_weight : Nat → Int32) (t_known : Int32) (t_hour : Int32) (t_swS : Nat → Int32) (t_swW : Nat → Int32) (t_waS : Nat → Int32) (t_spoons : Int32) (t_kind : Nat → Int32) (t_mark : Nat → Int32) (t_silver : Nat → Int32) (t_fresh : Nat → Int64) (t_texts : Nat → Option Nat) (t_tape : Nat → Int32) (t_tapeCount : Int32) (t_z : Int32) (t_waiting : Nat → Int32) (t_waitingCount : Int32) (e_weight : Nat → Int32) (e_known : Int32) (e_hour : Int32) (e_swS : Nat → Int32) (e_swW : Nat → Int32) (e_waS : Nat → Int32) (e_spoons : Int32) (e_kind : Nat → Int32) (e_mark : Nat → Int32) (e_silver : Nat → Int32) (e_fresh : Nat → Int64) (e_texts : Nat → Option Nat) (e_tape : Nat → Int32) (e_tapeCount : Int32) (e_z : Int32) (e_waiting : Nat → Int32) (e_waitingCount : Int32) (L : List Nat) (tx : Nat → TXc) (tst : Nat → Nat → Int32) (a : Int32) (rR : Int32) (h : fX11_isSpoon a h_spoons = some rR) : Met l yX11_isSpoon wsX11_isSpoon ({ frames := 1, cells := 0, slots := 0, locals := 22 } : Room) (PW G D (tyC cA) sz (wX cA xd vd sd nd hd td ed kd images errors fewest vspoon vmark vcount vbodies sbits slens snum h_weight h_known h_hour h_swS h_swW h_waS h_spoons h_kind h_mark h_silver h_fresh h_texts h_tape h_tapeCount h_z h_waiting h_waitingCount t_weight t_known t_hour t_swS t_swW t_waS t_spoons t_kind t_mark t_silver t_fresh t_texts t_tape t_tapeCount t_z t_waiting t_waitingCount e_weight e_known e_hour e_swS e_swW e_waS e_spoons e_kind e_mark e_silver e_fresh e_texts e_tape e_tapeCount e_z e_waiting e_waitingCount L tx tst) [.ref (xd 0), .int a]) (QI D (tyC cA) (va_A (wX cA xd vd sd nd hd td ed kd images errors fewest vspoon vmark vcount vbodies sbits slens snum h_weight h_known h_hour h_swS h_swW h_waS h_spoons h_kind h_mark h_silver h_fresh h_texts h_tape h_tapeCount h_z h_waiting h_waitingCount t_weight t_known t_hour t_swS t_swW t_waS t_spoons t_kind t_mark t_silver t_fresh t_texts t_tape t_tapeCount t_z t_waiting t_waitingCount e_weight e_known e_hour e_swS e_swW e_waS e_spoons e_kind e_mark e_silver e_fresh e_texts e_tape e_tapeCount e_z e_waiting e_waitingCount L tx tst) sz) rR (wX cA xd vd sd nd hd td ed kd images errors fewest vspoon vmark vcount vbodies sbits slens snum h_weight h_known h_hour h_swS h_swW h_waS h_spoons h_kind h_mark h_silver h_fresh h_texts h_tape h_tapeCount h_z h_waiting h_waitingCount t_weight t_known t_hour t_swS t_swW t_waS t_spoons t_kind t_mark t_silver t_fresh t_texts t_tape t_tapeCount t_z t_waiting t_waitingCount e_weight e_known e_hour e_swS e_swW e_waS e_spoons e_kind e_mark e_silver e_fresh e_texts e_tape e_tapeCount e_z e_waiting e_waitingCount L tx tst)) 0 0 (va_A (wX cA xd vd sd nd hd td ed kd images errors fewest vspoon vmark vcount vbodies sbits slens snum h_weight h_known h_hour h_swS h_swW h_waS h_spoons h_kind h_mark h_silver h_fresh h_texts h_tape h_tapeCount h_z h_waiting h_waitingCount t_weight t_known t_hour t_swS t_swW t_waS t_spoons t_kind t_mark t_silver t_fresh t_texts t_tape t_tapeCount t_z t_waiting t_waitingCount e_weight e_known e_hour e_swS e_swW e_waS e_spoons e_kind e_mark e_silver e_fresh e_texts e_tape e_tapeCount e_z e_waiting e_waitingCount L tx tst) sz) := by
  refine ent (cc := cX11_isSpoon) (maxL := 2) (ret := (some .boolean)) (fun A => QI D (tyC cA) A rR (wX cA xd vd sd nd hd td ed kd images errors fewest vspoon vmark vcount vbodies sbits slens snum h_weight h_known h_hour h_swS h_swW h_waS h_spoons h_kind h_mark h_silver h_fresh h_texts h_tape h_tapeCount h_z h_waiting h_waitingCount t_weight t_known t_hour t_swS t_swW t_waS t_spoons t_kind t_mark t_silver t_fresh t_texts t_tape t_tapeCount t_z t_waiting t_waitingCount e_weight e_known e_hour e_swS e_swW e_waS e_spoons e_kind e_mark e_silver e_fresh e_texts e_tape e_tapeCount e_z e_waiting e_waitingCount L tx tst)) (by decide +kernel) rfl (Nat.le_of_ble_eq_true rfl) ?_
  intro p e s m args below meth c A ls H hx hb hml hr hlk hts hown hA hK hE hP hD hS hv hmm
  have hv : lv_has ls 2 [(0, .ref (xd 0)), (1, .int a)] := hv
  have in_3 : ∀ w ∈ u_ws RX3 TX3 18, w ∈ wsX11_isSpoon := fun _ h => List.mem_cons_of_mem _ (List.mem_append_right _ h)
  have in_11 : ∀ w ∈ u_ws RX11 TX11 9, w ∈ wsX11_isSpoon := fun _ h => List.mem_cons_of_mem _ (List.mem_append_left _ (List.mem_append_right _ h))
  have w_0 := hts (.fieldLink RX11 39 "SpoonsLast" "house" "LSpoonsLast$House;") (List.mem_of_getElem? (i := 1) rfl)
  have w_1 := hts (.fieldLink RX11 111 "SpoonsLast$House" "spoons" "I") (List.mem_of_getElem? (i := 2) rfl)
  generalize hQ : MQ below _ args s 0 0 A = Q
  have hP : va_P D vwCl (wX cA xd vd sd nd hd td ed kd images errors fewest vspoon vmark vcount vbodies sbits slens snum h_weight h_known h_hour h_swS h_swW h_waS h_spoons h_kind h_mark h_silver h_fresh h_texts h_tape h_tapeCount h_z h_waiting h_waitingCount t_weight t_known t_hour t_swS t_swW t_waS t_spoons t_kind t_mark t_silver t_fresh t_texts t_tape t_tapeCount t_z t_waiting t_waitingCount e_weight e_known e_hour e_swS e_swW e_waS e_spoons e_kind e_mark e_silver e_fresh e_texts e_tape e_tapeCount e_z e_waiting e_waitingCount L tx tst) H := hP
  unfold fX11_isSpoon at h
  refine lv_iload_n hx hb dX11_isSpoon_0 rfl (lv_at hv 1 rfl) ?_
  refine lv_iconst (v := (0 : Int32)) hx hb dX11_isSpoon_1 (by decide) ?_
  refine lv_aload_n hx hb dX11_isSpoon_2 rfl (lv_at hv 0 rfl) ?_
  refine va_get (D := D) (ci := 11) (v := .ref (hd 0)) (C := RX11) (T := TX11) (N := 9) hx hb hts in_11 hown hK hP 0 rfl rfl 0 (by decide) w_0 (fun _ h9 => h9) rfl dX11_isSpoon_3 ?_
  refine va_get (D := D) (ci := 3) (v := .int h_spoons) (C := RX3) (T := TX3) (N := 18) hx hb hts in_3 hown hK hP 14 rfl rfl 7 (by decide) w_1 (fun _ h9 => h9) rfl dX11_isSpoon_6 ?_
  refine lv_iconst (v := (1 : Int32)) hx hb dX11_isSpoon_9 (by decide) ?_
  refine lv_isub hx hb dX11_isSpoon_10 ?_
  obtain ⟨r_1, hf_2, h⟩ := bd_ex h
  have sb := Sb.nil hP hD hS hA
  refine calI (va_runS (As := [.int a, .int (0 : Int32), .int (h_spoons - (1 : Int32))]) (rest := []) ⟨hx, hb, hml, hown, hts⟩ (c_X11_within l G D cA  _ a (0 : Int32) (h_spoons - (1 : Int32)) r_1 hf_2) (va_cwS 3 hts gX11_isSpoon_X11_within rfl rfl rfl (by decide +kernel) ⟨Nat.le_of_ble_eq_true rfl, Nat.le_of_ble_eq_true rfl⟩) (pvS hE hK hS sb) rfl rfl hv.1 rfl (lv_room (Nat.le_of_ble_eq_true rfl)) dX11_isSpoon_11 ⟨Nat.le_of_ble_eq_true rfl, Nat.le_of_ble_eq_true rfl⟩) hS sb (Jn.nil hP hD) (fun H locs hP hD hS => ?_)
  have hP : va_P D vwCl (wX cA xd vd sd nd hd td ed kd images errors fewest vspoon vmark vcount vbodies sbits slens snum h_weight h_known h_hour h_swS h_swW h_waS h_spoons h_kind h_mark h_silver h_fresh h_texts h_tape h_tapeCount h_z h_waiting h_waitingCount t_weight t_known t_hour t_swS t_swW t_waS t_spoons t_kind t_mark t_silver t_fresh t_texts t_tape t_tapeCount t_z t_waiting t_waitingCount e_weight e_known e_hour e_swS e_swW e_waS e_spoons e_kind e_mark e_silver e_fresh e_texts e_tape e_tapeCount e_z e_waiting e_waitingCount L tx tst) H := hP
  have hD : va_D A (wX cA xd vd sd nd hd td ed kd images errors fewest vspoon vmark vcount vbodies sbits slens snum h_weight h_known h_hour h_swS h_swW h_waS h_spoons h_kind h_mark h_silver h_fresh h_texts h_tape h_tapeCount h_z h_waiting h_waitingCount t_weight t_known t_hour t_swS t_swW t_waS t_spoons t_kind t_mark t_silver t_fresh t_texts t_tape t_tapeCount t_z t_waiting t_waitingCount e_weight e_known e_hour e_swS e_swW e_waS e_spoons e_kind e_mark e_silver e_fresh e_texts e_tape e_tapeCount e_z e_waiting e_waitingCount L tx tst) := hD
  obtain ⟨hz, h⟩ := ck_ex h
  have h := Option.some.inj h
  have ee0 : r_1 = rR := congrArg (fun q => q) h
  subst ee0
  rw [← hQ]
  exact retZ hz hx hb hr hlk hK hP hD hS dX11_isSpoon_14 ⟨Nat.le_of_ble_eq_true rfl, Nat.le_of_ble_eq_true rfl⟩

def fX11_word (a : Int32) (v : Int32) (errors : Nat → Int32) (h_weight : Nat → Int32) : Option (Int32 × (Nat → Int32) × (Nat → Int32)) :=
  bd (fX11_isWord a) fun r_1 => (if r_1 = 0 then bd (fX11_refused (-1000000001 : Int32) errors) fun (r_4, errors_5) => some (r_4, errors_5, h_weight) else bd (fX11_within v (0 : Int32) (9 : Int32)) fun r_7 => (if r_7 = 0 then bd (fX11_refused (-1000000001 : Int32) errors) fun (r_14, errors_15) => some (r_14, errors_15, h_weight) else ckI a 12 (bnd (h_weight (a).toNatClampNeg) fun y_11 => ckI a 12 (bnd (upd h_weight (a).toNatClampNeg v) fun h_weight_13 => some (y_11, errors, h_weight_13)))))
set_option maxHeartbeats 4000000 in
set_option maxRecDepth 100000 in
theorem c_X11_word (l : Launch) (G : Nat → Nat) (D : va_G) (cA : Nat → ClassId) (xd : Nat → Nat) (vd : Nat → Nat) (sd : Nat → Nat) (nd : Nat → Nat) (hd : Nat → Nat) (td : Nat → Nat) (ed : Nat → Nat) (kd : Nat → Nat) (sz : Nat) (images : Int32) (errors : Nat → Int32) (fewest : Nat → Int32) (vspoon : Int32) (vmark : Int32) (vcount : Int32) (vbodies : Nat → Int32) (sbits : Nat → Int32) (slens : Nat → Int32) (snum : Nat → Nat → Int32) (h_weight : Nat → Int32) (h_known : Int32) (h_hour : Int32) (h_swS : Nat → Int32) (h_swW : Nat → Int32) (h_waS : Nat → Int32) (h_spoons : Int32) (h_kind : Nat → Int32) (h_mark : Nat → Int32) (h_silver : Nat → Int32) (h_fresh : Nat → Int64) (h_texts : Nat → Option Nat) (h_tape : Nat → Int32) (h_tapeCount : Int32) (h_z : Int32) (h_waiting : Nat → Int32) (h_waitingCount : Int32) (t_weight : Nat → Int32) (t_known : Int32) (t_hour : Int32) (t_swS : Nat → Int32) (t_swW : Nat → Int32) (t_waS : Nat → Int32) (t_spoons : Int32) (t_kind : Nat → Int32) (t_mark : Nat → Int32) (t_silver : Nat → Int32) (t_fresh : Nat → Int64) (t_texts : Nat → Option Nat) (t_tape : Nat → Int32) (t_tapeCount : Int32) (t_z : Int32) (t_waiting : Nat → Int32) (t_waitingCount : Int32) (e_weight : Nat → Int32) (e_known : Int32) (e_hour : Int32) (e_swS : Nat → Int32) (e_swW : Nat → Int32) (e_waS : Nat → Int32) (e_spoons : Int32) (e_kind : Nat → Int32) (e_mark : Nat → Int32) (e_silver : Nat → Int32) (e_fresh : Nat → Int64) (e_texts : Nat → Option Nat) (e_tape : Nat → Int32) (e_tapeCount : Int32) (e_z : Int32) (e_waiting : Nat → Int32) (e_waitingCount : Int32) (L : List Nat) (tx : Nat → TXc) (tst : Nat → Nat → Int32) (a : Int32) (v : Int32) (rR : Int32) (errorsR : Nat → Int32) (h_weightR : Nat → Int32) (h : fX11_word a v errors h_weight = some (rR, errorsR, h_weightR)) : Met l yX11_word wsX11_word ({ frames := 2, cells := 0, slots := 0, locals := 42 } : Room) (PW G D (tyC cA) sz (wX cA xd vd sd nd hd td ed kd images errors fewest vspoon vmark vcount vbodies sbits slens snum h_weight h_known h_hour h_swS h_swW h_waS h_spoons h_kind h_mark h_silver h_fresh h_texts h_tape h_tapeCount h_z h_waiting h_waitingCount t_weight t_known t_hour t_swS t_swW t_waS t_spoons t_kind t_mark t_silver t_fresh t_texts t_tape t_tapeCount t_z t_waiting t_waitingCount e_weight e_known e_hour e_swS e_swW e_waS e_spoons e_kind e_mark e_silver e_fresh e_texts e_tape e_tapeCount e_z e_waiting e_waitingCount L tx tst) [.ref (xd 0), .int a, .int v]) (QI D (tyC cA) (va_A (wX cA xd vd sd nd hd td ed kd images errors fewest vspoon vmark vcount vbodies sbits slens snum h_weight h_known h_hour h_swS h_swW h_waS h_spoons h_kind h_mark h_silver h_fresh h_texts h_tape h_tapeCount h_z h_waiting h_waitingCount t_weight t_known t_hour t_swS t_swW t_waS t_spoons t_kind t_mark t_silver t_fresh t_texts t_tape t_tapeCount t_z t_waiting t_waitingCount e_weight e_known e_hour e_swS e_swW e_waS e_spoons e_kind e_mark e_silver e_fresh e_texts e_tape e_tapeCount e_z e_waiting e_waitingCount L tx tst) sz) rR (wX cA xd vd sd nd hd td ed kd images errorsR fewest vspoon vmark vcount vbodies sbits slens snum h_weightR h_known h_hour h_swS h_swW h_waS h_spoons h_kind h_mark h_silver h_fresh h_texts h_tape h_tapeCount h_z h_waiting h_waitingCount t_weight t_known t_hour t_swS t_swW t_waS t_spoons t_kind t_mark t_silver t_fresh t_texts t_tape t_tapeCount t_z t_waiting t_waitingCount e_weight e_known e_hour e_swS e_swW e_waS e_spoons e_kind e_mark e_silver e_fresh e_texts e_tape e_tapeCount e_z e_waiting e_waitingCount L tx tst)) 0 0 (va_A (wX cA xd vd sd nd hd td ed kd images errors fewest vspoon vmark vcount vbodies sbits slens snum h_weight h_known h_hour h_swS h_swW h_waS h_spoons h_kind h_mark h_silver h_fresh h_texts h_tape h_tapeCount h_z h_waiting h_waitingCount t_weight t_known t_hour t_swS t_swW t_waS t_spoons t_kind t_mark t_silver t_fresh t_texts t_tape t_tapeCount t_z t_waiting t_waitingCount e_weight e_known e_hour e_swS e_swW e_waS e_spoons e_kind e_mark e_silver e_fresh e_texts e_tape e_tapeCount e_z e_waiting e_waitingCount L tx tst) sz) := by
  refine ent (cc := cX11_word) (maxL := 4) (ret := (some .int)) (fun A => QI D (tyC cA) A rR (wX cA xd vd sd nd hd td ed kd images errorsR fewest vspoon vmark vcount vbodies sbits slens snum h_weightR h_known h_hour h_swS h_swW h_waS h_spoons h_kind h_mark h_silver h_fresh h_texts h_tape h_tapeCount h_z h_waiting h_waitingCount t_weight t_known t_hour t_swS t_swW t_waS t_spoons t_kind t_mark t_silver t_fresh t_texts t_tape t_tapeCount t_z t_waiting t_waitingCount e_weight e_known e_hour e_swS e_swW e_waS e_spoons e_kind e_mark e_silver e_fresh e_texts e_tape e_tapeCount e_z e_waiting e_waitingCount L tx tst)) (by decide +kernel) rfl (Nat.le_of_ble_eq_true rfl) ?_
  intro p e s m args below meth c A ls H hx hb hml hr hlk hts hown hA hK hE hP hD hS hv hmm
  have hv : lv_has ls 4 [(0, .ref (xd 0)), (1, .int a), (2, .int v)] := hv
  have in_3 : ∀ w ∈ u_ws RX3 TX3 18, w ∈ wsX11_word := fun _ h => List.mem_cons_of_mem _ (List.mem_append_right _ h)
  have in_11 : ∀ w ∈ u_ws RX11 TX11 9, w ∈ wsX11_word := fun _ h => List.mem_cons_of_mem _ (List.mem_append_left _ (List.mem_append_right _ h))
  have w_0 := hts (.constant RX11 78 (-1000000001)) (List.mem_of_getElem? (i := 1) rfl)
  have w_1 := hts (.fieldLink RX11 39 "SpoonsLast" "house" "LSpoonsLast$House;") (List.mem_of_getElem? (i := 2) rfl)
  have w_2 := hts (.fieldLink RX11 83 "SpoonsLast$House" "weight" "[I") (List.mem_of_getElem? (i := 3) rfl)
  generalize hQ : MQ below _ args s 0 0 A = Q
  have hP : va_P D vwCl (wX cA xd vd sd nd hd td ed kd images errors fewest vspoon vmark vcount vbodies sbits slens snum h_weight h_known h_hour h_swS h_swW h_waS h_spoons h_kind h_mark h_silver h_fresh h_texts h_tape h_tapeCount h_z h_waiting h_waitingCount t_weight t_known t_hour t_swS t_swW t_waS t_spoons t_kind t_mark t_silver t_fresh t_texts t_tape t_tapeCount t_z t_waiting t_waitingCount e_weight e_known e_hour e_swS e_swW e_waS e_spoons e_kind e_mark e_silver e_fresh e_texts e_tape e_tapeCount e_z e_waiting e_waitingCount L tx tst) H := hP
  unfold fX11_word at h
  refine lv_iload_n hx hb dX11_word_0 rfl (lv_at hv 1 rfl) ?_
  obtain ⟨r_1, hf_2, h⟩ := bd_ex h
  have sb := Sb.nil hP hD hS hA
  refine calI (va_runS (As := [.int a]) (rest := []) ⟨hx, hb, hml, hown, hts⟩ (c_X11_isWord l G D cA  _ a r_1 hf_2) (va_cwS 1 hts gX11_word_X11_isWord rfl rfl rfl (by decide +kernel) ⟨Nat.le_of_ble_eq_true rfl, Nat.le_of_ble_eq_true rfl⟩) (pvS hE hK hS sb) rfl rfl hv.1 rfl (lv_room (Nat.le_of_ble_eq_true rfl)) dX11_word_1 ⟨Nat.le_of_ble_eq_true rfl, Nat.le_of_ble_eq_true rfl⟩) hS sb (Jn.nil hP hD) (fun H locs hP hD hS => ?_)
  have hP : va_P D vwCl (wX cA xd vd sd nd hd td ed kd images errors fewest vspoon vmark vcount vbodies sbits slens snum h_weight h_known h_hour h_swS h_swW h_waS h_spoons h_kind h_mark h_silver h_fresh h_texts h_tape h_tapeCount h_z h_waiting h_waitingCount t_weight t_known t_hour t_swS t_swW t_waS t_spoons t_kind t_mark t_silver t_fresh t_texts t_tape t_tapeCount t_z t_waiting t_waitingCount e_weight e_known e_hour e_swS e_swW e_waS e_spoons e_kind e_mark e_silver e_fresh e_texts e_tape e_tapeCount e_z e_waiting e_waitingCount L tx tst) H := hP
  have hD : va_D A (wX cA xd vd sd nd hd td ed kd images errors fewest vspoon vmark vcount vbodies sbits slens snum h_weight h_known h_hour h_swS h_swW h_waS h_spoons h_kind h_mark h_silver h_fresh h_texts h_tape h_tapeCount h_z h_waiting h_waitingCount t_weight t_known t_hour t_swS t_swW t_waS t_spoons t_kind t_mark t_silver t_fresh t_texts t_tape t_tapeCount t_z t_waiting t_waitingCount e_weight e_known e_hour e_swS e_swW e_waS e_spoons e_kind e_mark e_silver e_fresh e_texts e_tape e_tapeCount e_z e_waiting e_waitingCount L tx tst) := hD
  refine lv_if_eq (tgt := 17) hx hb dX11_word_4 (by decide) (fun c_3 => ?_) (fun c_3 => ?_)
  · have h := ite_t c_3 h
    refine lv_aload_n hx hb dX11_word_17 rfl (lv_at hv 0 rfl) ?_
    refine lv_ldc (v := (-1000000001 : Int32)) hx hb hown w_0 dX11_word_18 ?_
    obtain ⟨⟨r_4, errors_5⟩, hf_6, h⟩ := bd_ex h
    have sb := Sb.same hP hD hS hA
    refine calI (va_runV (As := [.int (-1000000001 : Int32)]) (rest := []) ⟨hx, hb, hml, hown, hts⟩ (c_X11_refused l G D cA xd vd sd nd hd td ed kd _ images errors fewest vspoon vmark vcount vbodies sbits slens snum h_weight h_known h_hour h_swS h_swW h_waS h_spoons h_kind h_mark h_silver h_fresh h_texts h_tape h_tapeCount h_z h_waiting h_waitingCount t_weight t_known t_hour t_swS t_swW t_waS t_spoons t_kind t_mark t_silver t_fresh t_texts t_tape t_tapeCount t_z t_waiting t_waitingCount e_weight e_known e_hour e_swS e_swW e_waS e_spoons e_kind e_mark e_silver e_fresh e_texts e_tape e_tapeCount e_z e_waiting e_waitingCount L tx tst (-1000000001 : Int32) r_4 errors_5 hf_6) (cwV 1 hts gX11_word_X11_refused rfl rfl rfl (by decide +kernel) ⟨Nat.le_of_ble_eq_true rfl, Nat.le_of_ble_eq_true rfl⟩) (pvV hE hK hS sb (va_recv hK hP (ci := 11) (q0 := 0) rfl rfl)) rfl rfl hv.1 rfl (lv_room (Nat.le_of_ble_eq_true rfl)) dX11_word_20 ⟨Nat.le_of_ble_eq_true rfl, Nat.le_of_ble_eq_true rfl⟩) hS sb (Jn.same sb) (fun H locs hP hD hS => ?_)
    have hP : va_P D vwCl (wX cA xd vd sd nd hd td ed kd images errors_5 fewest vspoon vmark vcount vbodies sbits slens snum h_weight h_known h_hour h_swS h_swW h_waS h_spoons h_kind h_mark h_silver h_fresh h_texts h_tape h_tapeCount h_z h_waiting h_waitingCount t_weight t_known t_hour t_swS t_swW t_waS t_spoons t_kind t_mark t_silver t_fresh t_texts t_tape t_tapeCount t_z t_waiting t_waitingCount e_weight e_known e_hour e_swS e_swW e_waS e_spoons e_kind e_mark e_silver e_fresh e_texts e_tape e_tapeCount e_z e_waiting e_waitingCount L tx tst) H := hP
    have hD : va_D A (wX cA xd vd sd nd hd td ed kd images errors_5 fewest vspoon vmark vcount vbodies sbits slens snum h_weight h_known h_hour h_swS h_swW h_waS h_spoons h_kind h_mark h_silver h_fresh h_texts h_tape h_tapeCount h_z h_waiting h_waitingCount t_weight t_known t_hour t_swS t_swW t_waS t_spoons t_kind t_mark t_silver t_fresh t_texts t_tape t_tapeCount t_z t_waiting t_waitingCount e_weight e_known e_hour e_swS e_swW e_waS e_spoons e_kind e_mark e_silver e_fresh e_texts e_tape e_tapeCount e_z e_waiting e_waitingCount L tx tst) := hD
    have h := Option.some.inj h
    have ee0 : r_4 = rR := congrArg (fun q => q.1) h
    have ee1 : errors_5 = errorsR := congrArg (fun q => q.2.1) h
    have ee2 : h_weight = h_weightR := congrArg (fun q => q.2.2) h
    subst ee0
    subst ee1
    subst ee2
    rw [← hQ]
    exact retI hx hb hr hlk hK hP hD hS dX11_word_23 ⟨Nat.le_of_ble_eq_true rfl, Nat.le_of_ble_eq_true rfl⟩
  · have h := ite_f c_3 h
    refine lv_iload_n hx hb dX11_word_7 rfl (lv_at hv 2 rfl) ?_
    refine lv_iconst (v := (0 : Int32)) hx hb dX11_word_8 (by decide) ?_
    refine lv_bipush (v := (9 : Int32)) hx hb dX11_word_9 (by decide) ?_
    obtain ⟨r_7, hf_8, h⟩ := bd_ex h
    have sb := Sb.nil hP hD hS hA
    refine calI (va_runS (As := [.int v, .int (0 : Int32), .int (9 : Int32)]) (rest := []) ⟨hx, hb, hml, hown, hts⟩ (c_X11_within l G D cA  _ v (0 : Int32) (9 : Int32) r_7 hf_8) (va_cwS 3 hts gX11_word_X11_within rfl rfl rfl (by decide +kernel) ⟨Nat.le_of_ble_eq_true rfl, Nat.le_of_ble_eq_true rfl⟩) (pvS hE hK hS sb) rfl rfl hv.1 rfl (lv_room (Nat.le_of_ble_eq_true rfl)) dX11_word_11 ⟨Nat.le_of_ble_eq_true rfl, Nat.le_of_ble_eq_true rfl⟩) hS sb (Jn.nil hP hD) (fun H locs hP hD hS => ?_)
    have hP : va_P D vwCl (wX cA xd vd sd nd hd td ed kd images errors fewest vspoon vmark vcount vbodies sbits slens snum h_weight h_known h_hour h_swS h_swW h_waS h_spoons h_kind h_mark h_silver h_fresh h_texts h_tape h_tapeCount h_z h_waiting h_waitingCount t_weight t_known t_hour t_swS t_swW t_waS t_spoons t_kind t_mark t_silver t_fresh t_texts t_tape t_tapeCount t_z t_waiting t_waitingCount e_weight e_known e_hour e_swS e_swW e_waS e_spoons e_kind e_mark e_silver e_fresh e_texts e_tape e_tapeCount e_z e_waiting e_waitingCount L tx tst) H := hP
    have hD : va_D A (wX cA xd vd sd nd hd td ed kd images errors fewest vspoon vmark vcount vbodies sbits slens snum h_weight h_known h_hour h_swS h_swW h_waS h_spoons h_kind h_mark h_silver h_fresh h_texts h_tape h_tapeCount h_z h_waiting h_waitingCount t_weight t_known t_hour t_swS t_swW t_waS t_spoons t_kind t_mark t_silver t_fresh t_texts t_tape t_tapeCount t_z t_waiting t_waitingCount e_weight e_known e_hour e_swS e_swW e_waS e_spoons e_kind e_mark e_silver e_fresh e_texts e_tape e_tapeCount e_z e_waiting e_waitingCount L tx tst) := hD
    refine lv_if_ne (tgt := 24) hx hb dX11_word_14 (by decide) (fun c_9 => ?_) (fun c_9 => ?_)
    · have h := ite_f c_9 h
      refine lv_aload_n hx hb dX11_word_24 rfl (lv_at hv 0 rfl) ?_
      refine va_get (D := D) (ci := 11) (v := .ref (hd 0)) (C := RX11) (T := TX11) (N := 9) hx hb hts in_11 hown hK hP 0 rfl rfl 0 (by decide) w_1 (fun _ h9 => h9) rfl dX11_word_25 ?_
      refine va_get (D := D) (ci := 3) (v := .ref (hd 2)) (C := RX3) (T := TX3) (N := 18) hx hb hts in_3 hown hK hP 14 rfl rfl 1 (by decide) w_2 (fun _ h9 => h9) rfl dX11_word_28 ?_
      refine lv_iload_n hx hb dX11_word_31 rfl (lv_at hv 1 rfl) ?_
      obtain ⟨c_10, h⟩ := ckI_ex h
      refine va_iald (D := D) hx hb hK hP 15 0 rfl rfl c_10 dX11_word_32 ?_
      obtain ⟨y_11, ey_11, h⟩ := bnd_ex h
      refine lv_nm ey_11 ?_
      refine lv_istore_n (lv' := [(3, .int y_11), (0, .ref (xd 0)), (1, .int a), (2, .int v)]) hx hb dX11_word_33 rfl hv (by decide) rfl (fun ls hv => ?_)
      refine lv_aload_n hx hb dX11_word_34 rfl (lv_at hv 1 rfl) ?_
      refine va_get (D := D) (ci := 11) (v := .ref (hd 0)) (C := RX11) (T := TX11) (N := 9) hx hb hts in_11 hown hK hP 0 rfl rfl 0 (by decide) w_1 (fun _ h9 => h9) rfl dX11_word_35 ?_
      refine va_get (D := D) (ci := 3) (v := .ref (hd 2)) (C := RX3) (T := TX3) (N := 18) hx hb hts in_3 hown hK hP 14 rfl rfl 1 (by decide) w_2 (fun _ h9 => h9) rfl dX11_word_38 ?_
      refine lv_iload_n hx hb dX11_word_41 rfl (lv_at hv 2 rfl) ?_
      refine lv_iload_n hx hb dX11_word_42 rfl (lv_at hv 3 rfl) ?_
      obtain ⟨c_12, h⟩ := ckI_ex h
      obtain ⟨h_weight_13, eh_weight_13, h⟩ := bnd_ex h
      refine va_iast (D := D) hx hb hK hP hD hS 15 0 rfl rfl c_12 dX11_word_43 (fun H locs hP hD hS => ?_)
      rw [← eh_weight_13] at hP hD
      have hP : va_P D vwCl (wX cA xd vd sd nd hd td ed kd images errors fewest vspoon vmark vcount vbodies sbits slens snum h_weight_13 h_known h_hour h_swS h_swW h_waS h_spoons h_kind h_mark h_silver h_fresh h_texts h_tape h_tapeCount h_z h_waiting h_waitingCount t_weight t_known t_hour t_swS t_swW t_waS t_spoons t_kind t_mark t_silver t_fresh t_texts t_tape t_tapeCount t_z t_waiting t_waitingCount e_weight e_known e_hour e_swS e_swW e_waS e_spoons e_kind e_mark e_silver e_fresh e_texts e_tape e_tapeCount e_z e_waiting e_waitingCount L tx tst) H := hP
      have hD : va_D A (wX cA xd vd sd nd hd td ed kd images errors fewest vspoon vmark vcount vbodies sbits slens snum h_weight_13 h_known h_hour h_swS h_swW h_waS h_spoons h_kind h_mark h_silver h_fresh h_texts h_tape h_tapeCount h_z h_waiting h_waitingCount t_weight t_known t_hour t_swS t_swW t_waS t_spoons t_kind t_mark t_silver t_fresh t_texts t_tape t_tapeCount t_z t_waiting t_waitingCount e_weight e_known e_hour e_swS e_swW e_waS e_spoons e_kind e_mark e_silver e_fresh e_texts e_tape e_tapeCount e_z e_waiting e_waitingCount L tx tst) := hD
      refine lv_iload_n hx hb dX11_word_44 rfl (lv_at hv 0 rfl) ?_
      have h := Option.some.inj h
      have ee0 : y_11 = rR := congrArg (fun q => q.1) h
      have ee1 : errors = errorsR := congrArg (fun q => q.2.1) h
      have ee2 : h_weight_13 = h_weightR := congrArg (fun q => q.2.2) h
      subst ee0
      subst ee1
      subst ee2
      rw [← hQ]
      exact retI hx hb hr hlk hK hP hD hS dX11_word_45 ⟨Nat.le_of_ble_eq_true rfl, Nat.le_of_ble_eq_true rfl⟩
    · have h := ite_t c_9 h
      refine lv_aload_n hx hb dX11_word_17 rfl (lv_at hv 0 rfl) ?_
      refine lv_ldc (v := (-1000000001 : Int32)) hx hb hown w_0 dX11_word_18 ?_
      obtain ⟨⟨r_14, errors_15⟩, hf_16, h⟩ := bd_ex h
      have sb := Sb.same hP hD hS hA
      refine calI (va_runV (As := [.int (-1000000001 : Int32)]) (rest := []) ⟨hx, hb, hml, hown, hts⟩ (c_X11_refused l G D cA xd vd sd nd hd td ed kd _ images errors fewest vspoon vmark vcount vbodies sbits slens snum h_weight h_known h_hour h_swS h_swW h_waS h_spoons h_kind h_mark h_silver h_fresh h_texts h_tape h_tapeCount h_z h_waiting h_waitingCount t_weight t_known t_hour t_swS t_swW t_waS t_spoons t_kind t_mark t_silver t_fresh t_texts t_tape t_tapeCount t_z t_waiting t_waitingCount e_weight e_known e_hour e_swS e_swW e_waS e_spoons e_kind e_mark e_silver e_fresh e_texts e_tape e_tapeCount e_z e_waiting e_waitingCount L tx tst (-1000000001 : Int32) r_14 errors_15 hf_16) (cwV 1 hts gX11_word_X11_refused rfl rfl rfl (by decide +kernel) ⟨Nat.le_of_ble_eq_true rfl, Nat.le_of_ble_eq_true rfl⟩) (pvV hE hK hS sb (va_recv hK hP (ci := 11) (q0 := 0) rfl rfl)) rfl rfl hv.1 rfl (lv_room (Nat.le_of_ble_eq_true rfl)) dX11_word_20 ⟨Nat.le_of_ble_eq_true rfl, Nat.le_of_ble_eq_true rfl⟩) hS sb (Jn.same sb) (fun H locs hP hD hS => ?_)
      have hP : va_P D vwCl (wX cA xd vd sd nd hd td ed kd images errors_15 fewest vspoon vmark vcount vbodies sbits slens snum h_weight h_known h_hour h_swS h_swW h_waS h_spoons h_kind h_mark h_silver h_fresh h_texts h_tape h_tapeCount h_z h_waiting h_waitingCount t_weight t_known t_hour t_swS t_swW t_waS t_spoons t_kind t_mark t_silver t_fresh t_texts t_tape t_tapeCount t_z t_waiting t_waitingCount e_weight e_known e_hour e_swS e_swW e_waS e_spoons e_kind e_mark e_silver e_fresh e_texts e_tape e_tapeCount e_z e_waiting e_waitingCount L tx tst) H := hP
      have hD : va_D A (wX cA xd vd sd nd hd td ed kd images errors_15 fewest vspoon vmark vcount vbodies sbits slens snum h_weight h_known h_hour h_swS h_swW h_waS h_spoons h_kind h_mark h_silver h_fresh h_texts h_tape h_tapeCount h_z h_waiting h_waitingCount t_weight t_known t_hour t_swS t_swW t_waS t_spoons t_kind t_mark t_silver t_fresh t_texts t_tape t_tapeCount t_z t_waiting t_waitingCount e_weight e_known e_hour e_swS e_swW e_waS e_spoons e_kind e_mark e_silver e_fresh e_texts e_tape e_tapeCount e_z e_waiting e_waitingCount L tx tst) := hD
      have h := Option.some.inj h
      have ee0 : r_14 = rR := congrArg (fun q => q.1) h
      have ee1 : errors_15 = errorsR := congrArg (fun q => q.2.1) h
      have ee2 : h_weight = h_weightR := congrArg (fun q => q.2.2) h
      subst ee0
      subst ee1
      subst ee2
      rw [← hQ]
      exact retI hx hb hr hlk hK hP hD hS dX11_word_23 ⟨Nat.le_of_ble_eq_true rfl, Nat.le_of_ble_eq_true rfl⟩

def fX11_ofWord (a : Int32) (what : Int32) (errors : Nat → Int32) (h_weight : Nat → Int32) (h_known : Int32) (h_spoons : Int32) (h_fresh : Nat → Int64) : Option (Int32 × (Nat → Int32)) :=
  bd (fX11_isWord a) fun r_1 => (if r_1 = 0 then bd (fX11_refused (-1000000001 : Int32) errors) fun (r_4, errors_5) => some (r_4, errors_5) else bd (fX11_within what (0 : Int32) (2 : Int32)) fun r_7 => (if r_7 = 0 then bd (fX11_refused (-1000000001 : Int32) errors) fun (r_15, errors_16) => some (r_15, errors_16) else (if what = 0 then ckI a 12 (some ((h_weight (a).toNatClampNeg), errors)) else (if what = (1 : Int32) then some (((h_known >>> (a &&& 31)) &&& (1 : Int32)), errors) else bd (fX3_spoonsWith a h_spoons h_fresh) fun r_12 => some (r_12, errors)))))
set_option maxHeartbeats 4000000 in
set_option maxRecDepth 100000 in
theorem c_X11_ofWord (l : Launch) (G : Nat → Nat) (D : va_G) (cA : Nat → ClassId) (xd : Nat → Nat) (vd : Nat → Nat) (sd : Nat → Nat) (nd : Nat → Nat) (hd : Nat → Nat) (td : Nat → Nat) (ed : Nat → Nat) (kd : Nat → Nat) (sz : Nat) (images : Int32) (errors : Nat → Int32) (fewest : Nat → Int32) (vspoon : Int32) (vmark : Int32) (vcount : Int32) (vbodies : Nat → Int32) (sbits : Nat → Int32) (slens : Nat → Int32) (snum : Nat → Nat → Int32) (h_weight : Nat → Int32) (h_known : Int32) (h_hour : Int32) (h_swS : Nat → Int32) (h_swW : Nat → Int32) (h_waS : Nat → Int32) (h_spoons : Int32) (h_kind : Nat → Int32) (h_mark : Nat → Int32) (h_silver : Nat → Int32) (h_fresh : Nat → Int64) (h_texts : Nat → Option Nat) (h_tape : Nat → Int32) (h_tapeCount : Int32) (h_z : Int32) (h_waiting : Nat → Int32) (h_waitingCount : Int32) (t_weight : Nat → Int32) (t_known : Int32) (t_hour : Int32) (t_swS : Nat → Int32) (t_swW : Nat → Int32) (t_waS : Nat → Int32) (t_spoons : Int32) (t_kind : Nat → Int32) (t_mark : Nat → Int32) (t_silver : Nat → Int32) (t_fresh : Nat → Int64) (t_texts : Nat → Option Nat) (t_tape : Nat → Int32) (t_tapeCount : Int32) (t_z : Int32) (t_waiting : Nat → Int32) (t_waitingCount : Int32) (e_weight : Nat → Int32) (e_known : Int32) (e_hour : Int32) (e_swS : Nat → Int32) (e_swW : Nat → Int32) (e_waS : Nat → Int32) (e_spoons : Int32) (e_kind : Nat → Int32) (e_mark : Nat → Int32) (e_silver : Nat → Int32) (e_fresh : Nat → Int64) (e_texts : Nat → Option Nat) (e_tape : Nat → Int32) (e_tapeCount : Int32) (e_z : Int32) (e_waiting : Nat → Int32) (e_waitingCount : Int32) (L : List Nat) (tx : Nat → TXc) (tst : Nat → Nat → Int32) (a : Int32) (what : Int32) (rR : Int32) (errorsR : Nat → Int32) (h : fX11_ofWord a what errors h_weight h_known h_spoons h_fresh = some (rR, errorsR)) : Met l yX11_ofWord wsX11_ofWord ({ frames := 2, cells := 0, slots := 0, locals := 45 } : Room) (PW G D (tyC cA) sz (wX cA xd vd sd nd hd td ed kd images errors fewest vspoon vmark vcount vbodies sbits slens snum h_weight h_known h_hour h_swS h_swW h_waS h_spoons h_kind h_mark h_silver h_fresh h_texts h_tape h_tapeCount h_z h_waiting h_waitingCount t_weight t_known t_hour t_swS t_swW t_waS t_spoons t_kind t_mark t_silver t_fresh t_texts t_tape t_tapeCount t_z t_waiting t_waitingCount e_weight e_known e_hour e_swS e_swW e_waS e_spoons e_kind e_mark e_silver e_fresh e_texts e_tape e_tapeCount e_z e_waiting e_waitingCount L tx tst) [.ref (xd 0), .int a, .int what]) (QI D (tyC cA) (va_A (wX cA xd vd sd nd hd td ed kd images errors fewest vspoon vmark vcount vbodies sbits slens snum h_weight h_known h_hour h_swS h_swW h_waS h_spoons h_kind h_mark h_silver h_fresh h_texts h_tape h_tapeCount h_z h_waiting h_waitingCount t_weight t_known t_hour t_swS t_swW t_waS t_spoons t_kind t_mark t_silver t_fresh t_texts t_tape t_tapeCount t_z t_waiting t_waitingCount e_weight e_known e_hour e_swS e_swW e_waS e_spoons e_kind e_mark e_silver e_fresh e_texts e_tape e_tapeCount e_z e_waiting e_waitingCount L tx tst) sz) rR (wX cA xd vd sd nd hd td ed kd images errorsR fewest vspoon vmark vcount vbodies sbits slens snum h_weight h_known h_hour h_swS h_swW h_waS h_spoons h_kind h_mark h_silver h_fresh h_texts h_tape h_tapeCount h_z h_waiting h_waitingCount t_weight t_known t_hour t_swS t_swW t_waS t_spoons t_kind t_mark t_silver t_fresh t_texts t_tape t_tapeCount t_z t_waiting t_waitingCount e_weight e_known e_hour e_swS e_swW e_waS e_spoons e_kind e_mark e_silver e_fresh e_texts e_tape e_tapeCount e_z e_waiting e_waitingCount L tx tst)) 0 0 (va_A (wX cA xd vd sd nd hd td ed kd images errors fewest vspoon vmark vcount vbodies sbits slens snum h_weight h_known h_hour h_swS h_swW h_waS h_spoons h_kind h_mark h_silver h_fresh h_texts h_tape h_tapeCount h_z h_waiting h_waitingCount t_weight t_known t_hour t_swS t_swW t_waS t_spoons t_kind t_mark t_silver t_fresh t_texts t_tape t_tapeCount t_z t_waiting t_waitingCount e_weight e_known e_hour e_swS e_swW e_waS e_spoons e_kind e_mark e_silver e_fresh e_texts e_tape e_tapeCount e_z e_waiting e_waitingCount L tx tst) sz) := by
  refine ent (cc := cX11_ofWord) (maxL := 3) (ret := (some .int)) (fun A => QI D (tyC cA) A rR (wX cA xd vd sd nd hd td ed kd images errorsR fewest vspoon vmark vcount vbodies sbits slens snum h_weight h_known h_hour h_swS h_swW h_waS h_spoons h_kind h_mark h_silver h_fresh h_texts h_tape h_tapeCount h_z h_waiting h_waitingCount t_weight t_known t_hour t_swS t_swW t_waS t_spoons t_kind t_mark t_silver t_fresh t_texts t_tape t_tapeCount t_z t_waiting t_waitingCount e_weight e_known e_hour e_swS e_swW e_waS e_spoons e_kind e_mark e_silver e_fresh e_texts e_tape e_tapeCount e_z e_waiting e_waitingCount L tx tst)) (by decide +kernel) rfl (Nat.le_of_ble_eq_true rfl) ?_
  intro p e s m args below meth c A ls H hx hb hml hr hlk hts hown hA hK hE hP hD hS hv hmm
  have hv : lv_has ls 3 [(0, .ref (xd 0)), (1, .int a), (2, .int what)] := hv
  have in_3 : ∀ w ∈ u_ws RX3 TX3 18, w ∈ wsX11_ofWord := fun _ h => List.mem_cons_of_mem _ (List.mem_append_right _ h)
  have in_11 : ∀ w ∈ u_ws RX11 TX11 9, w ∈ wsX11_ofWord := fun _ h => List.mem_cons_of_mem _ (List.mem_append_left _ (List.mem_append_right _ h))
  have w_0 := hts (.constant RX11 78 (-1000000001)) (List.mem_of_getElem? (i := 1) rfl)
  have w_1 := hts (.fieldLink RX11 39 "SpoonsLast" "house" "LSpoonsLast$House;") (List.mem_of_getElem? (i := 2) rfl)
  have w_2 := hts (.fieldLink RX11 86 "SpoonsLast$House" "known" "I") (List.mem_of_getElem? (i := 4) rfl)
  have w_3 := hts (.fieldLink RX11 83 "SpoonsLast$House" "weight" "[I") (List.mem_of_getElem? (i := 3) rfl)
  generalize hQ : MQ below _ args s 0 0 A = Q
  have hP : va_P D vwCl (wX cA xd vd sd nd hd td ed kd images errors fewest vspoon vmark vcount vbodies sbits slens snum h_weight h_known h_hour h_swS h_swW h_waS h_spoons h_kind h_mark h_silver h_fresh h_texts h_tape h_tapeCount h_z h_waiting h_waitingCount t_weight t_known t_hour t_swS t_swW t_waS t_spoons t_kind t_mark t_silver t_fresh t_texts t_tape t_tapeCount t_z t_waiting t_waitingCount e_weight e_known e_hour e_swS e_swW e_waS e_spoons e_kind e_mark e_silver e_fresh e_texts e_tape e_tapeCount e_z e_waiting e_waitingCount L tx tst) H := hP
  unfold fX11_ofWord at h
  refine lv_iload_n hx hb dX11_ofWord_0 rfl (lv_at hv 1 rfl) ?_
  obtain ⟨r_1, hf_2, h⟩ := bd_ex h
  have sb := Sb.nil hP hD hS hA
  refine calI (va_runS (As := [.int a]) (rest := []) ⟨hx, hb, hml, hown, hts⟩ (c_X11_isWord l G D cA  _ a r_1 hf_2) (va_cwS 1 hts gX11_ofWord_X11_isWord rfl rfl rfl (by decide +kernel) ⟨Nat.le_of_ble_eq_true rfl, Nat.le_of_ble_eq_true rfl⟩) (pvS hE hK hS sb) rfl rfl hv.1 rfl (lv_room (Nat.le_of_ble_eq_true rfl)) dX11_ofWord_1 ⟨Nat.le_of_ble_eq_true rfl, Nat.le_of_ble_eq_true rfl⟩) hS sb (Jn.nil hP hD) (fun H locs hP hD hS => ?_)
  have hP : va_P D vwCl (wX cA xd vd sd nd hd td ed kd images errors fewest vspoon vmark vcount vbodies sbits slens snum h_weight h_known h_hour h_swS h_swW h_waS h_spoons h_kind h_mark h_silver h_fresh h_texts h_tape h_tapeCount h_z h_waiting h_waitingCount t_weight t_known t_hour t_swS t_swW t_waS t_spoons t_kind t_mark t_silver t_fresh t_texts t_tape t_tapeCount t_z t_waiting t_waitingCount e_weight e_known e_hour e_swS e_swW e_waS e_spoons e_kind e_mark e_silver e_fresh e_texts e_tape e_tapeCount e_z e_waiting e_waitingCount L tx tst) H := hP
  have hD : va_D A (wX cA xd vd sd nd hd td ed kd images errors fewest vspoon vmark vcount vbodies sbits slens snum h_weight h_known h_hour h_swS h_swW h_waS h_spoons h_kind h_mark h_silver h_fresh h_texts h_tape h_tapeCount h_z h_waiting h_waitingCount t_weight t_known t_hour t_swS t_swW t_waS t_spoons t_kind t_mark t_silver t_fresh t_texts t_tape t_tapeCount t_z t_waiting t_waitingCount e_weight e_known e_hour e_swS e_swW e_waS e_spoons e_kind e_mark e_silver e_fresh e_texts e_tape e_tapeCount e_z e_waiting e_waitingCount L tx tst) := hD
  refine lv_if_eq (tgt := 16) hx hb dX11_ofWord_4 (by decide) (fun c_3 => ?_) (fun c_3 => ?_)
  · have h := ite_t c_3 h
    refine lv_aload_n hx hb dX11_ofWord_16 rfl (lv_at hv 0 rfl) ?_
    refine lv_ldc (v := (-1000000001 : Int32)) hx hb hown w_0 dX11_ofWord_17 ?_
    obtain ⟨⟨r_4, errors_5⟩, hf_6, h⟩ := bd_ex h
    have sb := Sb.same hP hD hS hA
    refine calI (va_runV (As := [.int (-1000000001 : Int32)]) (rest := []) ⟨hx, hb, hml, hown, hts⟩ (c_X11_refused l G D cA xd vd sd nd hd td ed kd _ images errors fewest vspoon vmark vcount vbodies sbits slens snum h_weight h_known h_hour h_swS h_swW h_waS h_spoons h_kind h_mark h_silver h_fresh h_texts h_tape h_tapeCount h_z h_waiting h_waitingCount t_weight t_known t_hour t_swS t_swW t_waS t_spoons t_kind t_mark t_silver t_fresh t_texts t_tape t_tapeCount t_z t_waiting t_waitingCount e_weight e_known e_hour e_swS e_swW e_waS e_spoons e_kind e_mark e_silver e_fresh e_texts e_tape e_tapeCount e_z e_waiting e_waitingCount L tx tst (-1000000001 : Int32) r_4 errors_5 hf_6) (cwV 1 hts gX11_ofWord_X11_refused rfl rfl rfl (by decide +kernel) ⟨Nat.le_of_ble_eq_true rfl, Nat.le_of_ble_eq_true rfl⟩) (pvV hE hK hS sb (va_recv hK hP (ci := 11) (q0 := 0) rfl rfl)) rfl rfl hv.1 rfl (lv_room (Nat.le_of_ble_eq_true rfl)) dX11_ofWord_19 ⟨Nat.le_of_ble_eq_true rfl, Nat.le_of_ble_eq_true rfl⟩) hS sb (Jn.same sb) (fun H locs hP hD hS => ?_)
    have hP : va_P D vwCl (wX cA xd vd sd nd hd td ed kd images errors_5 fewest vspoon vmark vcount vbodies sbits slens snum h_weight h_known h_hour h_swS h_swW h_waS h_spoons h_kind h_mark h_silver h_fresh h_texts h_tape h_tapeCount h_z h_waiting h_waitingCount t_weight t_known t_hour t_swS t_swW t_waS t_spoons t_kind t_mark t_silver t_fresh t_texts t_tape t_tapeCount t_z t_waiting t_waitingCount e_weight e_known e_hour e_swS e_swW e_waS e_spoons e_kind e_mark e_silver e_fresh e_texts e_tape e_tapeCount e_z e_waiting e_waitingCount L tx tst) H := hP
    have hD : va_D A (wX cA xd vd sd nd hd td ed kd images errors_5 fewest vspoon vmark vcount vbodies sbits slens snum h_weight h_known h_hour h_swS h_swW h_waS h_spoons h_kind h_mark h_silver h_fresh h_texts h_tape h_tapeCount h_z h_waiting h_waitingCount t_weight t_known t_hour t_swS t_swW t_waS t_spoons t_kind t_mark t_silver t_fresh t_texts t_tape t_tapeCount t_z t_waiting t_waitingCount e_weight e_known e_hour e_swS e_swW e_waS e_spoons e_kind e_mark e_silver e_fresh e_texts e_tape e_tapeCount e_z e_waiting e_waitingCount L tx tst) := hD
    have h := Option.some.inj h
    have ee0 : r_4 = rR := congrArg (fun q => q.1) h
    have ee1 : errors_5 = errorsR := congrArg (fun q => q.2) h
    subst ee0
    subst ee1
    rw [← hQ]
    exact retI hx hb hr hlk hK hP hD hS dX11_ofWord_22 ⟨Nat.le_of_ble_eq_true rfl, Nat.le_of_ble_eq_true rfl⟩
  · have h := ite_f c_3 h
    refine lv_iload_n hx hb dX11_ofWord_7 rfl (lv_at hv 2 rfl) ?_
    refine lv_iconst (v := (0 : Int32)) hx hb dX11_ofWord_8 (by decide) ?_
    refine lv_iconst (v := (2 : Int32)) hx hb dX11_ofWord_9 (by decide) ?_
    obtain ⟨r_7, hf_8, h⟩ := bd_ex h
    have sb := Sb.nil hP hD hS hA
    refine calI (va_runS (As := [.int what, .int (0 : Int32), .int (2 : Int32)]) (rest := []) ⟨hx, hb, hml, hown, hts⟩ (c_X11_within l G D cA  _ what (0 : Int32) (2 : Int32) r_7 hf_8) (va_cwS 3 hts gX11_ofWord_X11_within rfl rfl rfl (by decide +kernel) ⟨Nat.le_of_ble_eq_true rfl, Nat.le_of_ble_eq_true rfl⟩) (pvS hE hK hS sb) rfl rfl hv.1 rfl (lv_room (Nat.le_of_ble_eq_true rfl)) dX11_ofWord_10 ⟨Nat.le_of_ble_eq_true rfl, Nat.le_of_ble_eq_true rfl⟩) hS sb (Jn.nil hP hD) (fun H locs hP hD hS => ?_)
    have hP : va_P D vwCl (wX cA xd vd sd nd hd td ed kd images errors fewest vspoon vmark vcount vbodies sbits slens snum h_weight h_known h_hour h_swS h_swW h_waS h_spoons h_kind h_mark h_silver h_fresh h_texts h_tape h_tapeCount h_z h_waiting h_waitingCount t_weight t_known t_hour t_swS t_swW t_waS t_spoons t_kind t_mark t_silver t_fresh t_texts t_tape t_tapeCount t_z t_waiting t_waitingCount e_weight e_known e_hour e_swS e_swW e_waS e_spoons e_kind e_mark e_silver e_fresh e_texts e_tape e_tapeCount e_z e_waiting e_waitingCount L tx tst) H := hP
    have hD : va_D A (wX cA xd vd sd nd hd td ed kd images errors fewest vspoon vmark vcount vbodies sbits slens snum h_weight h_known h_hour h_swS h_swW h_waS h_spoons h_kind h_mark h_silver h_fresh h_texts h_tape h_tapeCount h_z h_waiting h_waitingCount t_weight t_known t_hour t_swS t_swW t_waS t_spoons t_kind t_mark t_silver t_fresh t_texts t_tape t_tapeCount t_z t_waiting t_waitingCount e_weight e_known e_hour e_swS e_swW e_waS e_spoons e_kind e_mark e_silver e_fresh e_texts e_tape e_tapeCount e_z e_waiting e_waitingCount L tx tst) := hD
    refine lv_if_ne (tgt := 23) hx hb dX11_ofWord_13 (by decide) (fun c_9 => ?_) (fun c_9 => ?_)
    · have h := ite_f c_9 h
      refine lv_iload_n hx hb dX11_ofWord_23 rfl (lv_at hv 2 rfl) ?_
      refine lv_if_ne (tgt := 37) hx hb dX11_ofWord_24 (by decide) (fun c_10 => ?_) (fun c_10 => ?_)
      · have h := ite_f c_10 h
        refine lv_iload_n hx hb dX11_ofWord_37 rfl (lv_at hv 2 rfl) ?_
        refine lv_iconst (v := (1 : Int32)) hx hb dX11_ofWord_38 (by decide) ?_
        refine lv_icmp_ne (tgt := 56) hx hb dX11_ofWord_39 (by decide) (fun c_11 => ?_) (fun c_11 => ?_)
        · have h := ite_f c_11 h
          refine lv_aload_n hx hb dX11_ofWord_56 rfl (lv_at hv 0 rfl) ?_
          refine va_get (D := D) (ci := 11) (v := .ref (hd 0)) (C := RX11) (T := TX11) (N := 9) hx hb hts in_11 hown hK hP 0 rfl rfl 0 (by decide) w_1 (fun _ h9 => h9) rfl dX11_ofWord_57 ?_
          refine lv_iload_n hx hb dX11_ofWord_60 rfl (lv_at hv 1 rfl) ?_
          obtain ⟨r_12, hf_13, h⟩ := bd_ex h
          have sb : Sb D A H (wH cA hd kd h_weight h_known h_hour h_swS h_swW h_waS h_spoons h_kind h_mark h_silver h_fresh h_texts h_tape h_tapeCount h_z h_waiting h_waitingCount L tx tst) := sbXh hP hD hS hA
          refine calI (va_runV (As := [.int a]) (rest := []) ⟨hx, hb, hml, hown, hts⟩ (c_X3_spoonsWith l G D cA hd kd _ h_weight h_known h_hour h_swS h_swW h_waS h_spoons h_kind h_mark h_silver h_fresh h_texts h_tape h_tapeCount h_z h_waiting h_waitingCount L tx tst a r_12 hf_13) (cwV 1 hts gX11_ofWord_X3_spoonsWith rfl rfl rfl (by decide +kernel) ⟨Nat.le_of_ble_eq_true rfl, Nat.le_of_ble_eq_true rfl⟩) (pvV hE hK hS sb (va_recv hK hP (ci := 3) (q0 := 14) rfl rfl)) rfl rfl hv.1 rfl (lv_room (Nat.le_of_ble_eq_true rfl)) dX11_ofWord_61 ⟨Nat.le_of_ble_eq_true rfl, Nat.le_of_ble_eq_true rfl⟩) hS sb (jnXh hP hD) (fun H locs hP hD hS => ?_)
          have hP : va_P D vwCl (wX cA xd vd sd nd hd td ed kd images errors fewest vspoon vmark vcount vbodies sbits slens snum h_weight h_known h_hour h_swS h_swW h_waS h_spoons h_kind h_mark h_silver h_fresh h_texts h_tape h_tapeCount h_z h_waiting h_waitingCount t_weight t_known t_hour t_swS t_swW t_waS t_spoons t_kind t_mark t_silver t_fresh t_texts t_tape t_tapeCount t_z t_waiting t_waitingCount e_weight e_known e_hour e_swS e_swW e_waS e_spoons e_kind e_mark e_silver e_fresh e_texts e_tape e_tapeCount e_z e_waiting e_waitingCount L tx tst) H := hP
          have hD : va_D A (wX cA xd vd sd nd hd td ed kd images errors fewest vspoon vmark vcount vbodies sbits slens snum h_weight h_known h_hour h_swS h_swW h_waS h_spoons h_kind h_mark h_silver h_fresh h_texts h_tape h_tapeCount h_z h_waiting h_waitingCount t_weight t_known t_hour t_swS t_swW t_waS t_spoons t_kind t_mark t_silver t_fresh t_texts t_tape t_tapeCount t_z t_waiting t_waitingCount e_weight e_known e_hour e_swS e_swW e_waS e_spoons e_kind e_mark e_silver e_fresh e_texts e_tape e_tapeCount e_z e_waiting e_waitingCount L tx tst) := hD
          have h := Option.some.inj h
          have ee0 : r_12 = rR := congrArg (fun q => q.1) h
          have ee1 : errors = errorsR := congrArg (fun q => q.2) h
          subst ee0
          subst ee1
          rw [← hQ]
          exact retI hx hb hr hlk hK hP hD hS dX11_ofWord_64 ⟨Nat.le_of_ble_eq_true rfl, Nat.le_of_ble_eq_true rfl⟩
        · have h := ite_t c_11 h
          refine lv_aload_n hx hb dX11_ofWord_42 rfl (lv_at hv 0 rfl) ?_
          refine va_get (D := D) (ci := 11) (v := .ref (hd 0)) (C := RX11) (T := TX11) (N := 9) hx hb hts in_11 hown hK hP 0 rfl rfl 0 (by decide) w_1 (fun _ h9 => h9) rfl dX11_ofWord_43 ?_
          refine va_get (D := D) (ci := 3) (v := .int h_known) (C := RX3) (T := TX3) (N := 18) hx hb hts in_3 hown hK hP 14 rfl rfl 2 (by decide) w_2 (fun _ h9 => h9) rfl dX11_ofWord_46 ?_
          refine lv_iload_n hx hb dX11_ofWord_49 rfl (lv_at hv 1 rfl) ?_
          refine lv_ishr hx hb dX11_ofWord_50 ?_
          refine lv_iconst (v := (1 : Int32)) hx hb dX11_ofWord_51 (by decide) ?_
          refine lv_iand hx hb dX11_ofWord_52 ?_
          refine lv_goto (tgt := 64) hx hb dX11_ofWord_53 (by decide) ?_
          have h := Option.some.inj h
          have ee0 : ((h_known >>> (a &&& 31)) &&& (1 : Int32)) = rR := congrArg (fun q => q.1) h
          have ee1 : errors = errorsR := congrArg (fun q => q.2) h
          subst ee0
          subst ee1
          rw [← hQ]
          exact retI hx hb hr hlk hK hP hD hS dX11_ofWord_64 ⟨Nat.le_of_ble_eq_true rfl, Nat.le_of_ble_eq_true rfl⟩
      · have h := ite_t c_10 h
        refine lv_aload_n hx hb dX11_ofWord_27 rfl (lv_at hv 0 rfl) ?_
        refine va_get (D := D) (ci := 11) (v := .ref (hd 0)) (C := RX11) (T := TX11) (N := 9) hx hb hts in_11 hown hK hP 0 rfl rfl 0 (by decide) w_1 (fun _ h9 => h9) rfl dX11_ofWord_28 ?_
        refine va_get (D := D) (ci := 3) (v := .ref (hd 2)) (C := RX3) (T := TX3) (N := 18) hx hb hts in_3 hown hK hP 14 rfl rfl 1 (by decide) w_3 (fun _ h9 => h9) rfl dX11_ofWord_31 ?_
        refine lv_iload_n hx hb dX11_ofWord_34 rfl (lv_at hv 1 rfl) ?_
        obtain ⟨c_14, h⟩ := ckI_ex h
        refine va_iald (D := D) hx hb hK hP 15 0 rfl rfl c_14 dX11_ofWord_35 ?_
        have h := Option.some.inj h
        have ee0 : (h_weight (a).toNatClampNeg) = rR := congrArg (fun q => q.1) h
        have ee1 : errors = errorsR := congrArg (fun q => q.2) h
        subst ee0
        subst ee1
        rw [← hQ]
        exact retI hx hb hr hlk hK hP hD hS dX11_ofWord_36 ⟨Nat.le_of_ble_eq_true rfl, Nat.le_of_ble_eq_true rfl⟩
    · have h := ite_t c_9 h
      refine lv_aload_n hx hb dX11_ofWord_16 rfl (lv_at hv 0 rfl) ?_
      refine lv_ldc (v := (-1000000001 : Int32)) hx hb hown w_0 dX11_ofWord_17 ?_
      obtain ⟨⟨r_15, errors_16⟩, hf_17, h⟩ := bd_ex h
      have sb := Sb.same hP hD hS hA
      refine calI (va_runV (As := [.int (-1000000001 : Int32)]) (rest := []) ⟨hx, hb, hml, hown, hts⟩ (c_X11_refused l G D cA xd vd sd nd hd td ed kd _ images errors fewest vspoon vmark vcount vbodies sbits slens snum h_weight h_known h_hour h_swS h_swW h_waS h_spoons h_kind h_mark h_silver h_fresh h_texts h_tape h_tapeCount h_z h_waiting h_waitingCount t_weight t_known t_hour t_swS t_swW t_waS t_spoons t_kind t_mark t_silver t_fresh t_texts t_tape t_tapeCount t_z t_waiting t_waitingCount e_weight e_known e_hour e_swS e_swW e_waS e_spoons e_kind e_mark e_silver e_fresh e_texts e_tape e_tapeCount e_z e_waiting e_waitingCount L tx tst (-1000000001 : Int32) r_15 errors_16 hf_17) (cwV 1 hts gX11_ofWord_X11_refused rfl rfl rfl (by decide +kernel) ⟨Nat.le_of_ble_eq_true rfl, Nat.le_of_ble_eq_true rfl⟩) (pvV hE hK hS sb (va_recv hK hP (ci := 11) (q0 := 0) rfl rfl)) rfl rfl hv.1 rfl (lv_room (Nat.le_of_ble_eq_true rfl)) dX11_ofWord_19 ⟨Nat.le_of_ble_eq_true rfl, Nat.le_of_ble_eq_true rfl⟩) hS sb (Jn.same sb) (fun H locs hP hD hS => ?_)
      have hP : va_P D vwCl (wX cA xd vd sd nd hd td ed kd images errors_16 fewest vspoon vmark vcount vbodies sbits slens snum h_weight h_known h_hour h_swS h_swW h_waS h_spoons h_kind h_mark h_silver h_fresh h_texts h_tape h_tapeCount h_z h_waiting h_waitingCount t_weight t_known t_hour t_swS t_swW t_waS t_spoons t_kind t_mark t_silver t_fresh t_texts t_tape t_tapeCount t_z t_waiting t_waitingCount e_weight e_known e_hour e_swS e_swW e_waS e_spoons e_kind e_mark e_silver e_fresh e_texts e_tape e_tapeCount e_z e_waiting e_waitingCount L tx tst) H := hP
      have hD : va_D A (wX cA xd vd sd nd hd td ed kd images errors_16 fewest vspoon vmark vcount vbodies sbits slens snum h_weight h_known h_hour h_swS h_swW h_waS h_spoons h_kind h_mark h_silver h_fresh h_texts h_tape h_tapeCount h_z h_waiting h_waitingCount t_weight t_known t_hour t_swS t_swW t_waS t_spoons t_kind t_mark t_silver t_fresh t_texts t_tape t_tapeCount t_z t_waiting t_waitingCount e_weight e_known e_hour e_swS e_swW e_waS e_spoons e_kind e_mark e_silver e_fresh e_texts e_tape e_tapeCount e_z e_waiting e_waitingCount L tx tst) := hD
      have h := Option.some.inj h
      have ee0 : r_15 = rR := congrArg (fun q => q.1) h
      have ee1 : errors_16 = errorsR := congrArg (fun q => q.2) h
      subst ee0
      subst ee1
      rw [← hQ]
      exact retI hx hb hr hlk hK hP hD hS dX11_ofWord_22 ⟨Nat.le_of_ble_eq_true rfl, Nat.le_of_ble_eq_true rfl⟩

def fX11_known (a : Int32) (errors : Nat → Int32) (h_known : Int32) : Option (Int32 × (Nat → Int32) × Int32) :=
  bd (fX11_isSetOfWords a) fun r_1 => (if r_1 = 0 then bd (fX11_refused (-1000000001 : Int32) errors) fun (r_4, errors_5) => some (r_4, errors_5, h_known) else some (h_known, errors, a))
set_option maxHeartbeats 4000000 in
set_option maxRecDepth 100000 in
theorem c_X11_known (l : Launch) (G : Nat → Nat) (D : va_G) (cA : Nat → ClassId) (xd : Nat → Nat) (vd : Nat → Nat) (sd : Nat → Nat) (nd : Nat → Nat) (hd : Nat → Nat) (td : Nat → Nat) (ed : Nat → Nat) (kd : Nat → Nat) (sz : Nat) (images : Int32) (errors : Nat → Int32) (fewest : Nat → Int32) (vspoon : Int32) (vmark : Int32) (vcount : Int32) (vbodies : Nat → Int32) (sbits : Nat → Int32) (slens : Nat → Int32) (snum : Nat → Nat → Int32) (h_weight : Nat → Int32) (h_known : Int32) (h_hour : Int32) (h_swS : Nat → Int32) (h_swW : Nat → Int32) (h_waS : Nat → Int32) (h_spoons : Int32) (h_kind : Nat → Int32) (h_mark : Nat → Int32) (h_silver : Nat → Int32) (h_fresh : Nat → Int64) (h_texts : Nat → Option Nat) (h_tape : Nat → Int32) (h_tapeCount : Int32) (h_z : Int32) (h_waiting : Nat → Int32) (h_waitingCount : Int32) (t_weight : Nat → Int32) (t_known : Int32) (t_hour : Int32) (t_swS : Nat → Int32) (t_swW : Nat → Int32) (t_waS : Nat → Int32) (t_spoons : Int32) (t_kind : Nat → Int32) (t_mark : Nat → Int32) (t_silver : Nat → Int32) (t_fresh : Nat → Int64) (t_texts : Nat → Option Nat) (t_tape : Nat → Int32) (t_tapeCount : Int32) (t_z : Int32) (t_waiting : Nat → Int32) (t_waitingCount : Int32) (e_weight : Nat → Int32) (e_known : Int32) (e_hour : Int32) (e_swS : Nat → Int32) (e_swW : Nat → Int32) (e_waS : Nat → Int32) (e_spoons : Int32) (e_kind : Nat → Int32) (e_mark : Nat → Int32) (e_silver : Nat → Int32) (e_fresh : Nat → Int64) (e_texts : Nat → Option Nat) (e_tape : Nat → Int32) (e_tapeCount : Int32) (e_z : Int32) (e_waiting : Nat → Int32) (e_waitingCount : Int32) (L : List Nat) (tx : Nat → TXc) (tst : Nat → Nat → Int32) (a : Int32) (rR : Int32) (errorsR : Nat → Int32) (h_knownR : Int32) (h : fX11_known a errors h_known = some (rR, errorsR, h_knownR)) : Met l yX11_known wsX11_known ({ frames := 2, cells := 0, slots := 0, locals := 42 } : Room) (PW G D (tyC cA) sz (wX cA xd vd sd nd hd td ed kd images errors fewest vspoon vmark vcount vbodies sbits slens snum h_weight h_known h_hour h_swS h_swW h_waS h_spoons h_kind h_mark h_silver h_fresh h_texts h_tape h_tapeCount h_z h_waiting h_waitingCount t_weight t_known t_hour t_swS t_swW t_waS t_spoons t_kind t_mark t_silver t_fresh t_texts t_tape t_tapeCount t_z t_waiting t_waitingCount e_weight e_known e_hour e_swS e_swW e_waS e_spoons e_kind e_mark e_silver e_fresh e_texts e_tape e_tapeCount e_z e_waiting e_waitingCount L tx tst) [.ref (xd 0), .int a]) (QI D (tyC cA) (va_A (wX cA xd vd sd nd hd td ed kd images errors fewest vspoon vmark vcount vbodies sbits slens snum h_weight h_known h_hour h_swS h_swW h_waS h_spoons h_kind h_mark h_silver h_fresh h_texts h_tape h_tapeCount h_z h_waiting h_waitingCount t_weight t_known t_hour t_swS t_swW t_waS t_spoons t_kind t_mark t_silver t_fresh t_texts t_tape t_tapeCount t_z t_waiting t_waitingCount e_weight e_known e_hour e_swS e_swW e_waS e_spoons e_kind e_mark e_silver e_fresh e_texts e_tape e_tapeCount e_z e_waiting e_waitingCount L tx tst) sz) rR (wX cA xd vd sd nd hd td ed kd images errorsR fewest vspoon vmark vcount vbodies sbits slens snum h_weight h_knownR h_hour h_swS h_swW h_waS h_spoons h_kind h_mark h_silver h_fresh h_texts h_tape h_tapeCount h_z h_waiting h_waitingCount t_weight t_known t_hour t_swS t_swW t_waS t_spoons t_kind t_mark t_silver t_fresh t_texts t_tape t_tapeCount t_z t_waiting t_waitingCount e_weight e_known e_hour e_swS e_swW e_waS e_spoons e_kind e_mark e_silver e_fresh e_texts e_tape e_tapeCount e_z e_waiting e_waitingCount L tx tst)) 0 0 (va_A (wX cA xd vd sd nd hd td ed kd images errors fewest vspoon vmark vcount vbodies sbits slens snum h_weight h_known h_hour h_swS h_swW h_waS h_spoons h_kind h_mark h_silver h_fresh h_texts h_tape h_tapeCount h_z h_waiting h_waitingCount t_weight t_known t_hour t_swS t_swW t_waS t_spoons t_kind t_mark t_silver t_fresh t_texts t_tape t_tapeCount t_z t_waiting t_waitingCount e_weight e_known e_hour e_swS e_swW e_waS e_spoons e_kind e_mark e_silver e_fresh e_texts e_tape e_tapeCount e_z e_waiting e_waitingCount L tx tst) sz) := by
  refine ent (cc := cX11_known) (maxL := 3) (ret := (some .int)) (fun A => QI D (tyC cA) A rR (wX cA xd vd sd nd hd td ed kd images errorsR fewest vspoon vmark vcount vbodies sbits slens snum h_weight h_knownR h_hour h_swS h_swW h_waS h_spoons h_kind h_mark h_silver h_fresh h_texts h_tape h_tapeCount h_z h_waiting h_waitingCount t_weight t_known t_hour t_swS t_swW t_waS t_spoons t_kind t_mark t_silver t_fresh t_texts t_tape t_tapeCount t_z t_waiting t_waitingCount e_weight e_known e_hour e_swS e_swW e_waS e_spoons e_kind e_mark e_silver e_fresh e_texts e_tape e_tapeCount e_z e_waiting e_waitingCount L tx tst)) (by decide +kernel) rfl (Nat.le_of_ble_eq_true rfl) ?_
  intro p e s m args below meth c A ls H hx hb hml hr hlk hts hown hA hK hE hP hD hS hv hmm
  have hv : lv_has ls 3 [(0, .ref (xd 0)), (1, .int a)] := hv
  have in_3 : ∀ w ∈ u_ws RX3 TX3 18, w ∈ wsX11_known := fun _ h => List.mem_cons_of_mem _ (List.mem_append_right _ h)
  have in_11 : ∀ w ∈ u_ws RX11 TX11 9, w ∈ wsX11_known := fun _ h => List.mem_cons_of_mem _ (List.mem_append_left _ (List.mem_append_right _ h))
  have w_0 := hts (.fieldLink RX11 39 "SpoonsLast" "house" "LSpoonsLast$House;") (List.mem_of_getElem? (i := 2) rfl)
  have w_1 := hts (.fieldLink RX11 86 "SpoonsLast$House" "known" "I") (List.mem_of_getElem? (i := 3) rfl)
  have w_2 := hts (.constant RX11 78 (-1000000001)) (List.mem_of_getElem? (i := 1) rfl)
  generalize hQ : MQ below _ args s 0 0 A = Q
  have hP : va_P D vwCl (wX cA xd vd sd nd hd td ed kd images errors fewest vspoon vmark vcount vbodies sbits slens snum h_weight h_known h_hour h_swS h_swW h_waS h_spoons h_kind h_mark h_silver h_fresh h_texts h_tape h_tapeCount h_z h_waiting h_waitingCount t_weight t_known t_hour t_swS t_swW t_waS t_spoons t_kind t_mark t_silver t_fresh t_texts t_tape t_tapeCount t_z t_waiting t_waitingCount e_weight e_known e_hour e_swS e_swW e_waS e_spoons e_kind e_mark e_silver e_fresh e_texts e_tape e_tapeCount e_z e_waiting e_waitingCount L tx tst) H := hP
  unfold fX11_known at h
  refine lv_iload_n hx hb dX11_known_0 rfl (lv_at hv 1 rfl) ?_
  obtain ⟨r_1, hf_2, h⟩ := bd_ex h
  have sb := Sb.nil hP hD hS hA
  refine calI (va_runS (As := [.int a]) (rest := []) ⟨hx, hb, hml, hown, hts⟩ (c_X11_isSetOfWords l G D cA  _ a r_1 hf_2) (va_cwS 1 hts gX11_known_X11_isSetOfWords rfl rfl rfl (by decide +kernel) ⟨Nat.le_of_ble_eq_true rfl, Nat.le_of_ble_eq_true rfl⟩) (pvS hE hK hS sb) rfl rfl hv.1 rfl (lv_room (Nat.le_of_ble_eq_true rfl)) dX11_known_1 ⟨Nat.le_of_ble_eq_true rfl, Nat.le_of_ble_eq_true rfl⟩) hS sb (Jn.nil hP hD) (fun H locs hP hD hS => ?_)
  have hP : va_P D vwCl (wX cA xd vd sd nd hd td ed kd images errors fewest vspoon vmark vcount vbodies sbits slens snum h_weight h_known h_hour h_swS h_swW h_waS h_spoons h_kind h_mark h_silver h_fresh h_texts h_tape h_tapeCount h_z h_waiting h_waitingCount t_weight t_known t_hour t_swS t_swW t_waS t_spoons t_kind t_mark t_silver t_fresh t_texts t_tape t_tapeCount t_z t_waiting t_waitingCount e_weight e_known e_hour e_swS e_swW e_waS e_spoons e_kind e_mark e_silver e_fresh e_texts e_tape e_tapeCount e_z e_waiting e_waitingCount L tx tst) H := hP
  have hD : va_D A (wX cA xd vd sd nd hd td ed kd images errors fewest vspoon vmark vcount vbodies sbits slens snum h_weight h_known h_hour h_swS h_swW h_waS h_spoons h_kind h_mark h_silver h_fresh h_texts h_tape h_tapeCount h_z h_waiting h_waitingCount t_weight t_known t_hour t_swS t_swW t_waS t_spoons t_kind t_mark t_silver t_fresh t_texts t_tape t_tapeCount t_z t_waiting t_waitingCount e_weight e_known e_hour e_swS e_swW e_waS e_spoons e_kind e_mark e_silver e_fresh e_texts e_tape e_tapeCount e_z e_waiting e_waitingCount L tx tst) := hD
  refine lv_if_ne (tgt := 14) hx hb dX11_known_4 (by decide) (fun c_3 => ?_) (fun c_3 => ?_)
  · have h := ite_f c_3 h
    refine lv_aload_n hx hb dX11_known_14 rfl (lv_at hv 0 rfl) ?_
    refine va_get (D := D) (ci := 11) (v := .ref (hd 0)) (C := RX11) (T := TX11) (N := 9) hx hb hts in_11 hown hK hP 0 rfl rfl 0 (by decide) w_0 (fun _ h9 => h9) rfl dX11_known_15 ?_
    refine va_get (D := D) (ci := 3) (v := .int h_known) (C := RX3) (T := TX3) (N := 18) hx hb hts in_3 hown hK hP 14 rfl rfl 2 (by decide) w_1 (fun _ h9 => h9) rfl dX11_known_18 ?_
    refine lv_istore_n (lv' := [(2, .int h_known), (0, .ref (xd 0)), (1, .int a)]) hx hb dX11_known_21 rfl hv (by decide) rfl (fun ls hv => ?_)
    refine lv_aload_n hx hb dX11_known_22 rfl (lv_at hv 1 rfl) ?_
    refine va_get (D := D) (ci := 11) (v := .ref (hd 0)) (C := RX11) (T := TX11) (N := 9) hx hb hts in_11 hown hK hP 0 rfl rfl 0 (by decide) w_0 (fun _ h9 => h9) rfl dX11_known_23 ?_
    refine lv_iload_n hx hb dX11_known_26 rfl (lv_at hv 2 rfl) ?_
    refine va_put (D := D) (ci := 3) (v := .int a) (ty := .int) (C := RX3) (T := TX3) (N := 18) hx hb hts in_3 tyX3 tyX3_ok nmX3 hown hK hP hD hS 14 rfl rfl 2 (by decide) w_1 (fun _ h9 => h9) rfl (by decide +kernel) rfl rfl (Nat.le_of_ble_eq_true rfl) dX11_known_27 (fun H locs hP hD hS => ?_)
    have hP : va_P D vwCl (wX cA xd vd sd nd hd td ed kd images errors fewest vspoon vmark vcount vbodies sbits slens snum h_weight a h_hour h_swS h_swW h_waS h_spoons h_kind h_mark h_silver h_fresh h_texts h_tape h_tapeCount h_z h_waiting h_waitingCount t_weight t_known t_hour t_swS t_swW t_waS t_spoons t_kind t_mark t_silver t_fresh t_texts t_tape t_tapeCount t_z t_waiting t_waitingCount e_weight e_known e_hour e_swS e_swW e_waS e_spoons e_kind e_mark e_silver e_fresh e_texts e_tape e_tapeCount e_z e_waiting e_waitingCount L tx tst) H := hP
    have hD : va_D A (wX cA xd vd sd nd hd td ed kd images errors fewest vspoon vmark vcount vbodies sbits slens snum h_weight a h_hour h_swS h_swW h_waS h_spoons h_kind h_mark h_silver h_fresh h_texts h_tape h_tapeCount h_z h_waiting h_waitingCount t_weight t_known t_hour t_swS t_swW t_waS t_spoons t_kind t_mark t_silver t_fresh t_texts t_tape t_tapeCount t_z t_waiting t_waitingCount e_weight e_known e_hour e_swS e_swW e_waS e_spoons e_kind e_mark e_silver e_fresh e_texts e_tape e_tapeCount e_z e_waiting e_waitingCount L tx tst) := hD
    refine lv_iload_n hx hb dX11_known_30 rfl (lv_at hv 0 rfl) ?_
    have h := Option.some.inj h
    have ee0 : h_known = rR := congrArg (fun q => q.1) h
    have ee1 : errors = errorsR := congrArg (fun q => q.2.1) h
    have ee2 : a = h_knownR := congrArg (fun q => q.2.2) h
    subst ee0
    subst ee1
    subst ee2
    rw [← hQ]
    exact retI hx hb hr hlk hK hP hD hS dX11_known_31 ⟨Nat.le_of_ble_eq_true rfl, Nat.le_of_ble_eq_true rfl⟩
  · have h := ite_t c_3 h
    refine lv_aload_n hx hb dX11_known_7 rfl (lv_at hv 0 rfl) ?_
    refine lv_ldc (v := (-1000000001 : Int32)) hx hb hown w_2 dX11_known_8 ?_
    obtain ⟨⟨r_4, errors_5⟩, hf_6, h⟩ := bd_ex h
    have sb := Sb.same hP hD hS hA
    refine calI (va_runV (As := [.int (-1000000001 : Int32)]) (rest := []) ⟨hx, hb, hml, hown, hts⟩ (c_X11_refused l G D cA xd vd sd nd hd td ed kd _ images errors fewest vspoon vmark vcount vbodies sbits slens snum h_weight h_known h_hour h_swS h_swW h_waS h_spoons h_kind h_mark h_silver h_fresh h_texts h_tape h_tapeCount h_z h_waiting h_waitingCount t_weight t_known t_hour t_swS t_swW t_waS t_spoons t_kind t_mark t_silver t_fresh t_texts t_tape t_tapeCount t_z t_waiting t_waitingCount e_weight e_known e_hour e_swS e_swW e_waS e_spoons e_kind e_mark e_silver e_fresh e_texts e_tape e_tapeCount e_z e_waiting e_waitingCount L tx tst (-1000000001 : Int32) r_4 errors_5 hf_6) (cwV 1 hts gX11_known_X11_refused rfl rfl rfl (by decide +kernel) ⟨Nat.le_of_ble_eq_true rfl, Nat.le_of_ble_eq_true rfl⟩) (pvV hE hK hS sb (va_recv hK hP (ci := 11) (q0 := 0) rfl rfl)) rfl rfl hv.1 rfl (lv_room (Nat.le_of_ble_eq_true rfl)) dX11_known_10 ⟨Nat.le_of_ble_eq_true rfl, Nat.le_of_ble_eq_true rfl⟩) hS sb (Jn.same sb) (fun H locs hP hD hS => ?_)
    have hP : va_P D vwCl (wX cA xd vd sd nd hd td ed kd images errors_5 fewest vspoon vmark vcount vbodies sbits slens snum h_weight h_known h_hour h_swS h_swW h_waS h_spoons h_kind h_mark h_silver h_fresh h_texts h_tape h_tapeCount h_z h_waiting h_waitingCount t_weight t_known t_hour t_swS t_swW t_waS t_spoons t_kind t_mark t_silver t_fresh t_texts t_tape t_tapeCount t_z t_waiting t_waitingCount e_weight e_known e_hour e_swS e_swW e_waS e_spoons e_kind e_mark e_silver e_fresh e_texts e_tape e_tapeCount e_z e_waiting e_waitingCount L tx tst) H := hP
    have hD : va_D A (wX cA xd vd sd nd hd td ed kd images errors_5 fewest vspoon vmark vcount vbodies sbits slens snum h_weight h_known h_hour h_swS h_swW h_waS h_spoons h_kind h_mark h_silver h_fresh h_texts h_tape h_tapeCount h_z h_waiting h_waitingCount t_weight t_known t_hour t_swS t_swW t_waS t_spoons t_kind t_mark t_silver t_fresh t_texts t_tape t_tapeCount t_z t_waiting t_waitingCount e_weight e_known e_hour e_swS e_swW e_waS e_spoons e_kind e_mark e_silver e_fresh e_texts e_tape e_tapeCount e_z e_waiting e_waitingCount L tx tst) := hD
    have h := Option.some.inj h
    have ee0 : r_4 = rR := congrArg (fun q => q.1) h
    have ee1 : errors_5 = errorsR := congrArg (fun q => q.2.1) h
    have ee2 : h_known = h_knownR := congrArg (fun q => q.2.2) h
    subst ee0
    subst ee1
    subst ee2
    rw [← hQ]
    exact retI hx hb hr hlk hK hP hD hS dX11_known_13 ⟨Nat.le_of_ble_eq_true rfl, Nat.le_of_ble_eq_true rfl⟩

def fX11_swallow_23 (errors_23 : Nat → Int32) (h_swS_23 : Nat → Int32) (h_swW_23 : Nat → Int32) : Option (Int32 × (Nat → Int32) × (Nat → Int32) × (Nat → Int32)) :=
  bd (fX11_refused (-1000000001 : Int32) errors_23) fun (r_4, errors_5) => some (r_4, errors_5, h_swS_23, h_swW_23)
def fX11_swallow (a : Int32) (b : Int32) (k : Int32) (errors : Nat → Int32) (h_swS : Nat → Int32) (h_swW : Nat → Int32) : Option (Int32 × (Nat → Int32) × (Nat → Int32) × (Nat → Int32)) :=
  bd (fX11_within a (0 : Int32) (5 : Int32)) fun r_1 => (if r_1 = 0 then fX11_swallow_23 errors h_swS h_swW else bd (fX11_mayBeListed b) fun r_7 => (if r_7 = 0 then fX11_swallow_23 errors h_swS h_swW else bd (fX11_isWord k) fun r_10 => (if r_10 = 0 then fX11_swallow_23 errors h_swS h_swW else bd (fX3_swallowAt a h_swS h_swW) fun r_13 => ckI a 6 (bnd (upd h_swS (a).toNatClampNeg b) fun h_swS_16 => ckI a 6 (bnd (upd h_swW (a).toNatClampNeg k) fun h_swW_18 => some (r_13, errors, h_swS_16, h_swW_18))))))
set_option maxHeartbeats 4000000 in
set_option maxRecDepth 100000 in
theorem c_X11_swallow (l : Launch) (G : Nat → Nat) (D : va_G) (cA : Nat → ClassId) (xd : Nat → Nat) (vd : Nat → Nat) (sd : Nat → Nat) (nd : Nat → Nat) (hd : Nat → Nat) (td : Nat → Nat) (ed : Nat → Nat) (kd : Nat → Nat) (sz : Nat) (images : Int32) (errors : Nat → Int32) (fewest : Nat → Int32) (vspoon : Int32) (vmark : Int32) (vcount : Int32) (vbodies : Nat → Int32) (sbits : Nat → Int32) (slens : Nat → Int32) (snum : Nat → Nat → Int32) (h_weight : Nat → Int32) (h_known : Int32) (h_hour : Int32) (h_swS : Nat → Int32) (h_swW : Nat → Int32) (h_waS : Nat → Int32) (h_spoons : Int32) (h_kind : Nat → Int32) (h_mark : Nat → Int32) (h_silver : Nat → Int32) (h_fresh : Nat → Int64) (h_texts : Nat → Option Nat) (h_tape : Nat → Int32) (h_tapeCount : Int32) (h_z : Int32) (h_waiting : Nat → Int32) (h_waitingCount : Int32) (t_weight : Nat → Int32) (t_known : Int32) (t_hour : Int32) (t_swS : Nat → Int32) (t_swW : Nat → Int32) (t_waS : Nat → Int32) (t_spoons : Int32) (t_kind : Nat → Int32) (t_mark : Nat → Int32) (t_silver : Nat → Int32) (t_fresh : Nat → Int64) (t_texts : Nat → Option Nat) (t_tape : Nat → Int32) (t_tapeCount : Int32) (t_z : Int32) (t_waiting : Nat → Int32) (t_waitingCount : Int32) (e_weight : Nat → Int32) (e_known : Int32) (e_hour : Int32) (e_swS : Nat → Int32) (e_swW : Nat → Int32) (e_waS : Nat → Int32) (e_spoons : Int32) (e_kind : Nat → Int32) (e_mark : Nat → Int32) (e_silver : Nat → Int32) (e_fresh : Nat → Int64) (e_texts : Nat → Option Nat) (e_tape : Nat → Int32) (e_tapeCount : Int32) (e_z : Int32) (e_waiting : Nat → Int32) (e_waitingCount : Int32) (L : List Nat) (tx : Nat → TXc) (tst : Nat → Nat → Int32) (a : Int32) (b : Int32) (k : Int32) (rR : Int32) (errorsR : Nat → Int32) (h_swSR : Nat → Int32) (h_swWR : Nat → Int32) (h : fX11_swallow a b k errors h_swS h_swW = some (rR, errorsR, h_swSR, h_swWR)) : Met l yX11_swallow wsX11_swallow ({ frames := 2, cells := 0, slots := 0, locals := 42 } : Room) (PW G D (tyC cA) sz (wX cA xd vd sd nd hd td ed kd images errors fewest vspoon vmark vcount vbodies sbits slens snum h_weight h_known h_hour h_swS h_swW h_waS h_spoons h_kind h_mark h_silver h_fresh h_texts h_tape h_tapeCount h_z h_waiting h_waitingCount t_weight t_known t_hour t_swS t_swW t_waS t_spoons t_kind t_mark t_silver t_fresh t_texts t_tape t_tapeCount t_z t_waiting t_waitingCount e_weight e_known e_hour e_swS e_swW e_waS e_spoons e_kind e_mark e_silver e_fresh e_texts e_tape e_tapeCount e_z e_waiting e_waitingCount L tx tst) [.ref (xd 0), .int a, .int b, .int k]) (QI D (tyC cA) (va_A (wX cA xd vd sd nd hd td ed kd images errors fewest vspoon vmark vcount vbodies sbits slens snum h_weight h_known h_hour h_swS h_swW h_waS h_spoons h_kind h_mark h_silver h_fresh h_texts h_tape h_tapeCount h_z h_waiting h_waitingCount t_weight t_known t_hour t_swS t_swW t_waS t_spoons t_kind t_mark t_silver t_fresh t_texts t_tape t_tapeCount t_z t_waiting t_waitingCount e_weight e_known e_hour e_swS e_swW e_waS e_spoons e_kind e_mark e_silver e_fresh e_texts e_tape e_tapeCount e_z e_waiting e_waitingCount L tx tst) sz) rR (wX cA xd vd sd nd hd td ed kd images errorsR fewest vspoon vmark vcount vbodies sbits slens snum h_weight h_known h_hour h_swSR h_swWR h_waS h_spoons h_kind h_mark h_silver h_fresh h_texts h_tape h_tapeCount h_z h_waiting h_waitingCount t_weight t_known t_hour t_swS t_swW t_waS t_spoons t_kind t_mark t_silver t_fresh t_texts t_tape t_tapeCount t_z t_waiting t_waitingCount e_weight e_known e_hour e_swS e_swW e_waS e_spoons e_kind e_mark e_silver e_fresh e_texts e_tape e_tapeCount e_z e_waiting e_waitingCount L tx tst)) 0 0 (va_A (wX cA xd vd sd nd hd td ed kd images errors fewest vspoon vmark vcount vbodies sbits slens snum h_weight h_known h_hour h_swS h_swW h_waS h_spoons h_kind h_mark h_silver h_fresh h_texts h_tape h_tapeCount h_z h_waiting h_waitingCount t_weight t_known t_hour t_swS t_swW t_waS t_spoons t_kind t_mark t_silver t_fresh t_texts t_tape t_tapeCount t_z t_waiting t_waitingCount e_weight e_known e_hour e_swS e_swW e_waS e_spoons e_kind e_mark e_silver e_fresh e_texts e_tape e_tapeCount e_z e_waiting e_waitingCount L tx tst) sz) := by
  refine ent (cc := cX11_swallow) (maxL := 5) (ret := (some .int)) (fun A => QI D (tyC cA) A rR (wX cA xd vd sd nd hd td ed kd images errorsR fewest vspoon vmark vcount vbodies sbits slens snum h_weight h_known h_hour h_swSR h_swWR h_waS h_spoons h_kind h_mark h_silver h_fresh h_texts h_tape h_tapeCount h_z h_waiting h_waitingCount t_weight t_known t_hour t_swS t_swW t_waS t_spoons t_kind t_mark t_silver t_fresh t_texts t_tape t_tapeCount t_z t_waiting t_waitingCount e_weight e_known e_hour e_swS e_swW e_waS e_spoons e_kind e_mark e_silver e_fresh e_texts e_tape e_tapeCount e_z e_waiting e_waitingCount L tx tst)) (by decide +kernel) rfl (Nat.le_of_ble_eq_true rfl) ?_
  intro p e s m args below meth c A ls H hx hb hml hr hlk hts hown hA hK hE hP hD hS hv hmm
  have hv : lv_has ls 5 [(0, .ref (xd 0)), (1, .int a), (2, .int b), (3, .int k)] := hv
  have in_3 : ∀ w ∈ u_ws RX3 TX3 18, w ∈ wsX11_swallow := fun _ h => List.mem_cons_of_mem _ (List.mem_append_right _ h)
  have in_11 : ∀ w ∈ u_ws RX11 TX11 9, w ∈ wsX11_swallow := fun _ h => List.mem_cons_of_mem _ (List.mem_append_left _ (List.mem_append_right _ h))
  have w_0 := hts (.constant RX11 78 (-1000000001)) (List.mem_of_getElem? (i := 1) rfl)
  have w_1 := hts (.fieldLink RX11 39 "SpoonsLast" "house" "LSpoonsLast$House;") (List.mem_of_getElem? (i := 2) rfl)
  have w_2 := hts (.fieldLink RX11 102 "SpoonsLast$House" "swallowSpoon" "[I") (List.mem_of_getElem? (i := 3) rfl)
  have w_3 := hts (.fieldLink RX11 105 "SpoonsLast$House" "swallowWord" "[I") (List.mem_of_getElem? (i := 4) rfl)
  generalize hQ : MQ below _ args s 0 0 A = Q
  have C_23 : ∀ (errors_23 : Nat → Int32) (h_swS_23 : Nat → Int32) (h_swW_23 : Nat → Int32), fX11_swallow_23 errors_23 h_swS_23 h_swW_23 = some (rR, errorsR, h_swSR, h_swWR) → WW p l e ({ frames := 2, cells := 0, slots := 0, locals := 42 } : Room) s m args below meth c D A 0 0 Q (wX cA xd vd sd nd hd td ed kd images errors_23 fewest vspoon vmark vcount vbodies sbits slens snum h_weight h_known h_hour h_swS_23 h_swW_23 h_waS h_spoons h_kind h_mark h_silver h_fresh h_texts h_tape h_tapeCount h_z h_waiting h_waitingCount t_weight t_known t_hour t_swS t_swW t_waS t_spoons t_kind t_mark t_silver t_fresh t_texts t_tape t_tapeCount t_z t_waiting t_waitingCount e_weight e_known e_hour e_swS e_swW e_waS e_spoons e_kind e_mark e_silver e_fresh e_texts e_tape e_tapeCount e_z e_waiting e_waitingCount L tx tst) 5 [(0, .ref (xd 0))] 23 [] := by
    intro errors_23 h_swS_23 h_swW_23 h
    unfold fX11_swallow_23 at h
    intro H locs ls hP hD hS hv
    refine lv_aload_n hx hb dX11_swallow_23 rfl (lv_at hv 0 rfl) ?_
    refine lv_ldc (v := (-1000000001 : Int32)) hx hb hown w_0 dX11_swallow_24 ?_
    obtain ⟨⟨r_4, errors_5⟩, hf_6, h⟩ := bd_ex h
    have sb := Sb.same hP hD hS hA
    refine calI (va_runV (As := [.int (-1000000001 : Int32)]) (rest := []) ⟨hx, hb, hml, hown, hts⟩ (c_X11_refused l G D cA xd vd sd nd hd td ed kd _ images errors_23 fewest vspoon vmark vcount vbodies sbits slens snum h_weight h_known h_hour h_swS_23 h_swW_23 h_waS h_spoons h_kind h_mark h_silver h_fresh h_texts h_tape h_tapeCount h_z h_waiting h_waitingCount t_weight t_known t_hour t_swS t_swW t_waS t_spoons t_kind t_mark t_silver t_fresh t_texts t_tape t_tapeCount t_z t_waiting t_waitingCount e_weight e_known e_hour e_swS e_swW e_waS e_spoons e_kind e_mark e_silver e_fresh e_texts e_tape e_tapeCount e_z e_waiting e_waitingCount L tx tst (-1000000001 : Int32) r_4 errors_5 hf_6) (cwV 1 hts gX11_swallow_X11_refused rfl rfl rfl (by decide +kernel) ⟨Nat.le_of_ble_eq_true rfl, Nat.le_of_ble_eq_true rfl⟩) (pvV hE hK hS sb (va_recv hK hP (ci := 11) (q0 := 0) rfl rfl)) rfl rfl hv.1 rfl (lv_room (Nat.le_of_ble_eq_true rfl)) dX11_swallow_26 ⟨Nat.le_of_ble_eq_true rfl, Nat.le_of_ble_eq_true rfl⟩) hS sb (Jn.same sb) (fun H locs hP hD hS => ?_)
    have hP : va_P D vwCl (wX cA xd vd sd nd hd td ed kd images errors_5 fewest vspoon vmark vcount vbodies sbits slens snum h_weight h_known h_hour h_swS_23 h_swW_23 h_waS h_spoons h_kind h_mark h_silver h_fresh h_texts h_tape h_tapeCount h_z h_waiting h_waitingCount t_weight t_known t_hour t_swS t_swW t_waS t_spoons t_kind t_mark t_silver t_fresh t_texts t_tape t_tapeCount t_z t_waiting t_waitingCount e_weight e_known e_hour e_swS e_swW e_waS e_spoons e_kind e_mark e_silver e_fresh e_texts e_tape e_tapeCount e_z e_waiting e_waitingCount L tx tst) H := hP
    have hD : va_D A (wX cA xd vd sd nd hd td ed kd images errors_5 fewest vspoon vmark vcount vbodies sbits slens snum h_weight h_known h_hour h_swS_23 h_swW_23 h_waS h_spoons h_kind h_mark h_silver h_fresh h_texts h_tape h_tapeCount h_z h_waiting h_waitingCount t_weight t_known t_hour t_swS t_swW t_waS t_spoons t_kind t_mark t_silver t_fresh t_texts t_tape t_tapeCount t_z t_waiting t_waitingCount e_weight e_known e_hour e_swS e_swW e_waS e_spoons e_kind e_mark e_silver e_fresh e_texts e_tape e_tapeCount e_z e_waiting e_waitingCount L tx tst) := hD
    have h := Option.some.inj h
    have ee0 : r_4 = rR := congrArg (fun q => q.1) h
    have ee1 : errors_5 = errorsR := congrArg (fun q => q.2.1) h
    have ee2 : h_swS_23 = h_swSR := congrArg (fun q => q.2.2.1) h
    have ee3 : h_swW_23 = h_swWR := congrArg (fun q => q.2.2.2) h
    subst ee0
    subst ee1
    subst ee2
    subst ee3
    rw [← hQ]
    exact retI hx hb hr hlk hK hP hD hS dX11_swallow_29 ⟨Nat.le_of_ble_eq_true rfl, Nat.le_of_ble_eq_true rfl⟩
  have hP : va_P D vwCl (wX cA xd vd sd nd hd td ed kd images errors fewest vspoon vmark vcount vbodies sbits slens snum h_weight h_known h_hour h_swS h_swW h_waS h_spoons h_kind h_mark h_silver h_fresh h_texts h_tape h_tapeCount h_z h_waiting h_waitingCount t_weight t_known t_hour t_swS t_swW t_waS t_spoons t_kind t_mark t_silver t_fresh t_texts t_tape t_tapeCount t_z t_waiting t_waitingCount e_weight e_known e_hour e_swS e_swW e_waS e_spoons e_kind e_mark e_silver e_fresh e_texts e_tape e_tapeCount e_z e_waiting e_waitingCount L tx tst) H := hP
  unfold fX11_swallow at h
  refine lv_iload_n hx hb dX11_swallow_0 rfl (lv_at hv 1 rfl) ?_
  refine lv_iconst (v := (0 : Int32)) hx hb dX11_swallow_1 (by decide) ?_
  refine lv_iconst (v := (5 : Int32)) hx hb dX11_swallow_2 (by decide) ?_
  obtain ⟨r_1, hf_2, h⟩ := bd_ex h
  have sb := Sb.nil hP hD hS hA
  refine calI (va_runS (As := [.int a, .int (0 : Int32), .int (5 : Int32)]) (rest := []) ⟨hx, hb, hml, hown, hts⟩ (c_X11_within l G D cA  _ a (0 : Int32) (5 : Int32) r_1 hf_2) (va_cwS 3 hts gX11_swallow_X11_within rfl rfl rfl (by decide +kernel) ⟨Nat.le_of_ble_eq_true rfl, Nat.le_of_ble_eq_true rfl⟩) (pvS hE hK hS sb) rfl rfl hv.1 rfl (lv_room (Nat.le_of_ble_eq_true rfl)) dX11_swallow_3 ⟨Nat.le_of_ble_eq_true rfl, Nat.le_of_ble_eq_true rfl⟩) hS sb (Jn.nil hP hD) (fun H locs hP hD hS => ?_)
  have hP : va_P D vwCl (wX cA xd vd sd nd hd td ed kd images errors fewest vspoon vmark vcount vbodies sbits slens snum h_weight h_known h_hour h_swS h_swW h_waS h_spoons h_kind h_mark h_silver h_fresh h_texts h_tape h_tapeCount h_z h_waiting h_waitingCount t_weight t_known t_hour t_swS t_swW t_waS t_spoons t_kind t_mark t_silver t_fresh t_texts t_tape t_tapeCount t_z t_waiting t_waitingCount e_weight e_known e_hour e_swS e_swW e_waS e_spoons e_kind e_mark e_silver e_fresh e_texts e_tape e_tapeCount e_z e_waiting e_waitingCount L tx tst) H := hP
  have hD : va_D A (wX cA xd vd sd nd hd td ed kd images errors fewest vspoon vmark vcount vbodies sbits slens snum h_weight h_known h_hour h_swS h_swW h_waS h_spoons h_kind h_mark h_silver h_fresh h_texts h_tape h_tapeCount h_z h_waiting h_waitingCount t_weight t_known t_hour t_swS t_swW t_waS t_spoons t_kind t_mark t_silver t_fresh t_texts t_tape t_tapeCount t_z t_waiting t_waitingCount e_weight e_known e_hour e_swS e_swW e_waS e_spoons e_kind e_mark e_silver e_fresh e_texts e_tape e_tapeCount e_z e_waiting e_waitingCount L tx tst) := hD
  refine lv_if_eq (tgt := 23) hx hb dX11_swallow_6 (by decide) (fun c_3 => ?_) (fun c_3 => ?_)
  · have h := ite_t c_3 h
    exact C_23 errors h_swS h_swW h _ _ _ hP hD hS (lv_sub hv [0] rfl)
  · have h := ite_f c_3 h
    refine lv_iload_n hx hb dX11_swallow_9 rfl (lv_at hv 2 rfl) ?_
    obtain ⟨r_7, hf_8, h⟩ := bd_ex h
    have sb := Sb.nil hP hD hS hA
    refine calI (va_runS (As := [.int b]) (rest := []) ⟨hx, hb, hml, hown, hts⟩ (c_X11_mayBeListed l G D cA  _ b r_7 hf_8) (va_cwS 1 hts gX11_swallow_X11_mayBeListed rfl rfl rfl (by decide +kernel) ⟨Nat.le_of_ble_eq_true rfl, Nat.le_of_ble_eq_true rfl⟩) (pvS hE hK hS sb) rfl rfl hv.1 rfl (lv_room (Nat.le_of_ble_eq_true rfl)) dX11_swallow_10 ⟨Nat.le_of_ble_eq_true rfl, Nat.le_of_ble_eq_true rfl⟩) hS sb (Jn.nil hP hD) (fun H locs hP hD hS => ?_)
    have hP : va_P D vwCl (wX cA xd vd sd nd hd td ed kd images errors fewest vspoon vmark vcount vbodies sbits slens snum h_weight h_known h_hour h_swS h_swW h_waS h_spoons h_kind h_mark h_silver h_fresh h_texts h_tape h_tapeCount h_z h_waiting h_waitingCount t_weight t_known t_hour t_swS t_swW t_waS t_spoons t_kind t_mark t_silver t_fresh t_texts t_tape t_tapeCount t_z t_waiting t_waitingCount e_weight e_known e_hour e_swS e_swW e_waS e_spoons e_kind e_mark e_silver e_fresh e_texts e_tape e_tapeCount e_z e_waiting e_waitingCount L tx tst) H := hP
    have hD : va_D A (wX cA xd vd sd nd hd td ed kd images errors fewest vspoon vmark vcount vbodies sbits slens snum h_weight h_known h_hour h_swS h_swW h_waS h_spoons h_kind h_mark h_silver h_fresh h_texts h_tape h_tapeCount h_z h_waiting h_waitingCount t_weight t_known t_hour t_swS t_swW t_waS t_spoons t_kind t_mark t_silver t_fresh t_texts t_tape t_tapeCount t_z t_waiting t_waitingCount e_weight e_known e_hour e_swS e_swW e_waS e_spoons e_kind e_mark e_silver e_fresh e_texts e_tape e_tapeCount e_z e_waiting e_waitingCount L tx tst) := hD
    refine lv_if_eq (tgt := 23) hx hb dX11_swallow_13 (by decide) (fun c_9 => ?_) (fun c_9 => ?_)
    · have h := ite_t c_9 h
      exact C_23 errors h_swS h_swW h _ _ _ hP hD hS (lv_sub hv [0] rfl)
    · have h := ite_f c_9 h
      refine lv_iload_n hx hb dX11_swallow_16 rfl (lv_at hv 3 rfl) ?_
      obtain ⟨r_10, hf_11, h⟩ := bd_ex h
      have sb := Sb.nil hP hD hS hA
      refine calI (va_runS (As := [.int k]) (rest := []) ⟨hx, hb, hml, hown, hts⟩ (c_X11_isWord l G D cA  _ k r_10 hf_11) (va_cwS 1 hts gX11_swallow_X11_isWord rfl rfl rfl (by decide +kernel) ⟨Nat.le_of_ble_eq_true rfl, Nat.le_of_ble_eq_true rfl⟩) (pvS hE hK hS sb) rfl rfl hv.1 rfl (lv_room (Nat.le_of_ble_eq_true rfl)) dX11_swallow_17 ⟨Nat.le_of_ble_eq_true rfl, Nat.le_of_ble_eq_true rfl⟩) hS sb (Jn.nil hP hD) (fun H locs hP hD hS => ?_)
      have hP : va_P D vwCl (wX cA xd vd sd nd hd td ed kd images errors fewest vspoon vmark vcount vbodies sbits slens snum h_weight h_known h_hour h_swS h_swW h_waS h_spoons h_kind h_mark h_silver h_fresh h_texts h_tape h_tapeCount h_z h_waiting h_waitingCount t_weight t_known t_hour t_swS t_swW t_waS t_spoons t_kind t_mark t_silver t_fresh t_texts t_tape t_tapeCount t_z t_waiting t_waitingCount e_weight e_known e_hour e_swS e_swW e_waS e_spoons e_kind e_mark e_silver e_fresh e_texts e_tape e_tapeCount e_z e_waiting e_waitingCount L tx tst) H := hP
      have hD : va_D A (wX cA xd vd sd nd hd td ed kd images errors fewest vspoon vmark vcount vbodies sbits slens snum h_weight h_known h_hour h_swS h_swW h_waS h_spoons h_kind h_mark h_silver h_fresh h_texts h_tape h_tapeCount h_z h_waiting h_waitingCount t_weight t_known t_hour t_swS t_swW t_waS t_spoons t_kind t_mark t_silver t_fresh t_texts t_tape t_tapeCount t_z t_waiting t_waitingCount e_weight e_known e_hour e_swS e_swW e_waS e_spoons e_kind e_mark e_silver e_fresh e_texts e_tape e_tapeCount e_z e_waiting e_waitingCount L tx tst) := hD
      refine lv_if_ne (tgt := 30) hx hb dX11_swallow_20 (by decide) (fun c_12 => ?_) (fun c_12 => ?_)
      · have h := ite_f c_12 h
        refine lv_aload_n hx hb dX11_swallow_30 rfl (lv_at hv 0 rfl) ?_
        refine va_get (D := D) (ci := 11) (v := .ref (hd 0)) (C := RX11) (T := TX11) (N := 9) hx hb hts in_11 hown hK hP 0 rfl rfl 0 (by decide) w_1 (fun _ h9 => h9) rfl dX11_swallow_31 ?_
        refine lv_iload_n hx hb dX11_swallow_34 rfl (lv_at hv 1 rfl) ?_
        obtain ⟨r_13, hf_14, h⟩ := bd_ex h
        have sb : Sb D A H (wH cA hd kd h_weight h_known h_hour h_swS h_swW h_waS h_spoons h_kind h_mark h_silver h_fresh h_texts h_tape h_tapeCount h_z h_waiting h_waitingCount L tx tst) := sbXh hP hD hS hA
        refine calI (va_runV (As := [.int a]) (rest := []) ⟨hx, hb, hml, hown, hts⟩ (c_X3_swallowAt l G D cA hd kd _ h_weight h_known h_hour h_swS h_swW h_waS h_spoons h_kind h_mark h_silver h_fresh h_texts h_tape h_tapeCount h_z h_waiting h_waitingCount L tx tst a r_13 hf_14) (cwV 1 hts gX11_swallow_X3_swallowAt rfl rfl rfl (by decide +kernel) ⟨Nat.le_of_ble_eq_true rfl, Nat.le_of_ble_eq_true rfl⟩) (pvV hE hK hS sb (va_recv hK hP (ci := 3) (q0 := 14) rfl rfl)) rfl rfl hv.1 rfl (lv_room (Nat.le_of_ble_eq_true rfl)) dX11_swallow_35 ⟨Nat.le_of_ble_eq_true rfl, Nat.le_of_ble_eq_true rfl⟩) hS sb (jnXh hP hD) (fun H locs hP hD hS => ?_)
        have hP : va_P D vwCl (wX cA xd vd sd nd hd td ed kd images errors fewest vspoon vmark vcount vbodies sbits slens snum h_weight h_known h_hour h_swS h_swW h_waS h_spoons h_kind h_mark h_silver h_fresh h_texts h_tape h_tapeCount h_z h_waiting h_waitingCount t_weight t_known t_hour t_swS t_swW t_waS t_spoons t_kind t_mark t_silver t_fresh t_texts t_tape t_tapeCount t_z t_waiting t_waitingCount e_weight e_known e_hour e_swS e_swW e_waS e_spoons e_kind e_mark e_silver e_fresh e_texts e_tape e_tapeCount e_z e_waiting e_waitingCount L tx tst) H := hP
        have hD : va_D A (wX cA xd vd sd nd hd td ed kd images errors fewest vspoon vmark vcount vbodies sbits slens snum h_weight h_known h_hour h_swS h_swW h_waS h_spoons h_kind h_mark h_silver h_fresh h_texts h_tape h_tapeCount h_z h_waiting h_waitingCount t_weight t_known t_hour t_swS t_swW t_waS t_spoons t_kind t_mark t_silver t_fresh t_texts t_tape t_tapeCount t_z t_waiting t_waitingCount e_weight e_known e_hour e_swS e_swW e_waS e_spoons e_kind e_mark e_silver e_fresh e_texts e_tape e_tapeCount e_z e_waiting e_waitingCount L tx tst) := hD
        refine lv_istore (lv' := [(4, .int r_13), (0, .ref (xd 0)), (1, .int a), (2, .int b), (3, .int k)]) hx hb dX11_swallow_38 hv (by decide) rfl (fun ls hv => ?_)
        refine lv_aload_n hx hb dX11_swallow_40 rfl (lv_at hv 1 rfl) ?_
        refine va_get (D := D) (ci := 11) (v := .ref (hd 0)) (C := RX11) (T := TX11) (N := 9) hx hb hts in_11 hown hK hP 0 rfl rfl 0 (by decide) w_1 (fun _ h9 => h9) rfl dX11_swallow_41 ?_
        refine va_get (D := D) (ci := 3) (v := .ref (hd 5)) (C := RX3) (T := TX3) (N := 18) hx hb hts in_3 hown hK hP 14 rfl rfl 4 (by decide) w_2 (fun _ h9 => h9) rfl dX11_swallow_44 ?_
        refine lv_iload_n hx hb dX11_swallow_47 rfl (lv_at hv 2 rfl) ?_
        refine lv_iload_n hx hb dX11_swallow_48 rfl (lv_at hv 3 rfl) ?_
        obtain ⟨c_15, h⟩ := ckI_ex h
        obtain ⟨h_swS_16, eh_swS_16, h⟩ := bnd_ex h
        refine va_iast (D := D) hx hb hK hP hD hS 16 0 rfl rfl c_15 dX11_swallow_49 (fun H locs hP hD hS => ?_)
        rw [← eh_swS_16] at hP hD
        have hP : va_P D vwCl (wX cA xd vd sd nd hd td ed kd images errors fewest vspoon vmark vcount vbodies sbits slens snum h_weight h_known h_hour h_swS_16 h_swW h_waS h_spoons h_kind h_mark h_silver h_fresh h_texts h_tape h_tapeCount h_z h_waiting h_waitingCount t_weight t_known t_hour t_swS t_swW t_waS t_spoons t_kind t_mark t_silver t_fresh t_texts t_tape t_tapeCount t_z t_waiting t_waitingCount e_weight e_known e_hour e_swS e_swW e_waS e_spoons e_kind e_mark e_silver e_fresh e_texts e_tape e_tapeCount e_z e_waiting e_waitingCount L tx tst) H := hP
        have hD : va_D A (wX cA xd vd sd nd hd td ed kd images errors fewest vspoon vmark vcount vbodies sbits slens snum h_weight h_known h_hour h_swS_16 h_swW h_waS h_spoons h_kind h_mark h_silver h_fresh h_texts h_tape h_tapeCount h_z h_waiting h_waitingCount t_weight t_known t_hour t_swS t_swW t_waS t_spoons t_kind t_mark t_silver t_fresh t_texts t_tape t_tapeCount t_z t_waiting t_waitingCount e_weight e_known e_hour e_swS e_swW e_waS e_spoons e_kind e_mark e_silver e_fresh e_texts e_tape e_tapeCount e_z e_waiting e_waitingCount L tx tst) := hD
        refine lv_aload_n hx hb dX11_swallow_50 rfl (lv_at hv 1 rfl) ?_
        refine va_get (D := D) (ci := 11) (v := .ref (hd 0)) (C := RX11) (T := TX11) (N := 9) hx hb hts in_11 hown hK hP 0 rfl rfl 0 (by decide) w_1 (fun _ h9 => h9) rfl dX11_swallow_51 ?_
        refine va_get (D := D) (ci := 3) (v := .ref (hd 6)) (C := RX3) (T := TX3) (N := 18) hx hb hts in_3 hown hK hP 14 rfl rfl 5 (by decide) w_3 (fun _ h9 => h9) rfl dX11_swallow_54 ?_
        refine lv_iload_n hx hb dX11_swallow_57 rfl (lv_at hv 2 rfl) ?_
        refine lv_iload_n hx hb dX11_swallow_58 rfl (lv_at hv 4 rfl) ?_
        obtain ⟨c_17, h⟩ := ckI_ex h
        obtain ⟨h_swW_18, eh_swW_18, h⟩ := bnd_ex h
        refine va_iast (D := D) hx hb hK hP hD hS 17 0 rfl rfl c_17 dX11_swallow_59 (fun H locs hP hD hS => ?_)
        rw [← eh_swW_18] at hP hD
        have hP : va_P D vwCl (wX cA xd vd sd nd hd td ed kd images errors fewest vspoon vmark vcount vbodies sbits slens snum h_weight h_known h_hour h_swS_16 h_swW_18 h_waS h_spoons h_kind h_mark h_silver h_fresh h_texts h_tape h_tapeCount h_z h_waiting h_waitingCount t_weight t_known t_hour t_swS t_swW t_waS t_spoons t_kind t_mark t_silver t_fresh t_texts t_tape t_tapeCount t_z t_waiting t_waitingCount e_weight e_known e_hour e_swS e_swW e_waS e_spoons e_kind e_mark e_silver e_fresh e_texts e_tape e_tapeCount e_z e_waiting e_waitingCount L tx tst) H := hP
        have hD : va_D A (wX cA xd vd sd nd hd td ed kd images errors fewest vspoon vmark vcount vbodies sbits slens snum h_weight h_known h_hour h_swS_16 h_swW_18 h_waS h_spoons h_kind h_mark h_silver h_fresh h_texts h_tape h_tapeCount h_z h_waiting h_waitingCount t_weight t_known t_hour t_swS t_swW t_waS t_spoons t_kind t_mark t_silver t_fresh t_texts t_tape t_tapeCount t_z t_waiting t_waitingCount e_weight e_known e_hour e_swS e_swW e_waS e_spoons e_kind e_mark e_silver e_fresh e_texts e_tape e_tapeCount e_z e_waiting e_waitingCount L tx tst) := hD
        refine lv_iload hx hb dX11_swallow_60 (lv_at hv 0 rfl) ?_
        have h := Option.some.inj h
        have ee0 : r_13 = rR := congrArg (fun q => q.1) h
        have ee1 : errors = errorsR := congrArg (fun q => q.2.1) h
        have ee2 : h_swS_16 = h_swSR := congrArg (fun q => q.2.2.1) h
        have ee3 : h_swW_18 = h_swWR := congrArg (fun q => q.2.2.2) h
        subst ee0
        subst ee1
        subst ee2
        subst ee3
        rw [← hQ]
        exact retI hx hb hr hlk hK hP hD hS dX11_swallow_62 ⟨Nat.le_of_ble_eq_true rfl, Nat.le_of_ble_eq_true rfl⟩
      · have h := ite_t c_12 h
        exact C_23 errors h_swS h_swW h _ _ _ hP hD hS (lv_sub hv [0] rfl)

def fX11_ofSwallow (a : Int32) (errors : Nat → Int32) (h_swS : Nat → Int32) (h_swW : Nat → Int32) : Option (Int32 × (Nat → Int32)) :=
  bd (fX11_within a (0 : Int32) (5 : Int32)) fun r_1 => (if r_1 = 0 then bd (fX11_refused (-1000000001 : Int32) errors) fun (r_4, errors_5) => some (r_4, errors_5) else bd (fX3_swallowAt a h_swS h_swW) fun r_7 => some (r_7, errors))
set_option maxHeartbeats 4000000 in
set_option maxRecDepth 100000 in
theorem c_X11_ofSwallow (l : Launch) (G : Nat → Nat) (D : va_G) (cA : Nat → ClassId) (xd : Nat → Nat) (vd : Nat → Nat) (sd : Nat → Nat) (nd : Nat → Nat) (hd : Nat → Nat) (td : Nat → Nat) (ed : Nat → Nat) (kd : Nat → Nat) (sz : Nat) (images : Int32) (errors : Nat → Int32) (fewest : Nat → Int32) (vspoon : Int32) (vmark : Int32) (vcount : Int32) (vbodies : Nat → Int32) (sbits : Nat → Int32) (slens : Nat → Int32) (snum : Nat → Nat → Int32) (h_weight : Nat → Int32) (h_known : Int32) (h_hour : Int32) (h_swS : Nat → Int32) (h_swW : Nat → Int32) (h_waS : Nat → Int32) (h_spoons : Int32) (h_kind : Nat → Int32) (h_mark : Nat → Int32) (h_silver : Nat → Int32) (h_fresh : Nat → Int64) (h_texts : Nat → Option Nat) (h_tape : Nat → Int32) (h_tapeCount : Int32) (h_z : Int32) (h_waiting : Nat → Int32) (h_waitingCount : Int32) (t_weight : Nat → Int32) (t_known : Int32) (t_hour : Int32) (t_swS : Nat → Int32) (t_swW : Nat → Int32) (t_waS : Nat → Int32) (t_spoons : Int32) (t_kind : Nat → Int32) (t_mark : Nat → Int32) (t_silver : Nat → Int32) (t_fresh : Nat → Int64) (t_texts : Nat → Option Nat) (t_tape : Nat → Int32) (t_tapeCount : Int32) (t_z : Int32) (t_waiting : Nat → Int32) (t_waitingCount : Int32) (e_weight : Nat → Int32) (e_known : Int32) (e_hour : Int32) (e_swS : Nat → Int32) (e_swW : Nat → Int32) (e_waS : Nat → Int32) (e_spoons : Int32) (e_kind : Nat → Int32) (e_mark : Nat → Int32) (e_silver : Nat → Int32) (e_fresh : Nat → Int64) (e_texts : Nat → Option Nat) (e_tape : Nat → Int32) (e_tapeCount : Int32) (e_z : Int32) (e_waiting : Nat → Int32) (e_waitingCount : Int32) (L : List Nat) (tx : Nat → TXc) (tst : Nat → Nat → Int32) (a : Int32) (rR : Int32) (errorsR : Nat → Int32) (h : fX11_ofSwallow a errors h_swS h_swW = some (rR, errorsR)) : Met l yX11_ofSwallow wsX11_ofSwallow ({ frames := 1, cells := 0, slots := 0, locals := 22 } : Room) (PW G D (tyC cA) sz (wX cA xd vd sd nd hd td ed kd images errors fewest vspoon vmark vcount vbodies sbits slens snum h_weight h_known h_hour h_swS h_swW h_waS h_spoons h_kind h_mark h_silver h_fresh h_texts h_tape h_tapeCount h_z h_waiting h_waitingCount t_weight t_known t_hour t_swS t_swW t_waS t_spoons t_kind t_mark t_silver t_fresh t_texts t_tape t_tapeCount t_z t_waiting t_waitingCount e_weight e_known e_hour e_swS e_swW e_waS e_spoons e_kind e_mark e_silver e_fresh e_texts e_tape e_tapeCount e_z e_waiting e_waitingCount L tx tst) [.ref (xd 0), .int a]) (QI D (tyC cA) (va_A (wX cA xd vd sd nd hd td ed kd images errors fewest vspoon vmark vcount vbodies sbits slens snum h_weight h_known h_hour h_swS h_swW h_waS h_spoons h_kind h_mark h_silver h_fresh h_texts h_tape h_tapeCount h_z h_waiting h_waitingCount t_weight t_known t_hour t_swS t_swW t_waS t_spoons t_kind t_mark t_silver t_fresh t_texts t_tape t_tapeCount t_z t_waiting t_waitingCount e_weight e_known e_hour e_swS e_swW e_waS e_spoons e_kind e_mark e_silver e_fresh e_texts e_tape e_tapeCount e_z e_waiting e_waitingCount L tx tst) sz) rR (wX cA xd vd sd nd hd td ed kd images errorsR fewest vspoon vmark vcount vbodies sbits slens snum h_weight h_known h_hour h_swS h_swW h_waS h_spoons h_kind h_mark h_silver h_fresh h_texts h_tape h_tapeCount h_z h_waiting h_waitingCount t_weight t_known t_hour t_swS t_swW t_waS t_spoons t_kind t_mark t_silver t_fresh t_texts t_tape t_tapeCount t_z t_waiting t_waitingCount e_weight e_known e_hour e_swS e_swW e_waS e_spoons e_kind e_mark e_silver e_fresh e_texts e_tape e_tapeCount e_z e_waiting e_waitingCount L tx tst)) 0 0 (va_A (wX cA xd vd sd nd hd td ed kd images errors fewest vspoon vmark vcount vbodies sbits slens snum h_weight h_known h_hour h_swS h_swW h_waS h_spoons h_kind h_mark h_silver h_fresh h_texts h_tape h_tapeCount h_z h_waiting h_waitingCount t_weight t_known t_hour t_swS t_swW t_waS t_spoons t_kind t_mark t_silver t_fresh t_texts t_tape t_tapeCount t_z t_waiting t_waitingCount e_weight e_known e_hour e_swS e_swW e_waS e_spoons e_kind e_mark e_silver e_fresh e_texts e_tape e_tapeCount e_z e_waiting e_waitingCount L tx tst) sz) := by
  refine ent (cc := cX11_ofSwallow) (maxL := 2) (ret := (some .int)) (fun A => QI D (tyC cA) A rR (wX cA xd vd sd nd hd td ed kd images errorsR fewest vspoon vmark vcount vbodies sbits slens snum h_weight h_known h_hour h_swS h_swW h_waS h_spoons h_kind h_mark h_silver h_fresh h_texts h_tape h_tapeCount h_z h_waiting h_waitingCount t_weight t_known t_hour t_swS t_swW t_waS t_spoons t_kind t_mark t_silver t_fresh t_texts t_tape t_tapeCount t_z t_waiting t_waitingCount e_weight e_known e_hour e_swS e_swW e_waS e_spoons e_kind e_mark e_silver e_fresh e_texts e_tape e_tapeCount e_z e_waiting e_waitingCount L tx tst)) (by decide +kernel) rfl (Nat.le_of_ble_eq_true rfl) ?_
  intro p e s m args below meth c A ls H hx hb hml hr hlk hts hown hA hK hE hP hD hS hv hmm
  have hv : lv_has ls 2 [(0, .ref (xd 0)), (1, .int a)] := hv
  have in_11 : ∀ w ∈ u_ws RX11 TX11 9, w ∈ wsX11_ofSwallow := fun _ h => List.mem_cons_of_mem _ (List.mem_append_left _ (List.mem_append_right _ h))
  have w_0 := hts (.constant RX11 78 (-1000000001)) (List.mem_of_getElem? (i := 2) rfl)
  have w_1 := hts (.fieldLink RX11 39 "SpoonsLast" "house" "LSpoonsLast$House;") (List.mem_of_getElem? (i := 1) rfl)
  generalize hQ : MQ below _ args s 0 0 A = Q
  have hP : va_P D vwCl (wX cA xd vd sd nd hd td ed kd images errors fewest vspoon vmark vcount vbodies sbits slens snum h_weight h_known h_hour h_swS h_swW h_waS h_spoons h_kind h_mark h_silver h_fresh h_texts h_tape h_tapeCount h_z h_waiting h_waitingCount t_weight t_known t_hour t_swS t_swW t_waS t_spoons t_kind t_mark t_silver t_fresh t_texts t_tape t_tapeCount t_z t_waiting t_waitingCount e_weight e_known e_hour e_swS e_swW e_waS e_spoons e_kind e_mark e_silver e_fresh e_texts e_tape e_tapeCount e_z e_waiting e_waitingCount L tx tst) H := hP
  unfold fX11_ofSwallow at h
  refine lv_iload_n hx hb dX11_ofSwallow_0 rfl (lv_at hv 1 rfl) ?_
  refine lv_iconst (v := (0 : Int32)) hx hb dX11_ofSwallow_1 (by decide) ?_
  refine lv_iconst (v := (5 : Int32)) hx hb dX11_ofSwallow_2 (by decide) ?_
  obtain ⟨r_1, hf_2, h⟩ := bd_ex h
  have sb := Sb.nil hP hD hS hA
  refine calI (va_runS (As := [.int a, .int (0 : Int32), .int (5 : Int32)]) (rest := []) ⟨hx, hb, hml, hown, hts⟩ (c_X11_within l G D cA  _ a (0 : Int32) (5 : Int32) r_1 hf_2) (va_cwS 3 hts gX11_ofSwallow_X11_within rfl rfl rfl (by decide +kernel) ⟨Nat.le_of_ble_eq_true rfl, Nat.le_of_ble_eq_true rfl⟩) (pvS hE hK hS sb) rfl rfl hv.1 rfl (lv_room (Nat.le_of_ble_eq_true rfl)) dX11_ofSwallow_3 ⟨Nat.le_of_ble_eq_true rfl, Nat.le_of_ble_eq_true rfl⟩) hS sb (Jn.nil hP hD) (fun H locs hP hD hS => ?_)
  have hP : va_P D vwCl (wX cA xd vd sd nd hd td ed kd images errors fewest vspoon vmark vcount vbodies sbits slens snum h_weight h_known h_hour h_swS h_swW h_waS h_spoons h_kind h_mark h_silver h_fresh h_texts h_tape h_tapeCount h_z h_waiting h_waitingCount t_weight t_known t_hour t_swS t_swW t_waS t_spoons t_kind t_mark t_silver t_fresh t_texts t_tape t_tapeCount t_z t_waiting t_waitingCount e_weight e_known e_hour e_swS e_swW e_waS e_spoons e_kind e_mark e_silver e_fresh e_texts e_tape e_tapeCount e_z e_waiting e_waitingCount L tx tst) H := hP
  have hD : va_D A (wX cA xd vd sd nd hd td ed kd images errors fewest vspoon vmark vcount vbodies sbits slens snum h_weight h_known h_hour h_swS h_swW h_waS h_spoons h_kind h_mark h_silver h_fresh h_texts h_tape h_tapeCount h_z h_waiting h_waitingCount t_weight t_known t_hour t_swS t_swW t_waS t_spoons t_kind t_mark t_silver t_fresh t_texts t_tape t_tapeCount t_z t_waiting t_waitingCount e_weight e_known e_hour e_swS e_swW e_waS e_spoons e_kind e_mark e_silver e_fresh e_texts e_tape e_tapeCount e_z e_waiting e_waitingCount L tx tst) := hD
  refine lv_if_eq (tgt := 20) hx hb dX11_ofSwallow_6 (by decide) (fun c_3 => ?_) (fun c_3 => ?_)
  · have h := ite_t c_3 h
    refine lv_aload_n hx hb dX11_ofSwallow_20 rfl (lv_at hv 0 rfl) ?_
    refine lv_ldc (v := (-1000000001 : Int32)) hx hb hown w_0 dX11_ofSwallow_21 ?_
    obtain ⟨⟨r_4, errors_5⟩, hf_6, h⟩ := bd_ex h
    have sb := Sb.same hP hD hS hA
    refine calI (va_runV (As := [.int (-1000000001 : Int32)]) (rest := []) ⟨hx, hb, hml, hown, hts⟩ (c_X11_refused l G D cA xd vd sd nd hd td ed kd _ images errors fewest vspoon vmark vcount vbodies sbits slens snum h_weight h_known h_hour h_swS h_swW h_waS h_spoons h_kind h_mark h_silver h_fresh h_texts h_tape h_tapeCount h_z h_waiting h_waitingCount t_weight t_known t_hour t_swS t_swW t_waS t_spoons t_kind t_mark t_silver t_fresh t_texts t_tape t_tapeCount t_z t_waiting t_waitingCount e_weight e_known e_hour e_swS e_swW e_waS e_spoons e_kind e_mark e_silver e_fresh e_texts e_tape e_tapeCount e_z e_waiting e_waitingCount L tx tst (-1000000001 : Int32) r_4 errors_5 hf_6) (cwV 1 hts gX11_ofSwallow_X11_refused rfl rfl rfl (by decide +kernel) ⟨Nat.le_of_ble_eq_true rfl, Nat.le_of_ble_eq_true rfl⟩) (pvV hE hK hS sb (va_recv hK hP (ci := 11) (q0 := 0) rfl rfl)) rfl rfl hv.1 rfl (lv_room (Nat.le_of_ble_eq_true rfl)) dX11_ofSwallow_23 ⟨Nat.le_of_ble_eq_true rfl, Nat.le_of_ble_eq_true rfl⟩) hS sb (Jn.same sb) (fun H locs hP hD hS => ?_)
    have hP : va_P D vwCl (wX cA xd vd sd nd hd td ed kd images errors_5 fewest vspoon vmark vcount vbodies sbits slens snum h_weight h_known h_hour h_swS h_swW h_waS h_spoons h_kind h_mark h_silver h_fresh h_texts h_tape h_tapeCount h_z h_waiting h_waitingCount t_weight t_known t_hour t_swS t_swW t_waS t_spoons t_kind t_mark t_silver t_fresh t_texts t_tape t_tapeCount t_z t_waiting t_waitingCount e_weight e_known e_hour e_swS e_swW e_waS e_spoons e_kind e_mark e_silver e_fresh e_texts e_tape e_tapeCount e_z e_waiting e_waitingCount L tx tst) H := hP
    have hD : va_D A (wX cA xd vd sd nd hd td ed kd images errors_5 fewest vspoon vmark vcount vbodies sbits slens snum h_weight h_known h_hour h_swS h_swW h_waS h_spoons h_kind h_mark h_silver h_fresh h_texts h_tape h_tapeCount h_z h_waiting h_waitingCount t_weight t_known t_hour t_swS t_swW t_waS t_spoons t_kind t_mark t_silver t_fresh t_texts t_tape t_tapeCount t_z t_waiting t_waitingCount e_weight e_known e_hour e_swS e_swW e_waS e_spoons e_kind e_mark e_silver e_fresh e_texts e_tape e_tapeCount e_z e_waiting e_waitingCount L tx tst) := hD
    have h := Option.some.inj h
    have ee0 : r_4 = rR := congrArg (fun q => q.1) h
    have ee1 : errors_5 = errorsR := congrArg (fun q => q.2) h
    subst ee0
    subst ee1
    rw [← hQ]
    exact retI hx hb hr hlk hK hP hD hS dX11_ofSwallow_26 ⟨Nat.le_of_ble_eq_true rfl, Nat.le_of_ble_eq_true rfl⟩
  · have h := ite_f c_3 h
    refine lv_aload_n hx hb dX11_ofSwallow_9 rfl (lv_at hv 0 rfl) ?_
    refine va_get (D := D) (ci := 11) (v := .ref (hd 0)) (C := RX11) (T := TX11) (N := 9) hx hb hts in_11 hown hK hP 0 rfl rfl 0 (by decide) w_1 (fun _ h9 => h9) rfl dX11_ofSwallow_10 ?_
    refine lv_iload_n hx hb dX11_ofSwallow_13 rfl (lv_at hv 1 rfl) ?_
    obtain ⟨r_7, hf_8, h⟩ := bd_ex h
    have sb : Sb D A H (wH cA hd kd h_weight h_known h_hour h_swS h_swW h_waS h_spoons h_kind h_mark h_silver h_fresh h_texts h_tape h_tapeCount h_z h_waiting h_waitingCount L tx tst) := sbXh hP hD hS hA
    refine calI (va_runV (As := [.int a]) (rest := []) ⟨hx, hb, hml, hown, hts⟩ (c_X3_swallowAt l G D cA hd kd _ h_weight h_known h_hour h_swS h_swW h_waS h_spoons h_kind h_mark h_silver h_fresh h_texts h_tape h_tapeCount h_z h_waiting h_waitingCount L tx tst a r_7 hf_8) (cwV 1 hts gX11_ofSwallow_X3_swallowAt rfl rfl rfl (by decide +kernel) ⟨Nat.le_of_ble_eq_true rfl, Nat.le_of_ble_eq_true rfl⟩) (pvV hE hK hS sb (va_recv hK hP (ci := 3) (q0 := 14) rfl rfl)) rfl rfl hv.1 rfl (lv_room (Nat.le_of_ble_eq_true rfl)) dX11_ofSwallow_14 ⟨Nat.le_of_ble_eq_true rfl, Nat.le_of_ble_eq_true rfl⟩) hS sb (jnXh hP hD) (fun H locs hP hD hS => ?_)
    have hP : va_P D vwCl (wX cA xd vd sd nd hd td ed kd images errors fewest vspoon vmark vcount vbodies sbits slens snum h_weight h_known h_hour h_swS h_swW h_waS h_spoons h_kind h_mark h_silver h_fresh h_texts h_tape h_tapeCount h_z h_waiting h_waitingCount t_weight t_known t_hour t_swS t_swW t_waS t_spoons t_kind t_mark t_silver t_fresh t_texts t_tape t_tapeCount t_z t_waiting t_waitingCount e_weight e_known e_hour e_swS e_swW e_waS e_spoons e_kind e_mark e_silver e_fresh e_texts e_tape e_tapeCount e_z e_waiting e_waitingCount L tx tst) H := hP
    have hD : va_D A (wX cA xd vd sd nd hd td ed kd images errors fewest vspoon vmark vcount vbodies sbits slens snum h_weight h_known h_hour h_swS h_swW h_waS h_spoons h_kind h_mark h_silver h_fresh h_texts h_tape h_tapeCount h_z h_waiting h_waitingCount t_weight t_known t_hour t_swS t_swW t_waS t_spoons t_kind t_mark t_silver t_fresh t_texts t_tape t_tapeCount t_z t_waiting t_waitingCount e_weight e_known e_hour e_swS e_swW e_waS e_spoons e_kind e_mark e_silver e_fresh e_texts e_tape e_tapeCount e_z e_waiting e_waitingCount L tx tst) := hD
    refine lv_goto (tgt := 26) hx hb dX11_ofSwallow_17 (by decide) ?_
    have h := Option.some.inj h
    have ee0 : r_7 = rR := congrArg (fun q => q.1) h
    have ee1 : errors = errorsR := congrArg (fun q => q.2) h
    subst ee0
    subst ee1
    rw [← hQ]
    exact retI hx hb hr hlk hK hP hD hS dX11_ofSwallow_26 ⟨Nat.le_of_ble_eq_true rfl, Nat.le_of_ble_eq_true rfl⟩

def fX11_wash (a : Int32) (b : Int32) (errors : Nat → Int32) (h_waS : Nat → Int32) : Option (Int32 × (Nat → Int32) × (Nat → Int32)) :=
  bd (fX11_within a (0 : Int32) (3 : Int32)) fun r_1 => (if r_1 = 0 then bd (fX11_refused (-1000000001 : Int32) errors) fun (r_4, errors_5) => some (r_4, errors_5, h_waS) else bd (fX11_mayBeListed b) fun r_7 => (if r_7 = 0 then bd (fX11_refused (-1000000001 : Int32) errors) fun (r_14, errors_15) => some (r_14, errors_15, h_waS) else ckI a 4 (bnd ((h_waS (a).toNatClampNeg) + (1 : Int32)) fun y_11 => ckI a 4 (bnd (upd h_waS (a).toNatClampNeg b) fun h_waS_13 => some (y_11, errors, h_waS_13)))))
set_option maxHeartbeats 4000000 in
set_option maxRecDepth 100000 in
theorem c_X11_wash (l : Launch) (G : Nat → Nat) (D : va_G) (cA : Nat → ClassId) (xd : Nat → Nat) (vd : Nat → Nat) (sd : Nat → Nat) (nd : Nat → Nat) (hd : Nat → Nat) (td : Nat → Nat) (ed : Nat → Nat) (kd : Nat → Nat) (sz : Nat) (images : Int32) (errors : Nat → Int32) (fewest : Nat → Int32) (vspoon : Int32) (vmark : Int32) (vcount : Int32) (vbodies : Nat → Int32) (sbits : Nat → Int32) (slens : Nat → Int32) (snum : Nat → Nat → Int32) (h_weight : Nat → Int32) (h_known : Int32) (h_hour : Int32) (h_swS : Nat → Int32) (h_swW : Nat → Int32) (h_waS : Nat → Int32) (h_spoons : Int32) (h_kind : Nat → Int32) (h_mark : Nat → Int32) (h_silver : Nat → Int32) (h_fresh : Nat → Int64) (h_texts : Nat → Option Nat) (h_tape : Nat → Int32) (h_tapeCount : Int32) (h_z : Int32) (h_waiting : Nat → Int32) (h_waitingCount : Int32) (t_weight : Nat → Int32) (t_known : Int32) (t_hour : Int32) (t_swS : Nat → Int32) (t_swW : Nat → Int32) (t_waS : Nat → Int32) (t_spoons : Int32) (t_kind : Nat → Int32) (t_mark : Nat → Int32) (t_silver : Nat → Int32) (t_fresh : Nat → Int64) (t_texts : Nat → Option Nat) (t_tape : Nat → Int32) (t_tapeCount : Int32) (t_z : Int32) (t_waiting : Nat → Int32) (t_waitingCount : Int32) (e_weight : Nat → Int32) (e_known : Int32) (e_hour : Int32) (e_swS : Nat → Int32) (e_swW : Nat → Int32) (e_waS : Nat → Int32) (e_spoons : Int32) (e_kind : Nat → Int32) (e_mark : Nat → Int32) (e_silver : Nat → Int32) (e_fresh : Nat → Int64) (e_texts : Nat → Option Nat) (e_tape : Nat → Int32) (e_tapeCount : Int32) (e_z : Int32) (e_waiting : Nat → Int32) (e_waitingCount : Int32) (L : List Nat) (tx : Nat → TXc) (tst : Nat → Nat → Int32) (a : Int32) (b : Int32) (rR : Int32) (errorsR : Nat → Int32) (h_waSR : Nat → Int32) (h : fX11_wash a b errors h_waS = some (rR, errorsR, h_waSR)) : Met l yX11_wash wsX11_wash ({ frames := 2, cells := 0, slots := 0, locals := 42 } : Room) (PW G D (tyC cA) sz (wX cA xd vd sd nd hd td ed kd images errors fewest vspoon vmark vcount vbodies sbits slens snum h_weight h_known h_hour h_swS h_swW h_waS h_spoons h_kind h_mark h_silver h_fresh h_texts h_tape h_tapeCount h_z h_waiting h_waitingCount t_weight t_known t_hour t_swS t_swW t_waS t_spoons t_kind t_mark t_silver t_fresh t_texts t_tape t_tapeCount t_z t_waiting t_waitingCount e_weight e_known e_hour e_swS e_swW e_waS e_spoons e_kind e_mark e_silver e_fresh e_texts e_tape e_tapeCount e_z e_waiting e_waitingCount L tx tst) [.ref (xd 0), .int a, .int b]) (QI D (tyC cA) (va_A (wX cA xd vd sd nd hd td ed kd images errors fewest vspoon vmark vcount vbodies sbits slens snum h_weight h_known h_hour h_swS h_swW h_waS h_spoons h_kind h_mark h_silver h_fresh h_texts h_tape h_tapeCount h_z h_waiting h_waitingCount t_weight t_known t_hour t_swS t_swW t_waS t_spoons t_kind t_mark t_silver t_fresh t_texts t_tape t_tapeCount t_z t_waiting t_waitingCount e_weight e_known e_hour e_swS e_swW e_waS e_spoons e_kind e_mark e_silver e_fresh e_texts e_tape e_tapeCount e_z e_waiting e_waitingCount L tx tst) sz) rR (wX cA xd vd sd nd hd td ed kd images errorsR fewest vspoon vmark vcount vbodies sbits slens snum h_weight h_known h_hour h_swS h_swW h_waSR h_spoons h_kind h_mark h_silver h_fresh h_texts h_tape h_tapeCount h_z h_waiting h_waitingCount t_weight t_known t_hour t_swS t_swW t_waS t_spoons t_kind t_mark t_silver t_fresh t_texts t_tape t_tapeCount t_z t_waiting t_waitingCount e_weight e_known e_hour e_swS e_swW e_waS e_spoons e_kind e_mark e_silver e_fresh e_texts e_tape e_tapeCount e_z e_waiting e_waitingCount L tx tst)) 0 0 (va_A (wX cA xd vd sd nd hd td ed kd images errors fewest vspoon vmark vcount vbodies sbits slens snum h_weight h_known h_hour h_swS h_swW h_waS h_spoons h_kind h_mark h_silver h_fresh h_texts h_tape h_tapeCount h_z h_waiting h_waitingCount t_weight t_known t_hour t_swS t_swW t_waS t_spoons t_kind t_mark t_silver t_fresh t_texts t_tape t_tapeCount t_z t_waiting t_waitingCount e_weight e_known e_hour e_swS e_swW e_waS e_spoons e_kind e_mark e_silver e_fresh e_texts e_tape e_tapeCount e_z e_waiting e_waitingCount L tx tst) sz) := by
  refine ent (cc := cX11_wash) (maxL := 4) (ret := (some .int)) (fun A => QI D (tyC cA) A rR (wX cA xd vd sd nd hd td ed kd images errorsR fewest vspoon vmark vcount vbodies sbits slens snum h_weight h_known h_hour h_swS h_swW h_waSR h_spoons h_kind h_mark h_silver h_fresh h_texts h_tape h_tapeCount h_z h_waiting h_waitingCount t_weight t_known t_hour t_swS t_swW t_waS t_spoons t_kind t_mark t_silver t_fresh t_texts t_tape t_tapeCount t_z t_waiting t_waitingCount e_weight e_known e_hour e_swS e_swW e_waS e_spoons e_kind e_mark e_silver e_fresh e_texts e_tape e_tapeCount e_z e_waiting e_waitingCount L tx tst)) (by decide +kernel) rfl (Nat.le_of_ble_eq_true rfl) ?_
  intro p e s m args below meth c A ls H hx hb hml hr hlk hts hown hA hK hE hP hD hS hv hmm
  have hv : lv_has ls 4 [(0, .ref (xd 0)), (1, .int a), (2, .int b)] := hv
  have in_3 : ∀ w ∈ u_ws RX3 TX3 18, w ∈ wsX11_wash := fun _ h => List.mem_cons_of_mem _ (List.mem_append_right _ h)
  have in_11 : ∀ w ∈ u_ws RX11 TX11 9, w ∈ wsX11_wash := fun _ h => List.mem_cons_of_mem _ (List.mem_append_left _ (List.mem_append_right _ h))
  have w_0 := hts (.constant RX11 78 (-1000000001)) (List.mem_of_getElem? (i := 1) rfl)
  have w_1 := hts (.fieldLink RX11 39 "SpoonsLast" "house" "LSpoonsLast$House;") (List.mem_of_getElem? (i := 2) rfl)
  have w_2 := hts (.fieldLink RX11 108 "SpoonsLast$House" "washSpoon" "[I") (List.mem_of_getElem? (i := 3) rfl)
  generalize hQ : MQ below _ args s 0 0 A = Q
  have hP : va_P D vwCl (wX cA xd vd sd nd hd td ed kd images errors fewest vspoon vmark vcount vbodies sbits slens snum h_weight h_known h_hour h_swS h_swW h_waS h_spoons h_kind h_mark h_silver h_fresh h_texts h_tape h_tapeCount h_z h_waiting h_waitingCount t_weight t_known t_hour t_swS t_swW t_waS t_spoons t_kind t_mark t_silver t_fresh t_texts t_tape t_tapeCount t_z t_waiting t_waitingCount e_weight e_known e_hour e_swS e_swW e_waS e_spoons e_kind e_mark e_silver e_fresh e_texts e_tape e_tapeCount e_z e_waiting e_waitingCount L tx tst) H := hP
  unfold fX11_wash at h
  refine lv_iload_n hx hb dX11_wash_0 rfl (lv_at hv 1 rfl) ?_
  refine lv_iconst (v := (0 : Int32)) hx hb dX11_wash_1 (by decide) ?_
  refine lv_iconst (v := (3 : Int32)) hx hb dX11_wash_2 (by decide) ?_
  obtain ⟨r_1, hf_2, h⟩ := bd_ex h
  have sb := Sb.nil hP hD hS hA
  refine calI (va_runS (As := [.int a, .int (0 : Int32), .int (3 : Int32)]) (rest := []) ⟨hx, hb, hml, hown, hts⟩ (c_X11_within l G D cA  _ a (0 : Int32) (3 : Int32) r_1 hf_2) (va_cwS 3 hts gX11_wash_X11_within rfl rfl rfl (by decide +kernel) ⟨Nat.le_of_ble_eq_true rfl, Nat.le_of_ble_eq_true rfl⟩) (pvS hE hK hS sb) rfl rfl hv.1 rfl (lv_room (Nat.le_of_ble_eq_true rfl)) dX11_wash_3 ⟨Nat.le_of_ble_eq_true rfl, Nat.le_of_ble_eq_true rfl⟩) hS sb (Jn.nil hP hD) (fun H locs hP hD hS => ?_)
  have hP : va_P D vwCl (wX cA xd vd sd nd hd td ed kd images errors fewest vspoon vmark vcount vbodies sbits slens snum h_weight h_known h_hour h_swS h_swW h_waS h_spoons h_kind h_mark h_silver h_fresh h_texts h_tape h_tapeCount h_z h_waiting h_waitingCount t_weight t_known t_hour t_swS t_swW t_waS t_spoons t_kind t_mark t_silver t_fresh t_texts t_tape t_tapeCount t_z t_waiting t_waitingCount e_weight e_known e_hour e_swS e_swW e_waS e_spoons e_kind e_mark e_silver e_fresh e_texts e_tape e_tapeCount e_z e_waiting e_waitingCount L tx tst) H := hP
  have hD : va_D A (wX cA xd vd sd nd hd td ed kd images errors fewest vspoon vmark vcount vbodies sbits slens snum h_weight h_known h_hour h_swS h_swW h_waS h_spoons h_kind h_mark h_silver h_fresh h_texts h_tape h_tapeCount h_z h_waiting h_waitingCount t_weight t_known t_hour t_swS t_swW t_waS t_spoons t_kind t_mark t_silver t_fresh t_texts t_tape t_tapeCount t_z t_waiting t_waitingCount e_weight e_known e_hour e_swS e_swW e_waS e_spoons e_kind e_mark e_silver e_fresh e_texts e_tape e_tapeCount e_z e_waiting e_waitingCount L tx tst) := hD
  refine lv_if_eq (tgt := 16) hx hb dX11_wash_6 (by decide) (fun c_3 => ?_) (fun c_3 => ?_)
  · have h := ite_t c_3 h
    refine lv_aload_n hx hb dX11_wash_16 rfl (lv_at hv 0 rfl) ?_
    refine lv_ldc (v := (-1000000001 : Int32)) hx hb hown w_0 dX11_wash_17 ?_
    obtain ⟨⟨r_4, errors_5⟩, hf_6, h⟩ := bd_ex h
    have sb := Sb.same hP hD hS hA
    refine calI (va_runV (As := [.int (-1000000001 : Int32)]) (rest := []) ⟨hx, hb, hml, hown, hts⟩ (c_X11_refused l G D cA xd vd sd nd hd td ed kd _ images errors fewest vspoon vmark vcount vbodies sbits slens snum h_weight h_known h_hour h_swS h_swW h_waS h_spoons h_kind h_mark h_silver h_fresh h_texts h_tape h_tapeCount h_z h_waiting h_waitingCount t_weight t_known t_hour t_swS t_swW t_waS t_spoons t_kind t_mark t_silver t_fresh t_texts t_tape t_tapeCount t_z t_waiting t_waitingCount e_weight e_known e_hour e_swS e_swW e_waS e_spoons e_kind e_mark e_silver e_fresh e_texts e_tape e_tapeCount e_z e_waiting e_waitingCount L tx tst (-1000000001 : Int32) r_4 errors_5 hf_6) (cwV 1 hts gX11_wash_X11_refused rfl rfl rfl (by decide +kernel) ⟨Nat.le_of_ble_eq_true rfl, Nat.le_of_ble_eq_true rfl⟩) (pvV hE hK hS sb (va_recv hK hP (ci := 11) (q0 := 0) rfl rfl)) rfl rfl hv.1 rfl (lv_room (Nat.le_of_ble_eq_true rfl)) dX11_wash_19 ⟨Nat.le_of_ble_eq_true rfl, Nat.le_of_ble_eq_true rfl⟩) hS sb (Jn.same sb) (fun H locs hP hD hS => ?_)
    have hP : va_P D vwCl (wX cA xd vd sd nd hd td ed kd images errors_5 fewest vspoon vmark vcount vbodies sbits slens snum h_weight h_known h_hour h_swS h_swW h_waS h_spoons h_kind h_mark h_silver h_fresh h_texts h_tape h_tapeCount h_z h_waiting h_waitingCount t_weight t_known t_hour t_swS t_swW t_waS t_spoons t_kind t_mark t_silver t_fresh t_texts t_tape t_tapeCount t_z t_waiting t_waitingCount e_weight e_known e_hour e_swS e_swW e_waS e_spoons e_kind e_mark e_silver e_fresh e_texts e_tape e_tapeCount e_z e_waiting e_waitingCount L tx tst) H := hP
    have hD : va_D A (wX cA xd vd sd nd hd td ed kd images errors_5 fewest vspoon vmark vcount vbodies sbits slens snum h_weight h_known h_hour h_swS h_swW h_waS h_spoons h_kind h_mark h_silver h_fresh h_texts h_tape h_tapeCount h_z h_waiting h_waitingCount t_weight t_known t_hour t_swS t_swW t_waS t_spoons t_kind t_mark t_silver t_fresh t_texts t_tape t_tapeCount t_z t_waiting t_waitingCount e_weight e_known e_hour e_swS e_swW e_waS e_spoons e_kind e_mark e_silver e_fresh e_texts e_tape e_tapeCount e_z e_waiting e_waitingCount L tx tst) := hD
    have h := Option.some.inj h
    have ee0 : r_4 = rR := congrArg (fun q => q.1) h
    have ee1 : errors_5 = errorsR := congrArg (fun q => q.2.1) h
    have ee2 : h_waS = h_waSR := congrArg (fun q => q.2.2) h
    subst ee0
    subst ee1
    subst ee2
    rw [← hQ]
    exact retI hx hb hr hlk hK hP hD hS dX11_wash_22 ⟨Nat.le_of_ble_eq_true rfl, Nat.le_of_ble_eq_true rfl⟩
  · have h := ite_f c_3 h
    refine lv_iload_n hx hb dX11_wash_9 rfl (lv_at hv 2 rfl) ?_
    obtain ⟨r_7, hf_8, h⟩ := bd_ex h
    have sb := Sb.nil hP hD hS hA
    refine calI (va_runS (As := [.int b]) (rest := []) ⟨hx, hb, hml, hown, hts⟩ (c_X11_mayBeListed l G D cA  _ b r_7 hf_8) (va_cwS 1 hts gX11_wash_X11_mayBeListed rfl rfl rfl (by decide +kernel) ⟨Nat.le_of_ble_eq_true rfl, Nat.le_of_ble_eq_true rfl⟩) (pvS hE hK hS sb) rfl rfl hv.1 rfl (lv_room (Nat.le_of_ble_eq_true rfl)) dX11_wash_10 ⟨Nat.le_of_ble_eq_true rfl, Nat.le_of_ble_eq_true rfl⟩) hS sb (Jn.nil hP hD) (fun H locs hP hD hS => ?_)
    have hP : va_P D vwCl (wX cA xd vd sd nd hd td ed kd images errors fewest vspoon vmark vcount vbodies sbits slens snum h_weight h_known h_hour h_swS h_swW h_waS h_spoons h_kind h_mark h_silver h_fresh h_texts h_tape h_tapeCount h_z h_waiting h_waitingCount t_weight t_known t_hour t_swS t_swW t_waS t_spoons t_kind t_mark t_silver t_fresh t_texts t_tape t_tapeCount t_z t_waiting t_waitingCount e_weight e_known e_hour e_swS e_swW e_waS e_spoons e_kind e_mark e_silver e_fresh e_texts e_tape e_tapeCount e_z e_waiting e_waitingCount L tx tst) H := hP
    have hD : va_D A (wX cA xd vd sd nd hd td ed kd images errors fewest vspoon vmark vcount vbodies sbits slens snum h_weight h_known h_hour h_swS h_swW h_waS h_spoons h_kind h_mark h_silver h_fresh h_texts h_tape h_tapeCount h_z h_waiting h_waitingCount t_weight t_known t_hour t_swS t_swW t_waS t_spoons t_kind t_mark t_silver t_fresh t_texts t_tape t_tapeCount t_z t_waiting t_waitingCount e_weight e_known e_hour e_swS e_swW e_waS e_spoons e_kind e_mark e_silver e_fresh e_texts e_tape e_tapeCount e_z e_waiting e_waitingCount L tx tst) := hD
    refine lv_if_ne (tgt := 23) hx hb dX11_wash_13 (by decide) (fun c_9 => ?_) (fun c_9 => ?_)
    · have h := ite_f c_9 h
      refine lv_aload_n hx hb dX11_wash_23 rfl (lv_at hv 0 rfl) ?_
      refine va_get (D := D) (ci := 11) (v := .ref (hd 0)) (C := RX11) (T := TX11) (N := 9) hx hb hts in_11 hown hK hP 0 rfl rfl 0 (by decide) w_1 (fun _ h9 => h9) rfl dX11_wash_24 ?_
      refine va_get (D := D) (ci := 3) (v := .ref (hd 7)) (C := RX3) (T := TX3) (N := 18) hx hb hts in_3 hown hK hP 14 rfl rfl 6 (by decide) w_2 (fun _ h9 => h9) rfl dX11_wash_27 ?_
      refine lv_iload_n hx hb dX11_wash_30 rfl (lv_at hv 1 rfl) ?_
      obtain ⟨c_10, h⟩ := ckI_ex h
      refine va_iald (D := D) hx hb hK hP 18 0 rfl rfl c_10 dX11_wash_31 ?_
      refine lv_iconst (v := (1 : Int32)) hx hb dX11_wash_32 (by decide) ?_
      refine lv_iadd hx hb dX11_wash_33 ?_
      obtain ⟨y_11, ey_11, h⟩ := bnd_ex h
      refine lv_nm ey_11 ?_
      refine lv_istore_n (lv' := [(3, .int y_11), (0, .ref (xd 0)), (1, .int a), (2, .int b)]) hx hb dX11_wash_34 rfl hv (by decide) rfl (fun ls hv => ?_)
      refine lv_aload_n hx hb dX11_wash_35 rfl (lv_at hv 1 rfl) ?_
      refine va_get (D := D) (ci := 11) (v := .ref (hd 0)) (C := RX11) (T := TX11) (N := 9) hx hb hts in_11 hown hK hP 0 rfl rfl 0 (by decide) w_1 (fun _ h9 => h9) rfl dX11_wash_36 ?_
      refine va_get (D := D) (ci := 3) (v := .ref (hd 7)) (C := RX3) (T := TX3) (N := 18) hx hb hts in_3 hown hK hP 14 rfl rfl 6 (by decide) w_2 (fun _ h9 => h9) rfl dX11_wash_39 ?_
      refine lv_iload_n hx hb dX11_wash_42 rfl (lv_at hv 2 rfl) ?_
      refine lv_iload_n hx hb dX11_wash_43 rfl (lv_at hv 3 rfl) ?_
      obtain ⟨c_12, h⟩ := ckI_ex h
      obtain ⟨h_waS_13, eh_waS_13, h⟩ := bnd_ex h
      refine va_iast (D := D) hx hb hK hP hD hS 18 0 rfl rfl c_12 dX11_wash_44 (fun H locs hP hD hS => ?_)
      rw [← eh_waS_13] at hP hD
      have hP : va_P D vwCl (wX cA xd vd sd nd hd td ed kd images errors fewest vspoon vmark vcount vbodies sbits slens snum h_weight h_known h_hour h_swS h_swW h_waS_13 h_spoons h_kind h_mark h_silver h_fresh h_texts h_tape h_tapeCount h_z h_waiting h_waitingCount t_weight t_known t_hour t_swS t_swW t_waS t_spoons t_kind t_mark t_silver t_fresh t_texts t_tape t_tapeCount t_z t_waiting t_waitingCount e_weight e_known e_hour e_swS e_swW e_waS e_spoons e_kind e_mark e_silver e_fresh e_texts e_tape e_tapeCount e_z e_waiting e_waitingCount L tx tst) H := hP
      have hD : va_D A (wX cA xd vd sd nd hd td ed kd images errors fewest vspoon vmark vcount vbodies sbits slens snum h_weight h_known h_hour h_swS h_swW h_waS_13 h_spoons h_kind h_mark h_silver h_fresh h_texts h_tape h_tapeCount h_z h_waiting h_waitingCount t_weight t_known t_hour t_swS t_swW t_waS t_spoons t_kind t_mark t_silver t_fresh t_texts t_tape t_tapeCount t_z t_waiting t_waitingCount e_weight e_known e_hour e_swS e_swW e_waS e_spoons e_kind e_mark e_silver e_fresh e_texts e_tape e_tapeCount e_z e_waiting e_waitingCount L tx tst) := hD
      refine lv_iload_n hx hb dX11_wash_45 rfl (lv_at hv 0 rfl) ?_
      have h := Option.some.inj h
      have ee0 : y_11 = rR := congrArg (fun q => q.1) h
      have ee1 : errors = errorsR := congrArg (fun q => q.2.1) h
      have ee2 : h_waS_13 = h_waSR := congrArg (fun q => q.2.2) h
      subst ee0
      subst ee1
      subst ee2
      rw [← hQ]
      exact retI hx hb hr hlk hK hP hD hS dX11_wash_46 ⟨Nat.le_of_ble_eq_true rfl, Nat.le_of_ble_eq_true rfl⟩
    · have h := ite_t c_9 h
      refine lv_aload_n hx hb dX11_wash_16 rfl (lv_at hv 0 rfl) ?_
      refine lv_ldc (v := (-1000000001 : Int32)) hx hb hown w_0 dX11_wash_17 ?_
      obtain ⟨⟨r_14, errors_15⟩, hf_16, h⟩ := bd_ex h
      have sb := Sb.same hP hD hS hA
      refine calI (va_runV (As := [.int (-1000000001 : Int32)]) (rest := []) ⟨hx, hb, hml, hown, hts⟩ (c_X11_refused l G D cA xd vd sd nd hd td ed kd _ images errors fewest vspoon vmark vcount vbodies sbits slens snum h_weight h_known h_hour h_swS h_swW h_waS h_spoons h_kind h_mark h_silver h_fresh h_texts h_tape h_tapeCount h_z h_waiting h_waitingCount t_weight t_known t_hour t_swS t_swW t_waS t_spoons t_kind t_mark t_silver t_fresh t_texts t_tape t_tapeCount t_z t_waiting t_waitingCount e_weight e_known e_hour e_swS e_swW e_waS e_spoons e_kind e_mark e_silver e_fresh e_texts e_tape e_tapeCount e_z e_waiting e_waitingCount L tx tst (-1000000001 : Int32) r_14 errors_15 hf_16) (cwV 1 hts gX11_wash_X11_refused rfl rfl rfl (by decide +kernel) ⟨Nat.le_of_ble_eq_true rfl, Nat.le_of_ble_eq_true rfl⟩) (pvV hE hK hS sb (va_recv hK hP (ci := 11) (q0 := 0) rfl rfl)) rfl rfl hv.1 rfl (lv_room (Nat.le_of_ble_eq_true rfl)) dX11_wash_19 ⟨Nat.le_of_ble_eq_true rfl, Nat.le_of_ble_eq_true rfl⟩) hS sb (Jn.same sb) (fun H locs hP hD hS => ?_)
      have hP : va_P D vwCl (wX cA xd vd sd nd hd td ed kd images errors_15 fewest vspoon vmark vcount vbodies sbits slens snum h_weight h_known h_hour h_swS h_swW h_waS h_spoons h_kind h_mark h_silver h_fresh h_texts h_tape h_tapeCount h_z h_waiting h_waitingCount t_weight t_known t_hour t_swS t_swW t_waS t_spoons t_kind t_mark t_silver t_fresh t_texts t_tape t_tapeCount t_z t_waiting t_waitingCount e_weight e_known e_hour e_swS e_swW e_waS e_spoons e_kind e_mark e_silver e_fresh e_texts e_tape e_tapeCount e_z e_waiting e_waitingCount L tx tst) H := hP
      have hD : va_D A (wX cA xd vd sd nd hd td ed kd images errors_15 fewest vspoon vmark vcount vbodies sbits slens snum h_weight h_known h_hour h_swS h_swW h_waS h_spoons h_kind h_mark h_silver h_fresh h_texts h_tape h_tapeCount h_z h_waiting h_waitingCount t_weight t_known t_hour t_swS t_swW t_waS t_spoons t_kind t_mark t_silver t_fresh t_texts t_tape t_tapeCount t_z t_waiting t_waitingCount e_weight e_known e_hour e_swS e_swW e_waS e_spoons e_kind e_mark e_silver e_fresh e_texts e_tape e_tapeCount e_z e_waiting e_waitingCount L tx tst) := hD
      have h := Option.some.inj h
      have ee0 : r_14 = rR := congrArg (fun q => q.1) h
      have ee1 : errors_15 = errorsR := congrArg (fun q => q.2.1) h
      have ee2 : h_waS = h_waSR := congrArg (fun q => q.2.2) h
      subst ee0
      subst ee1
      subst ee2
      rw [← hQ]
      exact retI hx hb hr hlk hK hP hD hS dX11_wash_22 ⟨Nat.le_of_ble_eq_true rfl, Nat.le_of_ble_eq_true rfl⟩

def fX11_ofWash (a : Int32) (errors : Nat → Int32) (h_waS : Nat → Int32) : Option (Int32 × (Nat → Int32)) :=
  bd (fX11_within a (0 : Int32) (3 : Int32)) fun r_1 => (if r_1 = 0 then bd (fX11_refused (-1000000001 : Int32) errors) fun (r_4, errors_5) => some (r_4, errors_5) else ckI a 4 (some (((h_waS (a).toNatClampNeg) + (1 : Int32)), errors)))
set_option maxHeartbeats 4000000 in
set_option maxRecDepth 100000 in
theorem c_X11_ofWash (l : Launch) (G : Nat → Nat) (D : va_G) (cA : Nat → ClassId) (xd : Nat → Nat) (vd : Nat → Nat) (sd : Nat → Nat) (nd : Nat → Nat) (hd : Nat → Nat) (td : Nat → Nat) (ed : Nat → Nat) (kd : Nat → Nat) (sz : Nat) (images : Int32) (errors : Nat → Int32) (fewest : Nat → Int32) (vspoon : Int32) (vmark : Int32) (vcount : Int32) (vbodies : Nat → Int32) (sbits : Nat → Int32) (slens : Nat → Int32) (snum : Nat → Nat → Int32) (h_weight : Nat → Int32) (h_known : Int32) (h_hour : Int32) (h_swS : Nat → Int32) (h_swW : Nat → Int32) (h_waS : Nat → Int32) (h_spoons : Int32) (h_kind : Nat → Int32) (h_mark : Nat → Int32) (h_silver : Nat → Int32) (h_fresh : Nat → Int64) (h_texts : Nat → Option Nat) (h_tape : Nat → Int32) (h_tapeCount : Int32) (h_z : Int32) (h_waiting : Nat → Int32) (h_waitingCount : Int32) (t_weight : Nat → Int32) (t_known : Int32) (t_hour : Int32) (t_swS : Nat → Int32) (t_swW : Nat → Int32) (t_waS : Nat → Int32) (t_spoons : Int32) (t_kind : Nat → Int32) (t_mark : Nat → Int32) (t_silver : Nat → Int32) (t_fresh : Nat → Int64) (t_texts : Nat → Option Nat) (t_tape : Nat → Int32) (t_tapeCount : Int32) (t_z : Int32) (t_waiting : Nat → Int32) (t_waitingCount : Int32) (e_weight : Nat → Int32) (e_known : Int32) (e_hour : Int32) (e_swS : Nat → Int32) (e_swW : Nat → Int32) (e_waS : Nat → Int32) (e_spoons : Int32) (e_kind : Nat → Int32) (e_mark : Nat → Int32) (e_silver : Nat → Int32) (e_fresh : Nat → Int64) (e_texts : Nat → Option Nat) (e_tape : Nat → Int32) (e_tapeCount : Int32) (e_z : Int32) (e_waiting : Nat → Int32) (e_waitingCount : Int32) (L : List Nat) (tx : Nat → TXc) (tst : Nat → Nat → Int32) (a : Int32) (rR : Int32) (errorsR : Nat → Int32) (h : fX11_ofWash a errors h_waS = some (rR, errorsR)) : Met l yX11_ofWash wsX11_ofWash ({ frames := 1, cells := 0, slots := 0, locals := 22 } : Room) (PW G D (tyC cA) sz (wX cA xd vd sd nd hd td ed kd images errors fewest vspoon vmark vcount vbodies sbits slens snum h_weight h_known h_hour h_swS h_swW h_waS h_spoons h_kind h_mark h_silver h_fresh h_texts h_tape h_tapeCount h_z h_waiting h_waitingCount t_weight t_known t_hour t_swS t_swW t_waS t_spoons t_kind t_mark t_silver t_fresh t_texts t_tape t_tapeCount t_z t_waiting t_waitingCount e_weight e_known e_hour e_swS e_swW e_waS e_spoons e_kind e_mark e_silver e_fresh e_texts e_tape e_tapeCount e_z e_waiting e_waitingCount L tx tst) [.ref (xd 0), .int a]) (QI D (tyC cA) (va_A (wX cA xd vd sd nd hd td ed kd images errors fewest vspoon vmark vcount vbodies sbits slens snum h_weight h_known h_hour h_swS h_swW h_waS h_spoons h_kind h_mark h_silver h_fresh h_texts h_tape h_tapeCount h_z h_waiting h_waitingCount t_weight t_known t_hour t_swS t_swW t_waS t_spoons t_kind t_mark t_silver t_fresh t_texts t_tape t_tapeCount t_z t_waiting t_waitingCount e_weight e_known e_hour e_swS e_swW e_waS e_spoons e_kind e_mark e_silver e_fresh e_texts e_tape e_tapeCount e_z e_waiting e_waitingCount L tx tst) sz) rR (wX cA xd vd sd nd hd td ed kd images errorsR fewest vspoon vmark vcount vbodies sbits slens snum h_weight h_known h_hour h_swS h_swW h_waS h_spoons h_kind h_mark h_silver h_fresh h_texts h_tape h_tapeCount h_z h_waiting h_waitingCount t_weight t_known t_hour t_swS t_swW t_waS t_spoons t_kind t_mark t_silver t_fresh t_texts t_tape t_tapeCount t_z t_waiting t_waitingCount e_weight e_known e_hour e_swS e_swW e_waS e_spoons e_kind e_mark e_silver e_fresh e_texts e_tape e_tapeCount e_z e_waiting e_waitingCount L tx tst)) 0 0 (va_A (wX cA xd vd sd nd hd td ed kd images errors fewest vspoon vmark vcount vbodies sbits slens snum h_weight h_known h_hour h_swS h_swW h_waS h_spoons h_kind h_mark h_silver h_fresh h_texts h_tape h_tapeCount h_z h_waiting h_waitingCount t_weight t_known t_hour t_swS t_swW t_waS t_spoons t_kind t_mark t_silver t_fresh t_texts t_tape t_tapeCount t_z t_waiting t_waitingCount e_weight e_known e_hour e_swS e_swW e_waS e_spoons e_kind e_mark e_silver e_fresh e_texts e_tape e_tapeCount e_z e_waiting e_waitingCount L tx tst) sz) := by
  refine ent (cc := cX11_ofWash) (maxL := 2) (ret := (some .int)) (fun A => QI D (tyC cA) A rR (wX cA xd vd sd nd hd td ed kd images errorsR fewest vspoon vmark vcount vbodies sbits slens snum h_weight h_known h_hour h_swS h_swW h_waS h_spoons h_kind h_mark h_silver h_fresh h_texts h_tape h_tapeCount h_z h_waiting h_waitingCount t_weight t_known t_hour t_swS t_swW t_waS t_spoons t_kind t_mark t_silver t_fresh t_texts t_tape t_tapeCount t_z t_waiting t_waitingCount e_weight e_known e_hour e_swS e_swW e_waS e_spoons e_kind e_mark e_silver e_fresh e_texts e_tape e_tapeCount e_z e_waiting e_waitingCount L tx tst)) (by decide +kernel) rfl (Nat.le_of_ble_eq_true rfl) ?_
  intro p e s m args below meth c A ls H hx hb hml hr hlk hts hown hA hK hE hP hD hS hv hmm
  have hv : lv_has ls 2 [(0, .ref (xd 0)), (1, .int a)] := hv
  have in_3 : ∀ w ∈ u_ws RX3 TX3 18, w ∈ wsX11_ofWash := fun _ h => List.mem_cons_of_mem _ (List.mem_append_right _ h)
  have in_11 : ∀ w ∈ u_ws RX11 TX11 9, w ∈ wsX11_ofWash := fun _ h => List.mem_cons_of_mem _ (List.mem_append_left _ (List.mem_append_right _ h))
  have w_0 := hts (.constant RX11 78 (-1000000001)) (List.mem_of_getElem? (i := 3) rfl)
  have w_1 := hts (.fieldLink RX11 39 "SpoonsLast" "house" "LSpoonsLast$House;") (List.mem_of_getElem? (i := 1) rfl)
  have w_2 := hts (.fieldLink RX11 108 "SpoonsLast$House" "washSpoon" "[I") (List.mem_of_getElem? (i := 2) rfl)
  generalize hQ : MQ below _ args s 0 0 A = Q
  have hP : va_P D vwCl (wX cA xd vd sd nd hd td ed kd images errors fewest vspoon vmark vcount vbodies sbits slens snum h_weight h_known h_hour h_swS h_swW h_waS h_spoons h_kind h_mark h_silver h_fresh h_texts h_tape h_tapeCount h_z h_waiting h_waitingCount t_weight t_known t_hour t_swS t_swW t_waS t_spoons t_kind t_mark t_silver t_fresh t_texts t_tape t_tapeCount t_z t_waiting t_waitingCount e_weight e_known e_hour e_swS e_swW e_waS e_spoons e_kind e_mark e_silver e_fresh e_texts e_tape e_tapeCount e_z e_waiting e_waitingCount L tx tst) H := hP
  unfold fX11_ofWash at h
  refine lv_iload_n hx hb dX11_ofWash_0 rfl (lv_at hv 1 rfl) ?_
  refine lv_iconst (v := (0 : Int32)) hx hb dX11_ofWash_1 (by decide) ?_
  refine lv_iconst (v := (3 : Int32)) hx hb dX11_ofWash_2 (by decide) ?_
  obtain ⟨r_1, hf_2, h⟩ := bd_ex h
  have sb := Sb.nil hP hD hS hA
  refine calI (va_runS (As := [.int a, .int (0 : Int32), .int (3 : Int32)]) (rest := []) ⟨hx, hb, hml, hown, hts⟩ (c_X11_within l G D cA  _ a (0 : Int32) (3 : Int32) r_1 hf_2) (va_cwS 3 hts gX11_ofWash_X11_within rfl rfl rfl (by decide +kernel) ⟨Nat.le_of_ble_eq_true rfl, Nat.le_of_ble_eq_true rfl⟩) (pvS hE hK hS sb) rfl rfl hv.1 rfl (lv_room (Nat.le_of_ble_eq_true rfl)) dX11_ofWash_3 ⟨Nat.le_of_ble_eq_true rfl, Nat.le_of_ble_eq_true rfl⟩) hS sb (Jn.nil hP hD) (fun H locs hP hD hS => ?_)
  have hP : va_P D vwCl (wX cA xd vd sd nd hd td ed kd images errors fewest vspoon vmark vcount vbodies sbits slens snum h_weight h_known h_hour h_swS h_swW h_waS h_spoons h_kind h_mark h_silver h_fresh h_texts h_tape h_tapeCount h_z h_waiting h_waitingCount t_weight t_known t_hour t_swS t_swW t_waS t_spoons t_kind t_mark t_silver t_fresh t_texts t_tape t_tapeCount t_z t_waiting t_waitingCount e_weight e_known e_hour e_swS e_swW e_waS e_spoons e_kind e_mark e_silver e_fresh e_texts e_tape e_tapeCount e_z e_waiting e_waitingCount L tx tst) H := hP
  have hD : va_D A (wX cA xd vd sd nd hd td ed kd images errors fewest vspoon vmark vcount vbodies sbits slens snum h_weight h_known h_hour h_swS h_swW h_waS h_spoons h_kind h_mark h_silver h_fresh h_texts h_tape h_tapeCount h_z h_waiting h_waitingCount t_weight t_known t_hour t_swS t_swW t_waS t_spoons t_kind t_mark t_silver t_fresh t_texts t_tape t_tapeCount t_z t_waiting t_waitingCount e_weight e_known e_hour e_swS e_swW e_waS e_spoons e_kind e_mark e_silver e_fresh e_texts e_tape e_tapeCount e_z e_waiting e_waitingCount L tx tst) := hD
  refine lv_if_eq (tgt := 23) hx hb dX11_ofWash_6 (by decide) (fun c_3 => ?_) (fun c_3 => ?_)
  · have h := ite_t c_3 h
    refine lv_aload_n hx hb dX11_ofWash_23 rfl (lv_at hv 0 rfl) ?_
    refine lv_ldc (v := (-1000000001 : Int32)) hx hb hown w_0 dX11_ofWash_24 ?_
    obtain ⟨⟨r_4, errors_5⟩, hf_6, h⟩ := bd_ex h
    have sb := Sb.same hP hD hS hA
    refine calI (va_runV (As := [.int (-1000000001 : Int32)]) (rest := []) ⟨hx, hb, hml, hown, hts⟩ (c_X11_refused l G D cA xd vd sd nd hd td ed kd _ images errors fewest vspoon vmark vcount vbodies sbits slens snum h_weight h_known h_hour h_swS h_swW h_waS h_spoons h_kind h_mark h_silver h_fresh h_texts h_tape h_tapeCount h_z h_waiting h_waitingCount t_weight t_known t_hour t_swS t_swW t_waS t_spoons t_kind t_mark t_silver t_fresh t_texts t_tape t_tapeCount t_z t_waiting t_waitingCount e_weight e_known e_hour e_swS e_swW e_waS e_spoons e_kind e_mark e_silver e_fresh e_texts e_tape e_tapeCount e_z e_waiting e_waitingCount L tx tst (-1000000001 : Int32) r_4 errors_5 hf_6) (cwV 1 hts gX11_ofWash_X11_refused rfl rfl rfl (by decide +kernel) ⟨Nat.le_of_ble_eq_true rfl, Nat.le_of_ble_eq_true rfl⟩) (pvV hE hK hS sb (va_recv hK hP (ci := 11) (q0 := 0) rfl rfl)) rfl rfl hv.1 rfl (lv_room (Nat.le_of_ble_eq_true rfl)) dX11_ofWash_26 ⟨Nat.le_of_ble_eq_true rfl, Nat.le_of_ble_eq_true rfl⟩) hS sb (Jn.same sb) (fun H locs hP hD hS => ?_)
    have hP : va_P D vwCl (wX cA xd vd sd nd hd td ed kd images errors_5 fewest vspoon vmark vcount vbodies sbits slens snum h_weight h_known h_hour h_swS h_swW h_waS h_spoons h_kind h_mark h_silver h_fresh h_texts h_tape h_tapeCount h_z h_waiting h_waitingCount t_weight t_known t_hour t_swS t_swW t_waS t_spoons t_kind t_mark t_silver t_fresh t_texts t_tape t_tapeCount t_z t_waiting t_waitingCount e_weight e_known e_hour e_swS e_swW e_waS e_spoons e_kind e_mark e_silver e_fresh e_texts e_tape e_tapeCount e_z e_waiting e_waitingCount L tx tst) H := hP
    have hD : va_D A (wX cA xd vd sd nd hd td ed kd images errors_5 fewest vspoon vmark vcount vbodies sbits slens snum h_weight h_known h_hour h_swS h_swW h_waS h_spoons h_kind h_mark h_silver h_fresh h_texts h_tape h_tapeCount h_z h_waiting h_waitingCount t_weight t_known t_hour t_swS t_swW t_waS t_spoons t_kind t_mark t_silver t_fresh t_texts t_tape t_tapeCount t_z t_waiting t_waitingCount e_weight e_known e_hour e_swS e_swW e_waS e_spoons e_kind e_mark e_silver e_fresh e_texts e_tape e_tapeCount e_z e_waiting e_waitingCount L tx tst) := hD
    have h := Option.some.inj h
    have ee0 : r_4 = rR := congrArg (fun q => q.1) h
    have ee1 : errors_5 = errorsR := congrArg (fun q => q.2) h
    subst ee0
    subst ee1
    rw [← hQ]
    exact retI hx hb hr hlk hK hP hD hS dX11_ofWash_29 ⟨Nat.le_of_ble_eq_true rfl, Nat.le_of_ble_eq_true rfl⟩
  · have h := ite_f c_3 h
    refine lv_aload_n hx hb dX11_ofWash_9 rfl (lv_at hv 0 rfl) ?_
    refine va_get (D := D) (ci := 11) (v := .ref (hd 0)) (C := RX11) (T := TX11) (N := 9) hx hb hts in_11 hown hK hP 0 rfl rfl 0 (by decide) w_1 (fun _ h9 => h9) rfl dX11_ofWash_10 ?_
    refine va_get (D := D) (ci := 3) (v := .ref (hd 7)) (C := RX3) (T := TX3) (N := 18) hx hb hts in_3 hown hK hP 14 rfl rfl 6 (by decide) w_2 (fun _ h9 => h9) rfl dX11_ofWash_13 ?_
    refine lv_iload_n hx hb dX11_ofWash_16 rfl (lv_at hv 1 rfl) ?_
    obtain ⟨c_7, h⟩ := ckI_ex h
    refine va_iald (D := D) hx hb hK hP 18 0 rfl rfl c_7 dX11_ofWash_17 ?_
    refine lv_iconst (v := (1 : Int32)) hx hb dX11_ofWash_18 (by decide) ?_
    refine lv_iadd hx hb dX11_ofWash_19 ?_
    refine lv_goto (tgt := 29) hx hb dX11_ofWash_20 (by decide) ?_
    have h := Option.some.inj h
    have ee0 : ((h_waS (a).toNatClampNeg) + (1 : Int32)) = rR := congrArg (fun q => q.1) h
    have ee1 : errors = errorsR := congrArg (fun q => q.2) h
    subst ee0
    subst ee1
    rw [← hQ]
    exact retI hx hb hr hlk hK hP hD hS dX11_ofWash_29 ⟨Nat.le_of_ble_eq_true rfl, Nat.le_of_ble_eq_true rfl⟩

def fX11_spoon (a : Int32) (b : Int32) (errors : Nat → Int32) (h_spoons : Int32) (h_kind : Nat → Int32) (h_mark : Nat → Int32) (h_silver : Nat → Int32) (h_fresh : Nat → Int64) : Option (Int32 × (Nat → Int32) × Int32 × (Nat → Int32) × (Nat → Int32) × (Nat → Int32) × (Nat → Int64)) :=
  bd (fX11_within a (0 : Int32) (69 : Int32)) fun r_1 => (if r_1 = 0 then bd (fX11_refused (-1000000001 : Int32) errors) fun (r_4, errors_5) => some (r_4, errors_5, h_spoons, h_kind, h_mark, h_silver, h_fresh) else bd (fX11_within b (0 : Int32) (99 : Int32)) fun r_7 => (if r_7 = 0 then bd (fX11_refused (-1000000001 : Int32) errors) fun (r_26, errors_27) => some (r_26, errors_27, h_spoons, h_kind, h_mark, h_silver, h_fresh) else (if h_spoons = (8 : Int32) then bd (fX11_refused (-1000000004 : Int32) errors) fun (r_23, errors_24) => some (r_23, errors_24, h_spoons, h_kind, h_mark, h_silver, h_fresh) else bnd (h_spoons + (1 : Int32)) fun y_11 => bnd (a / (10 : Int32)) fun y_12 => ckI h_spoons 8 (bnd (upd h_kind (h_spoons).toNatClampNeg y_12) fun h_kind_14 => bnd (a - a / (10 : Int32) * (10 : Int32)) fun y_15 => ckI h_spoons 8 (bnd (upd h_mark (h_spoons).toNatClampNeg y_15) fun h_mark_17 => ckI h_spoons 8 (bnd (upd h_silver (h_spoons).toNatClampNeg b) fun h_silver_19 => bnd (0 : Int64) fun y_20 => ckI h_spoons 8 (bnd (vp_updL h_fresh (h_spoons).toNatClampNeg y_20) fun h_fresh_22 => some (h_spoons, errors, y_11, h_kind_14, h_mark_17, h_silver_19, h_fresh_22))))))))
set_option maxHeartbeats 4000000 in
set_option maxRecDepth 100000 in
theorem c_X11_spoon (l : Launch) (G : Nat → Nat) (D : va_G) (cA : Nat → ClassId) (xd : Nat → Nat) (vd : Nat → Nat) (sd : Nat → Nat) (nd : Nat → Nat) (hd : Nat → Nat) (td : Nat → Nat) (ed : Nat → Nat) (kd : Nat → Nat) (sz : Nat) (images : Int32) (errors : Nat → Int32) (fewest : Nat → Int32) (vspoon : Int32) (vmark : Int32) (vcount : Int32) (vbodies : Nat → Int32) (sbits : Nat → Int32) (slens : Nat → Int32) (snum : Nat → Nat → Int32) (h_weight : Nat → Int32) (h_known : Int32) (h_hour : Int32) (h_swS : Nat → Int32) (h_swW : Nat → Int32) (h_waS : Nat → Int32) (h_spoons : Int32) (h_kind : Nat → Int32) (h_mark : Nat → Int32) (h_silver : Nat → Int32) (h_fresh : Nat → Int64) (h_texts : Nat → Option Nat) (h_tape : Nat → Int32) (h_tapeCount : Int32) (h_z : Int32) (h_waiting : Nat → Int32) (h_waitingCount : Int32) (t_weight : Nat → Int32) (t_known : Int32) (t_hour : Int32) (t_swS : Nat → Int32) (t_swW : Nat → Int32) (t_waS : Nat → Int32) (t_spoons : Int32) (t_kind : Nat → Int32) (t_mark : Nat → Int32) (t_silver : Nat → Int32) (t_fresh : Nat → Int64) (t_texts : Nat → Option Nat) (t_tape : Nat → Int32) (t_tapeCount : Int32) (t_z : Int32) (t_waiting : Nat → Int32) (t_waitingCount : Int32) (e_weight : Nat → Int32) (e_known : Int32) (e_hour : Int32) (e_swS : Nat → Int32) (e_swW : Nat → Int32) (e_waS : Nat → Int32) (e_spoons : Int32) (e_kind : Nat → Int32) (e_mark : Nat → Int32) (e_silver : Nat → Int32) (e_fresh : Nat → Int64) (e_texts : Nat → Option Nat) (e_tape : Nat → Int32) (e_tapeCount : Int32) (e_z : Int32) (e_waiting : Nat → Int32) (e_waitingCount : Int32) (L : List Nat) (tx : Nat → TXc) (tst : Nat → Nat → Int32) (a : Int32) (b : Int32) (rR : Int32) (errorsR : Nat → Int32) (h_spoonsR : Int32) (h_kindR : Nat → Int32) (h_markR : Nat → Int32) (h_silverR : Nat → Int32) (h_freshR : Nat → Int64) (h : fX11_spoon a b errors h_spoons h_kind h_mark h_silver h_fresh = some (rR, errorsR, h_spoonsR, h_kindR, h_markR, h_silverR, h_freshR)) : Met l yX11_spoon wsX11_spoon ({ frames := 1, cells := 0, slots := 0, locals := 22 } : Room) (PW G D (tyC cA) sz (wX cA xd vd sd nd hd td ed kd images errors fewest vspoon vmark vcount vbodies sbits slens snum h_weight h_known h_hour h_swS h_swW h_waS h_spoons h_kind h_mark h_silver h_fresh h_texts h_tape h_tapeCount h_z h_waiting h_waitingCount t_weight t_known t_hour t_swS t_swW t_waS t_spoons t_kind t_mark t_silver t_fresh t_texts t_tape t_tapeCount t_z t_waiting t_waitingCount e_weight e_known e_hour e_swS e_swW e_waS e_spoons e_kind e_mark e_silver e_fresh e_texts e_tape e_tapeCount e_z e_waiting e_waitingCount L tx tst) [.ref (xd 0), .int a, .int b]) (QI D (tyC cA) (va_A (wX cA xd vd sd nd hd td ed kd images errors fewest vspoon vmark vcount vbodies sbits slens snum h_weight h_known h_hour h_swS h_swW h_waS h_spoons h_kind h_mark h_silver h_fresh h_texts h_tape h_tapeCount h_z h_waiting h_waitingCount t_weight t_known t_hour t_swS t_swW t_waS t_spoons t_kind t_mark t_silver t_fresh t_texts t_tape t_tapeCount t_z t_waiting t_waitingCount e_weight e_known e_hour e_swS e_swW e_waS e_spoons e_kind e_mark e_silver e_fresh e_texts e_tape e_tapeCount e_z e_waiting e_waitingCount L tx tst) sz) rR (wX cA xd vd sd nd hd td ed kd images errorsR fewest vspoon vmark vcount vbodies sbits slens snum h_weight h_known h_hour h_swS h_swW h_waS h_spoonsR h_kindR h_markR h_silverR h_freshR h_texts h_tape h_tapeCount h_z h_waiting h_waitingCount t_weight t_known t_hour t_swS t_swW t_waS t_spoons t_kind t_mark t_silver t_fresh t_texts t_tape t_tapeCount t_z t_waiting t_waitingCount e_weight e_known e_hour e_swS e_swW e_waS e_spoons e_kind e_mark e_silver e_fresh e_texts e_tape e_tapeCount e_z e_waiting e_waitingCount L tx tst)) 0 0 (va_A (wX cA xd vd sd nd hd td ed kd images errors fewest vspoon vmark vcount vbodies sbits slens snum h_weight h_known h_hour h_swS h_swW h_waS h_spoons h_kind h_mark h_silver h_fresh h_texts h_tape h_tapeCount h_z h_waiting h_waitingCount t_weight t_known t_hour t_swS t_swW t_waS t_spoons t_kind t_mark t_silver t_fresh t_texts t_tape t_tapeCount t_z t_waiting t_waitingCount e_weight e_known e_hour e_swS e_swW e_waS e_spoons e_kind e_mark e_silver e_fresh e_texts e_tape e_tapeCount e_z e_waiting e_waitingCount L tx tst) sz) := by
  refine ent (cc := cX11_spoon) (maxL := 4) (ret := (some .int)) (fun A => QI D (tyC cA) A rR (wX cA xd vd sd nd hd td ed kd images errorsR fewest vspoon vmark vcount vbodies sbits slens snum h_weight h_known h_hour h_swS h_swW h_waS h_spoonsR h_kindR h_markR h_silverR h_freshR h_texts h_tape h_tapeCount h_z h_waiting h_waitingCount t_weight t_known t_hour t_swS t_swW t_waS t_spoons t_kind t_mark t_silver t_fresh t_texts t_tape t_tapeCount t_z t_waiting t_waitingCount e_weight e_known e_hour e_swS e_swW e_waS e_spoons e_kind e_mark e_silver e_fresh e_texts e_tape e_tapeCount e_z e_waiting e_waitingCount L tx tst)) (by decide +kernel) rfl (Nat.le_of_ble_eq_true rfl) ?_
  intro p e s m args below meth c A ls H hx hb hml hr hlk hts hown hA hK hE hP hD hS hv hmm
  have hv : lv_has ls 4 [(0, .ref (xd 0)), (1, .int a), (2, .int b)] := hv
  have in_3 : ∀ w ∈ u_ws RX3 TX3 18, w ∈ wsX11_spoon := fun _ h => List.mem_cons_of_mem _ (List.mem_append_right _ h)
  have in_11 : ∀ w ∈ u_ws RX11 TX11 9, w ∈ wsX11_spoon := fun _ h => List.mem_cons_of_mem _ (List.mem_append_left _ (List.mem_append_right _ h))
  have w_0 := hts (.constant RX11 78 (-1000000001)) (List.mem_of_getElem? (i := 1) rfl)
  have w_1 := hts (.fieldLink RX11 39 "SpoonsLast" "house" "LSpoonsLast$House;") (List.mem_of_getElem? (i := 2) rfl)
  have w_2 := hts (.fieldLink RX11 111 "SpoonsLast$House" "spoons" "I") (List.mem_of_getElem? (i := 3) rfl)
  have w_3 := hts (.fieldLink RX11 115 "SpoonsLast$House" "kind" "[I") (List.mem_of_getElem? (i := 5) rfl)
  have w_4 := hts (.fieldLink RX11 118 "SpoonsLast$House" "mark" "[I") (List.mem_of_getElem? (i := 6) rfl)
  have w_5 := hts (.fieldLink RX11 121 "SpoonsLast$House" "silver" "[I") (List.mem_of_getElem? (i := 7) rfl)
  have w_6 := hts (.fieldLink RX11 124 "SpoonsLast$House" "fresh" "[J") (List.mem_of_getElem? (i := 8) rfl)
  have w_7 := hts (.constant RX11 114 (-1000000004)) (List.mem_of_getElem? (i := 4) rfl)
  generalize hQ : MQ below _ args s 0 0 A = Q
  have hP : va_P D vwCl (wX cA xd vd sd nd hd td ed kd images errors fewest vspoon vmark vcount vbodies sbits slens snum h_weight h_known h_hour h_swS h_swW h_waS h_spoons h_kind h_mark h_silver h_fresh h_texts h_tape h_tapeCount h_z h_waiting h_waitingCount t_weight t_known t_hour t_swS t_swW t_waS t_spoons t_kind t_mark t_silver t_fresh t_texts t_tape t_tapeCount t_z t_waiting t_waitingCount e_weight e_known e_hour e_swS e_swW e_waS e_spoons e_kind e_mark e_silver e_fresh e_texts e_tape e_tapeCount e_z e_waiting e_waitingCount L tx tst) H := hP
  unfold fX11_spoon at h
  refine lv_iload_n hx hb dX11_spoon_0 rfl (lv_at hv 1 rfl) ?_
  refine lv_iconst (v := (0 : Int32)) hx hb dX11_spoon_1 (by decide) ?_
  refine lv_bipush (v := (69 : Int32)) hx hb dX11_spoon_2 (by decide) ?_
  obtain ⟨r_1, hf_2, h⟩ := bd_ex h
  have sb := Sb.nil hP hD hS hA
  refine calI (va_runS (As := [.int a, .int (0 : Int32), .int (69 : Int32)]) (rest := []) ⟨hx, hb, hml, hown, hts⟩ (c_X11_within l G D cA  _ a (0 : Int32) (69 : Int32) r_1 hf_2) (va_cwS 3 hts gX11_spoon_X11_within rfl rfl rfl (by decide +kernel) ⟨Nat.le_of_ble_eq_true rfl, Nat.le_of_ble_eq_true rfl⟩) (pvS hE hK hS sb) rfl rfl hv.1 rfl (lv_room (Nat.le_of_ble_eq_true rfl)) dX11_spoon_4 ⟨Nat.le_of_ble_eq_true rfl, Nat.le_of_ble_eq_true rfl⟩) hS sb (Jn.nil hP hD) (fun H locs hP hD hS => ?_)
  have hP : va_P D vwCl (wX cA xd vd sd nd hd td ed kd images errors fewest vspoon vmark vcount vbodies sbits slens snum h_weight h_known h_hour h_swS h_swW h_waS h_spoons h_kind h_mark h_silver h_fresh h_texts h_tape h_tapeCount h_z h_waiting h_waitingCount t_weight t_known t_hour t_swS t_swW t_waS t_spoons t_kind t_mark t_silver t_fresh t_texts t_tape t_tapeCount t_z t_waiting t_waitingCount e_weight e_known e_hour e_swS e_swW e_waS e_spoons e_kind e_mark e_silver e_fresh e_texts e_tape e_tapeCount e_z e_waiting e_waitingCount L tx tst) H := hP
  have hD : va_D A (wX cA xd vd sd nd hd td ed kd images errors fewest vspoon vmark vcount vbodies sbits slens snum h_weight h_known h_hour h_swS h_swW h_waS h_spoons h_kind h_mark h_silver h_fresh h_texts h_tape h_tapeCount h_z h_waiting h_waitingCount t_weight t_known t_hour t_swS t_swW t_waS t_spoons t_kind t_mark t_silver t_fresh t_texts t_tape t_tapeCount t_z t_waiting t_waitingCount e_weight e_known e_hour e_swS e_swW e_waS e_spoons e_kind e_mark e_silver e_fresh e_texts e_tape e_tapeCount e_z e_waiting e_waitingCount L tx tst) := hD
  refine lv_if_eq (tgt := 20) hx hb dX11_spoon_7 (by decide) (fun c_3 => ?_) (fun c_3 => ?_)
  · have h := ite_t c_3 h
    refine lv_aload_n hx hb dX11_spoon_20 rfl (lv_at hv 0 rfl) ?_
    refine lv_ldc (v := (-1000000001 : Int32)) hx hb hown w_0 dX11_spoon_21 ?_
    obtain ⟨⟨r_4, errors_5⟩, hf_6, h⟩ := bd_ex h
    have sb := Sb.same hP hD hS hA
    refine calI (va_runV (As := [.int (-1000000001 : Int32)]) (rest := []) ⟨hx, hb, hml, hown, hts⟩ (c_X11_refused l G D cA xd vd sd nd hd td ed kd _ images errors fewest vspoon vmark vcount vbodies sbits slens snum h_weight h_known h_hour h_swS h_swW h_waS h_spoons h_kind h_mark h_silver h_fresh h_texts h_tape h_tapeCount h_z h_waiting h_waitingCount t_weight t_known t_hour t_swS t_swW t_waS t_spoons t_kind t_mark t_silver t_fresh t_texts t_tape t_tapeCount t_z t_waiting t_waitingCount e_weight e_known e_hour e_swS e_swW e_waS e_spoons e_kind e_mark e_silver e_fresh e_texts e_tape e_tapeCount e_z e_waiting e_waitingCount L tx tst (-1000000001 : Int32) r_4 errors_5 hf_6) (cwV 1 hts gX11_spoon_X11_refused rfl rfl rfl (by decide +kernel) ⟨Nat.le_of_ble_eq_true rfl, Nat.le_of_ble_eq_true rfl⟩) (pvV hE hK hS sb (va_recv hK hP (ci := 11) (q0 := 0) rfl rfl)) rfl rfl hv.1 rfl (lv_room (Nat.le_of_ble_eq_true rfl)) dX11_spoon_23 ⟨Nat.le_of_ble_eq_true rfl, Nat.le_of_ble_eq_true rfl⟩) hS sb (Jn.same sb) (fun H locs hP hD hS => ?_)
    have hP : va_P D vwCl (wX cA xd vd sd nd hd td ed kd images errors_5 fewest vspoon vmark vcount vbodies sbits slens snum h_weight h_known h_hour h_swS h_swW h_waS h_spoons h_kind h_mark h_silver h_fresh h_texts h_tape h_tapeCount h_z h_waiting h_waitingCount t_weight t_known t_hour t_swS t_swW t_waS t_spoons t_kind t_mark t_silver t_fresh t_texts t_tape t_tapeCount t_z t_waiting t_waitingCount e_weight e_known e_hour e_swS e_swW e_waS e_spoons e_kind e_mark e_silver e_fresh e_texts e_tape e_tapeCount e_z e_waiting e_waitingCount L tx tst) H := hP
    have hD : va_D A (wX cA xd vd sd nd hd td ed kd images errors_5 fewest vspoon vmark vcount vbodies sbits slens snum h_weight h_known h_hour h_swS h_swW h_waS h_spoons h_kind h_mark h_silver h_fresh h_texts h_tape h_tapeCount h_z h_waiting h_waitingCount t_weight t_known t_hour t_swS t_swW t_waS t_spoons t_kind t_mark t_silver t_fresh t_texts t_tape t_tapeCount t_z t_waiting t_waitingCount e_weight e_known e_hour e_swS e_swW e_waS e_spoons e_kind e_mark e_silver e_fresh e_texts e_tape e_tapeCount e_z e_waiting e_waitingCount L tx tst) := hD
    have h := Option.some.inj h
    have ee0 : r_4 = rR := congrArg (fun q => q.1) h
    have ee1 : errors_5 = errorsR := congrArg (fun q => q.2.1) h
    have ee2 : h_spoons = h_spoonsR := congrArg (fun q => q.2.2.1) h
    have ee3 : h_kind = h_kindR := congrArg (fun q => q.2.2.2.1) h
    have ee4 : h_mark = h_markR := congrArg (fun q => q.2.2.2.2.1) h
    have ee5 : h_silver = h_silverR := congrArg (fun q => q.2.2.2.2.2.1) h
    have ee6 : h_fresh = h_freshR := congrArg (fun q => q.2.2.2.2.2.2) h
    subst ee0
    subst ee1
    subst ee2
    subst ee3
    subst ee4
    subst ee5
    subst ee6
    rw [← hQ]
    exact retI hx hb hr hlk hK hP hD hS dX11_spoon_26 ⟨Nat.le_of_ble_eq_true rfl, Nat.le_of_ble_eq_true rfl⟩
  · have h := ite_f c_3 h
    refine lv_iload_n hx hb dX11_spoon_10 rfl (lv_at hv 2 rfl) ?_
    refine lv_iconst (v := (0 : Int32)) hx hb dX11_spoon_11 (by decide) ?_
    refine lv_bipush (v := (99 : Int32)) hx hb dX11_spoon_12 (by decide) ?_
    obtain ⟨r_7, hf_8, h⟩ := bd_ex h
    have sb := Sb.nil hP hD hS hA
    refine calI (va_runS (As := [.int b, .int (0 : Int32), .int (99 : Int32)]) (rest := []) ⟨hx, hb, hml, hown, hts⟩ (c_X11_within l G D cA  _ b (0 : Int32) (99 : Int32) r_7 hf_8) (va_cwS 3 hts gX11_spoon_X11_within rfl rfl rfl (by decide +kernel) ⟨Nat.le_of_ble_eq_true rfl, Nat.le_of_ble_eq_true rfl⟩) (pvS hE hK hS sb) rfl rfl hv.1 rfl (lv_room (Nat.le_of_ble_eq_true rfl)) dX11_spoon_14 ⟨Nat.le_of_ble_eq_true rfl, Nat.le_of_ble_eq_true rfl⟩) hS sb (Jn.nil hP hD) (fun H locs hP hD hS => ?_)
    have hP : va_P D vwCl (wX cA xd vd sd nd hd td ed kd images errors fewest vspoon vmark vcount vbodies sbits slens snum h_weight h_known h_hour h_swS h_swW h_waS h_spoons h_kind h_mark h_silver h_fresh h_texts h_tape h_tapeCount h_z h_waiting h_waitingCount t_weight t_known t_hour t_swS t_swW t_waS t_spoons t_kind t_mark t_silver t_fresh t_texts t_tape t_tapeCount t_z t_waiting t_waitingCount e_weight e_known e_hour e_swS e_swW e_waS e_spoons e_kind e_mark e_silver e_fresh e_texts e_tape e_tapeCount e_z e_waiting e_waitingCount L tx tst) H := hP
    have hD : va_D A (wX cA xd vd sd nd hd td ed kd images errors fewest vspoon vmark vcount vbodies sbits slens snum h_weight h_known h_hour h_swS h_swW h_waS h_spoons h_kind h_mark h_silver h_fresh h_texts h_tape h_tapeCount h_z h_waiting h_waitingCount t_weight t_known t_hour t_swS t_swW t_waS t_spoons t_kind t_mark t_silver t_fresh t_texts t_tape t_tapeCount t_z t_waiting t_waitingCount e_weight e_known e_hour e_swS e_swW e_waS e_spoons e_kind e_mark e_silver e_fresh e_texts e_tape e_tapeCount e_z e_waiting e_waitingCount L tx tst) := hD
    refine lv_if_ne (tgt := 27) hx hb dX11_spoon_17 (by decide) (fun c_9 => ?_) (fun c_9 => ?_)
    · have h := ite_f c_9 h
      refine lv_aload_n hx hb dX11_spoon_27 rfl (lv_at hv 0 rfl) ?_
      refine va_get (D := D) (ci := 11) (v := .ref (hd 0)) (C := RX11) (T := TX11) (N := 9) hx hb hts in_11 hown hK hP 0 rfl rfl 0 (by decide) w_1 (fun _ h9 => h9) rfl dX11_spoon_28 ?_
      refine va_get (D := D) (ci := 3) (v := .int h_spoons) (C := RX3) (T := TX3) (N := 18) hx hb hts in_3 hown hK hP 14 rfl rfl 7 (by decide) w_2 (fun _ h9 => h9) rfl dX11_spoon_31 ?_
      refine lv_bipush (v := (8 : Int32)) hx hb dX11_spoon_34 (by decide) ?_
      refine lv_icmp_ne (tgt := 46) hx hb dX11_spoon_36 (by decide) (fun c_10 => ?_) (fun c_10 => ?_)
      · have h := ite_f c_10 h
        refine lv_aload_n hx hb dX11_spoon_46 rfl (lv_at hv 0 rfl) ?_
        refine va_get (D := D) (ci := 11) (v := .ref (hd 0)) (C := RX11) (T := TX11) (N := 9) hx hb hts in_11 hown hK hP 0 rfl rfl 0 (by decide) w_1 (fun _ h9 => h9) rfl dX11_spoon_47 ?_
        refine va_get (D := D) (ci := 3) (v := .int h_spoons) (C := RX3) (T := TX3) (N := 18) hx hb hts in_3 hown hK hP 14 rfl rfl 7 (by decide) w_2 (fun _ h9 => h9) rfl dX11_spoon_50 ?_
        refine lv_istore_n (lv' := [(3, .int h_spoons), (0, .ref (xd 0)), (1, .int a), (2, .int b)]) hx hb dX11_spoon_53 rfl hv (by decide) rfl (fun ls hv => ?_)
        refine lv_aload_n hx hb dX11_spoon_54 rfl (lv_at hv 1 rfl) ?_
        refine va_get (D := D) (ci := 11) (v := .ref (hd 0)) (C := RX11) (T := TX11) (N := 9) hx hb hts in_11 hown hK hP 0 rfl rfl 0 (by decide) w_1 (fun _ h9 => h9) rfl dX11_spoon_55 ?_
        refine lv_dup hx hb dX11_spoon_58 rfl ?_
        refine va_get (D := D) (ci := 3) (v := .int h_spoons) (C := RX3) (T := TX3) (N := 18) hx hb hts in_3 hown hK hP 14 rfl rfl 7 (by decide) w_2 (fun _ h9 => h9) rfl dX11_spoon_59 ?_
        refine lv_iconst (v := (1 : Int32)) hx hb dX11_spoon_62 (by decide) ?_
        refine lv_iadd hx hb dX11_spoon_63 ?_
        obtain ⟨y_11, ey_11, h⟩ := bnd_ex h
        refine lv_nm ey_11 ?_
        refine va_put (D := D) (ci := 3) (v := .int y_11) (ty := .int) (C := RX3) (T := TX3) (N := 18) hx hb hts in_3 tyX3 tyX3_ok nmX3 hown hK hP hD hS 14 rfl rfl 7 (by decide) w_2 (fun _ h9 => h9) rfl (by decide +kernel) rfl rfl (Nat.le_of_ble_eq_true rfl) dX11_spoon_64 (fun H locs hP hD hS => ?_)
        have hP : va_P D vwCl (wX cA xd vd sd nd hd td ed kd images errors fewest vspoon vmark vcount vbodies sbits slens snum h_weight h_known h_hour h_swS h_swW h_waS y_11 h_kind h_mark h_silver h_fresh h_texts h_tape h_tapeCount h_z h_waiting h_waitingCount t_weight t_known t_hour t_swS t_swW t_waS t_spoons t_kind t_mark t_silver t_fresh t_texts t_tape t_tapeCount t_z t_waiting t_waitingCount e_weight e_known e_hour e_swS e_swW e_waS e_spoons e_kind e_mark e_silver e_fresh e_texts e_tape e_tapeCount e_z e_waiting e_waitingCount L tx tst) H := hP
        have hD : va_D A (wX cA xd vd sd nd hd td ed kd images errors fewest vspoon vmark vcount vbodies sbits slens snum h_weight h_known h_hour h_swS h_swW h_waS y_11 h_kind h_mark h_silver h_fresh h_texts h_tape h_tapeCount h_z h_waiting h_waitingCount t_weight t_known t_hour t_swS t_swW t_waS t_spoons t_kind t_mark t_silver t_fresh t_texts t_tape t_tapeCount t_z t_waiting t_waitingCount e_weight e_known e_hour e_swS e_swW e_waS e_spoons e_kind e_mark e_silver e_fresh e_texts e_tape e_tapeCount e_z e_waiting e_waitingCount L tx tst) := hD
        refine lv_aload_n hx hb dX11_spoon_67 rfl (lv_at hv 1 rfl) ?_
        refine va_get (D := D) (ci := 11) (v := .ref (hd 0)) (C := RX11) (T := TX11) (N := 9) hx hb hts in_11 hown hK hP 0 rfl rfl 0 (by decide) w_1 (fun _ h9 => h9) rfl dX11_spoon_68 ?_
        refine va_get (D := D) (ci := 3) (v := .ref (hd 9)) (C := RX3) (T := TX3) (N := 18) hx hb hts in_3 hown hK hP 14 rfl rfl 8 (by decide) w_3 (fun _ h9 => h9) rfl dX11_spoon_71 ?_
        refine lv_iload_n hx hb dX11_spoon_74 rfl (lv_at hv 0 rfl) ?_
        refine lv_iload_n hx hb dX11_spoon_75 rfl (lv_at hv 2 rfl) ?_
        refine lv_bipush (v := (10 : Int32)) hx hb dX11_spoon_76 (by decide) ?_
        refine lv_idiv hx hb dX11_spoon_78 (by decide) ?_
        obtain ⟨y_12, ey_12, h⟩ := bnd_ex h
        refine lv_nm ey_12 ?_
        obtain ⟨c_13, h⟩ := ckI_ex h
        obtain ⟨h_kind_14, eh_kind_14, h⟩ := bnd_ex h
        refine va_iast (D := D) hx hb hK hP hD hS 19 0 rfl rfl c_13 dX11_spoon_79 (fun H locs hP hD hS => ?_)
        rw [← eh_kind_14] at hP hD
        have hP : va_P D vwCl (wX cA xd vd sd nd hd td ed kd images errors fewest vspoon vmark vcount vbodies sbits slens snum h_weight h_known h_hour h_swS h_swW h_waS y_11 h_kind_14 h_mark h_silver h_fresh h_texts h_tape h_tapeCount h_z h_waiting h_waitingCount t_weight t_known t_hour t_swS t_swW t_waS t_spoons t_kind t_mark t_silver t_fresh t_texts t_tape t_tapeCount t_z t_waiting t_waitingCount e_weight e_known e_hour e_swS e_swW e_waS e_spoons e_kind e_mark e_silver e_fresh e_texts e_tape e_tapeCount e_z e_waiting e_waitingCount L tx tst) H := hP
        have hD : va_D A (wX cA xd vd sd nd hd td ed kd images errors fewest vspoon vmark vcount vbodies sbits slens snum h_weight h_known h_hour h_swS h_swW h_waS y_11 h_kind_14 h_mark h_silver h_fresh h_texts h_tape h_tapeCount h_z h_waiting h_waitingCount t_weight t_known t_hour t_swS t_swW t_waS t_spoons t_kind t_mark t_silver t_fresh t_texts t_tape t_tapeCount t_z t_waiting t_waitingCount e_weight e_known e_hour e_swS e_swW e_waS e_spoons e_kind e_mark e_silver e_fresh e_texts e_tape e_tapeCount e_z e_waiting e_waitingCount L tx tst) := hD
        refine lv_aload_n hx hb dX11_spoon_80 rfl (lv_at hv 1 rfl) ?_
        refine va_get (D := D) (ci := 11) (v := .ref (hd 0)) (C := RX11) (T := TX11) (N := 9) hx hb hts in_11 hown hK hP 0 rfl rfl 0 (by decide) w_1 (fun _ h9 => h9) rfl dX11_spoon_81 ?_
        refine va_get (D := D) (ci := 3) (v := .ref (hd 10)) (C := RX3) (T := TX3) (N := 18) hx hb hts in_3 hown hK hP 14 rfl rfl 9 (by decide) w_4 (fun _ h9 => h9) rfl dX11_spoon_84 ?_
        refine lv_iload_n hx hb dX11_spoon_87 rfl (lv_at hv 0 rfl) ?_
        refine lv_iload_n hx hb dX11_spoon_88 rfl (lv_at hv 2 rfl) ?_
        refine lv_bipush (v := (10 : Int32)) hx hb dX11_spoon_89 (by decide) ?_
        refine lv_irem hx hb dX11_spoon_91 (by decide) ?_
        obtain ⟨y_15, ey_15, h⟩ := bnd_ex h
        refine lv_nm ey_15 ?_
        obtain ⟨c_16, h⟩ := ckI_ex h
        obtain ⟨h_mark_17, eh_mark_17, h⟩ := bnd_ex h
        refine va_iast (D := D) hx hb hK hP hD hS 20 0 rfl rfl c_16 dX11_spoon_92 (fun H locs hP hD hS => ?_)
        rw [← eh_mark_17] at hP hD
        have hP : va_P D vwCl (wX cA xd vd sd nd hd td ed kd images errors fewest vspoon vmark vcount vbodies sbits slens snum h_weight h_known h_hour h_swS h_swW h_waS y_11 h_kind_14 h_mark_17 h_silver h_fresh h_texts h_tape h_tapeCount h_z h_waiting h_waitingCount t_weight t_known t_hour t_swS t_swW t_waS t_spoons t_kind t_mark t_silver t_fresh t_texts t_tape t_tapeCount t_z t_waiting t_waitingCount e_weight e_known e_hour e_swS e_swW e_waS e_spoons e_kind e_mark e_silver e_fresh e_texts e_tape e_tapeCount e_z e_waiting e_waitingCount L tx tst) H := hP
        have hD : va_D A (wX cA xd vd sd nd hd td ed kd images errors fewest vspoon vmark vcount vbodies sbits slens snum h_weight h_known h_hour h_swS h_swW h_waS y_11 h_kind_14 h_mark_17 h_silver h_fresh h_texts h_tape h_tapeCount h_z h_waiting h_waitingCount t_weight t_known t_hour t_swS t_swW t_waS t_spoons t_kind t_mark t_silver t_fresh t_texts t_tape t_tapeCount t_z t_waiting t_waitingCount e_weight e_known e_hour e_swS e_swW e_waS e_spoons e_kind e_mark e_silver e_fresh e_texts e_tape e_tapeCount e_z e_waiting e_waitingCount L tx tst) := hD
        refine lv_aload_n hx hb dX11_spoon_93 rfl (lv_at hv 1 rfl) ?_
        refine va_get (D := D) (ci := 11) (v := .ref (hd 0)) (C := RX11) (T := TX11) (N := 9) hx hb hts in_11 hown hK hP 0 rfl rfl 0 (by decide) w_1 (fun _ h9 => h9) rfl dX11_spoon_94 ?_
        refine va_get (D := D) (ci := 3) (v := .ref (hd 11)) (C := RX3) (T := TX3) (N := 18) hx hb hts in_3 hown hK hP 14 rfl rfl 10 (by decide) w_5 (fun _ h9 => h9) rfl dX11_spoon_97 ?_
        refine lv_iload_n hx hb dX11_spoon_100 rfl (lv_at hv 0 rfl) ?_
        refine lv_iload_n hx hb dX11_spoon_101 rfl (lv_at hv 3 rfl) ?_
        obtain ⟨c_18, h⟩ := ckI_ex h
        obtain ⟨h_silver_19, eh_silver_19, h⟩ := bnd_ex h
        refine va_iast (D := D) hx hb hK hP hD hS 21 0 rfl rfl c_18 dX11_spoon_102 (fun H locs hP hD hS => ?_)
        rw [← eh_silver_19] at hP hD
        have hP : va_P D vwCl (wX cA xd vd sd nd hd td ed kd images errors fewest vspoon vmark vcount vbodies sbits slens snum h_weight h_known h_hour h_swS h_swW h_waS y_11 h_kind_14 h_mark_17 h_silver_19 h_fresh h_texts h_tape h_tapeCount h_z h_waiting h_waitingCount t_weight t_known t_hour t_swS t_swW t_waS t_spoons t_kind t_mark t_silver t_fresh t_texts t_tape t_tapeCount t_z t_waiting t_waitingCount e_weight e_known e_hour e_swS e_swW e_waS e_spoons e_kind e_mark e_silver e_fresh e_texts e_tape e_tapeCount e_z e_waiting e_waitingCount L tx tst) H := hP
        have hD : va_D A (wX cA xd vd sd nd hd td ed kd images errors fewest vspoon vmark vcount vbodies sbits slens snum h_weight h_known h_hour h_swS h_swW h_waS y_11 h_kind_14 h_mark_17 h_silver_19 h_fresh h_texts h_tape h_tapeCount h_z h_waiting h_waitingCount t_weight t_known t_hour t_swS t_swW t_waS t_spoons t_kind t_mark t_silver t_fresh t_texts t_tape t_tapeCount t_z t_waiting t_waitingCount e_weight e_known e_hour e_swS e_swW e_waS e_spoons e_kind e_mark e_silver e_fresh e_texts e_tape e_tapeCount e_z e_waiting e_waitingCount L tx tst) := hD
        refine lv_aload_n hx hb dX11_spoon_103 rfl (lv_at hv 1 rfl) ?_
        refine va_get (D := D) (ci := 11) (v := .ref (hd 0)) (C := RX11) (T := TX11) (N := 9) hx hb hts in_11 hown hK hP 0 rfl rfl 0 (by decide) w_1 (fun _ h9 => h9) rfl dX11_spoon_104 ?_
        refine va_get (D := D) (ci := 3) (v := .ref (hd 12)) (C := RX3) (T := TX3) (N := 18) hx hb hts in_3 hown hK hP 14 rfl rfl 11 (by decide) w_6 (fun _ h9 => h9) rfl dX11_spoon_107 ?_
        refine lv_iload_n hx hb dX11_spoon_110 rfl (lv_at hv 0 rfl) ?_
        refine lv_lconst (v := (0 : Int64)) hx hb dX11_spoon_111 (by decide) ?_
        obtain ⟨y_20, ey_20, h⟩ := bnd_ex h
        refine lv_nml ey_20 ?_
        obtain ⟨c_21, h⟩ := ckI_ex h
        obtain ⟨h_fresh_22, eh_fresh_22, h⟩ := bnd_ex h
        refine va_last (D := D) hx hb hK hP hD hS 22 1 rfl rfl c_21 dX11_spoon_112 (fun H locs hP hD hS => ?_)
        rw [← eh_fresh_22] at hP hD
        have hP : va_P D vwCl (wX cA xd vd sd nd hd td ed kd images errors fewest vspoon vmark vcount vbodies sbits slens snum h_weight h_known h_hour h_swS h_swW h_waS y_11 h_kind_14 h_mark_17 h_silver_19 h_fresh_22 h_texts h_tape h_tapeCount h_z h_waiting h_waitingCount t_weight t_known t_hour t_swS t_swW t_waS t_spoons t_kind t_mark t_silver t_fresh t_texts t_tape t_tapeCount t_z t_waiting t_waitingCount e_weight e_known e_hour e_swS e_swW e_waS e_spoons e_kind e_mark e_silver e_fresh e_texts e_tape e_tapeCount e_z e_waiting e_waitingCount L tx tst) H := hP
        have hD : va_D A (wX cA xd vd sd nd hd td ed kd images errors fewest vspoon vmark vcount vbodies sbits slens snum h_weight h_known h_hour h_swS h_swW h_waS y_11 h_kind_14 h_mark_17 h_silver_19 h_fresh_22 h_texts h_tape h_tapeCount h_z h_waiting h_waitingCount t_weight t_known t_hour t_swS t_swW t_waS t_spoons t_kind t_mark t_silver t_fresh t_texts t_tape t_tapeCount t_z t_waiting t_waitingCount e_weight e_known e_hour e_swS e_swW e_waS e_spoons e_kind e_mark e_silver e_fresh e_texts e_tape e_tapeCount e_z e_waiting e_waitingCount L tx tst) := hD
        refine lv_iload_n hx hb dX11_spoon_113 rfl (lv_at hv 0 rfl) ?_
        have h := Option.some.inj h
        have ee0 : h_spoons = rR := congrArg (fun q => q.1) h
        have ee1 : errors = errorsR := congrArg (fun q => q.2.1) h
        have ee2 : y_11 = h_spoonsR := congrArg (fun q => q.2.2.1) h
        have ee3 : h_kind_14 = h_kindR := congrArg (fun q => q.2.2.2.1) h
        have ee4 : h_mark_17 = h_markR := congrArg (fun q => q.2.2.2.2.1) h
        have ee5 : h_silver_19 = h_silverR := congrArg (fun q => q.2.2.2.2.2.1) h
        have ee6 : h_fresh_22 = h_freshR := congrArg (fun q => q.2.2.2.2.2.2) h
        subst ee0
        subst ee1
        subst ee2
        subst ee3
        subst ee4
        subst ee5
        subst ee6
        rw [← hQ]
        exact retI hx hb hr hlk hK hP hD hS dX11_spoon_114 ⟨Nat.le_of_ble_eq_true rfl, Nat.le_of_ble_eq_true rfl⟩
      · have h := ite_t c_10 h
        refine lv_aload_n hx hb dX11_spoon_39 rfl (lv_at hv 0 rfl) ?_
        refine lv_ldc (v := (-1000000004 : Int32)) hx hb hown w_7 dX11_spoon_40 ?_
        obtain ⟨⟨r_23, errors_24⟩, hf_25, h⟩ := bd_ex h
        have sb := Sb.same hP hD hS hA
        refine calI (va_runV (As := [.int (-1000000004 : Int32)]) (rest := []) ⟨hx, hb, hml, hown, hts⟩ (c_X11_refused l G D cA xd vd sd nd hd td ed kd _ images errors fewest vspoon vmark vcount vbodies sbits slens snum h_weight h_known h_hour h_swS h_swW h_waS h_spoons h_kind h_mark h_silver h_fresh h_texts h_tape h_tapeCount h_z h_waiting h_waitingCount t_weight t_known t_hour t_swS t_swW t_waS t_spoons t_kind t_mark t_silver t_fresh t_texts t_tape t_tapeCount t_z t_waiting t_waitingCount e_weight e_known e_hour e_swS e_swW e_waS e_spoons e_kind e_mark e_silver e_fresh e_texts e_tape e_tapeCount e_z e_waiting e_waitingCount L tx tst (-1000000004 : Int32) r_23 errors_24 hf_25) (cwV 1 hts gX11_spoon_X11_refused rfl rfl rfl (by decide +kernel) ⟨Nat.le_of_ble_eq_true rfl, Nat.le_of_ble_eq_true rfl⟩) (pvV hE hK hS sb (va_recv hK hP (ci := 11) (q0 := 0) rfl rfl)) rfl rfl hv.1 rfl (lv_room (Nat.le_of_ble_eq_true rfl)) dX11_spoon_42 ⟨Nat.le_of_ble_eq_true rfl, Nat.le_of_ble_eq_true rfl⟩) hS sb (Jn.same sb) (fun H locs hP hD hS => ?_)
        have hP : va_P D vwCl (wX cA xd vd sd nd hd td ed kd images errors_24 fewest vspoon vmark vcount vbodies sbits slens snum h_weight h_known h_hour h_swS h_swW h_waS h_spoons h_kind h_mark h_silver h_fresh h_texts h_tape h_tapeCount h_z h_waiting h_waitingCount t_weight t_known t_hour t_swS t_swW t_waS t_spoons t_kind t_mark t_silver t_fresh t_texts t_tape t_tapeCount t_z t_waiting t_waitingCount e_weight e_known e_hour e_swS e_swW e_waS e_spoons e_kind e_mark e_silver e_fresh e_texts e_tape e_tapeCount e_z e_waiting e_waitingCount L tx tst) H := hP
        have hD : va_D A (wX cA xd vd sd nd hd td ed kd images errors_24 fewest vspoon vmark vcount vbodies sbits slens snum h_weight h_known h_hour h_swS h_swW h_waS h_spoons h_kind h_mark h_silver h_fresh h_texts h_tape h_tapeCount h_z h_waiting h_waitingCount t_weight t_known t_hour t_swS t_swW t_waS t_spoons t_kind t_mark t_silver t_fresh t_texts t_tape t_tapeCount t_z t_waiting t_waitingCount e_weight e_known e_hour e_swS e_swW e_waS e_spoons e_kind e_mark e_silver e_fresh e_texts e_tape e_tapeCount e_z e_waiting e_waitingCount L tx tst) := hD
        have h := Option.some.inj h
        have ee0 : r_23 = rR := congrArg (fun q => q.1) h
        have ee1 : errors_24 = errorsR := congrArg (fun q => q.2.1) h
        have ee2 : h_spoons = h_spoonsR := congrArg (fun q => q.2.2.1) h
        have ee3 : h_kind = h_kindR := congrArg (fun q => q.2.2.2.1) h
        have ee4 : h_mark = h_markR := congrArg (fun q => q.2.2.2.2.1) h
        have ee5 : h_silver = h_silverR := congrArg (fun q => q.2.2.2.2.2.1) h
        have ee6 : h_fresh = h_freshR := congrArg (fun q => q.2.2.2.2.2.2) h
        subst ee0
        subst ee1
        subst ee2
        subst ee3
        subst ee4
        subst ee5
        subst ee6
        rw [← hQ]
        exact retI hx hb hr hlk hK hP hD hS dX11_spoon_45 ⟨Nat.le_of_ble_eq_true rfl, Nat.le_of_ble_eq_true rfl⟩
    · have h := ite_t c_9 h
      refine lv_aload_n hx hb dX11_spoon_20 rfl (lv_at hv 0 rfl) ?_
      refine lv_ldc (v := (-1000000001 : Int32)) hx hb hown w_0 dX11_spoon_21 ?_
      obtain ⟨⟨r_26, errors_27⟩, hf_28, h⟩ := bd_ex h
      have sb := Sb.same hP hD hS hA
      refine calI (va_runV (As := [.int (-1000000001 : Int32)]) (rest := []) ⟨hx, hb, hml, hown, hts⟩ (c_X11_refused l G D cA xd vd sd nd hd td ed kd _ images errors fewest vspoon vmark vcount vbodies sbits slens snum h_weight h_known h_hour h_swS h_swW h_waS h_spoons h_kind h_mark h_silver h_fresh h_texts h_tape h_tapeCount h_z h_waiting h_waitingCount t_weight t_known t_hour t_swS t_swW t_waS t_spoons t_kind t_mark t_silver t_fresh t_texts t_tape t_tapeCount t_z t_waiting t_waitingCount e_weight e_known e_hour e_swS e_swW e_waS e_spoons e_kind e_mark e_silver e_fresh e_texts e_tape e_tapeCount e_z e_waiting e_waitingCount L tx tst (-1000000001 : Int32) r_26 errors_27 hf_28) (cwV 1 hts gX11_spoon_X11_refused rfl rfl rfl (by decide +kernel) ⟨Nat.le_of_ble_eq_true rfl, Nat.le_of_ble_eq_true rfl⟩) (pvV hE hK hS sb (va_recv hK hP (ci := 11) (q0 := 0) rfl rfl)) rfl rfl hv.1 rfl (lv_room (Nat.le_of_ble_eq_true rfl)) dX11_spoon_23 ⟨Nat.le_of_ble_eq_true rfl, Nat.le_of_ble_eq_true rfl⟩) hS sb (Jn.same sb) (fun H locs hP hD hS => ?_)
      have hP : va_P D vwCl (wX cA xd vd sd nd hd td ed kd images errors_27 fewest vspoon vmark vcount vbodies sbits slens snum h_weight h_known h_hour h_swS h_swW h_waS h_spoons h_kind h_mark h_silver h_fresh h_texts h_tape h_tapeCount h_z h_waiting h_waitingCount t_weight t_known t_hour t_swS t_swW t_waS t_spoons t_kind t_mark t_silver t_fresh t_texts t_tape t_tapeCount t_z t_waiting t_waitingCount e_weight e_known e_hour e_swS e_swW e_waS e_spoons e_kind e_mark e_silver e_fresh e_texts e_tape e_tapeCount e_z e_waiting e_waitingCount L tx tst) H := hP
      have hD : va_D A (wX cA xd vd sd nd hd td ed kd images errors_27 fewest vspoon vmark vcount vbodies sbits slens snum h_weight h_known h_hour h_swS h_swW h_waS h_spoons h_kind h_mark h_silver h_fresh h_texts h_tape h_tapeCount h_z h_waiting h_waitingCount t_weight t_known t_hour t_swS t_swW t_waS t_spoons t_kind t_mark t_silver t_fresh t_texts t_tape t_tapeCount t_z t_waiting t_waitingCount e_weight e_known e_hour e_swS e_swW e_waS e_spoons e_kind e_mark e_silver e_fresh e_texts e_tape e_tapeCount e_z e_waiting e_waitingCount L tx tst) := hD
      have h := Option.some.inj h
      have ee0 : r_26 = rR := congrArg (fun q => q.1) h
      have ee1 : errors_27 = errorsR := congrArg (fun q => q.2.1) h
      have ee2 : h_spoons = h_spoonsR := congrArg (fun q => q.2.2.1) h
      have ee3 : h_kind = h_kindR := congrArg (fun q => q.2.2.2.1) h
      have ee4 : h_mark = h_markR := congrArg (fun q => q.2.2.2.2.1) h
      have ee5 : h_silver = h_silverR := congrArg (fun q => q.2.2.2.2.2.1) h
      have ee6 : h_fresh = h_freshR := congrArg (fun q => q.2.2.2.2.2.2) h
      subst ee0
      subst ee1
      subst ee2
      subst ee3
      subst ee4
      subst ee5
      subst ee6
      rw [← hQ]
      exact retI hx hb hr hlk hK hP hD hS dX11_spoon_26 ⟨Nat.le_of_ble_eq_true rfl, Nat.le_of_ble_eq_true rfl⟩

def fX11_ofSpoon (a : Int32) (what : Int32) (errors : Nat → Int32) (h_spoons : Int32) (h_kind : Nat → Int32) (h_mark : Nat → Int32) (h_silver : Nat → Int32) (h_fresh : Nat → Int64) (h_texts : Nat → Option Nat) (L : List Nat) (tx : Nat → TXc) (tst : Nat → Nat → Int32) : Option (Int32 × (Nat → Int32) × (Nat → Nat → Int32)) :=
  bd (fX11_isSpoon a h_spoons) fun r_1 => (if r_1 = 0 then bd (fX11_refused (-1000000001 : Int32) errors) fun (r_4, errors_5) => some (r_4, errors_5, tst) else bd (fX11_within what (0 : Int32) (16 : Int32)) fun r_7 => (if r_7 = 0 then bd (fX11_refused (-1000000001 : Int32) errors) fun (r_26, errors_27) => some (r_26, errors_27, tst) else (if what = (0 : Int32) then ckI a 8 (some ((h_kind (a).toNatClampNeg), errors, tst)) else (if what = (1 : Int32) then ckI a 8 (some ((h_mark (a).toNatClampNeg), errors, tst)) else (if what = (2 : Int32) then ckI a 8 (some ((h_silver (a).toNatClampNeg), errors, tst)) else (if what = (3 : Int32) then bd (fX3_wordsOn a h_fresh) fun r_17 => some (r_17, errors, tst) else (if what = (4 : Int32) then bd (fX3_rubOf a h_kind h_silver h_fresh h_texts L tx tst) fun (r_20, tst_21) => some (r_20, errors, tst_21) else ckI a 8 (bd (fX3_freshIn (h_fresh (a).toNatClampNeg) (what - (5 : Int32))) fun r_24 => some (r_24, errors, tst)))))))))
set_option maxHeartbeats 4000000 in
set_option maxRecDepth 100000 in
theorem c_X11_ofSpoon (l : Launch) (G : Nat → Nat) (D : va_G) (cA : Nat → ClassId) (xd : Nat → Nat) (vd : Nat → Nat) (sd : Nat → Nat) (nd : Nat → Nat) (hd : Nat → Nat) (td : Nat → Nat) (ed : Nat → Nat) (kd : Nat → Nat) (sz : Nat) (images : Int32) (errors : Nat → Int32) (fewest : Nat → Int32) (vspoon : Int32) (vmark : Int32) (vcount : Int32) (vbodies : Nat → Int32) (sbits : Nat → Int32) (slens : Nat → Int32) (snum : Nat → Nat → Int32) (h_weight : Nat → Int32) (h_known : Int32) (h_hour : Int32) (h_swS : Nat → Int32) (h_swW : Nat → Int32) (h_waS : Nat → Int32) (h_spoons : Int32) (h_kind : Nat → Int32) (h_mark : Nat → Int32) (h_silver : Nat → Int32) (h_fresh : Nat → Int64) (h_texts : Nat → Option Nat) (h_tape : Nat → Int32) (h_tapeCount : Int32) (h_z : Int32) (h_waiting : Nat → Int32) (h_waitingCount : Int32) (t_weight : Nat → Int32) (t_known : Int32) (t_hour : Int32) (t_swS : Nat → Int32) (t_swW : Nat → Int32) (t_waS : Nat → Int32) (t_spoons : Int32) (t_kind : Nat → Int32) (t_mark : Nat → Int32) (t_silver : Nat → Int32) (t_fresh : Nat → Int64) (t_texts : Nat → Option Nat) (t_tape : Nat → Int32) (t_tapeCount : Int32) (t_z : Int32) (t_waiting : Nat → Int32) (t_waitingCount : Int32) (e_weight : Nat → Int32) (e_known : Int32) (e_hour : Int32) (e_swS : Nat → Int32) (e_swW : Nat → Int32) (e_waS : Nat → Int32) (e_spoons : Int32) (e_kind : Nat → Int32) (e_mark : Nat → Int32) (e_silver : Nat → Int32) (e_fresh : Nat → Int64) (e_texts : Nat → Option Nat) (e_tape : Nat → Int32) (e_tapeCount : Int32) (e_z : Int32) (e_waiting : Nat → Int32) (e_waitingCount : Int32) (L : List Nat) (tx : Nat → TXc) (tst : Nat → Nat → Int32) (a : Int32) (what : Int32) (rR : Int32) (errorsR : Nat → Int32) (tstR : Nat → Nat → Int32) (h : fX11_ofSpoon a what errors h_spoons h_kind h_mark h_silver h_fresh h_texts L tx tst = some (rR, errorsR, tstR)) : Met l yX11_ofSpoon wsX11_ofSpoon ({ frames := 4, cells := 0, slots := 0, locals := 96 } : Room) (PW G D (tyC cA) sz (wX cA xd vd sd nd hd td ed kd images errors fewest vspoon vmark vcount vbodies sbits slens snum h_weight h_known h_hour h_swS h_swW h_waS h_spoons h_kind h_mark h_silver h_fresh h_texts h_tape h_tapeCount h_z h_waiting h_waitingCount t_weight t_known t_hour t_swS t_swW t_waS t_spoons t_kind t_mark t_silver t_fresh t_texts t_tape t_tapeCount t_z t_waiting t_waitingCount e_weight e_known e_hour e_swS e_swW e_waS e_spoons e_kind e_mark e_silver e_fresh e_texts e_tape e_tapeCount e_z e_waiting e_waitingCount L tx tst) [.ref (xd 0), .int a, .int what]) (QI D (tyC cA) (va_A (wX cA xd vd sd nd hd td ed kd images errors fewest vspoon vmark vcount vbodies sbits slens snum h_weight h_known h_hour h_swS h_swW h_waS h_spoons h_kind h_mark h_silver h_fresh h_texts h_tape h_tapeCount h_z h_waiting h_waitingCount t_weight t_known t_hour t_swS t_swW t_waS t_spoons t_kind t_mark t_silver t_fresh t_texts t_tape t_tapeCount t_z t_waiting t_waitingCount e_weight e_known e_hour e_swS e_swW e_waS e_spoons e_kind e_mark e_silver e_fresh e_texts e_tape e_tapeCount e_z e_waiting e_waitingCount L tx tst) sz) rR (wX cA xd vd sd nd hd td ed kd images errorsR fewest vspoon vmark vcount vbodies sbits slens snum h_weight h_known h_hour h_swS h_swW h_waS h_spoons h_kind h_mark h_silver h_fresh h_texts h_tape h_tapeCount h_z h_waiting h_waitingCount t_weight t_known t_hour t_swS t_swW t_waS t_spoons t_kind t_mark t_silver t_fresh t_texts t_tape t_tapeCount t_z t_waiting t_waitingCount e_weight e_known e_hour e_swS e_swW e_waS e_spoons e_kind e_mark e_silver e_fresh e_texts e_tape e_tapeCount e_z e_waiting e_waitingCount L tx tstR)) 0 0 (va_A (wX cA xd vd sd nd hd td ed kd images errors fewest vspoon vmark vcount vbodies sbits slens snum h_weight h_known h_hour h_swS h_swW h_waS h_spoons h_kind h_mark h_silver h_fresh h_texts h_tape h_tapeCount h_z h_waiting h_waitingCount t_weight t_known t_hour t_swS t_swW t_waS t_spoons t_kind t_mark t_silver t_fresh t_texts t_tape t_tapeCount t_z t_waiting t_waitingCount e_weight e_known e_hour e_swS e_swW e_waS e_spoons e_kind e_mark e_silver e_fresh e_texts e_tape e_tapeCount e_z e_waiting e_waitingCount L tx tst) sz) := by
  refine ent (cc := cX11_ofSpoon) (maxL := 3) (ret := (some .int)) (fun A => QI D (tyC cA) A rR (wX cA xd vd sd nd hd td ed kd images errorsR fewest vspoon vmark vcount vbodies sbits slens snum h_weight h_known h_hour h_swS h_swW h_waS h_spoons h_kind h_mark h_silver h_fresh h_texts h_tape h_tapeCount h_z h_waiting h_waitingCount t_weight t_known t_hour t_swS t_swW t_waS t_spoons t_kind t_mark t_silver t_fresh t_texts t_tape t_tapeCount t_z t_waiting t_waitingCount e_weight e_known e_hour e_swS e_swW e_waS e_spoons e_kind e_mark e_silver e_fresh e_texts e_tape e_tapeCount e_z e_waiting e_waitingCount L tx tstR)) (by decide +kernel) rfl (Nat.le_of_ble_eq_true rfl) ?_
  intro p e s m args below meth c A ls H hx hb hml hr hlk hts hown hA hK hE hP hD hS hv hmm
  have hv : lv_has ls 3 [(0, .ref (xd 0)), (1, .int a), (2, .int what)] := hv
  have in_3 : ∀ w ∈ u_ws RX3 TX3 18, w ∈ wsX11_ofSpoon := fun _ h => List.mem_cons_of_mem _ (List.mem_append_left _ (List.mem_append_right _ h))
  have in_11 : ∀ w ∈ u_ws RX11 TX11 9, w ∈ wsX11_ofSpoon := fun _ h => List.mem_cons_of_mem _ (List.mem_append_left _ (List.mem_append_left _ (List.mem_append_right _ h)))
  have w_0 := hts (.constant RX11 78 (-1000000001)) (List.mem_of_getElem? (i := 1) rfl)
  have w_1 := hts (.fieldLink RX11 39 "SpoonsLast" "house" "LSpoonsLast$House;") (List.mem_of_getElem? (i := 2) rfl)
  have w_2 := hts (.fieldLink RX11 115 "SpoonsLast$House" "kind" "[I") (List.mem_of_getElem? (i := 3) rfl)
  have w_3 := hts (.fieldLink RX11 118 "SpoonsLast$House" "mark" "[I") (List.mem_of_getElem? (i := 4) rfl)
  have w_4 := hts (.fieldLink RX11 121 "SpoonsLast$House" "silver" "[I") (List.mem_of_getElem? (i := 5) rfl)
  have w_5 := hts (.fieldLink RX11 124 "SpoonsLast$House" "fresh" "[J") (List.mem_of_getElem? (i := 6) rfl)
  generalize hQ : MQ below _ args s 0 0 A = Q
  have hP : va_P D vwCl (wX cA xd vd sd nd hd td ed kd images errors fewest vspoon vmark vcount vbodies sbits slens snum h_weight h_known h_hour h_swS h_swW h_waS h_spoons h_kind h_mark h_silver h_fresh h_texts h_tape h_tapeCount h_z h_waiting h_waitingCount t_weight t_known t_hour t_swS t_swW t_waS t_spoons t_kind t_mark t_silver t_fresh t_texts t_tape t_tapeCount t_z t_waiting t_waitingCount e_weight e_known e_hour e_swS e_swW e_waS e_spoons e_kind e_mark e_silver e_fresh e_texts e_tape e_tapeCount e_z e_waiting e_waitingCount L tx tst) H := hP
  unfold fX11_ofSpoon at h
  refine lv_aload_n hx hb dX11_ofSpoon_0 rfl (lv_at hv 0 rfl) ?_
  refine lv_iload_n hx hb dX11_ofSpoon_1 rfl (lv_at hv 1 rfl) ?_
  obtain ⟨r_1, hf_2, h⟩ := bd_ex h
  have sb := Sb.same hP hD hS hA
  refine calI (va_runV (As := [.int a]) (rest := []) ⟨hx, hb, hml, hown, hts⟩ (c_X11_isSpoon l G D cA xd vd sd nd hd td ed kd _ images errors fewest vspoon vmark vcount vbodies sbits slens snum h_weight h_known h_hour h_swS h_swW h_waS h_spoons h_kind h_mark h_silver h_fresh h_texts h_tape h_tapeCount h_z h_waiting h_waitingCount t_weight t_known t_hour t_swS t_swW t_waS t_spoons t_kind t_mark t_silver t_fresh t_texts t_tape t_tapeCount t_z t_waiting t_waitingCount e_weight e_known e_hour e_swS e_swW e_waS e_spoons e_kind e_mark e_silver e_fresh e_texts e_tape e_tapeCount e_z e_waiting e_waitingCount L tx tst a r_1 hf_2) (cwV 1 hts gX11_ofSpoon_X11_isSpoon rfl rfl rfl (by decide +kernel) ⟨Nat.le_of_ble_eq_true rfl, Nat.le_of_ble_eq_true rfl⟩) (pvV hE hK hS sb (va_recv hK hP (ci := 11) (q0 := 0) rfl rfl)) rfl rfl hv.1 rfl (lv_room (Nat.le_of_ble_eq_true rfl)) dX11_ofSpoon_2 ⟨Nat.le_of_ble_eq_true rfl, Nat.le_of_ble_eq_true rfl⟩) hS sb (Jn.same sb) (fun H locs hP hD hS => ?_)
  have hP : va_P D vwCl (wX cA xd vd sd nd hd td ed kd images errors fewest vspoon vmark vcount vbodies sbits slens snum h_weight h_known h_hour h_swS h_swW h_waS h_spoons h_kind h_mark h_silver h_fresh h_texts h_tape h_tapeCount h_z h_waiting h_waitingCount t_weight t_known t_hour t_swS t_swW t_waS t_spoons t_kind t_mark t_silver t_fresh t_texts t_tape t_tapeCount t_z t_waiting t_waitingCount e_weight e_known e_hour e_swS e_swW e_waS e_spoons e_kind e_mark e_silver e_fresh e_texts e_tape e_tapeCount e_z e_waiting e_waitingCount L tx tst) H := hP
  have hD : va_D A (wX cA xd vd sd nd hd td ed kd images errors fewest vspoon vmark vcount vbodies sbits slens snum h_weight h_known h_hour h_swS h_swW h_waS h_spoons h_kind h_mark h_silver h_fresh h_texts h_tape h_tapeCount h_z h_waiting h_waitingCount t_weight t_known t_hour t_swS t_swW t_waS t_spoons t_kind t_mark t_silver t_fresh t_texts t_tape t_tapeCount t_z t_waiting t_waitingCount e_weight e_known e_hour e_swS e_swW e_waS e_spoons e_kind e_mark e_silver e_fresh e_texts e_tape e_tapeCount e_z e_waiting e_waitingCount L tx tst) := hD
  refine lv_if_eq (tgt := 18) hx hb dX11_ofSpoon_5 (by decide) (fun c_3 => ?_) (fun c_3 => ?_)
  · have h := ite_t c_3 h
    refine lv_aload_n hx hb dX11_ofSpoon_18 rfl (lv_at hv 0 rfl) ?_
    refine lv_ldc (v := (-1000000001 : Int32)) hx hb hown w_0 dX11_ofSpoon_19 ?_
    obtain ⟨⟨r_4, errors_5⟩, hf_6, h⟩ := bd_ex h
    have sb := Sb.same hP hD hS hA
    refine calI (va_runV (As := [.int (-1000000001 : Int32)]) (rest := []) ⟨hx, hb, hml, hown, hts⟩ (c_X11_refused l G D cA xd vd sd nd hd td ed kd _ images errors fewest vspoon vmark vcount vbodies sbits slens snum h_weight h_known h_hour h_swS h_swW h_waS h_spoons h_kind h_mark h_silver h_fresh h_texts h_tape h_tapeCount h_z h_waiting h_waitingCount t_weight t_known t_hour t_swS t_swW t_waS t_spoons t_kind t_mark t_silver t_fresh t_texts t_tape t_tapeCount t_z t_waiting t_waitingCount e_weight e_known e_hour e_swS e_swW e_waS e_spoons e_kind e_mark e_silver e_fresh e_texts e_tape e_tapeCount e_z e_waiting e_waitingCount L tx tst (-1000000001 : Int32) r_4 errors_5 hf_6) (cwV 1 hts gX11_ofSpoon_X11_refused rfl rfl rfl (by decide +kernel) ⟨Nat.le_of_ble_eq_true rfl, Nat.le_of_ble_eq_true rfl⟩) (pvV hE hK hS sb (va_recv hK hP (ci := 11) (q0 := 0) rfl rfl)) rfl rfl hv.1 rfl (lv_room (Nat.le_of_ble_eq_true rfl)) dX11_ofSpoon_21 ⟨Nat.le_of_ble_eq_true rfl, Nat.le_of_ble_eq_true rfl⟩) hS sb (Jn.same sb) (fun H locs hP hD hS => ?_)
    have hP : va_P D vwCl (wX cA xd vd sd nd hd td ed kd images errors_5 fewest vspoon vmark vcount vbodies sbits slens snum h_weight h_known h_hour h_swS h_swW h_waS h_spoons h_kind h_mark h_silver h_fresh h_texts h_tape h_tapeCount h_z h_waiting h_waitingCount t_weight t_known t_hour t_swS t_swW t_waS t_spoons t_kind t_mark t_silver t_fresh t_texts t_tape t_tapeCount t_z t_waiting t_waitingCount e_weight e_known e_hour e_swS e_swW e_waS e_spoons e_kind e_mark e_silver e_fresh e_texts e_tape e_tapeCount e_z e_waiting e_waitingCount L tx tst) H := hP
    have hD : va_D A (wX cA xd vd sd nd hd td ed kd images errors_5 fewest vspoon vmark vcount vbodies sbits slens snum h_weight h_known h_hour h_swS h_swW h_waS h_spoons h_kind h_mark h_silver h_fresh h_texts h_tape h_tapeCount h_z h_waiting h_waitingCount t_weight t_known t_hour t_swS t_swW t_waS t_spoons t_kind t_mark t_silver t_fresh t_texts t_tape t_tapeCount t_z t_waiting t_waitingCount e_weight e_known e_hour e_swS e_swW e_waS e_spoons e_kind e_mark e_silver e_fresh e_texts e_tape e_tapeCount e_z e_waiting e_waitingCount L tx tst) := hD
    have h := Option.some.inj h
    have ee0 : r_4 = rR := congrArg (fun q => q.1) h
    have ee1 : errors_5 = errorsR := congrArg (fun q => q.2.1) h
    have ee2 : tst = tstR := congrArg (fun q => q.2.2) h
    subst ee0
    subst ee1
    subst ee2
    rw [← hQ]
    exact retI hx hb hr hlk hK hP hD hS dX11_ofSpoon_24 ⟨Nat.le_of_ble_eq_true rfl, Nat.le_of_ble_eq_true rfl⟩
  · have h := ite_f c_3 h
    refine lv_iload_n hx hb dX11_ofSpoon_8 rfl (lv_at hv 2 rfl) ?_
    refine lv_iconst (v := (0 : Int32)) hx hb dX11_ofSpoon_9 (by decide) ?_
    refine lv_bipush (v := (16 : Int32)) hx hb dX11_ofSpoon_10 (by decide) ?_
    obtain ⟨r_7, hf_8, h⟩ := bd_ex h
    have sb := Sb.nil hP hD hS hA
    refine calI (va_runS (As := [.int what, .int (0 : Int32), .int (16 : Int32)]) (rest := []) ⟨hx, hb, hml, hown, hts⟩ (c_X11_within l G D cA  _ what (0 : Int32) (16 : Int32) r_7 hf_8) (va_cwS 3 hts gX11_ofSpoon_X11_within rfl rfl rfl (by decide +kernel) ⟨Nat.le_of_ble_eq_true rfl, Nat.le_of_ble_eq_true rfl⟩) (pvS hE hK hS sb) rfl rfl hv.1 rfl (lv_room (Nat.le_of_ble_eq_true rfl)) dX11_ofSpoon_12 ⟨Nat.le_of_ble_eq_true rfl, Nat.le_of_ble_eq_true rfl⟩) hS sb (Jn.nil hP hD) (fun H locs hP hD hS => ?_)
    have hP : va_P D vwCl (wX cA xd vd sd nd hd td ed kd images errors fewest vspoon vmark vcount vbodies sbits slens snum h_weight h_known h_hour h_swS h_swW h_waS h_spoons h_kind h_mark h_silver h_fresh h_texts h_tape h_tapeCount h_z h_waiting h_waitingCount t_weight t_known t_hour t_swS t_swW t_waS t_spoons t_kind t_mark t_silver t_fresh t_texts t_tape t_tapeCount t_z t_waiting t_waitingCount e_weight e_known e_hour e_swS e_swW e_waS e_spoons e_kind e_mark e_silver e_fresh e_texts e_tape e_tapeCount e_z e_waiting e_waitingCount L tx tst) H := hP
    have hD : va_D A (wX cA xd vd sd nd hd td ed kd images errors fewest vspoon vmark vcount vbodies sbits slens snum h_weight h_known h_hour h_swS h_swW h_waS h_spoons h_kind h_mark h_silver h_fresh h_texts h_tape h_tapeCount h_z h_waiting h_waitingCount t_weight t_known t_hour t_swS t_swW t_waS t_spoons t_kind t_mark t_silver t_fresh t_texts t_tape t_tapeCount t_z t_waiting t_waitingCount e_weight e_known e_hour e_swS e_swW e_waS e_spoons e_kind e_mark e_silver e_fresh e_texts e_tape e_tapeCount e_z e_waiting e_waitingCount L tx tst) := hD
    refine lv_if_ne (tgt := 25) hx hb dX11_ofSpoon_15 (by decide) (fun c_9 => ?_) (fun c_9 => ?_)
    · have h := ite_f c_9 h
      refine lv_iload_n hx hb dX11_ofSpoon_25 rfl (lv_at hv 2 rfl) ?_
      by_cases c_10 : what = (0 : Int32)
      · refine lv_tableIn (tgt := 60) (off := 34) hx hb dX11_ofSpoon_26 (by rw [c_10]; decide) (by rw [c_10]; decide) (by rw [c_10]; rfl) (by decide) ?_
        have h := ite_t c_10 h
        refine lv_aload_n hx hb dX11_ofSpoon_60 rfl (lv_at hv 0 rfl) ?_
        refine va_get (D := D) (ci := 11) (v := .ref (hd 0)) (C := RX11) (T := TX11) (N := 9) hx hb hts in_11 hown hK hP 0 rfl rfl 0 (by decide) w_1 (fun _ h9 => h9) rfl dX11_ofSpoon_61 ?_
        refine va_get (D := D) (ci := 3) (v := .ref (hd 9)) (C := RX3) (T := TX3) (N := 18) hx hb hts in_3 hown hK hP 14 rfl rfl 8 (by decide) w_2 (fun _ h9 => h9) rfl dX11_ofSpoon_64 ?_
        refine lv_iload_n hx hb dX11_ofSpoon_67 rfl (lv_at hv 1 rfl) ?_
        obtain ⟨c_11, h⟩ := ckI_ex h
        refine va_iald (D := D) hx hb hK hP 19 0 rfl rfl c_11 dX11_ofSpoon_68 ?_
        have h := Option.some.inj h
        have ee0 : (h_kind (a).toNatClampNeg) = rR := congrArg (fun q => q.1) h
        have ee1 : errors = errorsR := congrArg (fun q => q.2.1) h
        have ee2 : tst = tstR := congrArg (fun q => q.2.2) h
        subst ee0
        subst ee1
        subst ee2
        rw [← hQ]
        exact retI hx hb hr hlk hK hP hD hS dX11_ofSpoon_69 ⟨Nat.le_of_ble_eq_true rfl, Nat.le_of_ble_eq_true rfl⟩
      have h := ite_f c_10 h
      by_cases c_12 : what = (1 : Int32)
      · refine lv_tableIn (tgt := 70) (off := 44) hx hb dX11_ofSpoon_26 (by rw [c_12]; decide) (by rw [c_12]; decide) (by rw [c_12]; rfl) (by decide) ?_
        have h := ite_t c_12 h
        refine lv_aload_n hx hb dX11_ofSpoon_70 rfl (lv_at hv 0 rfl) ?_
        refine va_get (D := D) (ci := 11) (v := .ref (hd 0)) (C := RX11) (T := TX11) (N := 9) hx hb hts in_11 hown hK hP 0 rfl rfl 0 (by decide) w_1 (fun _ h9 => h9) rfl dX11_ofSpoon_71 ?_
        refine va_get (D := D) (ci := 3) (v := .ref (hd 10)) (C := RX3) (T := TX3) (N := 18) hx hb hts in_3 hown hK hP 14 rfl rfl 9 (by decide) w_3 (fun _ h9 => h9) rfl dX11_ofSpoon_74 ?_
        refine lv_iload_n hx hb dX11_ofSpoon_77 rfl (lv_at hv 1 rfl) ?_
        obtain ⟨c_13, h⟩ := ckI_ex h
        refine va_iald (D := D) hx hb hK hP 20 0 rfl rfl c_13 dX11_ofSpoon_78 ?_
        have h := Option.some.inj h
        have ee0 : (h_mark (a).toNatClampNeg) = rR := congrArg (fun q => q.1) h
        have ee1 : errors = errorsR := congrArg (fun q => q.2.1) h
        have ee2 : tst = tstR := congrArg (fun q => q.2.2) h
        subst ee0
        subst ee1
        subst ee2
        rw [← hQ]
        exact retI hx hb hr hlk hK hP hD hS dX11_ofSpoon_79 ⟨Nat.le_of_ble_eq_true rfl, Nat.le_of_ble_eq_true rfl⟩
      have h := ite_f c_12 h
      by_cases c_14 : what = (2 : Int32)
      · refine lv_tableIn (tgt := 80) (off := 54) hx hb dX11_ofSpoon_26 (by rw [c_14]; decide) (by rw [c_14]; decide) (by rw [c_14]; rfl) (by decide) ?_
        have h := ite_t c_14 h
        refine lv_aload_n hx hb dX11_ofSpoon_80 rfl (lv_at hv 0 rfl) ?_
        refine va_get (D := D) (ci := 11) (v := .ref (hd 0)) (C := RX11) (T := TX11) (N := 9) hx hb hts in_11 hown hK hP 0 rfl rfl 0 (by decide) w_1 (fun _ h9 => h9) rfl dX11_ofSpoon_81 ?_
        refine va_get (D := D) (ci := 3) (v := .ref (hd 11)) (C := RX3) (T := TX3) (N := 18) hx hb hts in_3 hown hK hP 14 rfl rfl 10 (by decide) w_4 (fun _ h9 => h9) rfl dX11_ofSpoon_84 ?_
        refine lv_iload_n hx hb dX11_ofSpoon_87 rfl (lv_at hv 1 rfl) ?_
        obtain ⟨c_15, h⟩ := ckI_ex h
        refine va_iald (D := D) hx hb hK hP 21 0 rfl rfl c_15 dX11_ofSpoon_88 ?_
        have h := Option.some.inj h
        have ee0 : (h_silver (a).toNatClampNeg) = rR := congrArg (fun q => q.1) h
        have ee1 : errors = errorsR := congrArg (fun q => q.2.1) h
        have ee2 : tst = tstR := congrArg (fun q => q.2.2) h
        subst ee0
        subst ee1
        subst ee2
        rw [← hQ]
        exact retI hx hb hr hlk hK hP hD hS dX11_ofSpoon_89 ⟨Nat.le_of_ble_eq_true rfl, Nat.le_of_ble_eq_true rfl⟩
      have h := ite_f c_14 h
      by_cases c_16 : what = (3 : Int32)
      · refine lv_tableIn (tgt := 90) (off := 64) hx hb dX11_ofSpoon_26 (by rw [c_16]; decide) (by rw [c_16]; decide) (by rw [c_16]; rfl) (by decide) ?_
        have h := ite_t c_16 h
        refine lv_aload_n hx hb dX11_ofSpoon_90 rfl (lv_at hv 0 rfl) ?_
        refine va_get (D := D) (ci := 11) (v := .ref (hd 0)) (C := RX11) (T := TX11) (N := 9) hx hb hts in_11 hown hK hP 0 rfl rfl 0 (by decide) w_1 (fun _ h9 => h9) rfl dX11_ofSpoon_91 ?_
        refine lv_iload_n hx hb dX11_ofSpoon_94 rfl (lv_at hv 1 rfl) ?_
        obtain ⟨r_17, hf_18, h⟩ := bd_ex h
        have sb : Sb D A H (wH cA hd kd h_weight h_known h_hour h_swS h_swW h_waS h_spoons h_kind h_mark h_silver h_fresh h_texts h_tape h_tapeCount h_z h_waiting h_waitingCount L tx tst) := sbXh hP hD hS hA
        refine calI (va_runV (As := [.int a]) (rest := []) ⟨hx, hb, hml, hown, hts⟩ (c_X3_wordsOn l G D cA hd kd _ h_weight h_known h_hour h_swS h_swW h_waS h_spoons h_kind h_mark h_silver h_fresh h_texts h_tape h_tapeCount h_z h_waiting h_waitingCount L tx tst a r_17 hf_18) (cwV 1 hts gX11_ofSpoon_X3_wordsOn rfl rfl rfl (by decide +kernel) ⟨Nat.le_of_ble_eq_true rfl, Nat.le_of_ble_eq_true rfl⟩) (pvV hE hK hS sb (va_recv hK hP (ci := 3) (q0 := 14) rfl rfl)) rfl rfl hv.1 rfl (lv_room (Nat.le_of_ble_eq_true rfl)) dX11_ofSpoon_95 ⟨Nat.le_of_ble_eq_true rfl, Nat.le_of_ble_eq_true rfl⟩) hS sb (jnXh hP hD) (fun H locs hP hD hS => ?_)
        have hP : va_P D vwCl (wX cA xd vd sd nd hd td ed kd images errors fewest vspoon vmark vcount vbodies sbits slens snum h_weight h_known h_hour h_swS h_swW h_waS h_spoons h_kind h_mark h_silver h_fresh h_texts h_tape h_tapeCount h_z h_waiting h_waitingCount t_weight t_known t_hour t_swS t_swW t_waS t_spoons t_kind t_mark t_silver t_fresh t_texts t_tape t_tapeCount t_z t_waiting t_waitingCount e_weight e_known e_hour e_swS e_swW e_waS e_spoons e_kind e_mark e_silver e_fresh e_texts e_tape e_tapeCount e_z e_waiting e_waitingCount L tx tst) H := hP
        have hD : va_D A (wX cA xd vd sd nd hd td ed kd images errors fewest vspoon vmark vcount vbodies sbits slens snum h_weight h_known h_hour h_swS h_swW h_waS h_spoons h_kind h_mark h_silver h_fresh h_texts h_tape h_tapeCount h_z h_waiting h_waitingCount t_weight t_known t_hour t_swS t_swW t_waS t_spoons t_kind t_mark t_silver t_fresh t_texts t_tape t_tapeCount t_z t_waiting t_waitingCount e_weight e_known e_hour e_swS e_swW e_waS e_spoons e_kind e_mark e_silver e_fresh e_texts e_tape e_tapeCount e_z e_waiting e_waitingCount L tx tst) := hD
        have h := Option.some.inj h
        have ee0 : r_17 = rR := congrArg (fun q => q.1) h
        have ee1 : errors = errorsR := congrArg (fun q => q.2.1) h
        have ee2 : tst = tstR := congrArg (fun q => q.2.2) h
        subst ee0
        subst ee1
        subst ee2
        rw [← hQ]
        exact retI hx hb hr hlk hK hP hD hS dX11_ofSpoon_98 ⟨Nat.le_of_ble_eq_true rfl, Nat.le_of_ble_eq_true rfl⟩
      have h := ite_f c_16 h
      by_cases c_19 : what = (4 : Int32)
      · refine lv_tableIn (tgt := 99) (off := 73) hx hb dX11_ofSpoon_26 (by rw [c_19]; decide) (by rw [c_19]; decide) (by rw [c_19]; rfl) (by decide) ?_
        have h := ite_t c_19 h
        refine lv_aload_n hx hb dX11_ofSpoon_99 rfl (lv_at hv 0 rfl) ?_
        refine va_get (D := D) (ci := 11) (v := .ref (hd 0)) (C := RX11) (T := TX11) (N := 9) hx hb hts in_11 hown hK hP 0 rfl rfl 0 (by decide) w_1 (fun _ h9 => h9) rfl dX11_ofSpoon_100 ?_
        refine lv_iload_n hx hb dX11_ofSpoon_103 rfl (lv_at hv 1 rfl) ?_
        obtain ⟨⟨r_20, tst_21⟩, hf_22, h⟩ := bd_ex h
        have sb : Sb D A H (wH cA hd kd h_weight h_known h_hour h_swS h_swW h_waS h_spoons h_kind h_mark h_silver h_fresh h_texts h_tape h_tapeCount h_z h_waiting h_waitingCount L tx tst) := sbXh hP hD hS hA
        refine calI (va_runV (As := [.int a]) (rest := []) ⟨hx, hb, hml, hown, hts⟩ (c_X3_rubOf l G D cA hd kd _ h_weight h_known h_hour h_swS h_swW h_waS h_spoons h_kind h_mark h_silver h_fresh h_texts h_tape h_tapeCount h_z h_waiting h_waitingCount L tx tst a r_20 tst_21 hf_22) (cwV 1 hts gX11_ofSpoon_X3_rubOf rfl rfl rfl (by decide +kernel) ⟨Nat.le_of_ble_eq_true rfl, Nat.le_of_ble_eq_true rfl⟩) (pvV hE hK hS sb (va_recv hK hP (ci := 3) (q0 := 14) rfl rfl)) rfl rfl hv.1 rfl (lv_room (Nat.le_of_ble_eq_true rfl)) dX11_ofSpoon_104 ⟨Nat.le_of_ble_eq_true rfl, Nat.le_of_ble_eq_true rfl⟩) hS sb (jnXh hP hD) (fun H locs hP hD hS => ?_)
        have hP : va_P D vwCl (wX cA xd vd sd nd hd td ed kd images errors fewest vspoon vmark vcount vbodies sbits slens snum h_weight h_known h_hour h_swS h_swW h_waS h_spoons h_kind h_mark h_silver h_fresh h_texts h_tape h_tapeCount h_z h_waiting h_waitingCount t_weight t_known t_hour t_swS t_swW t_waS t_spoons t_kind t_mark t_silver t_fresh t_texts t_tape t_tapeCount t_z t_waiting t_waitingCount e_weight e_known e_hour e_swS e_swW e_waS e_spoons e_kind e_mark e_silver e_fresh e_texts e_tape e_tapeCount e_z e_waiting e_waitingCount L tx tst_21) H := hP
        have hD : va_D A (wX cA xd vd sd nd hd td ed kd images errors fewest vspoon vmark vcount vbodies sbits slens snum h_weight h_known h_hour h_swS h_swW h_waS h_spoons h_kind h_mark h_silver h_fresh h_texts h_tape h_tapeCount h_z h_waiting h_waitingCount t_weight t_known t_hour t_swS t_swW t_waS t_spoons t_kind t_mark t_silver t_fresh t_texts t_tape t_tapeCount t_z t_waiting t_waitingCount e_weight e_known e_hour e_swS e_swW e_waS e_spoons e_kind e_mark e_silver e_fresh e_texts e_tape e_tapeCount e_z e_waiting e_waitingCount L tx tst_21) := hD
        have h := Option.some.inj h
        have ee0 : r_20 = rR := congrArg (fun q => q.1) h
        have ee1 : errors = errorsR := congrArg (fun q => q.2.1) h
        have ee2 : tst_21 = tstR := congrArg (fun q => q.2.2) h
        subst ee0
        subst ee1
        subst ee2
        rw [← hQ]
        exact retI hx hb hr hlk hK hP hD hS dX11_ofSpoon_107 ⟨Nat.le_of_ble_eq_true rfl, Nat.le_of_ble_eq_true rfl⟩
      have h := ite_f c_19 h
      have nc_10 := lv_neT c_10 (show ((0 : Int32)).toInt = 0 from rfl)
      have nc_12 := lv_neT c_12 (show ((1 : Int32)).toInt = 1 from rfl)
      have nc_14 := lv_neT c_14 (show ((2 : Int32)).toInt = 2 from rfl)
      have nc_16 := lv_neT c_16 (show ((3 : Int32)).toInt = 3 from rfl)
      have nc_19 := lv_neT c_19 (show ((4 : Int32)).toInt = 4 from rfl)
      refine lv_tableOut (tgt := 108) hx hb dX11_ofSpoon_26 (by omega) (by decide) ?_
      refine lv_aload_n hx hb dX11_ofSpoon_108 rfl (lv_at hv 0 rfl) ?_
      refine va_get (D := D) (ci := 11) (v := .ref (hd 0)) (C := RX11) (T := TX11) (N := 9) hx hb hts in_11 hown hK hP 0 rfl rfl 0 (by decide) w_1 (fun _ h9 => h9) rfl dX11_ofSpoon_109 ?_
      refine va_get (D := D) (ci := 3) (v := .ref (hd 12)) (C := RX3) (T := TX3) (N := 18) hx hb hts in_3 hown hK hP 14 rfl rfl 11 (by decide) w_5 (fun _ h9 => h9) rfl dX11_ofSpoon_112 ?_
      refine lv_iload_n hx hb dX11_ofSpoon_115 rfl (lv_at hv 1 rfl) ?_
      obtain ⟨c_23, h⟩ := ckI_ex h
      refine va_lald (D := D) hx hb hK hP 22 1 rfl rfl c_23 dX11_ofSpoon_116 ?_
      refine lv_iload_n hx hb dX11_ofSpoon_117 rfl (lv_at hv 2 rfl) ?_
      refine lv_iconst (v := (5 : Int32)) hx hb dX11_ofSpoon_118 (by decide) ?_
      refine lv_isub hx hb dX11_ofSpoon_119 ?_
      obtain ⟨r_24, hf_25, h⟩ := bd_ex h
      have sb := Sb.nil hP hD hS hA
      refine calI (va_runS (As := [.long (h_fresh (a).toNatClampNeg), .int (what - (5 : Int32))]) (rest := []) ⟨hx, hb, hml, hown, hts⟩ (c_X3_freshIn l G D cA  _ (h_fresh (a).toNatClampNeg) (what - (5 : Int32)) r_24 hf_25) (va_cwS 2 hts gX11_ofSpoon_X3_freshIn rfl rfl rfl (by decide +kernel) ⟨Nat.le_of_ble_eq_true rfl, Nat.le_of_ble_eq_true rfl⟩) (pvS hE hK hS sb) rfl rfl hv.1 rfl (lv_room (Nat.le_of_ble_eq_true rfl)) dX11_ofSpoon_120 ⟨Nat.le_of_ble_eq_true rfl, Nat.le_of_ble_eq_true rfl⟩) hS sb (Jn.nil hP hD) (fun H locs hP hD hS => ?_)
      have hP : va_P D vwCl (wX cA xd vd sd nd hd td ed kd images errors fewest vspoon vmark vcount vbodies sbits slens snum h_weight h_known h_hour h_swS h_swW h_waS h_spoons h_kind h_mark h_silver h_fresh h_texts h_tape h_tapeCount h_z h_waiting h_waitingCount t_weight t_known t_hour t_swS t_swW t_waS t_spoons t_kind t_mark t_silver t_fresh t_texts t_tape t_tapeCount t_z t_waiting t_waitingCount e_weight e_known e_hour e_swS e_swW e_waS e_spoons e_kind e_mark e_silver e_fresh e_texts e_tape e_tapeCount e_z e_waiting e_waitingCount L tx tst) H := hP
      have hD : va_D A (wX cA xd vd sd nd hd td ed kd images errors fewest vspoon vmark vcount vbodies sbits slens snum h_weight h_known h_hour h_swS h_swW h_waS h_spoons h_kind h_mark h_silver h_fresh h_texts h_tape h_tapeCount h_z h_waiting h_waitingCount t_weight t_known t_hour t_swS t_swW t_waS t_spoons t_kind t_mark t_silver t_fresh t_texts t_tape t_tapeCount t_z t_waiting t_waitingCount e_weight e_known e_hour e_swS e_swW e_waS e_spoons e_kind e_mark e_silver e_fresh e_texts e_tape e_tapeCount e_z e_waiting e_waitingCount L tx tst) := hD
      have h := Option.some.inj h
      have ee0 : r_24 = rR := congrArg (fun q => q.1) h
      have ee1 : errors = errorsR := congrArg (fun q => q.2.1) h
      have ee2 : tst = tstR := congrArg (fun q => q.2.2) h
      subst ee0
      subst ee1
      subst ee2
      rw [← hQ]
      exact retI hx hb hr hlk hK hP hD hS dX11_ofSpoon_123 ⟨Nat.le_of_ble_eq_true rfl, Nat.le_of_ble_eq_true rfl⟩
    · have h := ite_t c_9 h
      refine lv_aload_n hx hb dX11_ofSpoon_18 rfl (lv_at hv 0 rfl) ?_
      refine lv_ldc (v := (-1000000001 : Int32)) hx hb hown w_0 dX11_ofSpoon_19 ?_
      obtain ⟨⟨r_26, errors_27⟩, hf_28, h⟩ := bd_ex h
      have sb := Sb.same hP hD hS hA
      refine calI (va_runV (As := [.int (-1000000001 : Int32)]) (rest := []) ⟨hx, hb, hml, hown, hts⟩ (c_X11_refused l G D cA xd vd sd nd hd td ed kd _ images errors fewest vspoon vmark vcount vbodies sbits slens snum h_weight h_known h_hour h_swS h_swW h_waS h_spoons h_kind h_mark h_silver h_fresh h_texts h_tape h_tapeCount h_z h_waiting h_waitingCount t_weight t_known t_hour t_swS t_swW t_waS t_spoons t_kind t_mark t_silver t_fresh t_texts t_tape t_tapeCount t_z t_waiting t_waitingCount e_weight e_known e_hour e_swS e_swW e_waS e_spoons e_kind e_mark e_silver e_fresh e_texts e_tape e_tapeCount e_z e_waiting e_waitingCount L tx tst (-1000000001 : Int32) r_26 errors_27 hf_28) (cwV 1 hts gX11_ofSpoon_X11_refused rfl rfl rfl (by decide +kernel) ⟨Nat.le_of_ble_eq_true rfl, Nat.le_of_ble_eq_true rfl⟩) (pvV hE hK hS sb (va_recv hK hP (ci := 11) (q0 := 0) rfl rfl)) rfl rfl hv.1 rfl (lv_room (Nat.le_of_ble_eq_true rfl)) dX11_ofSpoon_21 ⟨Nat.le_of_ble_eq_true rfl, Nat.le_of_ble_eq_true rfl⟩) hS sb (Jn.same sb) (fun H locs hP hD hS => ?_)
      have hP : va_P D vwCl (wX cA xd vd sd nd hd td ed kd images errors_27 fewest vspoon vmark vcount vbodies sbits slens snum h_weight h_known h_hour h_swS h_swW h_waS h_spoons h_kind h_mark h_silver h_fresh h_texts h_tape h_tapeCount h_z h_waiting h_waitingCount t_weight t_known t_hour t_swS t_swW t_waS t_spoons t_kind t_mark t_silver t_fresh t_texts t_tape t_tapeCount t_z t_waiting t_waitingCount e_weight e_known e_hour e_swS e_swW e_waS e_spoons e_kind e_mark e_silver e_fresh e_texts e_tape e_tapeCount e_z e_waiting e_waitingCount L tx tst) H := hP
      have hD : va_D A (wX cA xd vd sd nd hd td ed kd images errors_27 fewest vspoon vmark vcount vbodies sbits slens snum h_weight h_known h_hour h_swS h_swW h_waS h_spoons h_kind h_mark h_silver h_fresh h_texts h_tape h_tapeCount h_z h_waiting h_waitingCount t_weight t_known t_hour t_swS t_swW t_waS t_spoons t_kind t_mark t_silver t_fresh t_texts t_tape t_tapeCount t_z t_waiting t_waitingCount e_weight e_known e_hour e_swS e_swW e_waS e_spoons e_kind e_mark e_silver e_fresh e_texts e_tape e_tapeCount e_z e_waiting e_waitingCount L tx tst) := hD
      have h := Option.some.inj h
      have ee0 : r_26 = rR := congrArg (fun q => q.1) h
      have ee1 : errors_27 = errorsR := congrArg (fun q => q.2.1) h
      have ee2 : tst = tstR := congrArg (fun q => q.2.2) h
      subst ee0
      subst ee1
      subst ee2
      rw [← hQ]
      exact retI hx hb hr hlk hK hP hD hS dX11_ofSpoon_24 ⟨Nat.le_of_ble_eq_true rfl, Nat.le_of_ble_eq_true rfl⟩

def fX11_change_37 (errors_37 : Nat → Int32) (h_spoons : Int32) (h_silver_37 : Nat → Int32) (h_fresh_37 : Nat → Int64) : Option (Int32 × (Nat → Int32) × (Nat → Int32) × (Nat → Int64)) :=
  bd (fX11_refused (-1000000001 : Int32) errors_37) fun (r_4, errors_5) => some (r_4, errors_5, h_silver_37, h_fresh_37)
def fX11_change_31 (v1_31 : Int32) (v2_31 : Int32) (v3_31 : Int32) (k0_31 : Int32) (k1_31 : Int32) (k2_31 : Int32) (errors_31 : Nat → Int32) (h_spoons : Int32) (h_silver_31 : Nat → Int32) (h_fresh_31 : Nat → Int64) : Option (Int32 × (Nat → Int32) × (Nat → Int32) × (Nat → Int64)) :=
  bd (fX11_within k2_31 k1_31 k0_31) fun r_11 => (if r_11 = 0 then fX11_change_37 errors_31 h_spoons h_silver_31 h_fresh_31 else (if v2_31 = 0 then ckI v1_31 8 (bnd (h_silver_31 (v1_31).toNatClampNeg) fun y_24 => ckI v1_31 8 (bnd (upd h_silver_31 (v1_31).toNatClampNeg v3_31) fun h_silver_26 => some (y_24, errors_31, h_silver_26, h_fresh_31))) else ckI v1_31 8 (bnd (h_fresh_31 (v1_31).toNatClampNeg) fun y_16 => bd (fX3_withFresh y_16 (v2_31 - (1 : Int32)) v3_31) fun r_17 => ckI v1_31 8 (bnd (vp_updL h_fresh_31 (v1_31).toNatClampNeg r_17) fun h_fresh_20 => bd (fX3_freshIn y_16 (v2_31 - (1 : Int32))) fun r_21 => some (r_21, errors_31, h_silver_31, h_fresh_20)))))
def fX11_change (a : Int32) (what : Int32) (v : Int32) (errors : Nat → Int32) (h_spoons : Int32) (h_silver : Nat → Int32) (h_fresh : Nat → Int64) : Option (Int32 × (Nat → Int32) × (Nat → Int32) × (Nat → Int64)) :=
  bd (fX11_isSpoon a h_spoons) fun r_1 => (if r_1 = 0 then fX11_change_37 errors h_spoons h_silver h_fresh else bd (fX11_within what (0 : Int32) (12 : Int32)) fun r_7 => (if r_7 = 0 then fX11_change_37 errors h_spoons h_silver h_fresh else (if what = 0 then fX11_change_31 a what v (99 : Int32) (0 : Int32) v errors h_spoons h_silver h_fresh else fX11_change_31 a what v (9 : Int32) (0 : Int32) v errors h_spoons h_silver h_fresh)))
set_option maxHeartbeats 4000000 in
set_option maxRecDepth 100000 in
theorem c_X11_change (l : Launch) (G : Nat → Nat) (D : va_G) (cA : Nat → ClassId) (xd : Nat → Nat) (vd : Nat → Nat) (sd : Nat → Nat) (nd : Nat → Nat) (hd : Nat → Nat) (td : Nat → Nat) (ed : Nat → Nat) (kd : Nat → Nat) (sz : Nat) (images : Int32) (errors : Nat → Int32) (fewest : Nat → Int32) (vspoon : Int32) (vmark : Int32) (vcount : Int32) (vbodies : Nat → Int32) (sbits : Nat → Int32) (slens : Nat → Int32) (snum : Nat → Nat → Int32) (h_weight : Nat → Int32) (h_known : Int32) (h_hour : Int32) (h_swS : Nat → Int32) (h_swW : Nat → Int32) (h_waS : Nat → Int32) (h_spoons : Int32) (h_kind : Nat → Int32) (h_mark : Nat → Int32) (h_silver : Nat → Int32) (h_fresh : Nat → Int64) (h_texts : Nat → Option Nat) (h_tape : Nat → Int32) (h_tapeCount : Int32) (h_z : Int32) (h_waiting : Nat → Int32) (h_waitingCount : Int32) (t_weight : Nat → Int32) (t_known : Int32) (t_hour : Int32) (t_swS : Nat → Int32) (t_swW : Nat → Int32) (t_waS : Nat → Int32) (t_spoons : Int32) (t_kind : Nat → Int32) (t_mark : Nat → Int32) (t_silver : Nat → Int32) (t_fresh : Nat → Int64) (t_texts : Nat → Option Nat) (t_tape : Nat → Int32) (t_tapeCount : Int32) (t_z : Int32) (t_waiting : Nat → Int32) (t_waitingCount : Int32) (e_weight : Nat → Int32) (e_known : Int32) (e_hour : Int32) (e_swS : Nat → Int32) (e_swW : Nat → Int32) (e_waS : Nat → Int32) (e_spoons : Int32) (e_kind : Nat → Int32) (e_mark : Nat → Int32) (e_silver : Nat → Int32) (e_fresh : Nat → Int64) (e_texts : Nat → Option Nat) (e_tape : Nat → Int32) (e_tapeCount : Int32) (e_z : Int32) (e_waiting : Nat → Int32) (e_waitingCount : Int32) (L : List Nat) (tx : Nat → TXc) (tst : Nat → Nat → Int32) (a : Int32) (what : Int32) (v : Int32) (rR : Int32) (errorsR : Nat → Int32) (h_silverR : Nat → Int32) (h_freshR : Nat → Int64) (h : fX11_change a what v errors h_spoons h_silver h_fresh = some (rR, errorsR, h_silverR, h_freshR)) : Met l yX11_change wsX11_change ({ frames := 2, cells := 0, slots := 0, locals := 43 } : Room) (PW G D (tyC cA) sz (wX cA xd vd sd nd hd td ed kd images errors fewest vspoon vmark vcount vbodies sbits slens snum h_weight h_known h_hour h_swS h_swW h_waS h_spoons h_kind h_mark h_silver h_fresh h_texts h_tape h_tapeCount h_z h_waiting h_waitingCount t_weight t_known t_hour t_swS t_swW t_waS t_spoons t_kind t_mark t_silver t_fresh t_texts t_tape t_tapeCount t_z t_waiting t_waitingCount e_weight e_known e_hour e_swS e_swW e_waS e_spoons e_kind e_mark e_silver e_fresh e_texts e_tape e_tapeCount e_z e_waiting e_waitingCount L tx tst) [.ref (xd 0), .int a, .int what, .int v]) (QI D (tyC cA) (va_A (wX cA xd vd sd nd hd td ed kd images errors fewest vspoon vmark vcount vbodies sbits slens snum h_weight h_known h_hour h_swS h_swW h_waS h_spoons h_kind h_mark h_silver h_fresh h_texts h_tape h_tapeCount h_z h_waiting h_waitingCount t_weight t_known t_hour t_swS t_swW t_waS t_spoons t_kind t_mark t_silver t_fresh t_texts t_tape t_tapeCount t_z t_waiting t_waitingCount e_weight e_known e_hour e_swS e_swW e_waS e_spoons e_kind e_mark e_silver e_fresh e_texts e_tape e_tapeCount e_z e_waiting e_waitingCount L tx tst) sz) rR (wX cA xd vd sd nd hd td ed kd images errorsR fewest vspoon vmark vcount vbodies sbits slens snum h_weight h_known h_hour h_swS h_swW h_waS h_spoons h_kind h_mark h_silverR h_freshR h_texts h_tape h_tapeCount h_z h_waiting h_waitingCount t_weight t_known t_hour t_swS t_swW t_waS t_spoons t_kind t_mark t_silver t_fresh t_texts t_tape t_tapeCount t_z t_waiting t_waitingCount e_weight e_known e_hour e_swS e_swW e_waS e_spoons e_kind e_mark e_silver e_fresh e_texts e_tape e_tapeCount e_z e_waiting e_waitingCount L tx tst)) 0 0 (va_A (wX cA xd vd sd nd hd td ed kd images errors fewest vspoon vmark vcount vbodies sbits slens snum h_weight h_known h_hour h_swS h_swW h_waS h_spoons h_kind h_mark h_silver h_fresh h_texts h_tape h_tapeCount h_z h_waiting h_waitingCount t_weight t_known t_hour t_swS t_swW t_waS t_spoons t_kind t_mark t_silver t_fresh t_texts t_tape t_tapeCount t_z t_waiting t_waitingCount e_weight e_known e_hour e_swS e_swW e_waS e_spoons e_kind e_mark e_silver e_fresh e_texts e_tape e_tapeCount e_z e_waiting e_waitingCount L tx tst) sz) := by
  refine ent (cc := cX11_change) (maxL := 6) (ret := (some .int)) (fun A => QI D (tyC cA) A rR (wX cA xd vd sd nd hd td ed kd images errorsR fewest vspoon vmark vcount vbodies sbits slens snum h_weight h_known h_hour h_swS h_swW h_waS h_spoons h_kind h_mark h_silverR h_freshR h_texts h_tape h_tapeCount h_z h_waiting h_waitingCount t_weight t_known t_hour t_swS t_swW t_waS t_spoons t_kind t_mark t_silver t_fresh t_texts t_tape t_tapeCount t_z t_waiting t_waitingCount e_weight e_known e_hour e_swS e_swW e_waS e_spoons e_kind e_mark e_silver e_fresh e_texts e_tape e_tapeCount e_z e_waiting e_waitingCount L tx tst)) (by decide +kernel) rfl (Nat.le_of_ble_eq_true rfl) ?_
  intro p e s m args below meth c A ls H hx hb hml hr hlk hts hown hA hK hE hP hD hS hv hmm
  have hv : lv_has ls 6 [(0, .ref (xd 0)), (1, .int a), (2, .int what), (3, .int v)] := hv
  have in_3 : ∀ w ∈ u_ws RX3 TX3 18, w ∈ wsX11_change := fun _ h => List.mem_cons_of_mem _ (List.mem_append_right _ h)
  have in_11 : ∀ w ∈ u_ws RX11 TX11 9, w ∈ wsX11_change := fun _ h => List.mem_cons_of_mem _ (List.mem_append_left _ (List.mem_append_right _ h))
  have w_0 := hts (.constant RX11 78 (-1000000001)) (List.mem_of_getElem? (i := 1) rfl)
  have w_1 := hts (.fieldLink RX11 39 "SpoonsLast" "house" "LSpoonsLast$House;") (List.mem_of_getElem? (i := 2) rfl)
  have w_2 := hts (.fieldLink RX11 124 "SpoonsLast$House" "fresh" "[J") (List.mem_of_getElem? (i := 4) rfl)
  have w_3 := hts (.fieldLink RX11 121 "SpoonsLast$House" "silver" "[I") (List.mem_of_getElem? (i := 3) rfl)
  generalize hQ : MQ below _ args s 0 0 A = Q
  have C_37 : ∀ (errors_37 : Nat → Int32) (h_silver_37 : Nat → Int32) (h_fresh_37 : Nat → Int64), fX11_change_37 errors_37 h_spoons h_silver_37 h_fresh_37 = some (rR, errorsR, h_silverR, h_freshR) → WW p l e ({ frames := 2, cells := 0, slots := 0, locals := 43 } : Room) s m args below meth c D A 0 0 Q (wX cA xd vd sd nd hd td ed kd images errors_37 fewest vspoon vmark vcount vbodies sbits slens snum h_weight h_known h_hour h_swS h_swW h_waS h_spoons h_kind h_mark h_silver_37 h_fresh_37 h_texts h_tape h_tapeCount h_z h_waiting h_waitingCount t_weight t_known t_hour t_swS t_swW t_waS t_spoons t_kind t_mark t_silver t_fresh t_texts t_tape t_tapeCount t_z t_waiting t_waitingCount e_weight e_known e_hour e_swS e_swW e_waS e_spoons e_kind e_mark e_silver e_fresh e_texts e_tape e_tapeCount e_z e_waiting e_waitingCount L tx tst) 6 [(0, .ref (xd 0))] 37 [] := by
    intro errors_37 h_silver_37 h_fresh_37 h
    unfold fX11_change_37 at h
    intro H locs ls hP hD hS hv
    refine lv_aload_n hx hb dX11_change_37 rfl (lv_at hv 0 rfl) ?_
    refine lv_ldc (v := (-1000000001 : Int32)) hx hb hown w_0 dX11_change_38 ?_
    obtain ⟨⟨r_4, errors_5⟩, hf_6, h⟩ := bd_ex h
    have sb := Sb.same hP hD hS hA
    refine calI (va_runV (As := [.int (-1000000001 : Int32)]) (rest := []) ⟨hx, hb, hml, hown, hts⟩ (c_X11_refused l G D cA xd vd sd nd hd td ed kd _ images errors_37 fewest vspoon vmark vcount vbodies sbits slens snum h_weight h_known h_hour h_swS h_swW h_waS h_spoons h_kind h_mark h_silver_37 h_fresh_37 h_texts h_tape h_tapeCount h_z h_waiting h_waitingCount t_weight t_known t_hour t_swS t_swW t_waS t_spoons t_kind t_mark t_silver t_fresh t_texts t_tape t_tapeCount t_z t_waiting t_waitingCount e_weight e_known e_hour e_swS e_swW e_waS e_spoons e_kind e_mark e_silver e_fresh e_texts e_tape e_tapeCount e_z e_waiting e_waitingCount L tx tst (-1000000001 : Int32) r_4 errors_5 hf_6) (cwV 1 hts gX11_change_X11_refused rfl rfl rfl (by decide +kernel) ⟨Nat.le_of_ble_eq_true rfl, Nat.le_of_ble_eq_true rfl⟩) (pvV hE hK hS sb (va_recv hK hP (ci := 11) (q0 := 0) rfl rfl)) rfl rfl hv.1 rfl (lv_room (Nat.le_of_ble_eq_true rfl)) dX11_change_40 ⟨Nat.le_of_ble_eq_true rfl, Nat.le_of_ble_eq_true rfl⟩) hS sb (Jn.same sb) (fun H locs hP hD hS => ?_)
    have hP : va_P D vwCl (wX cA xd vd sd nd hd td ed kd images errors_5 fewest vspoon vmark vcount vbodies sbits slens snum h_weight h_known h_hour h_swS h_swW h_waS h_spoons h_kind h_mark h_silver_37 h_fresh_37 h_texts h_tape h_tapeCount h_z h_waiting h_waitingCount t_weight t_known t_hour t_swS t_swW t_waS t_spoons t_kind t_mark t_silver t_fresh t_texts t_tape t_tapeCount t_z t_waiting t_waitingCount e_weight e_known e_hour e_swS e_swW e_waS e_spoons e_kind e_mark e_silver e_fresh e_texts e_tape e_tapeCount e_z e_waiting e_waitingCount L tx tst) H := hP
    have hD : va_D A (wX cA xd vd sd nd hd td ed kd images errors_5 fewest vspoon vmark vcount vbodies sbits slens snum h_weight h_known h_hour h_swS h_swW h_waS h_spoons h_kind h_mark h_silver_37 h_fresh_37 h_texts h_tape h_tapeCount h_z h_waiting h_waitingCount t_weight t_known t_hour t_swS t_swW t_waS t_spoons t_kind t_mark t_silver t_fresh t_texts t_tape t_tapeCount t_z t_waiting t_waitingCount e_weight e_known e_hour e_swS e_swW e_waS e_spoons e_kind e_mark e_silver e_fresh e_texts e_tape e_tapeCount e_z e_waiting e_waitingCount L tx tst) := hD
    have h := Option.some.inj h
    have ee0 : r_4 = rR := congrArg (fun q => q.1) h
    have ee1 : errors_5 = errorsR := congrArg (fun q => q.2.1) h
    have ee2 : h_silver_37 = h_silverR := congrArg (fun q => q.2.2.1) h
    have ee3 : h_fresh_37 = h_freshR := congrArg (fun q => q.2.2.2) h
    subst ee0
    subst ee1
    subst ee2
    subst ee3
    rw [← hQ]
    exact retI hx hb hr hlk hK hP hD hS dX11_change_43 ⟨Nat.le_of_ble_eq_true rfl, Nat.le_of_ble_eq_true rfl⟩
  have C_31 : ∀ (v1_31 : Int32) (v2_31 : Int32) (v3_31 : Int32) (k0_31 : Int32) (k1_31 : Int32) (k2_31 : Int32) (errors_31 : Nat → Int32) (h_silver_31 : Nat → Int32) (h_fresh_31 : Nat → Int64), fX11_change_31 v1_31 v2_31 v3_31 k0_31 k1_31 k2_31 errors_31 h_spoons h_silver_31 h_fresh_31 = some (rR, errorsR, h_silverR, h_freshR) → WW p l e ({ frames := 2, cells := 0, slots := 0, locals := 43 } : Room) s m args below meth c D A 0 0 Q (wX cA xd vd sd nd hd td ed kd images errors_31 fewest vspoon vmark vcount vbodies sbits slens snum h_weight h_known h_hour h_swS h_swW h_waS h_spoons h_kind h_mark h_silver_31 h_fresh_31 h_texts h_tape h_tapeCount h_z h_waiting h_waitingCount t_weight t_known t_hour t_swS t_swW t_waS t_spoons t_kind t_mark t_silver t_fresh t_texts t_tape t_tapeCount t_z t_waiting t_waitingCount e_weight e_known e_hour e_swS e_swW e_waS e_spoons e_kind e_mark e_silver e_fresh e_texts e_tape e_tapeCount e_z e_waiting e_waitingCount L tx tst) 6 [(0, .ref (xd 0)), (1, .int v1_31), (2, .int v2_31), (3, .int v3_31)] 31 [.int k0_31, .int k1_31, .int k2_31] := by
    intro v1_31 v2_31 v3_31 k0_31 k1_31 k2_31 errors_31 h_silver_31 h_fresh_31 h
    unfold fX11_change_31 at h
    intro H locs ls hP hD hS hv
    obtain ⟨r_11, hf_12, h⟩ := bd_ex h
    have sb := Sb.nil hP hD hS hA
    refine calI (va_runS (As := [.int k2_31, .int k1_31, .int k0_31]) (rest := []) ⟨hx, hb, hml, hown, hts⟩ (c_X11_within l G D cA  _ k2_31 k1_31 k0_31 r_11 hf_12) (va_cwS 3 hts gX11_change_X11_within rfl rfl rfl (by decide +kernel) ⟨Nat.le_of_ble_eq_true rfl, Nat.le_of_ble_eq_true rfl⟩) (pvS hE hK hS sb) rfl rfl hv.1 rfl (lv_room (Nat.le_of_ble_eq_true rfl)) dX11_change_31 ⟨Nat.le_of_ble_eq_true rfl, Nat.le_of_ble_eq_true rfl⟩) hS sb (Jn.nil hP hD) (fun H locs hP hD hS => ?_)
    have hP : va_P D vwCl (wX cA xd vd sd nd hd td ed kd images errors_31 fewest vspoon vmark vcount vbodies sbits slens snum h_weight h_known h_hour h_swS h_swW h_waS h_spoons h_kind h_mark h_silver_31 h_fresh_31 h_texts h_tape h_tapeCount h_z h_waiting h_waitingCount t_weight t_known t_hour t_swS t_swW t_waS t_spoons t_kind t_mark t_silver t_fresh t_texts t_tape t_tapeCount t_z t_waiting t_waitingCount e_weight e_known e_hour e_swS e_swW e_waS e_spoons e_kind e_mark e_silver e_fresh e_texts e_tape e_tapeCount e_z e_waiting e_waitingCount L tx tst) H := hP
    have hD : va_D A (wX cA xd vd sd nd hd td ed kd images errors_31 fewest vspoon vmark vcount vbodies sbits slens snum h_weight h_known h_hour h_swS h_swW h_waS h_spoons h_kind h_mark h_silver_31 h_fresh_31 h_texts h_tape h_tapeCount h_z h_waiting h_waitingCount t_weight t_known t_hour t_swS t_swW t_waS t_spoons t_kind t_mark t_silver t_fresh t_texts t_tape t_tapeCount t_z t_waiting t_waitingCount e_weight e_known e_hour e_swS e_swW e_waS e_spoons e_kind e_mark e_silver e_fresh e_texts e_tape e_tapeCount e_z e_waiting e_waitingCount L tx tst) := hD
    refine lv_if_ne (tgt := 44) hx hb dX11_change_34 (by decide) (fun c_13 => ?_) (fun c_13 => ?_)
    · have h := ite_f c_13 h
      refine lv_iload_n hx hb dX11_change_44 rfl (lv_at hv 2 rfl) ?_
      refine lv_if_ne (tgt := 72) hx hb dX11_change_45 (by decide) (fun c_14 => ?_) (fun c_14 => ?_)
      · have h := ite_f c_14 h
        refine lv_aload_n hx hb dX11_change_72 rfl (lv_at hv 0 rfl) ?_
        refine va_get (D := D) (ci := 11) (v := .ref (hd 0)) (C := RX11) (T := TX11) (N := 9) hx hb hts in_11 hown hK hP 0 rfl rfl 0 (by decide) w_1 (fun _ h9 => h9) rfl dX11_change_73 ?_
        refine va_get (D := D) (ci := 3) (v := .ref (hd 12)) (C := RX3) (T := TX3) (N := 18) hx hb hts in_3 hown hK hP 14 rfl rfl 11 (by decide) w_2 (fun _ h9 => h9) rfl dX11_change_76 ?_
        refine lv_iload_n hx hb dX11_change_79 rfl (lv_at hv 1 rfl) ?_
        obtain ⟨c_15, h⟩ := ckI_ex h
        refine va_lald (D := D) hx hb hK hP 22 1 rfl rfl c_15 dX11_change_80 ?_
        obtain ⟨y_16, ey_16, h⟩ := bnd_ex h
        refine lv_nml ey_16 ?_
        refine lv_lstore (lv' := [(4, .long y_16), (0, .ref (xd 0)), (1, .int v1_31), (2, .int v2_31), (3, .int v3_31)]) hx hb dX11_change_81 hv (by decide) rfl (fun ls hv => ?_)
        refine lv_aload_n hx hb dX11_change_83 rfl (lv_at hv 1 rfl) ?_
        refine va_get (D := D) (ci := 11) (v := .ref (hd 0)) (C := RX11) (T := TX11) (N := 9) hx hb hts in_11 hown hK hP 0 rfl rfl 0 (by decide) w_1 (fun _ h9 => h9) rfl dX11_change_84 ?_
        refine va_get (D := D) (ci := 3) (v := .ref (hd 12)) (C := RX3) (T := TX3) (N := 18) hx hb hts in_3 hown hK hP 14 rfl rfl 11 (by decide) w_2 (fun _ h9 => h9) rfl dX11_change_87 ?_
        refine lv_iload_n hx hb dX11_change_90 rfl (lv_at hv 2 rfl) ?_
        refine lv_lload hx hb dX11_change_91 (lv_at hv 0 rfl) ?_
        refine lv_iload_n hx hb dX11_change_93 rfl (lv_at hv 3 rfl) ?_
        refine lv_iconst (v := (1 : Int32)) hx hb dX11_change_94 (by decide) ?_
        refine lv_isub hx hb dX11_change_95 ?_
        refine lv_iload_n hx hb dX11_change_96 rfl (lv_at hv 4 rfl) ?_
        obtain ⟨r_17, hf_18, h⟩ := bd_ex h
        have sb := Sb.nil hP hD hS hA
        refine calL (va_runS (As := [.long y_16, .int (v2_31 - (1 : Int32)), .int v3_31]) (rest := [.int v1_31, .ref (hd 12)]) ⟨hx, hb, hml, hown, hts⟩ (c_X3_withFresh l G D cA  _ y_16 (v2_31 - (1 : Int32)) v3_31 r_17 hf_18) (va_cwS 3 hts gX11_change_X3_withFresh rfl rfl rfl (by decide +kernel) ⟨Nat.le_of_ble_eq_true rfl, Nat.le_of_ble_eq_true rfl⟩) (pvS hE hK hS sb) rfl rfl hv.1 rfl (lv_room (Nat.le_of_ble_eq_true rfl)) dX11_change_97 ⟨Nat.le_of_ble_eq_true rfl, Nat.le_of_ble_eq_true rfl⟩) hS sb (Jn.nil hP hD) (fun H locs hP hD hS => ?_)
        have hP : va_P D vwCl (wX cA xd vd sd nd hd td ed kd images errors_31 fewest vspoon vmark vcount vbodies sbits slens snum h_weight h_known h_hour h_swS h_swW h_waS h_spoons h_kind h_mark h_silver_31 h_fresh_31 h_texts h_tape h_tapeCount h_z h_waiting h_waitingCount t_weight t_known t_hour t_swS t_swW t_waS t_spoons t_kind t_mark t_silver t_fresh t_texts t_tape t_tapeCount t_z t_waiting t_waitingCount e_weight e_known e_hour e_swS e_swW e_waS e_spoons e_kind e_mark e_silver e_fresh e_texts e_tape e_tapeCount e_z e_waiting e_waitingCount L tx tst) H := hP
        have hD : va_D A (wX cA xd vd sd nd hd td ed kd images errors_31 fewest vspoon vmark vcount vbodies sbits slens snum h_weight h_known h_hour h_swS h_swW h_waS h_spoons h_kind h_mark h_silver_31 h_fresh_31 h_texts h_tape h_tapeCount h_z h_waiting h_waitingCount t_weight t_known t_hour t_swS t_swW t_waS t_spoons t_kind t_mark t_silver t_fresh t_texts t_tape t_tapeCount t_z t_waiting t_waitingCount e_weight e_known e_hour e_swS e_swW e_waS e_spoons e_kind e_mark e_silver e_fresh e_texts e_tape e_tapeCount e_z e_waiting e_waitingCount L tx tst) := hD
        obtain ⟨c_19, h⟩ := ckI_ex h
        obtain ⟨h_fresh_20, eh_fresh_20, h⟩ := bnd_ex h
        refine va_last (D := D) hx hb hK hP hD hS 22 1 rfl rfl c_19 dX11_change_100 (fun H locs hP hD hS => ?_)
        rw [← eh_fresh_20] at hP hD
        have hP : va_P D vwCl (wX cA xd vd sd nd hd td ed kd images errors_31 fewest vspoon vmark vcount vbodies sbits slens snum h_weight h_known h_hour h_swS h_swW h_waS h_spoons h_kind h_mark h_silver_31 h_fresh_20 h_texts h_tape h_tapeCount h_z h_waiting h_waitingCount t_weight t_known t_hour t_swS t_swW t_waS t_spoons t_kind t_mark t_silver t_fresh t_texts t_tape t_tapeCount t_z t_waiting t_waitingCount e_weight e_known e_hour e_swS e_swW e_waS e_spoons e_kind e_mark e_silver e_fresh e_texts e_tape e_tapeCount e_z e_waiting e_waitingCount L tx tst) H := hP
        have hD : va_D A (wX cA xd vd sd nd hd td ed kd images errors_31 fewest vspoon vmark vcount vbodies sbits slens snum h_weight h_known h_hour h_swS h_swW h_waS h_spoons h_kind h_mark h_silver_31 h_fresh_20 h_texts h_tape h_tapeCount h_z h_waiting h_waitingCount t_weight t_known t_hour t_swS t_swW t_waS t_spoons t_kind t_mark t_silver t_fresh t_texts t_tape t_tapeCount t_z t_waiting t_waitingCount e_weight e_known e_hour e_swS e_swW e_waS e_spoons e_kind e_mark e_silver e_fresh e_texts e_tape e_tapeCount e_z e_waiting e_waitingCount L tx tst) := hD
        refine lv_lload hx hb dX11_change_101 (lv_at hv 0 rfl) ?_
        refine lv_iload_n hx hb dX11_change_103 rfl (lv_at hv 3 rfl) ?_
        refine lv_iconst (v := (1 : Int32)) hx hb dX11_change_104 (by decide) ?_
        refine lv_isub hx hb dX11_change_105 ?_
        obtain ⟨r_21, hf_22, h⟩ := bd_ex h
        have sb := Sb.nil hP hD hS hA
        refine calI (va_runS (As := [.long y_16, .int (v2_31 - (1 : Int32))]) (rest := []) ⟨hx, hb, hml, hown, hts⟩ (c_X3_freshIn l G D cA  _ y_16 (v2_31 - (1 : Int32)) r_21 hf_22) (va_cwS 2 hts gX11_change_X3_freshIn rfl rfl rfl (by decide +kernel) ⟨Nat.le_of_ble_eq_true rfl, Nat.le_of_ble_eq_true rfl⟩) (pvS hE hK hS sb) rfl rfl hv.1 rfl (lv_room (Nat.le_of_ble_eq_true rfl)) dX11_change_106 ⟨Nat.le_of_ble_eq_true rfl, Nat.le_of_ble_eq_true rfl⟩) hS sb (Jn.nil hP hD) (fun H locs hP hD hS => ?_)
        have hP : va_P D vwCl (wX cA xd vd sd nd hd td ed kd images errors_31 fewest vspoon vmark vcount vbodies sbits slens snum h_weight h_known h_hour h_swS h_swW h_waS h_spoons h_kind h_mark h_silver_31 h_fresh_20 h_texts h_tape h_tapeCount h_z h_waiting h_waitingCount t_weight t_known t_hour t_swS t_swW t_waS t_spoons t_kind t_mark t_silver t_fresh t_texts t_tape t_tapeCount t_z t_waiting t_waitingCount e_weight e_known e_hour e_swS e_swW e_waS e_spoons e_kind e_mark e_silver e_fresh e_texts e_tape e_tapeCount e_z e_waiting e_waitingCount L tx tst) H := hP
        have hD : va_D A (wX cA xd vd sd nd hd td ed kd images errors_31 fewest vspoon vmark vcount vbodies sbits slens snum h_weight h_known h_hour h_swS h_swW h_waS h_spoons h_kind h_mark h_silver_31 h_fresh_20 h_texts h_tape h_tapeCount h_z h_waiting h_waitingCount t_weight t_known t_hour t_swS t_swW t_waS t_spoons t_kind t_mark t_silver t_fresh t_texts t_tape t_tapeCount t_z t_waiting t_waitingCount e_weight e_known e_hour e_swS e_swW e_waS e_spoons e_kind e_mark e_silver e_fresh e_texts e_tape e_tapeCount e_z e_waiting e_waitingCount L tx tst) := hD
        have h := Option.some.inj h
        have ee0 : r_21 = rR := congrArg (fun q => q.1) h
        have ee1 : errors_31 = errorsR := congrArg (fun q => q.2.1) h
        have ee2 : h_silver_31 = h_silverR := congrArg (fun q => q.2.2.1) h
        have ee3 : h_fresh_20 = h_freshR := congrArg (fun q => q.2.2.2) h
        subst ee0
        subst ee1
        subst ee2
        subst ee3
        rw [← hQ]
        exact retI hx hb hr hlk hK hP hD hS dX11_change_109 ⟨Nat.le_of_ble_eq_true rfl, Nat.le_of_ble_eq_true rfl⟩
      · have h := ite_t c_14 h
        refine lv_aload_n hx hb dX11_change_48 rfl (lv_at hv 0 rfl) ?_
        refine va_get (D := D) (ci := 11) (v := .ref (hd 0)) (C := RX11) (T := TX11) (N := 9) hx hb hts in_11 hown hK hP 0 rfl rfl 0 (by decide) w_1 (fun _ h9 => h9) rfl dX11_change_49 ?_
        refine va_get (D := D) (ci := 3) (v := .ref (hd 11)) (C := RX3) (T := TX3) (N := 18) hx hb hts in_3 hown hK hP 14 rfl rfl 10 (by decide) w_3 (fun _ h9 => h9) rfl dX11_change_52 ?_
        refine lv_iload_n hx hb dX11_change_55 rfl (lv_at hv 1 rfl) ?_
        obtain ⟨c_23, h⟩ := ckI_ex h
        refine va_iald (D := D) hx hb hK hP 21 0 rfl rfl c_23 dX11_change_56 ?_
        obtain ⟨y_24, ey_24, h⟩ := bnd_ex h
        refine lv_nm ey_24 ?_
        refine lv_istore (lv' := [(4, .int y_24), (0, .ref (xd 0)), (1, .int v1_31), (2, .int v2_31), (3, .int v3_31)]) hx hb dX11_change_57 hv (by decide) rfl (fun ls hv => ?_)
        refine lv_aload_n hx hb dX11_change_59 rfl (lv_at hv 1 rfl) ?_
        refine va_get (D := D) (ci := 11) (v := .ref (hd 0)) (C := RX11) (T := TX11) (N := 9) hx hb hts in_11 hown hK hP 0 rfl rfl 0 (by decide) w_1 (fun _ h9 => h9) rfl dX11_change_60 ?_
        refine va_get (D := D) (ci := 3) (v := .ref (hd 11)) (C := RX3) (T := TX3) (N := 18) hx hb hts in_3 hown hK hP 14 rfl rfl 10 (by decide) w_3 (fun _ h9 => h9) rfl dX11_change_63 ?_
        refine lv_iload_n hx hb dX11_change_66 rfl (lv_at hv 2 rfl) ?_
        refine lv_iload_n hx hb dX11_change_67 rfl (lv_at hv 4 rfl) ?_
        obtain ⟨c_25, h⟩ := ckI_ex h
        obtain ⟨h_silver_26, eh_silver_26, h⟩ := bnd_ex h
        refine va_iast (D := D) hx hb hK hP hD hS 21 0 rfl rfl c_25 dX11_change_68 (fun H locs hP hD hS => ?_)
        rw [← eh_silver_26] at hP hD
        have hP : va_P D vwCl (wX cA xd vd sd nd hd td ed kd images errors_31 fewest vspoon vmark vcount vbodies sbits slens snum h_weight h_known h_hour h_swS h_swW h_waS h_spoons h_kind h_mark h_silver_26 h_fresh_31 h_texts h_tape h_tapeCount h_z h_waiting h_waitingCount t_weight t_known t_hour t_swS t_swW t_waS t_spoons t_kind t_mark t_silver t_fresh t_texts t_tape t_tapeCount t_z t_waiting t_waitingCount e_weight e_known e_hour e_swS e_swW e_waS e_spoons e_kind e_mark e_silver e_fresh e_texts e_tape e_tapeCount e_z e_waiting e_waitingCount L tx tst) H := hP
        have hD : va_D A (wX cA xd vd sd nd hd td ed kd images errors_31 fewest vspoon vmark vcount vbodies sbits slens snum h_weight h_known h_hour h_swS h_swW h_waS h_spoons h_kind h_mark h_silver_26 h_fresh_31 h_texts h_tape h_tapeCount h_z h_waiting h_waitingCount t_weight t_known t_hour t_swS t_swW t_waS t_spoons t_kind t_mark t_silver t_fresh t_texts t_tape t_tapeCount t_z t_waiting t_waitingCount e_weight e_known e_hour e_swS e_swW e_waS e_spoons e_kind e_mark e_silver e_fresh e_texts e_tape e_tapeCount e_z e_waiting e_waitingCount L tx tst) := hD
        refine lv_iload hx hb dX11_change_69 (lv_at hv 0 rfl) ?_
        have h := Option.some.inj h
        have ee0 : y_24 = rR := congrArg (fun q => q.1) h
        have ee1 : errors_31 = errorsR := congrArg (fun q => q.2.1) h
        have ee2 : h_silver_26 = h_silverR := congrArg (fun q => q.2.2.1) h
        have ee3 : h_fresh_31 = h_freshR := congrArg (fun q => q.2.2.2) h
        subst ee0
        subst ee1
        subst ee2
        subst ee3
        rw [← hQ]
        exact retI hx hb hr hlk hK hP hD hS dX11_change_71 ⟨Nat.le_of_ble_eq_true rfl, Nat.le_of_ble_eq_true rfl⟩
    · have h := ite_t c_13 h
      exact C_37 errors_31 h_silver_31 h_fresh_31 h _ _ _ hP hD hS (lv_sub hv [0] rfl)
  have hP : va_P D vwCl (wX cA xd vd sd nd hd td ed kd images errors fewest vspoon vmark vcount vbodies sbits slens snum h_weight h_known h_hour h_swS h_swW h_waS h_spoons h_kind h_mark h_silver h_fresh h_texts h_tape h_tapeCount h_z h_waiting h_waitingCount t_weight t_known t_hour t_swS t_swW t_waS t_spoons t_kind t_mark t_silver t_fresh t_texts t_tape t_tapeCount t_z t_waiting t_waitingCount e_weight e_known e_hour e_swS e_swW e_waS e_spoons e_kind e_mark e_silver e_fresh e_texts e_tape e_tapeCount e_z e_waiting e_waitingCount L tx tst) H := hP
  unfold fX11_change at h
  refine lv_aload_n hx hb dX11_change_0 rfl (lv_at hv 0 rfl) ?_
  refine lv_iload_n hx hb dX11_change_1 rfl (lv_at hv 1 rfl) ?_
  obtain ⟨r_1, hf_2, h⟩ := bd_ex h
  have sb := Sb.same hP hD hS hA
  refine calI (va_runV (As := [.int a]) (rest := []) ⟨hx, hb, hml, hown, hts⟩ (c_X11_isSpoon l G D cA xd vd sd nd hd td ed kd _ images errors fewest vspoon vmark vcount vbodies sbits slens snum h_weight h_known h_hour h_swS h_swW h_waS h_spoons h_kind h_mark h_silver h_fresh h_texts h_tape h_tapeCount h_z h_waiting h_waitingCount t_weight t_known t_hour t_swS t_swW t_waS t_spoons t_kind t_mark t_silver t_fresh t_texts t_tape t_tapeCount t_z t_waiting t_waitingCount e_weight e_known e_hour e_swS e_swW e_waS e_spoons e_kind e_mark e_silver e_fresh e_texts e_tape e_tapeCount e_z e_waiting e_waitingCount L tx tst a r_1 hf_2) (cwV 1 hts gX11_change_X11_isSpoon rfl rfl rfl (by decide +kernel) ⟨Nat.le_of_ble_eq_true rfl, Nat.le_of_ble_eq_true rfl⟩) (pvV hE hK hS sb (va_recv hK hP (ci := 11) (q0 := 0) rfl rfl)) rfl rfl hv.1 rfl (lv_room (Nat.le_of_ble_eq_true rfl)) dX11_change_2 ⟨Nat.le_of_ble_eq_true rfl, Nat.le_of_ble_eq_true rfl⟩) hS sb (Jn.same sb) (fun H locs hP hD hS => ?_)
  have hP : va_P D vwCl (wX cA xd vd sd nd hd td ed kd images errors fewest vspoon vmark vcount vbodies sbits slens snum h_weight h_known h_hour h_swS h_swW h_waS h_spoons h_kind h_mark h_silver h_fresh h_texts h_tape h_tapeCount h_z h_waiting h_waitingCount t_weight t_known t_hour t_swS t_swW t_waS t_spoons t_kind t_mark t_silver t_fresh t_texts t_tape t_tapeCount t_z t_waiting t_waitingCount e_weight e_known e_hour e_swS e_swW e_waS e_spoons e_kind e_mark e_silver e_fresh e_texts e_tape e_tapeCount e_z e_waiting e_waitingCount L tx tst) H := hP
  have hD : va_D A (wX cA xd vd sd nd hd td ed kd images errors fewest vspoon vmark vcount vbodies sbits slens snum h_weight h_known h_hour h_swS h_swW h_waS h_spoons h_kind h_mark h_silver h_fresh h_texts h_tape h_tapeCount h_z h_waiting h_waitingCount t_weight t_known t_hour t_swS t_swW t_waS t_spoons t_kind t_mark t_silver t_fresh t_texts t_tape t_tapeCount t_z t_waiting t_waitingCount e_weight e_known e_hour e_swS e_swW e_waS e_spoons e_kind e_mark e_silver e_fresh e_texts e_tape e_tapeCount e_z e_waiting e_waitingCount L tx tst) := hD
  refine lv_if_eq (tgt := 37) hx hb dX11_change_5 (by decide) (fun c_3 => ?_) (fun c_3 => ?_)
  · have h := ite_t c_3 h
    exact C_37 errors h_silver h_fresh h _ _ _ hP hD hS (lv_sub hv [0] rfl)
  · have h := ite_f c_3 h
    refine lv_iload_n hx hb dX11_change_8 rfl (lv_at hv 2 rfl) ?_
    refine lv_iconst (v := (0 : Int32)) hx hb dX11_change_9 (by decide) ?_
    refine lv_bipush (v := (12 : Int32)) hx hb dX11_change_10 (by decide) ?_
    obtain ⟨r_7, hf_8, h⟩ := bd_ex h
    have sb := Sb.nil hP hD hS hA
    refine calI (va_runS (As := [.int what, .int (0 : Int32), .int (12 : Int32)]) (rest := []) ⟨hx, hb, hml, hown, hts⟩ (c_X11_within l G D cA  _ what (0 : Int32) (12 : Int32) r_7 hf_8) (va_cwS 3 hts gX11_change_X11_within rfl rfl rfl (by decide +kernel) ⟨Nat.le_of_ble_eq_true rfl, Nat.le_of_ble_eq_true rfl⟩) (pvS hE hK hS sb) rfl rfl hv.1 rfl (lv_room (Nat.le_of_ble_eq_true rfl)) dX11_change_12 ⟨Nat.le_of_ble_eq_true rfl, Nat.le_of_ble_eq_true rfl⟩) hS sb (Jn.nil hP hD) (fun H locs hP hD hS => ?_)
    have hP : va_P D vwCl (wX cA xd vd sd nd hd td ed kd images errors fewest vspoon vmark vcount vbodies sbits slens snum h_weight h_known h_hour h_swS h_swW h_waS h_spoons h_kind h_mark h_silver h_fresh h_texts h_tape h_tapeCount h_z h_waiting h_waitingCount t_weight t_known t_hour t_swS t_swW t_waS t_spoons t_kind t_mark t_silver t_fresh t_texts t_tape t_tapeCount t_z t_waiting t_waitingCount e_weight e_known e_hour e_swS e_swW e_waS e_spoons e_kind e_mark e_silver e_fresh e_texts e_tape e_tapeCount e_z e_waiting e_waitingCount L tx tst) H := hP
    have hD : va_D A (wX cA xd vd sd nd hd td ed kd images errors fewest vspoon vmark vcount vbodies sbits slens snum h_weight h_known h_hour h_swS h_swW h_waS h_spoons h_kind h_mark h_silver h_fresh h_texts h_tape h_tapeCount h_z h_waiting h_waitingCount t_weight t_known t_hour t_swS t_swW t_waS t_spoons t_kind t_mark t_silver t_fresh t_texts t_tape t_tapeCount t_z t_waiting t_waitingCount e_weight e_known e_hour e_swS e_swW e_waS e_spoons e_kind e_mark e_silver e_fresh e_texts e_tape e_tapeCount e_z e_waiting e_waitingCount L tx tst) := hD
    refine lv_if_eq (tgt := 37) hx hb dX11_change_15 (by decide) (fun c_9 => ?_) (fun c_9 => ?_)
    · have h := ite_t c_9 h
      exact C_37 errors h_silver h_fresh h _ _ _ hP hD hS (lv_sub hv [0] rfl)
    · have h := ite_f c_9 h
      refine lv_iload_n hx hb dX11_change_18 rfl (lv_at hv 3 rfl) ?_
      refine lv_iconst (v := (0 : Int32)) hx hb dX11_change_19 (by decide) ?_
      refine lv_iload_n hx hb dX11_change_20 rfl (lv_at hv 2 rfl) ?_
      refine lv_if_ne (tgt := 29) hx hb dX11_change_21 (by decide) (fun c_10 => ?_) (fun c_10 => ?_)
      · have h := ite_f c_10 h
        refine lv_bipush (v := (9 : Int32)) hx hb dX11_change_29 (by decide) ?_
        exact C_31 a what v (9 : Int32) (0 : Int32) v errors h_silver h_fresh h _ _ _ hP hD hS (lv_sub hv [0, 1, 2, 3] rfl)
      · have h := ite_t c_10 h
        refine lv_bipush (v := (99 : Int32)) hx hb dX11_change_24 (by decide) ?_
        refine lv_goto (tgt := 31) hx hb dX11_change_26 (by decide) ?_
        exact C_31 a what v (99 : Int32) (0 : Int32) v errors h_silver h_fresh h _ _ _ hP hD hS (lv_sub hv [0, 1, 2, 3] rfl)

def fX11_become (a : Int32) (b : Int32) (errors : Nat → Int32) (h_spoons : Int32) (h_kind : Nat → Int32) (h_mark : Nat → Int32) : Option (Int32 × (Nat → Int32) × (Nat → Int32) × (Nat → Int32)) :=
  bd (fX11_isSpoon a h_spoons) fun r_1 => (if r_1 = 0 then bd (fX11_refused (-1000000001 : Int32) errors) fun (r_4, errors_5) => some (r_4, errors_5, h_kind, h_mark) else bd (fX11_within b (0 : Int32) (69 : Int32)) fun r_7 => (if r_7 = 0 then bd (fX11_refused (-1000000001 : Int32) errors) fun (r_18, errors_19) => some (r_18, errors_19, h_kind, h_mark) else ckI a 8 (bnd (h_kind (a).toNatClampNeg) fun y_11 => bnd (b / (10 : Int32)) fun y_12 => ckI a 8 (bnd (upd h_kind (a).toNatClampNeg y_12) fun h_kind_14 => bnd (b - b / (10 : Int32) * (10 : Int32)) fun y_15 => ckI a 8 (bnd (upd h_mark (a).toNatClampNeg y_15) fun h_mark_17 => some (y_11, errors, h_kind_14, h_mark_17))))))
set_option maxHeartbeats 4000000 in
set_option maxRecDepth 100000 in
theorem c_X11_become (l : Launch) (G : Nat → Nat) (D : va_G) (cA : Nat → ClassId) (xd : Nat → Nat) (vd : Nat → Nat) (sd : Nat → Nat) (nd : Nat → Nat) (hd : Nat → Nat) (td : Nat → Nat) (ed : Nat → Nat) (kd : Nat → Nat) (sz : Nat) (images : Int32) (errors : Nat → Int32) (fewest : Nat → Int32) (vspoon : Int32) (vmark : Int32) (vcount : Int32) (vbodies : Nat → Int32) (sbits : Nat → Int32) (slens : Nat → Int32) (snum : Nat → Nat → Int32) (h_weight : Nat → Int32) (h_known : Int32) (h_hour : Int32) (h_swS : Nat → Int32) (h_swW : Nat → Int32) (h_waS : Nat → Int32) (h_spoons : Int32) (h_kind : Nat → Int32) (h_mark : Nat → Int32) (h_silver : Nat → Int32) (h_fresh : Nat → Int64) (h_texts : Nat → Option Nat) (h_tape : Nat → Int32) (h_tapeCount : Int32) (h_z : Int32) (h_waiting : Nat → Int32) (h_waitingCount : Int32) (t_weight : Nat → Int32) (t_known : Int32) (t_hour : Int32) (t_swS : Nat → Int32) (t_swW : Nat → Int32) (t_waS : Nat → Int32) (t_spoons : Int32) (t_kind : Nat → Int32) (t_mark : Nat → Int32) (t_silver : Nat → Int32) (t_fresh : Nat → Int64) (t_texts : Nat → Option Nat) (t_tape : Nat → Int32) (t_tapeCount : Int32) (t_z : Int32) (t_waiting : Nat → Int32) (t_waitingCount : Int32) (e_weight : Nat → Int32) (e_known : Int32) (e_hour : Int32) (e_swS : Nat → Int32) (e_swW : Nat → Int32) (e_waS : Nat → Int32) (e_spoons : Int32) (e_kind : Nat → Int32) (e_mark : Nat → Int32) (e_silver : Nat → Int32) (e_fresh : Nat → Int64) (e_texts : Nat → Option Nat) (e_tape : Nat → Int32) (e_tapeCount : Int32) (e_z : Int32) (e_waiting : Nat → Int32) (e_waitingCount : Int32) (L : List Nat) (tx : Nat → TXc) (tst : Nat → Nat → Int32) (a : Int32) (b : Int32) (rR : Int32) (errorsR : Nat → Int32) (h_kindR : Nat → Int32) (h_markR : Nat → Int32) (h : fX11_become a b errors h_spoons h_kind h_mark = some (rR, errorsR, h_kindR, h_markR)) : Met l yX11_become wsX11_become ({ frames := 2, cells := 0, slots := 0, locals := 43 } : Room) (PW G D (tyC cA) sz (wX cA xd vd sd nd hd td ed kd images errors fewest vspoon vmark vcount vbodies sbits slens snum h_weight h_known h_hour h_swS h_swW h_waS h_spoons h_kind h_mark h_silver h_fresh h_texts h_tape h_tapeCount h_z h_waiting h_waitingCount t_weight t_known t_hour t_swS t_swW t_waS t_spoons t_kind t_mark t_silver t_fresh t_texts t_tape t_tapeCount t_z t_waiting t_waitingCount e_weight e_known e_hour e_swS e_swW e_waS e_spoons e_kind e_mark e_silver e_fresh e_texts e_tape e_tapeCount e_z e_waiting e_waitingCount L tx tst) [.ref (xd 0), .int a, .int b]) (QI D (tyC cA) (va_A (wX cA xd vd sd nd hd td ed kd images errors fewest vspoon vmark vcount vbodies sbits slens snum h_weight h_known h_hour h_swS h_swW h_waS h_spoons h_kind h_mark h_silver h_fresh h_texts h_tape h_tapeCount h_z h_waiting h_waitingCount t_weight t_known t_hour t_swS t_swW t_waS t_spoons t_kind t_mark t_silver t_fresh t_texts t_tape t_tapeCount t_z t_waiting t_waitingCount e_weight e_known e_hour e_swS e_swW e_waS e_spoons e_kind e_mark e_silver e_fresh e_texts e_tape e_tapeCount e_z e_waiting e_waitingCount L tx tst) sz) rR (wX cA xd vd sd nd hd td ed kd images errorsR fewest vspoon vmark vcount vbodies sbits slens snum h_weight h_known h_hour h_swS h_swW h_waS h_spoons h_kindR h_markR h_silver h_fresh h_texts h_tape h_tapeCount h_z h_waiting h_waitingCount t_weight t_known t_hour t_swS t_swW t_waS t_spoons t_kind t_mark t_silver t_fresh t_texts t_tape t_tapeCount t_z t_waiting t_waitingCount e_weight e_known e_hour e_swS e_swW e_waS e_spoons e_kind e_mark e_silver e_fresh e_texts e_tape e_tapeCount e_z e_waiting e_waitingCount L tx tst)) 0 0 (va_A (wX cA xd vd sd nd hd td ed kd images errors fewest vspoon vmark vcount vbodies sbits slens snum h_weight h_known h_hour h_swS h_swW h_waS h_spoons h_kind h_mark h_silver h_fresh h_texts h_tape h_tapeCount h_z h_waiting h_waitingCount t_weight t_known t_hour t_swS t_swW t_waS t_spoons t_kind t_mark t_silver t_fresh t_texts t_tape t_tapeCount t_z t_waiting t_waitingCount e_weight e_known e_hour e_swS e_swW e_waS e_spoons e_kind e_mark e_silver e_fresh e_texts e_tape e_tapeCount e_z e_waiting e_waitingCount L tx tst) sz) := by
  refine ent (cc := cX11_become) (maxL := 4) (ret := (some .int)) (fun A => QI D (tyC cA) A rR (wX cA xd vd sd nd hd td ed kd images errorsR fewest vspoon vmark vcount vbodies sbits slens snum h_weight h_known h_hour h_swS h_swW h_waS h_spoons h_kindR h_markR h_silver h_fresh h_texts h_tape h_tapeCount h_z h_waiting h_waitingCount t_weight t_known t_hour t_swS t_swW t_waS t_spoons t_kind t_mark t_silver t_fresh t_texts t_tape t_tapeCount t_z t_waiting t_waitingCount e_weight e_known e_hour e_swS e_swW e_waS e_spoons e_kind e_mark e_silver e_fresh e_texts e_tape e_tapeCount e_z e_waiting e_waitingCount L tx tst)) (by decide +kernel) rfl (Nat.le_of_ble_eq_true rfl) ?_
  intro p e s m args below meth c A ls H hx hb hml hr hlk hts hown hA hK hE hP hD hS hv hmm
  have hv : lv_has ls 4 [(0, .ref (xd 0)), (1, .int a), (2, .int b)] := hv
  have in_3 : ∀ w ∈ u_ws RX3 TX3 18, w ∈ wsX11_become := fun _ h => List.mem_cons_of_mem _ (List.mem_append_right _ h)
  have in_11 : ∀ w ∈ u_ws RX11 TX11 9, w ∈ wsX11_become := fun _ h => List.mem_cons_of_mem _ (List.mem_append_left _ (List.mem_append_right _ h))
  have w_0 := hts (.constant RX11 78 (-1000000001)) (List.mem_of_getElem? (i := 1) rfl)
  have w_1 := hts (.fieldLink RX11 39 "SpoonsLast" "house" "LSpoonsLast$House;") (List.mem_of_getElem? (i := 2) rfl)
  have w_2 := hts (.fieldLink RX11 115 "SpoonsLast$House" "kind" "[I") (List.mem_of_getElem? (i := 3) rfl)
  have w_3 := hts (.fieldLink RX11 118 "SpoonsLast$House" "mark" "[I") (List.mem_of_getElem? (i := 4) rfl)
  generalize hQ : MQ below _ args s 0 0 A = Q
  have hP : va_P D vwCl (wX cA xd vd sd nd hd td ed kd images errors fewest vspoon vmark vcount vbodies sbits slens snum h_weight h_known h_hour h_swS h_swW h_waS h_spoons h_kind h_mark h_silver h_fresh h_texts h_tape h_tapeCount h_z h_waiting h_waitingCount t_weight t_known t_hour t_swS t_swW t_waS t_spoons t_kind t_mark t_silver t_fresh t_texts t_tape t_tapeCount t_z t_waiting t_waitingCount e_weight e_known e_hour e_swS e_swW e_waS e_spoons e_kind e_mark e_silver e_fresh e_texts e_tape e_tapeCount e_z e_waiting e_waitingCount L tx tst) H := hP
  unfold fX11_become at h
  refine lv_aload_n hx hb dX11_become_0 rfl (lv_at hv 0 rfl) ?_
  refine lv_iload_n hx hb dX11_become_1 rfl (lv_at hv 1 rfl) ?_
  obtain ⟨r_1, hf_2, h⟩ := bd_ex h
  have sb := Sb.same hP hD hS hA
  refine calI (va_runV (As := [.int a]) (rest := []) ⟨hx, hb, hml, hown, hts⟩ (c_X11_isSpoon l G D cA xd vd sd nd hd td ed kd _ images errors fewest vspoon vmark vcount vbodies sbits slens snum h_weight h_known h_hour h_swS h_swW h_waS h_spoons h_kind h_mark h_silver h_fresh h_texts h_tape h_tapeCount h_z h_waiting h_waitingCount t_weight t_known t_hour t_swS t_swW t_waS t_spoons t_kind t_mark t_silver t_fresh t_texts t_tape t_tapeCount t_z t_waiting t_waitingCount e_weight e_known e_hour e_swS e_swW e_waS e_spoons e_kind e_mark e_silver e_fresh e_texts e_tape e_tapeCount e_z e_waiting e_waitingCount L tx tst a r_1 hf_2) (cwV 1 hts gX11_become_X11_isSpoon rfl rfl rfl (by decide +kernel) ⟨Nat.le_of_ble_eq_true rfl, Nat.le_of_ble_eq_true rfl⟩) (pvV hE hK hS sb (va_recv hK hP (ci := 11) (q0 := 0) rfl rfl)) rfl rfl hv.1 rfl (lv_room (Nat.le_of_ble_eq_true rfl)) dX11_become_2 ⟨Nat.le_of_ble_eq_true rfl, Nat.le_of_ble_eq_true rfl⟩) hS sb (Jn.same sb) (fun H locs hP hD hS => ?_)
  have hP : va_P D vwCl (wX cA xd vd sd nd hd td ed kd images errors fewest vspoon vmark vcount vbodies sbits slens snum h_weight h_known h_hour h_swS h_swW h_waS h_spoons h_kind h_mark h_silver h_fresh h_texts h_tape h_tapeCount h_z h_waiting h_waitingCount t_weight t_known t_hour t_swS t_swW t_waS t_spoons t_kind t_mark t_silver t_fresh t_texts t_tape t_tapeCount t_z t_waiting t_waitingCount e_weight e_known e_hour e_swS e_swW e_waS e_spoons e_kind e_mark e_silver e_fresh e_texts e_tape e_tapeCount e_z e_waiting e_waitingCount L tx tst) H := hP
  have hD : va_D A (wX cA xd vd sd nd hd td ed kd images errors fewest vspoon vmark vcount vbodies sbits slens snum h_weight h_known h_hour h_swS h_swW h_waS h_spoons h_kind h_mark h_silver h_fresh h_texts h_tape h_tapeCount h_z h_waiting h_waitingCount t_weight t_known t_hour t_swS t_swW t_waS t_spoons t_kind t_mark t_silver t_fresh t_texts t_tape t_tapeCount t_z t_waiting t_waitingCount e_weight e_known e_hour e_swS e_swW e_waS e_spoons e_kind e_mark e_silver e_fresh e_texts e_tape e_tapeCount e_z e_waiting e_waitingCount L tx tst) := hD
  refine lv_if_eq (tgt := 18) hx hb dX11_become_5 (by decide) (fun c_3 => ?_) (fun c_3 => ?_)
  · have h := ite_t c_3 h
    refine lv_aload_n hx hb dX11_become_18 rfl (lv_at hv 0 rfl) ?_
    refine lv_ldc (v := (-1000000001 : Int32)) hx hb hown w_0 dX11_become_19 ?_
    obtain ⟨⟨r_4, errors_5⟩, hf_6, h⟩ := bd_ex h
    have sb := Sb.same hP hD hS hA
    refine calI (va_runV (As := [.int (-1000000001 : Int32)]) (rest := []) ⟨hx, hb, hml, hown, hts⟩ (c_X11_refused l G D cA xd vd sd nd hd td ed kd _ images errors fewest vspoon vmark vcount vbodies sbits slens snum h_weight h_known h_hour h_swS h_swW h_waS h_spoons h_kind h_mark h_silver h_fresh h_texts h_tape h_tapeCount h_z h_waiting h_waitingCount t_weight t_known t_hour t_swS t_swW t_waS t_spoons t_kind t_mark t_silver t_fresh t_texts t_tape t_tapeCount t_z t_waiting t_waitingCount e_weight e_known e_hour e_swS e_swW e_waS e_spoons e_kind e_mark e_silver e_fresh e_texts e_tape e_tapeCount e_z e_waiting e_waitingCount L tx tst (-1000000001 : Int32) r_4 errors_5 hf_6) (cwV 1 hts gX11_become_X11_refused rfl rfl rfl (by decide +kernel) ⟨Nat.le_of_ble_eq_true rfl, Nat.le_of_ble_eq_true rfl⟩) (pvV hE hK hS sb (va_recv hK hP (ci := 11) (q0 := 0) rfl rfl)) rfl rfl hv.1 rfl (lv_room (Nat.le_of_ble_eq_true rfl)) dX11_become_21 ⟨Nat.le_of_ble_eq_true rfl, Nat.le_of_ble_eq_true rfl⟩) hS sb (Jn.same sb) (fun H locs hP hD hS => ?_)
    have hP : va_P D vwCl (wX cA xd vd sd nd hd td ed kd images errors_5 fewest vspoon vmark vcount vbodies sbits slens snum h_weight h_known h_hour h_swS h_swW h_waS h_spoons h_kind h_mark h_silver h_fresh h_texts h_tape h_tapeCount h_z h_waiting h_waitingCount t_weight t_known t_hour t_swS t_swW t_waS t_spoons t_kind t_mark t_silver t_fresh t_texts t_tape t_tapeCount t_z t_waiting t_waitingCount e_weight e_known e_hour e_swS e_swW e_waS e_spoons e_kind e_mark e_silver e_fresh e_texts e_tape e_tapeCount e_z e_waiting e_waitingCount L tx tst) H := hP
    have hD : va_D A (wX cA xd vd sd nd hd td ed kd images errors_5 fewest vspoon vmark vcount vbodies sbits slens snum h_weight h_known h_hour h_swS h_swW h_waS h_spoons h_kind h_mark h_silver h_fresh h_texts h_tape h_tapeCount h_z h_waiting h_waitingCount t_weight t_known t_hour t_swS t_swW t_waS t_spoons t_kind t_mark t_silver t_fresh t_texts t_tape t_tapeCount t_z t_waiting t_waitingCount e_weight e_known e_hour e_swS e_swW e_waS e_spoons e_kind e_mark e_silver e_fresh e_texts e_tape e_tapeCount e_z e_waiting e_waitingCount L tx tst) := hD
    have h := Option.some.inj h
    have ee0 : r_4 = rR := congrArg (fun q => q.1) h
    have ee1 : errors_5 = errorsR := congrArg (fun q => q.2.1) h
    have ee2 : h_kind = h_kindR := congrArg (fun q => q.2.2.1) h
    have ee3 : h_mark = h_markR := congrArg (fun q => q.2.2.2) h
    subst ee0
    subst ee1
    subst ee2
    subst ee3
    rw [← hQ]
    exact retI hx hb hr hlk hK hP hD hS dX11_become_24 ⟨Nat.le_of_ble_eq_true rfl, Nat.le_of_ble_eq_true rfl⟩
  · have h := ite_f c_3 h
    refine lv_iload_n hx hb dX11_become_8 rfl (lv_at hv 2 rfl) ?_
    refine lv_iconst (v := (0 : Int32)) hx hb dX11_become_9 (by decide) ?_
    refine lv_bipush (v := (69 : Int32)) hx hb dX11_become_10 (by decide) ?_
    obtain ⟨r_7, hf_8, h⟩ := bd_ex h
    have sb := Sb.nil hP hD hS hA
    refine calI (va_runS (As := [.int b, .int (0 : Int32), .int (69 : Int32)]) (rest := []) ⟨hx, hb, hml, hown, hts⟩ (c_X11_within l G D cA  _ b (0 : Int32) (69 : Int32) r_7 hf_8) (va_cwS 3 hts gX11_become_X11_within rfl rfl rfl (by decide +kernel) ⟨Nat.le_of_ble_eq_true rfl, Nat.le_of_ble_eq_true rfl⟩) (pvS hE hK hS sb) rfl rfl hv.1 rfl (lv_room (Nat.le_of_ble_eq_true rfl)) dX11_become_12 ⟨Nat.le_of_ble_eq_true rfl, Nat.le_of_ble_eq_true rfl⟩) hS sb (Jn.nil hP hD) (fun H locs hP hD hS => ?_)
    have hP : va_P D vwCl (wX cA xd vd sd nd hd td ed kd images errors fewest vspoon vmark vcount vbodies sbits slens snum h_weight h_known h_hour h_swS h_swW h_waS h_spoons h_kind h_mark h_silver h_fresh h_texts h_tape h_tapeCount h_z h_waiting h_waitingCount t_weight t_known t_hour t_swS t_swW t_waS t_spoons t_kind t_mark t_silver t_fresh t_texts t_tape t_tapeCount t_z t_waiting t_waitingCount e_weight e_known e_hour e_swS e_swW e_waS e_spoons e_kind e_mark e_silver e_fresh e_texts e_tape e_tapeCount e_z e_waiting e_waitingCount L tx tst) H := hP
    have hD : va_D A (wX cA xd vd sd nd hd td ed kd images errors fewest vspoon vmark vcount vbodies sbits slens snum h_weight h_known h_hour h_swS h_swW h_waS h_spoons h_kind h_mark h_silver h_fresh h_texts h_tape h_tapeCount h_z h_waiting h_waitingCount t_weight t_known t_hour t_swS t_swW t_waS t_spoons t_kind t_mark t_silver t_fresh t_texts t_tape t_tapeCount t_z t_waiting t_waitingCount e_weight e_known e_hour e_swS e_swW e_waS e_spoons e_kind e_mark e_silver e_fresh e_texts e_tape e_tapeCount e_z e_waiting e_waitingCount L tx tst) := hD
    refine lv_if_ne (tgt := 25) hx hb dX11_become_15 (by decide) (fun c_9 => ?_) (fun c_9 => ?_)
    · have h := ite_f c_9 h
      refine lv_aload_n hx hb dX11_become_25 rfl (lv_at hv 0 rfl) ?_
      refine va_get (D := D) (ci := 11) (v := .ref (hd 0)) (C := RX11) (T := TX11) (N := 9) hx hb hts in_11 hown hK hP 0 rfl rfl 0 (by decide) w_1 (fun _ h9 => h9) rfl dX11_become_26 ?_
      refine va_get (D := D) (ci := 3) (v := .ref (hd 9)) (C := RX3) (T := TX3) (N := 18) hx hb hts in_3 hown hK hP 14 rfl rfl 8 (by decide) w_2 (fun _ h9 => h9) rfl dX11_become_29 ?_
      refine lv_iload_n hx hb dX11_become_32 rfl (lv_at hv 1 rfl) ?_
      obtain ⟨c_10, h⟩ := ckI_ex h
      refine va_iald (D := D) hx hb hK hP 19 0 rfl rfl c_10 dX11_become_33 ?_
      obtain ⟨y_11, ey_11, h⟩ := bnd_ex h
      refine lv_nm ey_11 ?_
      refine lv_istore_n (lv' := [(3, .int y_11), (0, .ref (xd 0)), (1, .int a), (2, .int b)]) hx hb dX11_become_34 rfl hv (by decide) rfl (fun ls hv => ?_)
      refine lv_aload_n hx hb dX11_become_35 rfl (lv_at hv 1 rfl) ?_
      refine va_get (D := D) (ci := 11) (v := .ref (hd 0)) (C := RX11) (T := TX11) (N := 9) hx hb hts in_11 hown hK hP 0 rfl rfl 0 (by decide) w_1 (fun _ h9 => h9) rfl dX11_become_36 ?_
      refine va_get (D := D) (ci := 3) (v := .ref (hd 9)) (C := RX3) (T := TX3) (N := 18) hx hb hts in_3 hown hK hP 14 rfl rfl 8 (by decide) w_2 (fun _ h9 => h9) rfl dX11_become_39 ?_
      refine lv_iload_n hx hb dX11_become_42 rfl (lv_at hv 2 rfl) ?_
      refine lv_iload_n hx hb dX11_become_43 rfl (lv_at hv 3 rfl) ?_
      refine lv_bipush (v := (10 : Int32)) hx hb dX11_become_44 (by decide) ?_
      refine lv_idiv hx hb dX11_become_46 (by decide) ?_
      obtain ⟨y_12, ey_12, h⟩ := bnd_ex h
      refine lv_nm ey_12 ?_
      obtain ⟨c_13, h⟩ := ckI_ex h
      obtain ⟨h_kind_14, eh_kind_14, h⟩ := bnd_ex h
      refine va_iast (D := D) hx hb hK hP hD hS 19 0 rfl rfl c_13 dX11_become_47 (fun H locs hP hD hS => ?_)
      rw [← eh_kind_14] at hP hD
      have hP : va_P D vwCl (wX cA xd vd sd nd hd td ed kd images errors fewest vspoon vmark vcount vbodies sbits slens snum h_weight h_known h_hour h_swS h_swW h_waS h_spoons h_kind_14 h_mark h_silver h_fresh h_texts h_tape h_tapeCount h_z h_waiting h_waitingCount t_weight t_known t_hour t_swS t_swW t_waS t_spoons t_kind t_mark t_silver t_fresh t_texts t_tape t_tapeCount t_z t_waiting t_waitingCount e_weight e_known e_hour e_swS e_swW e_waS e_spoons e_kind e_mark e_silver e_fresh e_texts e_tape e_tapeCount e_z e_waiting e_waitingCount L tx tst) H := hP
      have hD : va_D A (wX cA xd vd sd nd hd td ed kd images errors fewest vspoon vmark vcount vbodies sbits slens snum h_weight h_known h_hour h_swS h_swW h_waS h_spoons h_kind_14 h_mark h_silver h_fresh h_texts h_tape h_tapeCount h_z h_waiting h_waitingCount t_weight t_known t_hour t_swS t_swW t_waS t_spoons t_kind t_mark t_silver t_fresh t_texts t_tape t_tapeCount t_z t_waiting t_waitingCount e_weight e_known e_hour e_swS e_swW e_waS e_spoons e_kind e_mark e_silver e_fresh e_texts e_tape e_tapeCount e_z e_waiting e_waitingCount L tx tst) := hD
      refine lv_aload_n hx hb dX11_become_48 rfl (lv_at hv 1 rfl) ?_
      refine va_get (D := D) (ci := 11) (v := .ref (hd 0)) (C := RX11) (T := TX11) (N := 9) hx hb hts in_11 hown hK hP 0 rfl rfl 0 (by decide) w_1 (fun _ h9 => h9) rfl dX11_become_49 ?_
      refine va_get (D := D) (ci := 3) (v := .ref (hd 10)) (C := RX3) (T := TX3) (N := 18) hx hb hts in_3 hown hK hP 14 rfl rfl 9 (by decide) w_3 (fun _ h9 => h9) rfl dX11_become_52 ?_
      refine lv_iload_n hx hb dX11_become_55 rfl (lv_at hv 2 rfl) ?_
      refine lv_iload_n hx hb dX11_become_56 rfl (lv_at hv 3 rfl) ?_
      refine lv_bipush (v := (10 : Int32)) hx hb dX11_become_57 (by decide) ?_
      refine lv_irem hx hb dX11_become_59 (by decide) ?_
      obtain ⟨y_15, ey_15, h⟩ := bnd_ex h
      refine lv_nm ey_15 ?_
      obtain ⟨c_16, h⟩ := ckI_ex h
      obtain ⟨h_mark_17, eh_mark_17, h⟩ := bnd_ex h
      refine va_iast (D := D) hx hb hK hP hD hS 20 0 rfl rfl c_16 dX11_become_60 (fun H locs hP hD hS => ?_)
      rw [← eh_mark_17] at hP hD
      have hP : va_P D vwCl (wX cA xd vd sd nd hd td ed kd images errors fewest vspoon vmark vcount vbodies sbits slens snum h_weight h_known h_hour h_swS h_swW h_waS h_spoons h_kind_14 h_mark_17 h_silver h_fresh h_texts h_tape h_tapeCount h_z h_waiting h_waitingCount t_weight t_known t_hour t_swS t_swW t_waS t_spoons t_kind t_mark t_silver t_fresh t_texts t_tape t_tapeCount t_z t_waiting t_waitingCount e_weight e_known e_hour e_swS e_swW e_waS e_spoons e_kind e_mark e_silver e_fresh e_texts e_tape e_tapeCount e_z e_waiting e_waitingCount L tx tst) H := hP
      have hD : va_D A (wX cA xd vd sd nd hd td ed kd images errors fewest vspoon vmark vcount vbodies sbits slens snum h_weight h_known h_hour h_swS h_swW h_waS h_spoons h_kind_14 h_mark_17 h_silver h_fresh h_texts h_tape h_tapeCount h_z h_waiting h_waitingCount t_weight t_known t_hour t_swS t_swW t_waS t_spoons t_kind t_mark t_silver t_fresh t_texts t_tape t_tapeCount t_z t_waiting t_waitingCount e_weight e_known e_hour e_swS e_swW e_waS e_spoons e_kind e_mark e_silver e_fresh e_texts e_tape e_tapeCount e_z e_waiting e_waitingCount L tx tst) := hD
      refine lv_iload_n hx hb dX11_become_61 rfl (lv_at hv 0 rfl) ?_
      have h := Option.some.inj h
      have ee0 : y_11 = rR := congrArg (fun q => q.1) h
      have ee1 : errors = errorsR := congrArg (fun q => q.2.1) h
      have ee2 : h_kind_14 = h_kindR := congrArg (fun q => q.2.2.1) h
      have ee3 : h_mark_17 = h_markR := congrArg (fun q => q.2.2.2) h
      subst ee0
      subst ee1
      subst ee2
      subst ee3
      rw [← hQ]
      exact retI hx hb hr hlk hK hP hD hS dX11_become_62 ⟨Nat.le_of_ble_eq_true rfl, Nat.le_of_ble_eq_true rfl⟩
    · have h := ite_t c_9 h
      refine lv_aload_n hx hb dX11_become_18 rfl (lv_at hv 0 rfl) ?_
      refine lv_ldc (v := (-1000000001 : Int32)) hx hb hown w_0 dX11_become_19 ?_
      obtain ⟨⟨r_18, errors_19⟩, hf_20, h⟩ := bd_ex h
      have sb := Sb.same hP hD hS hA
      refine calI (va_runV (As := [.int (-1000000001 : Int32)]) (rest := []) ⟨hx, hb, hml, hown, hts⟩ (c_X11_refused l G D cA xd vd sd nd hd td ed kd _ images errors fewest vspoon vmark vcount vbodies sbits slens snum h_weight h_known h_hour h_swS h_swW h_waS h_spoons h_kind h_mark h_silver h_fresh h_texts h_tape h_tapeCount h_z h_waiting h_waitingCount t_weight t_known t_hour t_swS t_swW t_waS t_spoons t_kind t_mark t_silver t_fresh t_texts t_tape t_tapeCount t_z t_waiting t_waitingCount e_weight e_known e_hour e_swS e_swW e_waS e_spoons e_kind e_mark e_silver e_fresh e_texts e_tape e_tapeCount e_z e_waiting e_waitingCount L tx tst (-1000000001 : Int32) r_18 errors_19 hf_20) (cwV 1 hts gX11_become_X11_refused rfl rfl rfl (by decide +kernel) ⟨Nat.le_of_ble_eq_true rfl, Nat.le_of_ble_eq_true rfl⟩) (pvV hE hK hS sb (va_recv hK hP (ci := 11) (q0 := 0) rfl rfl)) rfl rfl hv.1 rfl (lv_room (Nat.le_of_ble_eq_true rfl)) dX11_become_21 ⟨Nat.le_of_ble_eq_true rfl, Nat.le_of_ble_eq_true rfl⟩) hS sb (Jn.same sb) (fun H locs hP hD hS => ?_)
      have hP : va_P D vwCl (wX cA xd vd sd nd hd td ed kd images errors_19 fewest vspoon vmark vcount vbodies sbits slens snum h_weight h_known h_hour h_swS h_swW h_waS h_spoons h_kind h_mark h_silver h_fresh h_texts h_tape h_tapeCount h_z h_waiting h_waitingCount t_weight t_known t_hour t_swS t_swW t_waS t_spoons t_kind t_mark t_silver t_fresh t_texts t_tape t_tapeCount t_z t_waiting t_waitingCount e_weight e_known e_hour e_swS e_swW e_waS e_spoons e_kind e_mark e_silver e_fresh e_texts e_tape e_tapeCount e_z e_waiting e_waitingCount L tx tst) H := hP
      have hD : va_D A (wX cA xd vd sd nd hd td ed kd images errors_19 fewest vspoon vmark vcount vbodies sbits slens snum h_weight h_known h_hour h_swS h_swW h_waS h_spoons h_kind h_mark h_silver h_fresh h_texts h_tape h_tapeCount h_z h_waiting h_waitingCount t_weight t_known t_hour t_swS t_swW t_waS t_spoons t_kind t_mark t_silver t_fresh t_texts t_tape t_tapeCount t_z t_waiting t_waitingCount e_weight e_known e_hour e_swS e_swW e_waS e_spoons e_kind e_mark e_silver e_fresh e_texts e_tape e_tapeCount e_z e_waiting e_waitingCount L tx tst) := hD
      have h := Option.some.inj h
      have ee0 : r_18 = rR := congrArg (fun q => q.1) h
      have ee1 : errors_19 = errorsR := congrArg (fun q => q.2.1) h
      have ee2 : h_kind = h_kindR := congrArg (fun q => q.2.2.1) h
      have ee3 : h_mark = h_markR := congrArg (fun q => q.2.2.2) h
      subst ee0
      subst ee1
      subst ee2
      subst ee3
      rw [← hQ]
      exact retI hx hb hr hlk hK hP hD hS dX11_become_24 ⟨Nat.le_of_ble_eq_true rfl, Nat.le_of_ble_eq_true rfl⟩

def fX11_as_38B (v1_38 : Int32) (v2_38 : Int32) (errors_38 : Nat → Int32) (h_spoons : Int32) (h_kind : Nat → Int32) (h_mark : Nat → Int32) (v3_38b : Int32) (v4_38b : Int32) : Option ((Int32 × Int32) ⊕ ((Int32 × Int32) ⊕ (Int32 × (Nat → Int32)))) :=
  (if (7 : Int32) ≤ v4_38b then some (.inr (.inl (v3_38b, v4_38b))) else (if v3_38b < 0 then some (.inr (.inl (v3_38b, v4_38b))) else (if v3_38b = v2_38 then ckI v1_38 8 (some (.inr (.inr ((h_mark (v1_38).toNatClampNeg), errors_38)))) else ckI v3_38b 7 (bnd (abv (v3_38b).toNatClampNeg) fun y_19 => bnd (v4_38b + (1 : Int32)) fun y_20 => some (.inl (y_19, y_20))))))
def fX11_as_38 (v1_38 : Int32) (v2_38 : Int32) (v3_38 : Int32) (v4_38 : Int32) (errors_38 : Nat → Int32) (h_spoons : Int32) (h_kind : Nat → Int32) (h_mark : Nat → Int32) : Option (Int32 × (Nat → Int32)) :=
  bd (lp (fun σ : Int32 × Int32 => fX11_as_38B v1_38 v2_38 errors_38 h_spoons h_kind h_mark (σ.1) (σ.2)) FU (v3_38, v4_38)) fun ρ => match ρ with | .inl (v3_38r, v4_38r) => bd (fX11_refused (-1000000005 : Int32) errors_38) fun (r_12, errors_13) => some (r_12, errors_13) | .inr q => some q
def fX11_as (a : Int32) (b : Int32) (errors : Nat → Int32) (h_spoons : Int32) (h_kind : Nat → Int32) (h_mark : Nat → Int32) : Option (Int32 × (Nat → Int32)) :=
  bd (fX11_isSpoon a h_spoons) fun r_1 => (if r_1 = 0 then bd (fX11_refused (-1000000001 : Int32) errors) fun (r_4, errors_5) => some (r_4, errors_5) else bd (fX11_within b (0 : Int32) (6 : Int32)) fun r_7 => (if r_7 = 0 then bd (fX11_refused (-1000000001 : Int32) errors) fun (r_22, errors_23) => some (r_22, errors_23) else ckI a 8 (bnd (h_kind (a).toNatClampNeg) fun y_11 => fX11_as_38 a b y_11 (0 : Int32) errors h_spoons h_kind h_mark)))
set_option maxHeartbeats 4000000 in
set_option maxRecDepth 100000 in
theorem c_X11_as (l : Launch) (G : Nat → Nat) (D : va_G) (cA : Nat → ClassId) (xd : Nat → Nat) (vd : Nat → Nat) (sd : Nat → Nat) (nd : Nat → Nat) (hd : Nat → Nat) (td : Nat → Nat) (ed : Nat → Nat) (kd : Nat → Nat) (sz : Nat) (images : Int32) (errors : Nat → Int32) (fewest : Nat → Int32) (vspoon : Int32) (vmark : Int32) (vcount : Int32) (vbodies : Nat → Int32) (sbits : Nat → Int32) (slens : Nat → Int32) (snum : Nat → Nat → Int32) (h_weight : Nat → Int32) (h_known : Int32) (h_hour : Int32) (h_swS : Nat → Int32) (h_swW : Nat → Int32) (h_waS : Nat → Int32) (h_spoons : Int32) (h_kind : Nat → Int32) (h_mark : Nat → Int32) (h_silver : Nat → Int32) (h_fresh : Nat → Int64) (h_texts : Nat → Option Nat) (h_tape : Nat → Int32) (h_tapeCount : Int32) (h_z : Int32) (h_waiting : Nat → Int32) (h_waitingCount : Int32) (t_weight : Nat → Int32) (t_known : Int32) (t_hour : Int32) (t_swS : Nat → Int32) (t_swW : Nat → Int32) (t_waS : Nat → Int32) (t_spoons : Int32) (t_kind : Nat → Int32) (t_mark : Nat → Int32) (t_silver : Nat → Int32) (t_fresh : Nat → Int64) (t_texts : Nat → Option Nat) (t_tape : Nat → Int32) (t_tapeCount : Int32) (t_z : Int32) (t_waiting : Nat → Int32) (t_waitingCount : Int32) (e_weight : Nat → Int32) (e_known : Int32) (e_hour : Int32) (e_swS : Nat → Int32) (e_swW : Nat → Int32) (e_waS : Nat → Int32) (e_spoons : Int32) (e_kind : Nat → Int32) (e_mark : Nat → Int32) (e_silver : Nat → Int32) (e_fresh : Nat → Int64) (e_texts : Nat → Option Nat) (e_tape : Nat → Int32) (e_tapeCount : Int32) (e_z : Int32) (e_waiting : Nat → Int32) (e_waitingCount : Int32) (L : List Nat) (tx : Nat → TXc) (tst : Nat → Nat → Int32) (a : Int32) (b : Int32) (rR : Int32) (errorsR : Nat → Int32) (h : fX11_as a b errors h_spoons h_kind h_mark = some (rR, errorsR)) : Met l yX11_as wsX11_as ({ frames := 2, cells := 0, slots := 0, locals := 43 } : Room) (PW G D (tyC cA) sz (wX cA xd vd sd nd hd td ed kd images errors fewest vspoon vmark vcount vbodies sbits slens snum h_weight h_known h_hour h_swS h_swW h_waS h_spoons h_kind h_mark h_silver h_fresh h_texts h_tape h_tapeCount h_z h_waiting h_waitingCount t_weight t_known t_hour t_swS t_swW t_waS t_spoons t_kind t_mark t_silver t_fresh t_texts t_tape t_tapeCount t_z t_waiting t_waitingCount e_weight e_known e_hour e_swS e_swW e_waS e_spoons e_kind e_mark e_silver e_fresh e_texts e_tape e_tapeCount e_z e_waiting e_waitingCount L tx tst) [.ref (xd 0), .int a, .int b]) (QI D (tyC cA) (va_A (wX cA xd vd sd nd hd td ed kd images errors fewest vspoon vmark vcount vbodies sbits slens snum h_weight h_known h_hour h_swS h_swW h_waS h_spoons h_kind h_mark h_silver h_fresh h_texts h_tape h_tapeCount h_z h_waiting h_waitingCount t_weight t_known t_hour t_swS t_swW t_waS t_spoons t_kind t_mark t_silver t_fresh t_texts t_tape t_tapeCount t_z t_waiting t_waitingCount e_weight e_known e_hour e_swS e_swW e_waS e_spoons e_kind e_mark e_silver e_fresh e_texts e_tape e_tapeCount e_z e_waiting e_waitingCount L tx tst) sz) rR (wX cA xd vd sd nd hd td ed kd images errorsR fewest vspoon vmark vcount vbodies sbits slens snum h_weight h_known h_hour h_swS h_swW h_waS h_spoons h_kind h_mark h_silver h_fresh h_texts h_tape h_tapeCount h_z h_waiting h_waitingCount t_weight t_known t_hour t_swS t_swW t_waS t_spoons t_kind t_mark t_silver t_fresh t_texts t_tape t_tapeCount t_z t_waiting t_waitingCount e_weight e_known e_hour e_swS e_swW e_waS e_spoons e_kind e_mark e_silver e_fresh e_texts e_tape e_tapeCount e_z e_waiting e_waitingCount L tx tst)) 0 0 (va_A (wX cA xd vd sd nd hd td ed kd images errors fewest vspoon vmark vcount vbodies sbits slens snum h_weight h_known h_hour h_swS h_swW h_waS h_spoons h_kind h_mark h_silver h_fresh h_texts h_tape h_tapeCount h_z h_waiting h_waitingCount t_weight t_known t_hour t_swS t_swW t_waS t_spoons t_kind t_mark t_silver t_fresh t_texts t_tape t_tapeCount t_z t_waiting t_waitingCount e_weight e_known e_hour e_swS e_swW e_waS e_spoons e_kind e_mark e_silver e_fresh e_texts e_tape e_tapeCount e_z e_waiting e_waitingCount L tx tst) sz) := by
  refine ent (cc := cX11_as) (maxL := 5) (ret := (some .int)) (fun A => QI D (tyC cA) A rR (wX cA xd vd sd nd hd td ed kd images errorsR fewest vspoon vmark vcount vbodies sbits slens snum h_weight h_known h_hour h_swS h_swW h_waS h_spoons h_kind h_mark h_silver h_fresh h_texts h_tape h_tapeCount h_z h_waiting h_waitingCount t_weight t_known t_hour t_swS t_swW t_waS t_spoons t_kind t_mark t_silver t_fresh t_texts t_tape t_tapeCount t_z t_waiting t_waitingCount e_weight e_known e_hour e_swS e_swW e_waS e_spoons e_kind e_mark e_silver e_fresh e_texts e_tape e_tapeCount e_z e_waiting e_waitingCount L tx tst)) (by decide +kernel) rfl (Nat.le_of_ble_eq_true rfl) ?_
  intro p e s m args below meth c A ls H hx hb hml hr hlk hts hown hA hK hE hP hD hS hv hmm
  have hv : lv_has ls 5 [(0, .ref (xd 0)), (1, .int a), (2, .int b)] := hv
  have in_3 : ∀ w ∈ u_ws RX3 TX3 18, w ∈ wsX11_as := fun _ h => List.mem_cons_of_mem _ (List.mem_append_right _ h)
  have in_11 : ∀ w ∈ u_ws RX11 TX11 9, w ∈ wsX11_as := fun _ h => List.mem_cons_of_mem _ (List.mem_append_left _ (List.mem_append_right _ h))
  have w_0 := hts (.constant RX11 78 (-1000000001)) (List.mem_of_getElem? (i := 1) rfl)
  have w_1 := hts (.fieldLink RX11 39 "SpoonsLast" "house" "LSpoonsLast$House;") (List.mem_of_getElem? (i := 2) rfl)
  have w_2 := hts (.fieldLink RX11 115 "SpoonsLast$House" "kind" "[I") (List.mem_of_getElem? (i := 3) rfl)
  have w_3 := hts (.constant RX11 148 (-1000000005)) (List.mem_of_getElem? (i := 6) rfl)
  have w_4 := hts (.fieldLink RX11 145 "SpoonsLast" "ABOVE" "[I") (List.mem_of_getElem? (i := 5) rfl)
  have w_5 := hts (.fieldLink RX11 118 "SpoonsLast$House" "mark" "[I") (List.mem_of_getElem? (i := 4) rfl)
  generalize hQ : MQ below _ args s 0 0 A = Q
  have C_38 : ∀ (v1_38 : Int32) (v2_38 : Int32) (v3_38 : Int32) (v4_38 : Int32) (errors_38 : Nat → Int32), fX11_as_38 v1_38 v2_38 v3_38 v4_38 errors_38 h_spoons h_kind h_mark = some (rR, errorsR) → WW p l e ({ frames := 2, cells := 0, slots := 0, locals := 43 } : Room) s m args below meth c D A 0 0 Q (wX cA xd vd sd nd hd td ed kd images errors_38 fewest vspoon vmark vcount vbodies sbits slens snum h_weight h_known h_hour h_swS h_swW h_waS h_spoons h_kind h_mark h_silver h_fresh h_texts h_tape h_tapeCount h_z h_waiting h_waitingCount t_weight t_known t_hour t_swS t_swW t_waS t_spoons t_kind t_mark t_silver t_fresh t_texts t_tape t_tapeCount t_z t_waiting t_waitingCount e_weight e_known e_hour e_swS e_swW e_waS e_spoons e_kind e_mark e_silver e_fresh e_texts e_tape e_tapeCount e_z e_waiting e_waitingCount L tx tst) 5 [(0, .ref (xd 0)), (1, .int v1_38), (2, .int v2_38), (3, .int v3_38), (4, .int v4_38)] 38 [] := by
    intro v1_38 v2_38 v3_38 v4_38 errors_38 h
    unfold fX11_as_38 at h
    obtain ⟨ρ, ho, h⟩ := bd_ex h
    have LR : ∀ q, ρ = .inr q → q = (rR, errorsR) := by intro q e; subst e; exact Option.some.inj h
    have LE : ∀ (v3_38r : Int32) (v4_38r : Int32), ρ = .inl (v3_38r, v4_38r) → WW p l e ({ frames := 2, cells := 0, slots := 0, locals := 43 } : Room) s m args below meth c D A 0 0 Q (wX cA xd vd sd nd hd td ed kd images errors_38 fewest vspoon vmark vcount vbodies sbits slens snum h_weight h_known h_hour h_swS h_swW h_waS h_spoons h_kind h_mark h_silver h_fresh h_texts h_tape h_tapeCount h_z h_waiting h_waitingCount t_weight t_known t_hour t_swS t_swW t_waS t_spoons t_kind t_mark t_silver t_fresh t_texts t_tape t_tapeCount t_z t_waiting t_waitingCount e_weight e_known e_hour e_swS e_swW e_waS e_spoons e_kind e_mark e_silver e_fresh e_texts e_tape e_tapeCount e_z e_waiting e_waitingCount L tx tst) 5 [(0, .ref (xd 0))] 76 [] := by
      intro v3_38r v4_38r e
      subst e
      intro H locs ls hP hD hS hv
      refine lv_aload_n hx hb dX11_as_76 rfl (lv_at hv 0 rfl) ?_
      refine lv_ldc (v := (-1000000005 : Int32)) hx hb hown w_3 dX11_as_77 ?_
      obtain ⟨⟨r_12, errors_13⟩, hf_14, h⟩ := bd_ex h
      have sb := Sb.same hP hD hS hA
      refine calI (va_runV (As := [.int (-1000000005 : Int32)]) (rest := []) ⟨hx, hb, hml, hown, hts⟩ (c_X11_refused l G D cA xd vd sd nd hd td ed kd _ images errors_38 fewest vspoon vmark vcount vbodies sbits slens snum h_weight h_known h_hour h_swS h_swW h_waS h_spoons h_kind h_mark h_silver h_fresh h_texts h_tape h_tapeCount h_z h_waiting h_waitingCount t_weight t_known t_hour t_swS t_swW t_waS t_spoons t_kind t_mark t_silver t_fresh t_texts t_tape t_tapeCount t_z t_waiting t_waitingCount e_weight e_known e_hour e_swS e_swW e_waS e_spoons e_kind e_mark e_silver e_fresh e_texts e_tape e_tapeCount e_z e_waiting e_waitingCount L tx tst (-1000000005 : Int32) r_12 errors_13 hf_14) (cwV 1 hts gX11_as_X11_refused rfl rfl rfl (by decide +kernel) ⟨Nat.le_of_ble_eq_true rfl, Nat.le_of_ble_eq_true rfl⟩) (pvV hE hK hS sb (va_recv hK hP (ci := 11) (q0 := 0) rfl rfl)) rfl rfl hv.1 rfl (lv_room (Nat.le_of_ble_eq_true rfl)) dX11_as_79 ⟨Nat.le_of_ble_eq_true rfl, Nat.le_of_ble_eq_true rfl⟩) hS sb (Jn.same sb) (fun H locs hP hD hS => ?_)
      have hP : va_P D vwCl (wX cA xd vd sd nd hd td ed kd images errors_13 fewest vspoon vmark vcount vbodies sbits slens snum h_weight h_known h_hour h_swS h_swW h_waS h_spoons h_kind h_mark h_silver h_fresh h_texts h_tape h_tapeCount h_z h_waiting h_waitingCount t_weight t_known t_hour t_swS t_swW t_waS t_spoons t_kind t_mark t_silver t_fresh t_texts t_tape t_tapeCount t_z t_waiting t_waitingCount e_weight e_known e_hour e_swS e_swW e_waS e_spoons e_kind e_mark e_silver e_fresh e_texts e_tape e_tapeCount e_z e_waiting e_waitingCount L tx tst) H := hP
      have hD : va_D A (wX cA xd vd sd nd hd td ed kd images errors_13 fewest vspoon vmark vcount vbodies sbits slens snum h_weight h_known h_hour h_swS h_swW h_waS h_spoons h_kind h_mark h_silver h_fresh h_texts h_tape h_tapeCount h_z h_waiting h_waitingCount t_weight t_known t_hour t_swS t_swW t_waS t_spoons t_kind t_mark t_silver t_fresh t_texts t_tape t_tapeCount t_z t_waiting t_waitingCount e_weight e_known e_hour e_swS e_swW e_waS e_spoons e_kind e_mark e_silver e_fresh e_texts e_tape e_tapeCount e_z e_waiting e_waitingCount L tx tst) := hD
      have h := Option.some.inj h
      have ee0 : r_12 = rR := congrArg (fun q => q.1) h
      have ee1 : errors_13 = errorsR := congrArg (fun q => q.2) h
      subst ee0
      subst ee1
      rw [← hQ]
      exact retI hx hb hr hlk hK hP hD hS dX11_as_82 ⟨Nat.le_of_ble_eq_true rfl, Nat.le_of_ble_eq_true rfl⟩
    have LB : ∀ (nf : Nat) (v3_38b : Int32) (v4_38b : Int32), lp (fun σ : Int32 × Int32 => fX11_as_38B v1_38 v2_38 errors_38 h_spoons h_kind h_mark (σ.1) (σ.2)) nf (v3_38b, v4_38b) = some ρ → WW p l e ({ frames := 2, cells := 0, slots := 0, locals := 43 } : Room) s m args below meth c D A 0 0 Q (wX cA xd vd sd nd hd td ed kd images errors_38 fewest vspoon vmark vcount vbodies sbits slens snum h_weight h_known h_hour h_swS h_swW h_waS h_spoons h_kind h_mark h_silver h_fresh h_texts h_tape h_tapeCount h_z h_waiting h_waitingCount t_weight t_known t_hour t_swS t_swW t_waS t_spoons t_kind t_mark t_silver t_fresh t_texts t_tape t_tapeCount t_z t_waiting t_waitingCount e_weight e_known e_hour e_swS e_swW e_waS e_spoons e_kind e_mark e_silver e_fresh e_texts e_tape e_tapeCount e_z e_waiting e_waitingCount L tx tst) 5 [(0, .ref (xd 0)), (1, .int v1_38), (2, .int v2_38), (3, .int v3_38b), (4, .int v4_38b)] 38 [] := by
      intro nf
      induction nf with
      | zero => intro v3_38b v4_38b hl; cases hl
      | succ nf ih =>
        intro v3_38b v4_38b hl
        obtain ⟨x, h, hl⟩ := lp_ex hl
        have h : fX11_as_38B v1_38 v2_38 errors_38 h_spoons h_kind h_mark v3_38b v4_38b = some x := h
        unfold fX11_as_38B at h
        intro H locs ls hP hD hS hv
        refine lv_iload hx hb dX11_as_38 (lv_at hv 4 rfl) ?_
        refine lv_bipush (v := (7 : Int32)) hx hb dX11_as_40 (by decide) ?_
        refine lv_icmp_ge (tgt := 76) hx hb dX11_as_42 (by decide) (fun c_15 => ?_) (fun c_15 => ?_)
        · have h := ite_t c_15 h
          cases h
          have hl : some (Sum.inl (v3_38b, v4_38b)) = some ρ := hl
          cases hl
          exact LE _ _ rfl _ _ _ hP hD hS (lv_sub hv [0] rfl)
        · have h := ite_f c_15 h
          refine lv_iload_n hx hb dX11_as_45 rfl (lv_at hv 3 rfl) ?_
          refine lv_if_lt (tgt := 76) hx hb dX11_as_46 (by decide) (fun c_16 => ?_) (fun c_16 => ?_)
          · have h := ite_t c_16 h
            cases h
            have hl : some (Sum.inl (v3_38b, v4_38b)) = some ρ := hl
            cases hl
            exact LE _ _ rfl _ _ _ hP hD hS (lv_sub hv [0] rfl)
          · have h := ite_f c_16 h
            refine lv_iload_n hx hb dX11_as_49 rfl (lv_at hv 3 rfl) ?_
            refine lv_iload_n hx hb dX11_as_50 rfl (lv_at hv 2 rfl) ?_
            refine lv_icmp_ne (tgt := 64) hx hb dX11_as_51 (by decide) (fun c_17 => ?_) (fun c_17 => ?_)
            · have h := ite_f c_17 h
              refine va_gets hx hb hE.2.2.2.1 hS hown w_4 (fun _ h9 => h9) dX11_as_64 ?_
              refine lv_iload_n hx hb dX11_as_67 rfl (lv_at hv 3 rfl) ?_
              obtain ⟨c_18, h⟩ := ckI_ex h
              refine va_ti (v := .int (abv (v3_38b).toNatClampNeg)) hx hb hE.2.2.2.2.1 hS c_18 rfl dX11_as_68 ?_
              obtain ⟨y_19, ey_19, h⟩ := bnd_ex h
              refine lv_nm ey_19 ?_
              refine lv_istore_n (lv' := [(3, .int y_19), (0, .ref (xd 0)), (1, .int v1_38), (2, .int v2_38), (4, .int v4_38b)]) hx hb dX11_as_69 rfl hv (by decide) rfl (fun ls hv => ?_)
              obtain ⟨y_20, ey_20, h⟩ := bnd_ex h
              refine lv_iinc (v := y_20) (lv' := [(4, .int y_20), (3, .int y_19), (0, .ref (xd 0)), (1, .int v1_38), (2, .int v2_38)]) hx hb dX11_as_70 hv (k := 4) rfl (by rw [ey_20]; rfl) (by decide) rfl (fun ls hv => ?_)
              refine lv_goto (tgt := 38) hx hb dX11_as_73 (by decide) ?_
              cases h
              exact ih y_19 y_20 hl _ _ _ hP hD hS (lv_sub hv [2, 3, 4, 1, 0] rfl)
            · have h := ite_t c_17 h
              refine lv_aload_n hx hb dX11_as_54 rfl (lv_at hv 0 rfl) ?_
              refine va_get (D := D) (ci := 11) (v := .ref (hd 0)) (C := RX11) (T := TX11) (N := 9) hx hb hts in_11 hown hK hP 0 rfl rfl 0 (by decide) w_1 (fun _ h9 => h9) rfl dX11_as_55 ?_
              refine va_get (D := D) (ci := 3) (v := .ref (hd 10)) (C := RX3) (T := TX3) (N := 18) hx hb hts in_3 hown hK hP 14 rfl rfl 9 (by decide) w_5 (fun _ h9 => h9) rfl dX11_as_58 ?_
              refine lv_iload_n hx hb dX11_as_61 rfl (lv_at hv 1 rfl) ?_
              obtain ⟨c_21, h⟩ := ckI_ex h
              refine va_iald (D := D) hx hb hK hP 20 0 rfl rfl c_21 dX11_as_62 ?_
              cases h
              have hl : some (Sum.inr ((h_mark (v1_38).toNatClampNeg), errors_38)) = some ρ := hl
              cases hl
              have h := LR _ rfl
              have ee0 : (h_mark (v1_38).toNatClampNeg) = rR := congrArg (fun q => q.1) h
              have ee1 : errors_38 = errorsR := congrArg (fun q => q.2) h
              subst ee0
              subst ee1
              rw [← hQ]
              exact retI hx hb hr hlk hK hP hD hS dX11_as_63 ⟨Nat.le_of_ble_eq_true rfl, Nat.le_of_ble_eq_true rfl⟩
    exact LB FU v3_38 v4_38 ho
  have hP : va_P D vwCl (wX cA xd vd sd nd hd td ed kd images errors fewest vspoon vmark vcount vbodies sbits slens snum h_weight h_known h_hour h_swS h_swW h_waS h_spoons h_kind h_mark h_silver h_fresh h_texts h_tape h_tapeCount h_z h_waiting h_waitingCount t_weight t_known t_hour t_swS t_swW t_waS t_spoons t_kind t_mark t_silver t_fresh t_texts t_tape t_tapeCount t_z t_waiting t_waitingCount e_weight e_known e_hour e_swS e_swW e_waS e_spoons e_kind e_mark e_silver e_fresh e_texts e_tape e_tapeCount e_z e_waiting e_waitingCount L tx tst) H := hP
  unfold fX11_as at h
  refine lv_aload_n hx hb dX11_as_0 rfl (lv_at hv 0 rfl) ?_
  refine lv_iload_n hx hb dX11_as_1 rfl (lv_at hv 1 rfl) ?_
  obtain ⟨r_1, hf_2, h⟩ := bd_ex h
  have sb := Sb.same hP hD hS hA
  refine calI (va_runV (As := [.int a]) (rest := []) ⟨hx, hb, hml, hown, hts⟩ (c_X11_isSpoon l G D cA xd vd sd nd hd td ed kd _ images errors fewest vspoon vmark vcount vbodies sbits slens snum h_weight h_known h_hour h_swS h_swW h_waS h_spoons h_kind h_mark h_silver h_fresh h_texts h_tape h_tapeCount h_z h_waiting h_waitingCount t_weight t_known t_hour t_swS t_swW t_waS t_spoons t_kind t_mark t_silver t_fresh t_texts t_tape t_tapeCount t_z t_waiting t_waitingCount e_weight e_known e_hour e_swS e_swW e_waS e_spoons e_kind e_mark e_silver e_fresh e_texts e_tape e_tapeCount e_z e_waiting e_waitingCount L tx tst a r_1 hf_2) (cwV 1 hts gX11_as_X11_isSpoon rfl rfl rfl (by decide +kernel) ⟨Nat.le_of_ble_eq_true rfl, Nat.le_of_ble_eq_true rfl⟩) (pvV hE hK hS sb (va_recv hK hP (ci := 11) (q0 := 0) rfl rfl)) rfl rfl hv.1 rfl (lv_room (Nat.le_of_ble_eq_true rfl)) dX11_as_2 ⟨Nat.le_of_ble_eq_true rfl, Nat.le_of_ble_eq_true rfl⟩) hS sb (Jn.same sb) (fun H locs hP hD hS => ?_)
  have hP : va_P D vwCl (wX cA xd vd sd nd hd td ed kd images errors fewest vspoon vmark vcount vbodies sbits slens snum h_weight h_known h_hour h_swS h_swW h_waS h_spoons h_kind h_mark h_silver h_fresh h_texts h_tape h_tapeCount h_z h_waiting h_waitingCount t_weight t_known t_hour t_swS t_swW t_waS t_spoons t_kind t_mark t_silver t_fresh t_texts t_tape t_tapeCount t_z t_waiting t_waitingCount e_weight e_known e_hour e_swS e_swW e_waS e_spoons e_kind e_mark e_silver e_fresh e_texts e_tape e_tapeCount e_z e_waiting e_waitingCount L tx tst) H := hP
  have hD : va_D A (wX cA xd vd sd nd hd td ed kd images errors fewest vspoon vmark vcount vbodies sbits slens snum h_weight h_known h_hour h_swS h_swW h_waS h_spoons h_kind h_mark h_silver h_fresh h_texts h_tape h_tapeCount h_z h_waiting h_waitingCount t_weight t_known t_hour t_swS t_swW t_waS t_spoons t_kind t_mark t_silver t_fresh t_texts t_tape t_tapeCount t_z t_waiting t_waitingCount e_weight e_known e_hour e_swS e_swW e_waS e_spoons e_kind e_mark e_silver e_fresh e_texts e_tape e_tapeCount e_z e_waiting e_waitingCount L tx tst) := hD
  refine lv_if_eq (tgt := 18) hx hb dX11_as_5 (by decide) (fun c_3 => ?_) (fun c_3 => ?_)
  · have h := ite_t c_3 h
    refine lv_aload_n hx hb dX11_as_18 rfl (lv_at hv 0 rfl) ?_
    refine lv_ldc (v := (-1000000001 : Int32)) hx hb hown w_0 dX11_as_19 ?_
    obtain ⟨⟨r_4, errors_5⟩, hf_6, h⟩ := bd_ex h
    have sb := Sb.same hP hD hS hA
    refine calI (va_runV (As := [.int (-1000000001 : Int32)]) (rest := []) ⟨hx, hb, hml, hown, hts⟩ (c_X11_refused l G D cA xd vd sd nd hd td ed kd _ images errors fewest vspoon vmark vcount vbodies sbits slens snum h_weight h_known h_hour h_swS h_swW h_waS h_spoons h_kind h_mark h_silver h_fresh h_texts h_tape h_tapeCount h_z h_waiting h_waitingCount t_weight t_known t_hour t_swS t_swW t_waS t_spoons t_kind t_mark t_silver t_fresh t_texts t_tape t_tapeCount t_z t_waiting t_waitingCount e_weight e_known e_hour e_swS e_swW e_waS e_spoons e_kind e_mark e_silver e_fresh e_texts e_tape e_tapeCount e_z e_waiting e_waitingCount L tx tst (-1000000001 : Int32) r_4 errors_5 hf_6) (cwV 1 hts gX11_as_X11_refused rfl rfl rfl (by decide +kernel) ⟨Nat.le_of_ble_eq_true rfl, Nat.le_of_ble_eq_true rfl⟩) (pvV hE hK hS sb (va_recv hK hP (ci := 11) (q0 := 0) rfl rfl)) rfl rfl hv.1 rfl (lv_room (Nat.le_of_ble_eq_true rfl)) dX11_as_21 ⟨Nat.le_of_ble_eq_true rfl, Nat.le_of_ble_eq_true rfl⟩) hS sb (Jn.same sb) (fun H locs hP hD hS => ?_)
    have hP : va_P D vwCl (wX cA xd vd sd nd hd td ed kd images errors_5 fewest vspoon vmark vcount vbodies sbits slens snum h_weight h_known h_hour h_swS h_swW h_waS h_spoons h_kind h_mark h_silver h_fresh h_texts h_tape h_tapeCount h_z h_waiting h_waitingCount t_weight t_known t_hour t_swS t_swW t_waS t_spoons t_kind t_mark t_silver t_fresh t_texts t_tape t_tapeCount t_z t_waiting t_waitingCount e_weight e_known e_hour e_swS e_swW e_waS e_spoons e_kind e_mark e_silver e_fresh e_texts e_tape e_tapeCount e_z e_waiting e_waitingCount L tx tst) H := hP
    have hD : va_D A (wX cA xd vd sd nd hd td ed kd images errors_5 fewest vspoon vmark vcount vbodies sbits slens snum h_weight h_known h_hour h_swS h_swW h_waS h_spoons h_kind h_mark h_silver h_fresh h_texts h_tape h_tapeCount h_z h_waiting h_waitingCount t_weight t_known t_hour t_swS t_swW t_waS t_spoons t_kind t_mark t_silver t_fresh t_texts t_tape t_tapeCount t_z t_waiting t_waitingCount e_weight e_known e_hour e_swS e_swW e_waS e_spoons e_kind e_mark e_silver e_fresh e_texts e_tape e_tapeCount e_z e_waiting e_waitingCount L tx tst) := hD
    have h := Option.some.inj h
    have ee0 : r_4 = rR := congrArg (fun q => q.1) h
    have ee1 : errors_5 = errorsR := congrArg (fun q => q.2) h
    subst ee0
    subst ee1
    rw [← hQ]
    exact retI hx hb hr hlk hK hP hD hS dX11_as_24 ⟨Nat.le_of_ble_eq_true rfl, Nat.le_of_ble_eq_true rfl⟩
  · have h := ite_f c_3 h
    refine lv_iload_n hx hb dX11_as_8 rfl (lv_at hv 2 rfl) ?_
    refine lv_iconst (v := (0 : Int32)) hx hb dX11_as_9 (by decide) ?_
    refine lv_bipush (v := (6 : Int32)) hx hb dX11_as_10 (by decide) ?_
    obtain ⟨r_7, hf_8, h⟩ := bd_ex h
    have sb := Sb.nil hP hD hS hA
    refine calI (va_runS (As := [.int b, .int (0 : Int32), .int (6 : Int32)]) (rest := []) ⟨hx, hb, hml, hown, hts⟩ (c_X11_within l G D cA  _ b (0 : Int32) (6 : Int32) r_7 hf_8) (va_cwS 3 hts gX11_as_X11_within rfl rfl rfl (by decide +kernel) ⟨Nat.le_of_ble_eq_true rfl, Nat.le_of_ble_eq_true rfl⟩) (pvS hE hK hS sb) rfl rfl hv.1 rfl (lv_room (Nat.le_of_ble_eq_true rfl)) dX11_as_12 ⟨Nat.le_of_ble_eq_true rfl, Nat.le_of_ble_eq_true rfl⟩) hS sb (Jn.nil hP hD) (fun H locs hP hD hS => ?_)
    have hP : va_P D vwCl (wX cA xd vd sd nd hd td ed kd images errors fewest vspoon vmark vcount vbodies sbits slens snum h_weight h_known h_hour h_swS h_swW h_waS h_spoons h_kind h_mark h_silver h_fresh h_texts h_tape h_tapeCount h_z h_waiting h_waitingCount t_weight t_known t_hour t_swS t_swW t_waS t_spoons t_kind t_mark t_silver t_fresh t_texts t_tape t_tapeCount t_z t_waiting t_waitingCount e_weight e_known e_hour e_swS e_swW e_waS e_spoons e_kind e_mark e_silver e_fresh e_texts e_tape e_tapeCount e_z e_waiting e_waitingCount L tx tst) H := hP
    have hD : va_D A (wX cA xd vd sd nd hd td ed kd images errors fewest vspoon vmark vcount vbodies sbits slens snum h_weight h_known h_hour h_swS h_swW h_waS h_spoons h_kind h_mark h_silver h_fresh h_texts h_tape h_tapeCount h_z h_waiting h_waitingCount t_weight t_known t_hour t_swS t_swW t_waS t_spoons t_kind t_mark t_silver t_fresh t_texts t_tape t_tapeCount t_z t_waiting t_waitingCount e_weight e_known e_hour e_swS e_swW e_waS e_spoons e_kind e_mark e_silver e_fresh e_texts e_tape e_tapeCount e_z e_waiting e_waitingCount L tx tst) := hD
    refine lv_if_ne (tgt := 25) hx hb dX11_as_15 (by decide) (fun c_9 => ?_) (fun c_9 => ?_)
    · have h := ite_f c_9 h
      refine lv_aload_n hx hb dX11_as_25 rfl (lv_at hv 0 rfl) ?_
      refine va_get (D := D) (ci := 11) (v := .ref (hd 0)) (C := RX11) (T := TX11) (N := 9) hx hb hts in_11 hown hK hP 0 rfl rfl 0 (by decide) w_1 (fun _ h9 => h9) rfl dX11_as_26 ?_
      refine va_get (D := D) (ci := 3) (v := .ref (hd 9)) (C := RX3) (T := TX3) (N := 18) hx hb hts in_3 hown hK hP 14 rfl rfl 8 (by decide) w_2 (fun _ h9 => h9) rfl dX11_as_29 ?_
      refine lv_iload_n hx hb dX11_as_32 rfl (lv_at hv 1 rfl) ?_
      obtain ⟨c_10, h⟩ := ckI_ex h
      refine va_iald (D := D) hx hb hK hP 19 0 rfl rfl c_10 dX11_as_33 ?_
      obtain ⟨y_11, ey_11, h⟩ := bnd_ex h
      refine lv_nm ey_11 ?_
      refine lv_istore_n (lv' := [(3, .int y_11), (0, .ref (xd 0)), (1, .int a), (2, .int b)]) hx hb dX11_as_34 rfl hv (by decide) rfl (fun ls hv => ?_)
      refine lv_iconst (v := (0 : Int32)) hx hb dX11_as_35 (by decide) ?_
      refine lv_istore (lv' := [(4, .int (0 : Int32)), (3, .int y_11), (0, .ref (xd 0)), (1, .int a), (2, .int b)]) hx hb dX11_as_36 hv (by decide) rfl (fun ls hv => ?_)
      exact C_38 a b y_11 (0 : Int32) errors h _ _ _ hP hD hS (lv_sub hv [2, 3, 4, 1, 0] rfl)
    · have h := ite_t c_9 h
      refine lv_aload_n hx hb dX11_as_18 rfl (lv_at hv 0 rfl) ?_
      refine lv_ldc (v := (-1000000001 : Int32)) hx hb hown w_0 dX11_as_19 ?_
      obtain ⟨⟨r_22, errors_23⟩, hf_24, h⟩ := bd_ex h
      have sb := Sb.same hP hD hS hA
      refine calI (va_runV (As := [.int (-1000000001 : Int32)]) (rest := []) ⟨hx, hb, hml, hown, hts⟩ (c_X11_refused l G D cA xd vd sd nd hd td ed kd _ images errors fewest vspoon vmark vcount vbodies sbits slens snum h_weight h_known h_hour h_swS h_swW h_waS h_spoons h_kind h_mark h_silver h_fresh h_texts h_tape h_tapeCount h_z h_waiting h_waitingCount t_weight t_known t_hour t_swS t_swW t_waS t_spoons t_kind t_mark t_silver t_fresh t_texts t_tape t_tapeCount t_z t_waiting t_waitingCount e_weight e_known e_hour e_swS e_swW e_waS e_spoons e_kind e_mark e_silver e_fresh e_texts e_tape e_tapeCount e_z e_waiting e_waitingCount L tx tst (-1000000001 : Int32) r_22 errors_23 hf_24) (cwV 1 hts gX11_as_X11_refused rfl rfl rfl (by decide +kernel) ⟨Nat.le_of_ble_eq_true rfl, Nat.le_of_ble_eq_true rfl⟩) (pvV hE hK hS sb (va_recv hK hP (ci := 11) (q0 := 0) rfl rfl)) rfl rfl hv.1 rfl (lv_room (Nat.le_of_ble_eq_true rfl)) dX11_as_21 ⟨Nat.le_of_ble_eq_true rfl, Nat.le_of_ble_eq_true rfl⟩) hS sb (Jn.same sb) (fun H locs hP hD hS => ?_)
      have hP : va_P D vwCl (wX cA xd vd sd nd hd td ed kd images errors_23 fewest vspoon vmark vcount vbodies sbits slens snum h_weight h_known h_hour h_swS h_swW h_waS h_spoons h_kind h_mark h_silver h_fresh h_texts h_tape h_tapeCount h_z h_waiting h_waitingCount t_weight t_known t_hour t_swS t_swW t_waS t_spoons t_kind t_mark t_silver t_fresh t_texts t_tape t_tapeCount t_z t_waiting t_waitingCount e_weight e_known e_hour e_swS e_swW e_waS e_spoons e_kind e_mark e_silver e_fresh e_texts e_tape e_tapeCount e_z e_waiting e_waitingCount L tx tst) H := hP
      have hD : va_D A (wX cA xd vd sd nd hd td ed kd images errors_23 fewest vspoon vmark vcount vbodies sbits slens snum h_weight h_known h_hour h_swS h_swW h_waS h_spoons h_kind h_mark h_silver h_fresh h_texts h_tape h_tapeCount h_z h_waiting h_waitingCount t_weight t_known t_hour t_swS t_swW t_waS t_spoons t_kind t_mark t_silver t_fresh t_texts t_tape t_tapeCount t_z t_waiting t_waitingCount e_weight e_known e_hour e_swS e_swW e_waS e_spoons e_kind e_mark e_silver e_fresh e_texts e_tape e_tapeCount e_z e_waiting e_waitingCount L tx tst) := hD
      have h := Option.some.inj h
      have ee0 : r_22 = rR := congrArg (fun q => q.1) h
      have ee1 : errors_23 = errorsR := congrArg (fun q => q.2) h
      subst ee0
      subst ee1
      rw [← hQ]
      exact retI hx hb hr hlk hK hP hD hS dX11_as_24 ⟨Nat.le_of_ble_eq_true rfl, Nat.le_of_ble_eq_true rfl⟩

def fX11_feed_41B (v1_41 : Int64) (v3_41 : Int32) (errors_41 : Nat → Int32) (v4_41b : Int32) (h_tape_41b : Nat → Int32) (h_tapeCount_41b : Int32) : Option ((Int32 × (Nat → Int32) × Int32) ⊕ (Int32 × (Nat → Int32) × Int32)) :=
  (if v3_41 ≤ v4_41b then some (.inr (v4_41b, h_tape_41b, h_tapeCount_41b)) else bnd (((lushrJ v1_41 ((8 : Int32) * v4_41b))).toInt32 &&& (255 : Int32)) fun y_6 => ckI h_tapeCount_41b 50 (bnd (upd h_tape_41b (h_tapeCount_41b).toNatClampNeg y_6) fun h_tape_8 => bnd (h_tapeCount_41b + (1 : Int32)) fun y_9 => bnd (v4_41b + (1 : Int32)) fun y_10 => some (.inl (y_10, h_tape_8, y_9))))
def fX11_feed_41 (v1_41 : Int64) (v3_41 : Int32) (v4_41 : Int32) (errors_41 : Nat → Int32) (h_tape_41 : Nat → Int32) (h_tapeCount_41 : Int32) : Option (Int32 × (Nat → Int32) × (Nat → Int32) × Int32) :=
  bd (lp (fun σ : Int32 × (Nat → Int32) × Int32 => fX11_feed_41B v1_41 v3_41 errors_41 (σ.1) (σ.2.1) (σ.2.2)) FU (v4_41, h_tape_41, h_tapeCount_41)) fun ρ => match ρ with | (v4_41r, h_tape_41r, h_tapeCount_41r) => some (h_tapeCount_41r, errors_41, h_tape_41r, h_tapeCount_41r)
def fX11_feed (word : Int64) (n : Int32) (errors : Nat → Int32) (h_tape : Nat → Int32) (h_tapeCount : Int32) : Option (Int32 × (Nat → Int32) × (Nat → Int32) × Int32) :=
  bd (fX11_within n (1 : Int32) (8 : Int32)) fun r_1 => (if r_1 = 0 then bd (fX11_refused (-1000000001 : Int32) errors) fun (r_14, errors_15) => some (r_14, errors_15, h_tape, h_tapeCount) else (if h_tapeCount ≤ ((50 : Int32) - n) then fX11_feed_41 word n (0 : Int32) errors h_tape h_tapeCount else bd (fX11_refused (-1000000004 : Int32) errors) fun (r_11, errors_12) => some (r_11, errors_12, h_tape, h_tapeCount)))
set_option maxHeartbeats 4000000 in
set_option maxRecDepth 100000 in
theorem c_X11_feed (l : Launch) (G : Nat → Nat) (D : va_G) (cA : Nat → ClassId) (xd : Nat → Nat) (vd : Nat → Nat) (sd : Nat → Nat) (nd : Nat → Nat) (hd : Nat → Nat) (td : Nat → Nat) (ed : Nat → Nat) (kd : Nat → Nat) (sz : Nat) (images : Int32) (errors : Nat → Int32) (fewest : Nat → Int32) (vspoon : Int32) (vmark : Int32) (vcount : Int32) (vbodies : Nat → Int32) (sbits : Nat → Int32) (slens : Nat → Int32) (snum : Nat → Nat → Int32) (h_weight : Nat → Int32) (h_known : Int32) (h_hour : Int32) (h_swS : Nat → Int32) (h_swW : Nat → Int32) (h_waS : Nat → Int32) (h_spoons : Int32) (h_kind : Nat → Int32) (h_mark : Nat → Int32) (h_silver : Nat → Int32) (h_fresh : Nat → Int64) (h_texts : Nat → Option Nat) (h_tape : Nat → Int32) (h_tapeCount : Int32) (h_z : Int32) (h_waiting : Nat → Int32) (h_waitingCount : Int32) (t_weight : Nat → Int32) (t_known : Int32) (t_hour : Int32) (t_swS : Nat → Int32) (t_swW : Nat → Int32) (t_waS : Nat → Int32) (t_spoons : Int32) (t_kind : Nat → Int32) (t_mark : Nat → Int32) (t_silver : Nat → Int32) (t_fresh : Nat → Int64) (t_texts : Nat → Option Nat) (t_tape : Nat → Int32) (t_tapeCount : Int32) (t_z : Int32) (t_waiting : Nat → Int32) (t_waitingCount : Int32) (e_weight : Nat → Int32) (e_known : Int32) (e_hour : Int32) (e_swS : Nat → Int32) (e_swW : Nat → Int32) (e_waS : Nat → Int32) (e_spoons : Int32) (e_kind : Nat → Int32) (e_mark : Nat → Int32) (e_silver : Nat → Int32) (e_fresh : Nat → Int64) (e_texts : Nat → Option Nat) (e_tape : Nat → Int32) (e_tapeCount : Int32) (e_z : Int32) (e_waiting : Nat → Int32) (e_waitingCount : Int32) (L : List Nat) (tx : Nat → TXc) (tst : Nat → Nat → Int32) (word : Int64) (n : Int32) (rR : Int32) (errorsR : Nat → Int32) (h_tapeR : Nat → Int32) (h_tapeCountR : Int32) (h : fX11_feed word n errors h_tape h_tapeCount = some (rR, errorsR, h_tapeR, h_tapeCountR)) : Met l yX11_feed wsX11_feed ({ frames := 1, cells := 0, slots := 0, locals := 22 } : Room) (PW G D (tyC cA) sz (wX cA xd vd sd nd hd td ed kd images errors fewest vspoon vmark vcount vbodies sbits slens snum h_weight h_known h_hour h_swS h_swW h_waS h_spoons h_kind h_mark h_silver h_fresh h_texts h_tape h_tapeCount h_z h_waiting h_waitingCount t_weight t_known t_hour t_swS t_swW t_waS t_spoons t_kind t_mark t_silver t_fresh t_texts t_tape t_tapeCount t_z t_waiting t_waitingCount e_weight e_known e_hour e_swS e_swW e_waS e_spoons e_kind e_mark e_silver e_fresh e_texts e_tape e_tapeCount e_z e_waiting e_waitingCount L tx tst) [.ref (xd 0), .long word, .int n]) (QI D (tyC cA) (va_A (wX cA xd vd sd nd hd td ed kd images errors fewest vspoon vmark vcount vbodies sbits slens snum h_weight h_known h_hour h_swS h_swW h_waS h_spoons h_kind h_mark h_silver h_fresh h_texts h_tape h_tapeCount h_z h_waiting h_waitingCount t_weight t_known t_hour t_swS t_swW t_waS t_spoons t_kind t_mark t_silver t_fresh t_texts t_tape t_tapeCount t_z t_waiting t_waitingCount e_weight e_known e_hour e_swS e_swW e_waS e_spoons e_kind e_mark e_silver e_fresh e_texts e_tape e_tapeCount e_z e_waiting e_waitingCount L tx tst) sz) rR (wX cA xd vd sd nd hd td ed kd images errorsR fewest vspoon vmark vcount vbodies sbits slens snum h_weight h_known h_hour h_swS h_swW h_waS h_spoons h_kind h_mark h_silver h_fresh h_texts h_tapeR h_tapeCountR h_z h_waiting h_waitingCount t_weight t_known t_hour t_swS t_swW t_waS t_spoons t_kind t_mark t_silver t_fresh t_texts t_tape t_tapeCount t_z t_waiting t_waitingCount e_weight e_known e_hour e_swS e_swW e_waS e_spoons e_kind e_mark e_silver e_fresh e_texts e_tape e_tapeCount e_z e_waiting e_waitingCount L tx tst)) 0 0 (va_A (wX cA xd vd sd nd hd td ed kd images errors fewest vspoon vmark vcount vbodies sbits slens snum h_weight h_known h_hour h_swS h_swW h_waS h_spoons h_kind h_mark h_silver h_fresh h_texts h_tape h_tapeCount h_z h_waiting h_waitingCount t_weight t_known t_hour t_swS t_swW t_waS t_spoons t_kind t_mark t_silver t_fresh t_texts t_tape t_tapeCount t_z t_waiting t_waitingCount e_weight e_known e_hour e_swS e_swW e_waS e_spoons e_kind e_mark e_silver e_fresh e_texts e_tape e_tapeCount e_z e_waiting e_waitingCount L tx tst) sz) := by
  refine ent (cc := cX11_feed) (maxL := 5) (ret := (some .int)) (fun A => QI D (tyC cA) A rR (wX cA xd vd sd nd hd td ed kd images errorsR fewest vspoon vmark vcount vbodies sbits slens snum h_weight h_known h_hour h_swS h_swW h_waS h_spoons h_kind h_mark h_silver h_fresh h_texts h_tapeR h_tapeCountR h_z h_waiting h_waitingCount t_weight t_known t_hour t_swS t_swW t_waS t_spoons t_kind t_mark t_silver t_fresh t_texts t_tape t_tapeCount t_z t_waiting t_waitingCount e_weight e_known e_hour e_swS e_swW e_waS e_spoons e_kind e_mark e_silver e_fresh e_texts e_tape e_tapeCount e_z e_waiting e_waitingCount L tx tst)) (by decide +kernel) rfl (Nat.le_of_ble_eq_true rfl) ?_
  intro p e s m args below meth c A ls H hx hb hml hr hlk hts hown hA hK hE hP hD hS hv hmm
  have hv : lv_has ls 5 [(0, .ref (xd 0)), (1, .long word), (3, .int n)] := hv
  have in_3 : ∀ w ∈ u_ws RX3 TX3 18, w ∈ wsX11_feed := fun _ h => List.mem_cons_of_mem _ (List.mem_append_right _ h)
  have in_11 : ∀ w ∈ u_ws RX11 TX11 9, w ∈ wsX11_feed := fun _ h => List.mem_cons_of_mem _ (List.mem_append_left _ (List.mem_append_right _ h))
  have w_0 := hts (.fieldLink RX11 39 "SpoonsLast" "house" "LSpoonsLast$House;") (List.mem_of_getElem? (i := 2) rfl)
  have w_1 := hts (.fieldLink RX11 149 "SpoonsLast$House" "tapeCount" "I") (List.mem_of_getElem? (i := 3) rfl)
  have w_2 := hts (.fieldLink RX11 152 "SpoonsLast$House" "tape" "[I") (List.mem_of_getElem? (i := 5) rfl)
  have w_3 := hts (.constant RX11 114 (-1000000004)) (List.mem_of_getElem? (i := 4) rfl)
  have w_4 := hts (.constant RX11 78 (-1000000001)) (List.mem_of_getElem? (i := 1) rfl)
  generalize hQ : MQ below _ args s 0 0 A = Q
  have C_41 : ∀ (v1_41 : Int64) (v3_41 : Int32) (v4_41 : Int32) (errors_41 : Nat → Int32) (h_tape_41 : Nat → Int32) (h_tapeCount_41 : Int32), fX11_feed_41 v1_41 v3_41 v4_41 errors_41 h_tape_41 h_tapeCount_41 = some (rR, errorsR, h_tapeR, h_tapeCountR) → WW p l e ({ frames := 1, cells := 0, slots := 0, locals := 22 } : Room) s m args below meth c D A 0 0 Q (wX cA xd vd sd nd hd td ed kd images errors_41 fewest vspoon vmark vcount vbodies sbits slens snum h_weight h_known h_hour h_swS h_swW h_waS h_spoons h_kind h_mark h_silver h_fresh h_texts h_tape_41 h_tapeCount_41 h_z h_waiting h_waitingCount t_weight t_known t_hour t_swS t_swW t_waS t_spoons t_kind t_mark t_silver t_fresh t_texts t_tape t_tapeCount t_z t_waiting t_waitingCount e_weight e_known e_hour e_swS e_swW e_waS e_spoons e_kind e_mark e_silver e_fresh e_texts e_tape e_tapeCount e_z e_waiting e_waitingCount L tx tst) 5 [(0, .ref (xd 0)), (1, .long v1_41), (3, .int v3_41), (4, .int v4_41)] 41 [] := by
    intro v1_41 v3_41 v4_41 errors_41 h_tape_41 h_tapeCount_41 h
    unfold fX11_feed_41 at h
    obtain ⟨⟨v4_41r, h_tape_41r, h_tapeCount_41r⟩, ho, h⟩ := bd_ex h
    have LE : WW p l e ({ frames := 1, cells := 0, slots := 0, locals := 22 } : Room) s m args below meth c D A 0 0 Q (wX cA xd vd sd nd hd td ed kd images errors_41 fewest vspoon vmark vcount vbodies sbits slens snum h_weight h_known h_hour h_swS h_swW h_waS h_spoons h_kind h_mark h_silver h_fresh h_texts h_tape_41r h_tapeCount_41r h_z h_waiting h_waitingCount t_weight t_known t_hour t_swS t_swW t_waS t_spoons t_kind t_mark t_silver t_fresh t_texts t_tape t_tapeCount t_z t_waiting t_waitingCount e_weight e_known e_hour e_swS e_swW e_waS e_spoons e_kind e_mark e_silver e_fresh e_texts e_tape e_tapeCount e_z e_waiting e_waitingCount L tx tst) 5 [(0, .ref (xd 0))] 93 [] := by
      intro H locs ls hP hD hS hv
      refine lv_aload_n hx hb dX11_feed_93 rfl (lv_at hv 0 rfl) ?_
      refine va_get (D := D) (ci := 11) (v := .ref (hd 0)) (C := RX11) (T := TX11) (N := 9) hx hb hts in_11 hown hK hP 0 rfl rfl 0 (by decide) w_0 (fun _ h9 => h9) rfl dX11_feed_94 ?_
      refine va_get (D := D) (ci := 3) (v := .int h_tapeCount_41r) (C := RX3) (T := TX3) (N := 18) hx hb hts in_3 hown hK hP 14 rfl rfl 14 (by decide) w_1 (fun _ h9 => h9) rfl dX11_feed_97 ?_
      have h := Option.some.inj h
      have ee0 : h_tapeCount_41r = rR := congrArg (fun q => q.1) h
      have ee1 : errors_41 = errorsR := congrArg (fun q => q.2.1) h
      have ee2 : h_tape_41r = h_tapeR := congrArg (fun q => q.2.2.1) h
      have ee3 : h_tapeCount_41r = h_tapeCountR := congrArg (fun q => q.2.2.2) h
      subst ee0
      subst ee1
      subst ee2
      subst ee3
      rw [← hQ]
      exact retI hx hb hr hlk hK hP hD hS dX11_feed_100 ⟨Nat.le_of_ble_eq_true rfl, Nat.le_of_ble_eq_true rfl⟩
    have LB : ∀ (nf : Nat) (v4_41b : Int32) (h_tape_41b : Nat → Int32) (h_tapeCount_41b : Int32), lp (fun σ : Int32 × (Nat → Int32) × Int32 => fX11_feed_41B v1_41 v3_41 errors_41 (σ.1) (σ.2.1) (σ.2.2)) nf (v4_41b, h_tape_41b, h_tapeCount_41b) = some (v4_41r, h_tape_41r, h_tapeCount_41r) → WW p l e ({ frames := 1, cells := 0, slots := 0, locals := 22 } : Room) s m args below meth c D A 0 0 Q (wX cA xd vd sd nd hd td ed kd images errors_41 fewest vspoon vmark vcount vbodies sbits slens snum h_weight h_known h_hour h_swS h_swW h_waS h_spoons h_kind h_mark h_silver h_fresh h_texts h_tape_41b h_tapeCount_41b h_z h_waiting h_waitingCount t_weight t_known t_hour t_swS t_swW t_waS t_spoons t_kind t_mark t_silver t_fresh t_texts t_tape t_tapeCount t_z t_waiting t_waitingCount e_weight e_known e_hour e_swS e_swW e_waS e_spoons e_kind e_mark e_silver e_fresh e_texts e_tape e_tapeCount e_z e_waiting e_waitingCount L tx tst) 5 [(0, .ref (xd 0)), (1, .long v1_41), (3, .int v3_41), (4, .int v4_41b)] 41 [] := by
      intro nf
      induction nf with
      | zero => intro v4_41b h_tape_41b h_tapeCount_41b hl; cases hl
      | succ nf ih =>
        intro v4_41b h_tape_41b h_tapeCount_41b hl
        obtain ⟨x, h, hl⟩ := lp_ex hl
        have h : fX11_feed_41B v1_41 v3_41 errors_41 v4_41b h_tape_41b h_tapeCount_41b = some x := h
        unfold fX11_feed_41B at h
        intro H locs ls hP hD hS hv
        refine lv_iload hx hb dX11_feed_41 (lv_at hv 3 rfl) ?_
        refine lv_iload_n hx hb dX11_feed_43 rfl (lv_at hv 2 rfl) ?_
        refine lv_icmp_ge (tgt := 93) hx hb dX11_feed_44 (by decide) (fun c_5 => ?_) (fun c_5 => ?_)
        · have h := ite_t c_5 h
          cases h
          have hl : some (v4_41b, h_tape_41b, h_tapeCount_41b) = some (v4_41r, h_tape_41r, h_tapeCount_41r) := hl
          have hl := Option.some.inj hl
          have ee0 : v4_41b = v4_41r := congrArg (fun q => q.1) hl
          have ee1 : h_tape_41b = h_tape_41r := congrArg (fun q => q.2.1) hl
          have ee2 : h_tapeCount_41b = h_tapeCount_41r := congrArg (fun q => q.2.2) hl
          subst ee0
          subst ee1
          subst ee2
          exact LE _ _ _ hP hD hS (lv_sub hv [0] rfl)
        · have h := ite_f c_5 h
          refine lv_aload_n hx hb dX11_feed_47 rfl (lv_at hv 0 rfl) ?_
          refine va_get (D := D) (ci := 11) (v := .ref (hd 0)) (C := RX11) (T := TX11) (N := 9) hx hb hts in_11 hown hK hP 0 rfl rfl 0 (by decide) w_0 (fun _ h9 => h9) rfl dX11_feed_48 ?_
          refine va_get (D := D) (ci := 3) (v := .ref (hd 14)) (C := RX3) (T := TX3) (N := 18) hx hb hts in_3 hown hK hP 14 rfl rfl 13 (by decide) w_2 (fun _ h9 => h9) rfl dX11_feed_51 ?_
          refine lv_aload_n hx hb dX11_feed_54 rfl (lv_at hv 0 rfl) ?_
          refine va_get (D := D) (ci := 11) (v := .ref (hd 0)) (C := RX11) (T := TX11) (N := 9) hx hb hts in_11 hown hK hP 0 rfl rfl 0 (by decide) w_0 (fun _ h9 => h9) rfl dX11_feed_55 ?_
          refine va_get (D := D) (ci := 3) (v := .int h_tapeCount_41b) (C := RX3) (T := TX3) (N := 18) hx hb hts in_3 hown hK hP 14 rfl rfl 14 (by decide) w_1 (fun _ h9 => h9) rfl dX11_feed_58 ?_
          refine lv_lload_n hx hb dX11_feed_61 rfl (lv_at hv 1 rfl) ?_
          refine lv_bipush (v := (8 : Int32)) hx hb dX11_feed_62 (by decide) ?_
          refine lv_iload hx hb dX11_feed_64 (lv_at hv 3 rfl) ?_
          refine lv_imul hx hb dX11_feed_66 ?_
          refine lv_lushr (v := (lushrJ v1_41 ((8 : Int32) * v4_41b))) hx hb dX11_feed_67 rfl ?_
          refine lv_l2i (v := ((lushrJ v1_41 ((8 : Int32) * v4_41b))).toInt32) hx hb dX11_feed_68 rfl ?_
          refine lv_sipush (v := (255 : Int32)) hx hb dX11_feed_69 (by decide) ?_
          refine lv_iand hx hb dX11_feed_72 ?_
          obtain ⟨y_6, ey_6, h⟩ := bnd_ex h
          refine lv_nm ey_6 ?_
          obtain ⟨c_7, h⟩ := ckI_ex h
          obtain ⟨h_tape_8, eh_tape_8, h⟩ := bnd_ex h
          refine va_iast (D := D) hx hb hK hP hD hS 24 0 rfl rfl c_7 dX11_feed_73 (fun H locs hP hD hS => ?_)
          rw [← eh_tape_8] at hP hD
          have hP : va_P D vwCl (wX cA xd vd sd nd hd td ed kd images errors_41 fewest vspoon vmark vcount vbodies sbits slens snum h_weight h_known h_hour h_swS h_swW h_waS h_spoons h_kind h_mark h_silver h_fresh h_texts h_tape_8 h_tapeCount_41b h_z h_waiting h_waitingCount t_weight t_known t_hour t_swS t_swW t_waS t_spoons t_kind t_mark t_silver t_fresh t_texts t_tape t_tapeCount t_z t_waiting t_waitingCount e_weight e_known e_hour e_swS e_swW e_waS e_spoons e_kind e_mark e_silver e_fresh e_texts e_tape e_tapeCount e_z e_waiting e_waitingCount L tx tst) H := hP
          have hD : va_D A (wX cA xd vd sd nd hd td ed kd images errors_41 fewest vspoon vmark vcount vbodies sbits slens snum h_weight h_known h_hour h_swS h_swW h_waS h_spoons h_kind h_mark h_silver h_fresh h_texts h_tape_8 h_tapeCount_41b h_z h_waiting h_waitingCount t_weight t_known t_hour t_swS t_swW t_waS t_spoons t_kind t_mark t_silver t_fresh t_texts t_tape t_tapeCount t_z t_waiting t_waitingCount e_weight e_known e_hour e_swS e_swW e_waS e_spoons e_kind e_mark e_silver e_fresh e_texts e_tape e_tapeCount e_z e_waiting e_waitingCount L tx tst) := hD
          refine lv_aload_n hx hb dX11_feed_74 rfl (lv_at hv 0 rfl) ?_
          refine va_get (D := D) (ci := 11) (v := .ref (hd 0)) (C := RX11) (T := TX11) (N := 9) hx hb hts in_11 hown hK hP 0 rfl rfl 0 (by decide) w_0 (fun _ h9 => h9) rfl dX11_feed_75 ?_
          refine lv_dup hx hb dX11_feed_78 rfl ?_
          refine va_get (D := D) (ci := 3) (v := .int h_tapeCount_41b) (C := RX3) (T := TX3) (N := 18) hx hb hts in_3 hown hK hP 14 rfl rfl 14 (by decide) w_1 (fun _ h9 => h9) rfl dX11_feed_79 ?_
          refine lv_iconst (v := (1 : Int32)) hx hb dX11_feed_82 (by decide) ?_
          refine lv_iadd hx hb dX11_feed_83 ?_
          obtain ⟨y_9, ey_9, h⟩ := bnd_ex h
          refine lv_nm ey_9 ?_
          refine va_put (D := D) (ci := 3) (v := .int y_9) (ty := .int) (C := RX3) (T := TX3) (N := 18) hx hb hts in_3 tyX3 tyX3_ok nmX3 hown hK hP hD hS 14 rfl rfl 14 (by decide) w_1 (fun _ h9 => h9) rfl (by decide +kernel) rfl rfl (Nat.le_of_ble_eq_true rfl) dX11_feed_84 (fun H locs hP hD hS => ?_)
          have hP : va_P D vwCl (wX cA xd vd sd nd hd td ed kd images errors_41 fewest vspoon vmark vcount vbodies sbits slens snum h_weight h_known h_hour h_swS h_swW h_waS h_spoons h_kind h_mark h_silver h_fresh h_texts h_tape_8 y_9 h_z h_waiting h_waitingCount t_weight t_known t_hour t_swS t_swW t_waS t_spoons t_kind t_mark t_silver t_fresh t_texts t_tape t_tapeCount t_z t_waiting t_waitingCount e_weight e_known e_hour e_swS e_swW e_waS e_spoons e_kind e_mark e_silver e_fresh e_texts e_tape e_tapeCount e_z e_waiting e_waitingCount L tx tst) H := hP
          have hD : va_D A (wX cA xd vd sd nd hd td ed kd images errors_41 fewest vspoon vmark vcount vbodies sbits slens snum h_weight h_known h_hour h_swS h_swW h_waS h_spoons h_kind h_mark h_silver h_fresh h_texts h_tape_8 y_9 h_z h_waiting h_waitingCount t_weight t_known t_hour t_swS t_swW t_waS t_spoons t_kind t_mark t_silver t_fresh t_texts t_tape t_tapeCount t_z t_waiting t_waitingCount e_weight e_known e_hour e_swS e_swW e_waS e_spoons e_kind e_mark e_silver e_fresh e_texts e_tape e_tapeCount e_z e_waiting e_waitingCount L tx tst) := hD
          obtain ⟨y_10, ey_10, h⟩ := bnd_ex h
          refine lv_iinc (v := y_10) (lv' := [(4, .int y_10), (0, .ref (xd 0)), (1, .long v1_41), (3, .int v3_41)]) hx hb dX11_feed_87 hv (k := 3) rfl (by rw [ey_10]; rfl) (by decide) rfl (fun ls hv => ?_)
          refine lv_goto (tgt := 41) hx hb dX11_feed_90 (by decide) ?_
          cases h
          exact ih y_10 h_tape_8 y_9 hl _ _ _ hP hD hS (lv_sub hv [1, 2, 3, 0] rfl)
    exact LB FU v4_41 h_tape_41 h_tapeCount_41 ho
  have hP : va_P D vwCl (wX cA xd vd sd nd hd td ed kd images errors fewest vspoon vmark vcount vbodies sbits slens snum h_weight h_known h_hour h_swS h_swW h_waS h_spoons h_kind h_mark h_silver h_fresh h_texts h_tape h_tapeCount h_z h_waiting h_waitingCount t_weight t_known t_hour t_swS t_swW t_waS t_spoons t_kind t_mark t_silver t_fresh t_texts t_tape t_tapeCount t_z t_waiting t_waitingCount e_weight e_known e_hour e_swS e_swW e_waS e_spoons e_kind e_mark e_silver e_fresh e_texts e_tape e_tapeCount e_z e_waiting e_waitingCount L tx tst) H := hP
  unfold fX11_feed at h
  refine lv_iload_n hx hb dX11_feed_0 rfl (lv_at hv 2 rfl) ?_
  refine lv_iconst (v := (1 : Int32)) hx hb dX11_feed_1 (by decide) ?_
  refine lv_bipush (v := (8 : Int32)) hx hb dX11_feed_2 (by decide) ?_
  obtain ⟨r_1, hf_2, h⟩ := bd_ex h
  have sb := Sb.nil hP hD hS hA
  refine calI (va_runS (As := [.int n, .int (1 : Int32), .int (8 : Int32)]) (rest := []) ⟨hx, hb, hml, hown, hts⟩ (c_X11_within l G D cA  _ n (1 : Int32) (8 : Int32) r_1 hf_2) (va_cwS 3 hts gX11_feed_X11_within rfl rfl rfl (by decide +kernel) ⟨Nat.le_of_ble_eq_true rfl, Nat.le_of_ble_eq_true rfl⟩) (pvS hE hK hS sb) rfl rfl hv.1 rfl (lv_room (Nat.le_of_ble_eq_true rfl)) dX11_feed_4 ⟨Nat.le_of_ble_eq_true rfl, Nat.le_of_ble_eq_true rfl⟩) hS sb (Jn.nil hP hD) (fun H locs hP hD hS => ?_)
  have hP : va_P D vwCl (wX cA xd vd sd nd hd td ed kd images errors fewest vspoon vmark vcount vbodies sbits slens snum h_weight h_known h_hour h_swS h_swW h_waS h_spoons h_kind h_mark h_silver h_fresh h_texts h_tape h_tapeCount h_z h_waiting h_waitingCount t_weight t_known t_hour t_swS t_swW t_waS t_spoons t_kind t_mark t_silver t_fresh t_texts t_tape t_tapeCount t_z t_waiting t_waitingCount e_weight e_known e_hour e_swS e_swW e_waS e_spoons e_kind e_mark e_silver e_fresh e_texts e_tape e_tapeCount e_z e_waiting e_waitingCount L tx tst) H := hP
  have hD : va_D A (wX cA xd vd sd nd hd td ed kd images errors fewest vspoon vmark vcount vbodies sbits slens snum h_weight h_known h_hour h_swS h_swW h_waS h_spoons h_kind h_mark h_silver h_fresh h_texts h_tape h_tapeCount h_z h_waiting h_waitingCount t_weight t_known t_hour t_swS t_swW t_waS t_spoons t_kind t_mark t_silver t_fresh t_texts t_tape t_tapeCount t_z t_waiting t_waitingCount e_weight e_known e_hour e_swS e_swW e_waS e_spoons e_kind e_mark e_silver e_fresh e_texts e_tape e_tapeCount e_z e_waiting e_waitingCount L tx tst) := hD
  refine lv_if_ne (tgt := 17) hx hb dX11_feed_7 (by decide) (fun c_3 => ?_) (fun c_3 => ?_)
  · have h := ite_f c_3 h
    refine lv_aload_n hx hb dX11_feed_17 rfl (lv_at hv 0 rfl) ?_
    refine va_get (D := D) (ci := 11) (v := .ref (hd 0)) (C := RX11) (T := TX11) (N := 9) hx hb hts in_11 hown hK hP 0 rfl rfl 0 (by decide) w_0 (fun _ h9 => h9) rfl dX11_feed_18 ?_
    refine va_get (D := D) (ci := 3) (v := .int h_tapeCount) (C := RX3) (T := TX3) (N := 18) hx hb hts in_3 hown hK hP 14 rfl rfl 14 (by decide) w_1 (fun _ h9 => h9) rfl dX11_feed_21 ?_
    refine lv_bipush (v := (50 : Int32)) hx hb dX11_feed_24 (by decide) ?_
    refine lv_iload_n hx hb dX11_feed_26 rfl (lv_at hv 2 rfl) ?_
    refine lv_isub hx hb dX11_feed_27 ?_
    refine lv_icmp_le (tgt := 38) hx hb dX11_feed_28 (by decide) (fun c_4 => ?_) (fun c_4 => ?_)
    · have h := ite_t c_4 h
      refine lv_iconst (v := (0 : Int32)) hx hb dX11_feed_38 (by decide) ?_
      refine lv_istore (lv' := [(4, .int (0 : Int32)), (0, .ref (xd 0)), (1, .long word), (3, .int n)]) hx hb dX11_feed_39 hv (by decide) rfl (fun ls hv => ?_)
      exact C_41 word n (0 : Int32) errors h_tape h_tapeCount h _ _ _ hP hD hS (lv_sub hv [1, 2, 3, 0] rfl)
    · have h := ite_f c_4 h
      refine lv_aload_n hx hb dX11_feed_31 rfl (lv_at hv 0 rfl) ?_
      refine lv_ldc (v := (-1000000004 : Int32)) hx hb hown w_3 dX11_feed_32 ?_
      obtain ⟨⟨r_11, errors_12⟩, hf_13, h⟩ := bd_ex h
      have sb := Sb.same hP hD hS hA
      refine calI (va_runV (As := [.int (-1000000004 : Int32)]) (rest := []) ⟨hx, hb, hml, hown, hts⟩ (c_X11_refused l G D cA xd vd sd nd hd td ed kd _ images errors fewest vspoon vmark vcount vbodies sbits slens snum h_weight h_known h_hour h_swS h_swW h_waS h_spoons h_kind h_mark h_silver h_fresh h_texts h_tape h_tapeCount h_z h_waiting h_waitingCount t_weight t_known t_hour t_swS t_swW t_waS t_spoons t_kind t_mark t_silver t_fresh t_texts t_tape t_tapeCount t_z t_waiting t_waitingCount e_weight e_known e_hour e_swS e_swW e_waS e_spoons e_kind e_mark e_silver e_fresh e_texts e_tape e_tapeCount e_z e_waiting e_waitingCount L tx tst (-1000000004 : Int32) r_11 errors_12 hf_13) (cwV 1 hts gX11_feed_X11_refused rfl rfl rfl (by decide +kernel) ⟨Nat.le_of_ble_eq_true rfl, Nat.le_of_ble_eq_true rfl⟩) (pvV hE hK hS sb (va_recv hK hP (ci := 11) (q0 := 0) rfl rfl)) rfl rfl hv.1 rfl (lv_room (Nat.le_of_ble_eq_true rfl)) dX11_feed_34 ⟨Nat.le_of_ble_eq_true rfl, Nat.le_of_ble_eq_true rfl⟩) hS sb (Jn.same sb) (fun H locs hP hD hS => ?_)
      have hP : va_P D vwCl (wX cA xd vd sd nd hd td ed kd images errors_12 fewest vspoon vmark vcount vbodies sbits slens snum h_weight h_known h_hour h_swS h_swW h_waS h_spoons h_kind h_mark h_silver h_fresh h_texts h_tape h_tapeCount h_z h_waiting h_waitingCount t_weight t_known t_hour t_swS t_swW t_waS t_spoons t_kind t_mark t_silver t_fresh t_texts t_tape t_tapeCount t_z t_waiting t_waitingCount e_weight e_known e_hour e_swS e_swW e_waS e_spoons e_kind e_mark e_silver e_fresh e_texts e_tape e_tapeCount e_z e_waiting e_waitingCount L tx tst) H := hP
      have hD : va_D A (wX cA xd vd sd nd hd td ed kd images errors_12 fewest vspoon vmark vcount vbodies sbits slens snum h_weight h_known h_hour h_swS h_swW h_waS h_spoons h_kind h_mark h_silver h_fresh h_texts h_tape h_tapeCount h_z h_waiting h_waitingCount t_weight t_known t_hour t_swS t_swW t_waS t_spoons t_kind t_mark t_silver t_fresh t_texts t_tape t_tapeCount t_z t_waiting t_waitingCount e_weight e_known e_hour e_swS e_swW e_waS e_spoons e_kind e_mark e_silver e_fresh e_texts e_tape e_tapeCount e_z e_waiting e_waitingCount L tx tst) := hD
      have h := Option.some.inj h
      have ee0 : r_11 = rR := congrArg (fun q => q.1) h
      have ee1 : errors_12 = errorsR := congrArg (fun q => q.2.1) h
      have ee2 : h_tape = h_tapeR := congrArg (fun q => q.2.2.1) h
      have ee3 : h_tapeCount = h_tapeCountR := congrArg (fun q => q.2.2.2) h
      subst ee0
      subst ee1
      subst ee2
      subst ee3
      rw [← hQ]
      exact retI hx hb hr hlk hK hP hD hS dX11_feed_37 ⟨Nat.le_of_ble_eq_true rfl, Nat.le_of_ble_eq_true rfl⟩
  · have h := ite_t c_3 h
    refine lv_aload_n hx hb dX11_feed_10 rfl (lv_at hv 0 rfl) ?_
    refine lv_ldc (v := (-1000000001 : Int32)) hx hb hown w_4 dX11_feed_11 ?_
    obtain ⟨⟨r_14, errors_15⟩, hf_16, h⟩ := bd_ex h
    have sb := Sb.same hP hD hS hA
    refine calI (va_runV (As := [.int (-1000000001 : Int32)]) (rest := []) ⟨hx, hb, hml, hown, hts⟩ (c_X11_refused l G D cA xd vd sd nd hd td ed kd _ images errors fewest vspoon vmark vcount vbodies sbits slens snum h_weight h_known h_hour h_swS h_swW h_waS h_spoons h_kind h_mark h_silver h_fresh h_texts h_tape h_tapeCount h_z h_waiting h_waitingCount t_weight t_known t_hour t_swS t_swW t_waS t_spoons t_kind t_mark t_silver t_fresh t_texts t_tape t_tapeCount t_z t_waiting t_waitingCount e_weight e_known e_hour e_swS e_swW e_waS e_spoons e_kind e_mark e_silver e_fresh e_texts e_tape e_tapeCount e_z e_waiting e_waitingCount L tx tst (-1000000001 : Int32) r_14 errors_15 hf_16) (cwV 1 hts gX11_feed_X11_refused rfl rfl rfl (by decide +kernel) ⟨Nat.le_of_ble_eq_true rfl, Nat.le_of_ble_eq_true rfl⟩) (pvV hE hK hS sb (va_recv hK hP (ci := 11) (q0 := 0) rfl rfl)) rfl rfl hv.1 rfl (lv_room (Nat.le_of_ble_eq_true rfl)) dX11_feed_13 ⟨Nat.le_of_ble_eq_true rfl, Nat.le_of_ble_eq_true rfl⟩) hS sb (Jn.same sb) (fun H locs hP hD hS => ?_)
    have hP : va_P D vwCl (wX cA xd vd sd nd hd td ed kd images errors_15 fewest vspoon vmark vcount vbodies sbits slens snum h_weight h_known h_hour h_swS h_swW h_waS h_spoons h_kind h_mark h_silver h_fresh h_texts h_tape h_tapeCount h_z h_waiting h_waitingCount t_weight t_known t_hour t_swS t_swW t_waS t_spoons t_kind t_mark t_silver t_fresh t_texts t_tape t_tapeCount t_z t_waiting t_waitingCount e_weight e_known e_hour e_swS e_swW e_waS e_spoons e_kind e_mark e_silver e_fresh e_texts e_tape e_tapeCount e_z e_waiting e_waitingCount L tx tst) H := hP
    have hD : va_D A (wX cA xd vd sd nd hd td ed kd images errors_15 fewest vspoon vmark vcount vbodies sbits slens snum h_weight h_known h_hour h_swS h_swW h_waS h_spoons h_kind h_mark h_silver h_fresh h_texts h_tape h_tapeCount h_z h_waiting h_waitingCount t_weight t_known t_hour t_swS t_swW t_waS t_spoons t_kind t_mark t_silver t_fresh t_texts t_tape t_tapeCount t_z t_waiting t_waitingCount e_weight e_known e_hour e_swS e_swW e_waS e_spoons e_kind e_mark e_silver e_fresh e_texts e_tape e_tapeCount e_z e_waiting e_waitingCount L tx tst) := hD
    have h := Option.some.inj h
    have ee0 : r_14 = rR := congrArg (fun q => q.1) h
    have ee1 : errors_15 = errorsR := congrArg (fun q => q.2.1) h
    have ee2 : h_tape = h_tapeR := congrArg (fun q => q.2.2.1) h
    have ee3 : h_tapeCount = h_tapeCountR := congrArg (fun q => q.2.2.2) h
    subst ee0
    subst ee1
    subst ee2
    subst ee3
    rw [← hQ]
    exact retI hx hb hr hlk hK hP hD hS dX11_feed_16 ⟨Nat.le_of_ble_eq_true rfl, Nat.le_of_ble_eq_true rfl⟩

def fX11_law (use : Int32) (a : Int32) (b : Int32) (k : Int32) (errors : Nat → Int32) (h_texts : Nat → Option Nat) (L : List Nat) (tx : Nat → TXc) (tst : Nat → Nat → Int32) : Option (Int32 × (Nat → Int32) × (Nat → Nat → Int32)) :=
  bd (fX11_isUse use) fun r_1 => (if r_1 = 0 then bd (fX11_refused (-1000000001 : Int32) errors) fun (r_4, errors_5) => some (r_4, errors_5, tst) else bd (fX3_given use a b k h_texts L tx tst) fun (r_7, tst_8) => some (r_7, errors, tst_8))
set_option maxHeartbeats 4000000 in
set_option maxRecDepth 100000 in
theorem c_X11_law (l : Launch) (G : Nat → Nat) (D : va_G) (cA : Nat → ClassId) (xd : Nat → Nat) (vd : Nat → Nat) (sd : Nat → Nat) (nd : Nat → Nat) (hd : Nat → Nat) (td : Nat → Nat) (ed : Nat → Nat) (kd : Nat → Nat) (sz : Nat) (images : Int32) (errors : Nat → Int32) (fewest : Nat → Int32) (vspoon : Int32) (vmark : Int32) (vcount : Int32) (vbodies : Nat → Int32) (sbits : Nat → Int32) (slens : Nat → Int32) (snum : Nat → Nat → Int32) (h_weight : Nat → Int32) (h_known : Int32) (h_hour : Int32) (h_swS : Nat → Int32) (h_swW : Nat → Int32) (h_waS : Nat → Int32) (h_spoons : Int32) (h_kind : Nat → Int32) (h_mark : Nat → Int32) (h_silver : Nat → Int32) (h_fresh : Nat → Int64) (h_texts : Nat → Option Nat) (h_tape : Nat → Int32) (h_tapeCount : Int32) (h_z : Int32) (h_waiting : Nat → Int32) (h_waitingCount : Int32) (t_weight : Nat → Int32) (t_known : Int32) (t_hour : Int32) (t_swS : Nat → Int32) (t_swW : Nat → Int32) (t_waS : Nat → Int32) (t_spoons : Int32) (t_kind : Nat → Int32) (t_mark : Nat → Int32) (t_silver : Nat → Int32) (t_fresh : Nat → Int64) (t_texts : Nat → Option Nat) (t_tape : Nat → Int32) (t_tapeCount : Int32) (t_z : Int32) (t_waiting : Nat → Int32) (t_waitingCount : Int32) (e_weight : Nat → Int32) (e_known : Int32) (e_hour : Int32) (e_swS : Nat → Int32) (e_swW : Nat → Int32) (e_waS : Nat → Int32) (e_spoons : Int32) (e_kind : Nat → Int32) (e_mark : Nat → Int32) (e_silver : Nat → Int32) (e_fresh : Nat → Int64) (e_texts : Nat → Option Nat) (e_tape : Nat → Int32) (e_tapeCount : Int32) (e_z : Int32) (e_waiting : Nat → Int32) (e_waitingCount : Int32) (L : List Nat) (tx : Nat → TXc) (tst : Nat → Nat → Int32) (use : Int32) (a : Int32) (b : Int32) (k : Int32) (rR : Int32) (errorsR : Nat → Int32) (tstR : Nat → Nat → Int32) (h : fX11_law use a b k errors h_texts L tx tst = some (rR, errorsR, tstR)) : Met l yX11_law wsX11_law ({ frames := 3, cells := 0, slots := 0, locals := 74 } : Room) (PW G D (tyC cA) sz (wX cA xd vd sd nd hd td ed kd images errors fewest vspoon vmark vcount vbodies sbits slens snum h_weight h_known h_hour h_swS h_swW h_waS h_spoons h_kind h_mark h_silver h_fresh h_texts h_tape h_tapeCount h_z h_waiting h_waitingCount t_weight t_known t_hour t_swS t_swW t_waS t_spoons t_kind t_mark t_silver t_fresh t_texts t_tape t_tapeCount t_z t_waiting t_waitingCount e_weight e_known e_hour e_swS e_swW e_waS e_spoons e_kind e_mark e_silver e_fresh e_texts e_tape e_tapeCount e_z e_waiting e_waitingCount L tx tst) [.ref (xd 0), .int use, .int a, .int b, .int k]) (QI D (tyC cA) (va_A (wX cA xd vd sd nd hd td ed kd images errors fewest vspoon vmark vcount vbodies sbits slens snum h_weight h_known h_hour h_swS h_swW h_waS h_spoons h_kind h_mark h_silver h_fresh h_texts h_tape h_tapeCount h_z h_waiting h_waitingCount t_weight t_known t_hour t_swS t_swW t_waS t_spoons t_kind t_mark t_silver t_fresh t_texts t_tape t_tapeCount t_z t_waiting t_waitingCount e_weight e_known e_hour e_swS e_swW e_waS e_spoons e_kind e_mark e_silver e_fresh e_texts e_tape e_tapeCount e_z e_waiting e_waitingCount L tx tst) sz) rR (wX cA xd vd sd nd hd td ed kd images errorsR fewest vspoon vmark vcount vbodies sbits slens snum h_weight h_known h_hour h_swS h_swW h_waS h_spoons h_kind h_mark h_silver h_fresh h_texts h_tape h_tapeCount h_z h_waiting h_waitingCount t_weight t_known t_hour t_swS t_swW t_waS t_spoons t_kind t_mark t_silver t_fresh t_texts t_tape t_tapeCount t_z t_waiting t_waitingCount e_weight e_known e_hour e_swS e_swW e_waS e_spoons e_kind e_mark e_silver e_fresh e_texts e_tape e_tapeCount e_z e_waiting e_waitingCount L tx tstR)) 0 0 (va_A (wX cA xd vd sd nd hd td ed kd images errors fewest vspoon vmark vcount vbodies sbits slens snum h_weight h_known h_hour h_swS h_swW h_waS h_spoons h_kind h_mark h_silver h_fresh h_texts h_tape h_tapeCount h_z h_waiting h_waitingCount t_weight t_known t_hour t_swS t_swW t_waS t_spoons t_kind t_mark t_silver t_fresh t_texts t_tape t_tapeCount t_z t_waiting t_waitingCount e_weight e_known e_hour e_swS e_swW e_waS e_spoons e_kind e_mark e_silver e_fresh e_texts e_tape e_tapeCount e_z e_waiting e_waitingCount L tx tst) sz) := by
  refine ent (cc := cX11_law) (maxL := 5) (ret := (some .int)) (fun A => QI D (tyC cA) A rR (wX cA xd vd sd nd hd td ed kd images errorsR fewest vspoon vmark vcount vbodies sbits slens snum h_weight h_known h_hour h_swS h_swW h_waS h_spoons h_kind h_mark h_silver h_fresh h_texts h_tape h_tapeCount h_z h_waiting h_waitingCount t_weight t_known t_hour t_swS t_swW t_waS t_spoons t_kind t_mark t_silver t_fresh t_texts t_tape t_tapeCount t_z t_waiting t_waitingCount e_weight e_known e_hour e_swS e_swW e_waS e_spoons e_kind e_mark e_silver e_fresh e_texts e_tape e_tapeCount e_z e_waiting e_waitingCount L tx tstR)) (by decide +kernel) rfl (Nat.le_of_ble_eq_true rfl) ?_
  intro p e s m args below meth c A ls H hx hb hml hr hlk hts hown hA hK hE hP hD hS hv hmm
  have hv : lv_has ls 5 [(0, .ref (xd 0)), (1, .int use), (2, .int a), (3, .int b), (4, .int k)] := hv
  have in_11 : ∀ w ∈ u_ws RX11 TX11 9, w ∈ wsX11_law := fun _ h => List.mem_cons_of_mem _ (List.mem_append_left _ (List.mem_append_left _ (List.mem_append_right _ h)))
  have w_0 := hts (.constant RX11 78 (-1000000001)) (List.mem_of_getElem? (i := 2) rfl)
  have w_1 := hts (.fieldLink RX11 39 "SpoonsLast" "house" "LSpoonsLast$House;") (List.mem_of_getElem? (i := 1) rfl)
  generalize hQ : MQ below _ args s 0 0 A = Q
  have hP : va_P D vwCl (wX cA xd vd sd nd hd td ed kd images errors fewest vspoon vmark vcount vbodies sbits slens snum h_weight h_known h_hour h_swS h_swW h_waS h_spoons h_kind h_mark h_silver h_fresh h_texts h_tape h_tapeCount h_z h_waiting h_waitingCount t_weight t_known t_hour t_swS t_swW t_waS t_spoons t_kind t_mark t_silver t_fresh t_texts t_tape t_tapeCount t_z t_waiting t_waitingCount e_weight e_known e_hour e_swS e_swW e_waS e_spoons e_kind e_mark e_silver e_fresh e_texts e_tape e_tapeCount e_z e_waiting e_waitingCount L tx tst) H := hP
  unfold fX11_law at h
  refine lv_iload_n hx hb dX11_law_0 rfl (lv_at hv 1 rfl) ?_
  obtain ⟨r_1, hf_2, h⟩ := bd_ex h
  have sb := Sb.nil hP hD hS hA
  refine calI (va_runS (As := [.int use]) (rest := []) ⟨hx, hb, hml, hown, hts⟩ (c_X11_isUse l G D cA  _ use r_1 hf_2) (va_cwS 1 hts gX11_law_X11_isUse rfl rfl rfl (by decide +kernel) ⟨Nat.le_of_ble_eq_true rfl, Nat.le_of_ble_eq_true rfl⟩) (pvS hE hK hS sb) rfl rfl hv.1 rfl (lv_room (Nat.le_of_ble_eq_true rfl)) dX11_law_1 ⟨Nat.le_of_ble_eq_true rfl, Nat.le_of_ble_eq_true rfl⟩) hS sb (Jn.nil hP hD) (fun H locs hP hD hS => ?_)
  have hP : va_P D vwCl (wX cA xd vd sd nd hd td ed kd images errors fewest vspoon vmark vcount vbodies sbits slens snum h_weight h_known h_hour h_swS h_swW h_waS h_spoons h_kind h_mark h_silver h_fresh h_texts h_tape h_tapeCount h_z h_waiting h_waitingCount t_weight t_known t_hour t_swS t_swW t_waS t_spoons t_kind t_mark t_silver t_fresh t_texts t_tape t_tapeCount t_z t_waiting t_waitingCount e_weight e_known e_hour e_swS e_swW e_waS e_spoons e_kind e_mark e_silver e_fresh e_texts e_tape e_tapeCount e_z e_waiting e_waitingCount L tx tst) H := hP
  have hD : va_D A (wX cA xd vd sd nd hd td ed kd images errors fewest vspoon vmark vcount vbodies sbits slens snum h_weight h_known h_hour h_swS h_swW h_waS h_spoons h_kind h_mark h_silver h_fresh h_texts h_tape h_tapeCount h_z h_waiting h_waitingCount t_weight t_known t_hour t_swS t_swW t_waS t_spoons t_kind t_mark t_silver t_fresh t_texts t_tape t_tapeCount t_z t_waiting t_waitingCount e_weight e_known e_hour e_swS e_swW e_waS e_spoons e_kind e_mark e_silver e_fresh e_texts e_tape e_tapeCount e_z e_waiting e_waitingCount L tx tst) := hD
  refine lv_if_eq (tgt := 22) hx hb dX11_law_4 (by decide) (fun c_3 => ?_) (fun c_3 => ?_)
  · have h := ite_t c_3 h
    refine lv_aload_n hx hb dX11_law_22 rfl (lv_at hv 0 rfl) ?_
    refine lv_ldc (v := (-1000000001 : Int32)) hx hb hown w_0 dX11_law_23 ?_
    obtain ⟨⟨r_4, errors_5⟩, hf_6, h⟩ := bd_ex h
    have sb := Sb.same hP hD hS hA
    refine calI (va_runV (As := [.int (-1000000001 : Int32)]) (rest := []) ⟨hx, hb, hml, hown, hts⟩ (c_X11_refused l G D cA xd vd sd nd hd td ed kd _ images errors fewest vspoon vmark vcount vbodies sbits slens snum h_weight h_known h_hour h_swS h_swW h_waS h_spoons h_kind h_mark h_silver h_fresh h_texts h_tape h_tapeCount h_z h_waiting h_waitingCount t_weight t_known t_hour t_swS t_swW t_waS t_spoons t_kind t_mark t_silver t_fresh t_texts t_tape t_tapeCount t_z t_waiting t_waitingCount e_weight e_known e_hour e_swS e_swW e_waS e_spoons e_kind e_mark e_silver e_fresh e_texts e_tape e_tapeCount e_z e_waiting e_waitingCount L tx tst (-1000000001 : Int32) r_4 errors_5 hf_6) (cwV 1 hts gX11_law_X11_refused rfl rfl rfl (by decide +kernel) ⟨Nat.le_of_ble_eq_true rfl, Nat.le_of_ble_eq_true rfl⟩) (pvV hE hK hS sb (va_recv hK hP (ci := 11) (q0 := 0) rfl rfl)) rfl rfl hv.1 rfl (lv_room (Nat.le_of_ble_eq_true rfl)) dX11_law_25 ⟨Nat.le_of_ble_eq_true rfl, Nat.le_of_ble_eq_true rfl⟩) hS sb (Jn.same sb) (fun H locs hP hD hS => ?_)
    have hP : va_P D vwCl (wX cA xd vd sd nd hd td ed kd images errors_5 fewest vspoon vmark vcount vbodies sbits slens snum h_weight h_known h_hour h_swS h_swW h_waS h_spoons h_kind h_mark h_silver h_fresh h_texts h_tape h_tapeCount h_z h_waiting h_waitingCount t_weight t_known t_hour t_swS t_swW t_waS t_spoons t_kind t_mark t_silver t_fresh t_texts t_tape t_tapeCount t_z t_waiting t_waitingCount e_weight e_known e_hour e_swS e_swW e_waS e_spoons e_kind e_mark e_silver e_fresh e_texts e_tape e_tapeCount e_z e_waiting e_waitingCount L tx tst) H := hP
    have hD : va_D A (wX cA xd vd sd nd hd td ed kd images errors_5 fewest vspoon vmark vcount vbodies sbits slens snum h_weight h_known h_hour h_swS h_swW h_waS h_spoons h_kind h_mark h_silver h_fresh h_texts h_tape h_tapeCount h_z h_waiting h_waitingCount t_weight t_known t_hour t_swS t_swW t_waS t_spoons t_kind t_mark t_silver t_fresh t_texts t_tape t_tapeCount t_z t_waiting t_waitingCount e_weight e_known e_hour e_swS e_swW e_waS e_spoons e_kind e_mark e_silver e_fresh e_texts e_tape e_tapeCount e_z e_waiting e_waitingCount L tx tst) := hD
    have h := Option.some.inj h
    have ee0 : r_4 = rR := congrArg (fun q => q.1) h
    have ee1 : errors_5 = errorsR := congrArg (fun q => q.2.1) h
    have ee2 : tst = tstR := congrArg (fun q => q.2.2) h
    subst ee0
    subst ee1
    subst ee2
    rw [← hQ]
    exact retI hx hb hr hlk hK hP hD hS dX11_law_28 ⟨Nat.le_of_ble_eq_true rfl, Nat.le_of_ble_eq_true rfl⟩
  · have h := ite_f c_3 h
    refine lv_aload_n hx hb dX11_law_7 rfl (lv_at hv 0 rfl) ?_
    refine va_get (D := D) (ci := 11) (v := .ref (hd 0)) (C := RX11) (T := TX11) (N := 9) hx hb hts in_11 hown hK hP 0 rfl rfl 0 (by decide) w_1 (fun _ h9 => h9) rfl dX11_law_8 ?_
    refine lv_iload_n hx hb dX11_law_11 rfl (lv_at hv 1 rfl) ?_
    refine lv_iload_n hx hb dX11_law_12 rfl (lv_at hv 2 rfl) ?_
    refine lv_iload_n hx hb dX11_law_13 rfl (lv_at hv 3 rfl) ?_
    refine lv_iload hx hb dX11_law_14 (lv_at hv 4 rfl) ?_
    obtain ⟨⟨r_7, tst_8⟩, hf_9, h⟩ := bd_ex h
    have sb : Sb D A H (wH cA hd kd h_weight h_known h_hour h_swS h_swW h_waS h_spoons h_kind h_mark h_silver h_fresh h_texts h_tape h_tapeCount h_z h_waiting h_waitingCount L tx tst) := sbXh hP hD hS hA
    refine calI (va_runV (As := [.int use, .int a, .int b, .int k]) (rest := []) ⟨hx, hb, hml, hown, hts⟩ (c_X3_given l G D cA hd kd _ h_weight h_known h_hour h_swS h_swW h_waS h_spoons h_kind h_mark h_silver h_fresh h_texts h_tape h_tapeCount h_z h_waiting h_waitingCount L tx tst use a b k r_7 tst_8 hf_9) (cwV 4 hts gX11_law_X3_given rfl rfl rfl (by decide +kernel) ⟨Nat.le_of_ble_eq_true rfl, Nat.le_of_ble_eq_true rfl⟩) (pvV hE hK hS sb (va_recv hK hP (ci := 3) (q0 := 14) rfl rfl)) rfl rfl hv.1 rfl (lv_room (Nat.le_of_ble_eq_true rfl)) dX11_law_16 ⟨Nat.le_of_ble_eq_true rfl, Nat.le_of_ble_eq_true rfl⟩) hS sb (jnXh hP hD) (fun H locs hP hD hS => ?_)
    have hP : va_P D vwCl (wX cA xd vd sd nd hd td ed kd images errors fewest vspoon vmark vcount vbodies sbits slens snum h_weight h_known h_hour h_swS h_swW h_waS h_spoons h_kind h_mark h_silver h_fresh h_texts h_tape h_tapeCount h_z h_waiting h_waitingCount t_weight t_known t_hour t_swS t_swW t_waS t_spoons t_kind t_mark t_silver t_fresh t_texts t_tape t_tapeCount t_z t_waiting t_waitingCount e_weight e_known e_hour e_swS e_swW e_waS e_spoons e_kind e_mark e_silver e_fresh e_texts e_tape e_tapeCount e_z e_waiting e_waitingCount L tx tst_8) H := hP
    have hD : va_D A (wX cA xd vd sd nd hd td ed kd images errors fewest vspoon vmark vcount vbodies sbits slens snum h_weight h_known h_hour h_swS h_swW h_waS h_spoons h_kind h_mark h_silver h_fresh h_texts h_tape h_tapeCount h_z h_waiting h_waitingCount t_weight t_known t_hour t_swS t_swW t_waS t_spoons t_kind t_mark t_silver t_fresh t_texts t_tape t_tapeCount t_z t_waiting t_waitingCount e_weight e_known e_hour e_swS e_swW e_waS e_spoons e_kind e_mark e_silver e_fresh e_texts e_tape e_tapeCount e_z e_waiting e_waitingCount L tx tst_8) := hD
    refine lv_goto (tgt := 28) hx hb dX11_law_19 (by decide) ?_
    have h := Option.some.inj h
    have ee0 : r_7 = rR := congrArg (fun q => q.1) h
    have ee1 : errors = errorsR := congrArg (fun q => q.2.1) h
    have ee2 : tst_8 = tstR := congrArg (fun q => q.2.2) h
    subst ee0
    subst ee1
    subst ee2
    rw [← hQ]
    exact retI hx hb hr hlk hK hP hD hS dX11_law_28 ⟨Nat.le_of_ble_eq_true rfl, Nat.le_of_ble_eq_true rfl⟩

def fX11_hours (n : Int32) (errors : Nat → Int32) (h_weight : Nat → Int32) (h_known : Int32) (h_hour : Int32) (h_swS : Nat → Int32) (h_swW : Nat → Int32) (h_waS : Nat → Int32) (h_spoons : Int32) (h_kind : Nat → Int32) (h_mark : Nat → Int32) (h_silver : Nat → Int32) (h_fresh : Nat → Int64) (h_texts : Nat → Option Nat) (L : List Nat) (tx : Nat → TXc) (tst : Nat → Nat → Int32) : Option (Int32 × (Nat → Int32) × Int32 × Int32 × (Nat → Int32) × (Nat → Int64) × (Nat → Nat → Int32)) :=
  bd (fX11_within n (1 : Int32) (60 : Int32)) fun r_1 => (if r_1 = 0 then bd (fX11_refused (-1000000001 : Int32) errors) fun (r_14, errors_15) => some (r_14, errors_15, h_known, h_hour, h_silver, h_fresh, tst) else (if h_hour ≤ ((9999 : Int32) - n) then bd (fX3_passHours n h_weight h_known h_hour h_swS h_swW h_waS h_spoons h_kind h_mark h_silver h_fresh h_texts L tx tst) fun (h_known_5, h_hour_6, h_silver_7, h_fresh_8, tst_9) => some (h_known_5, errors, h_known_5, h_hour_6, h_silver_7, h_fresh_8, tst_9) else bd (fX11_refused (-1000000003 : Int32) errors) fun (r_11, errors_12) => some (r_11, errors_12, h_known, h_hour, h_silver, h_fresh, tst)))
set_option maxHeartbeats 4000000 in
set_option maxRecDepth 100000 in
theorem c_X11_hours (l : Launch) (G : Nat → Nat) (D : va_G) (cA : Nat → ClassId) (xd : Nat → Nat) (vd : Nat → Nat) (sd : Nat → Nat) (nd : Nat → Nat) (hd : Nat → Nat) (td : Nat → Nat) (ed : Nat → Nat) (kd : Nat → Nat) (sz : Nat) (images : Int32) (errors : Nat → Int32) (fewest : Nat → Int32) (vspoon : Int32) (vmark : Int32) (vcount : Int32) (vbodies : Nat → Int32) (sbits : Nat → Int32) (slens : Nat → Int32) (snum : Nat → Nat → Int32) (h_weight : Nat → Int32) (h_known : Int32) (h_hour : Int32) (h_swS : Nat → Int32) (h_swW : Nat → Int32) (h_waS : Nat → Int32) (h_spoons : Int32) (h_kind : Nat → Int32) (h_mark : Nat → Int32) (h_silver : Nat → Int32) (h_fresh : Nat → Int64) (h_texts : Nat → Option Nat) (h_tape : Nat → Int32) (h_tapeCount : Int32) (h_z : Int32) (h_waiting : Nat → Int32) (h_waitingCount : Int32) (t_weight : Nat → Int32) (t_known : Int32) (t_hour : Int32) (t_swS : Nat → Int32) (t_swW : Nat → Int32) (t_waS : Nat → Int32) (t_spoons : Int32) (t_kind : Nat → Int32) (t_mark : Nat → Int32) (t_silver : Nat → Int32) (t_fresh : Nat → Int64) (t_texts : Nat → Option Nat) (t_tape : Nat → Int32) (t_tapeCount : Int32) (t_z : Int32) (t_waiting : Nat → Int32) (t_waitingCount : Int32) (e_weight : Nat → Int32) (e_known : Int32) (e_hour : Int32) (e_swS : Nat → Int32) (e_swW : Nat → Int32) (e_waS : Nat → Int32) (e_spoons : Int32) (e_kind : Nat → Int32) (e_mark : Nat → Int32) (e_silver : Nat → Int32) (e_fresh : Nat → Int64) (e_texts : Nat → Option Nat) (e_tape : Nat → Int32) (e_tapeCount : Int32) (e_z : Int32) (e_waiting : Nat → Int32) (e_waitingCount : Int32) (L : List Nat) (tx : Nat → TXc) (tst : Nat → Nat → Int32) (n : Int32) (rR : Int32) (errorsR : Nat → Int32) (h_knownR : Int32) (h_hourR : Int32) (h_silverR : Nat → Int32) (h_freshR : Nat → Int64) (tstR : Nat → Nat → Int32) (h : fX11_hours n errors h_weight h_known h_hour h_swS h_swW h_waS h_spoons h_kind h_mark h_silver h_fresh h_texts L tx tst = some (rR, errorsR, h_knownR, h_hourR, h_silverR, h_freshR, tstR)) : Met l yX11_hours wsX11_hours ({ frames := 6, cells := 0, slots := 0, locals := 141 } : Room) (PW G D (tyC cA) sz (wX cA xd vd sd nd hd td ed kd images errors fewest vspoon vmark vcount vbodies sbits slens snum h_weight h_known h_hour h_swS h_swW h_waS h_spoons h_kind h_mark h_silver h_fresh h_texts h_tape h_tapeCount h_z h_waiting h_waitingCount t_weight t_known t_hour t_swS t_swW t_waS t_spoons t_kind t_mark t_silver t_fresh t_texts t_tape t_tapeCount t_z t_waiting t_waitingCount e_weight e_known e_hour e_swS e_swW e_waS e_spoons e_kind e_mark e_silver e_fresh e_texts e_tape e_tapeCount e_z e_waiting e_waitingCount L tx tst) [.ref (xd 0), .int n]) (QI D (tyC cA) (va_A (wX cA xd vd sd nd hd td ed kd images errors fewest vspoon vmark vcount vbodies sbits slens snum h_weight h_known h_hour h_swS h_swW h_waS h_spoons h_kind h_mark h_silver h_fresh h_texts h_tape h_tapeCount h_z h_waiting h_waitingCount t_weight t_known t_hour t_swS t_swW t_waS t_spoons t_kind t_mark t_silver t_fresh t_texts t_tape t_tapeCount t_z t_waiting t_waitingCount e_weight e_known e_hour e_swS e_swW e_waS e_spoons e_kind e_mark e_silver e_fresh e_texts e_tape e_tapeCount e_z e_waiting e_waitingCount L tx tst) sz) rR (wX cA xd vd sd nd hd td ed kd images errorsR fewest vspoon vmark vcount vbodies sbits slens snum h_weight h_knownR h_hourR h_swS h_swW h_waS h_spoons h_kind h_mark h_silverR h_freshR h_texts h_tape h_tapeCount h_z h_waiting h_waitingCount t_weight t_known t_hour t_swS t_swW t_waS t_spoons t_kind t_mark t_silver t_fresh t_texts t_tape t_tapeCount t_z t_waiting t_waitingCount e_weight e_known e_hour e_swS e_swW e_waS e_spoons e_kind e_mark e_silver e_fresh e_texts e_tape e_tapeCount e_z e_waiting e_waitingCount L tx tstR)) 0 0 (va_A (wX cA xd vd sd nd hd td ed kd images errors fewest vspoon vmark vcount vbodies sbits slens snum h_weight h_known h_hour h_swS h_swW h_waS h_spoons h_kind h_mark h_silver h_fresh h_texts h_tape h_tapeCount h_z h_waiting h_waitingCount t_weight t_known t_hour t_swS t_swW t_waS t_spoons t_kind t_mark t_silver t_fresh t_texts t_tape t_tapeCount t_z t_waiting t_waitingCount e_weight e_known e_hour e_swS e_swW e_waS e_spoons e_kind e_mark e_silver e_fresh e_texts e_tape e_tapeCount e_z e_waiting e_waitingCount L tx tst) sz) := by
  refine ent (cc := cX11_hours) (maxL := 2) (ret := (some .int)) (fun A => QI D (tyC cA) A rR (wX cA xd vd sd nd hd td ed kd images errorsR fewest vspoon vmark vcount vbodies sbits slens snum h_weight h_knownR h_hourR h_swS h_swW h_waS h_spoons h_kind h_mark h_silverR h_freshR h_texts h_tape h_tapeCount h_z h_waiting h_waitingCount t_weight t_known t_hour t_swS t_swW t_waS t_spoons t_kind t_mark t_silver t_fresh t_texts t_tape t_tapeCount t_z t_waiting t_waitingCount e_weight e_known e_hour e_swS e_swW e_waS e_spoons e_kind e_mark e_silver e_fresh e_texts e_tape e_tapeCount e_z e_waiting e_waitingCount L tx tstR)) (by decide +kernel) rfl (Nat.le_of_ble_eq_true rfl) ?_
  intro p e s m args below meth c A ls H hx hb hml hr hlk hts hown hA hK hE hP hD hS hv hmm
  have hv : lv_has ls 2 [(0, .ref (xd 0)), (1, .int n)] := hv
  have in_3 : ∀ w ∈ u_ws RX3 TX3 18, w ∈ wsX11_hours := fun _ h => List.mem_cons_of_mem _ (List.mem_append_left _ (List.mem_append_right _ h))
  have in_11 : ∀ w ∈ u_ws RX11 TX11 9, w ∈ wsX11_hours := fun _ h => List.mem_cons_of_mem _ (List.mem_append_left _ (List.mem_append_left _ (List.mem_append_right _ h)))
  have w_0 := hts (.fieldLink RX11 39 "SpoonsLast" "house" "LSpoonsLast$House;") (List.mem_of_getElem? (i := 2) rfl)
  have w_1 := hts (.fieldLink RX11 178 "SpoonsLast$House" "hour" "I") (List.mem_of_getElem? (i := 3) rfl)
  have w_2 := hts (.fieldLink RX11 86 "SpoonsLast$House" "known" "I") (List.mem_of_getElem? (i := 5) rfl)
  have w_3 := hts (.constant RX11 181 (-1000000003)) (List.mem_of_getElem? (i := 4) rfl)
  have w_4 := hts (.constant RX11 78 (-1000000001)) (List.mem_of_getElem? (i := 1) rfl)
  generalize hQ : MQ below _ args s 0 0 A = Q
  have hP : va_P D vwCl (wX cA xd vd sd nd hd td ed kd images errors fewest vspoon vmark vcount vbodies sbits slens snum h_weight h_known h_hour h_swS h_swW h_waS h_spoons h_kind h_mark h_silver h_fresh h_texts h_tape h_tapeCount h_z h_waiting h_waitingCount t_weight t_known t_hour t_swS t_swW t_waS t_spoons t_kind t_mark t_silver t_fresh t_texts t_tape t_tapeCount t_z t_waiting t_waitingCount e_weight e_known e_hour e_swS e_swW e_waS e_spoons e_kind e_mark e_silver e_fresh e_texts e_tape e_tapeCount e_z e_waiting e_waitingCount L tx tst) H := hP
  unfold fX11_hours at h
  refine lv_iload_n hx hb dX11_hours_0 rfl (lv_at hv 1 rfl) ?_
  refine lv_iconst (v := (1 : Int32)) hx hb dX11_hours_1 (by decide) ?_
  refine lv_bipush (v := (60 : Int32)) hx hb dX11_hours_2 (by decide) ?_
  obtain ⟨r_1, hf_2, h⟩ := bd_ex h
  have sb := Sb.nil hP hD hS hA
  refine calI (va_runS (As := [.int n, .int (1 : Int32), .int (60 : Int32)]) (rest := []) ⟨hx, hb, hml, hown, hts⟩ (c_X11_within l G D cA  _ n (1 : Int32) (60 : Int32) r_1 hf_2) (va_cwS 3 hts gX11_hours_X11_within rfl rfl rfl (by decide +kernel) ⟨Nat.le_of_ble_eq_true rfl, Nat.le_of_ble_eq_true rfl⟩) (pvS hE hK hS sb) rfl rfl hv.1 rfl (lv_room (Nat.le_of_ble_eq_true rfl)) dX11_hours_4 ⟨Nat.le_of_ble_eq_true rfl, Nat.le_of_ble_eq_true rfl⟩) hS sb (Jn.nil hP hD) (fun H locs hP hD hS => ?_)
  have hP : va_P D vwCl (wX cA xd vd sd nd hd td ed kd images errors fewest vspoon vmark vcount vbodies sbits slens snum h_weight h_known h_hour h_swS h_swW h_waS h_spoons h_kind h_mark h_silver h_fresh h_texts h_tape h_tapeCount h_z h_waiting h_waitingCount t_weight t_known t_hour t_swS t_swW t_waS t_spoons t_kind t_mark t_silver t_fresh t_texts t_tape t_tapeCount t_z t_waiting t_waitingCount e_weight e_known e_hour e_swS e_swW e_waS e_spoons e_kind e_mark e_silver e_fresh e_texts e_tape e_tapeCount e_z e_waiting e_waitingCount L tx tst) H := hP
  have hD : va_D A (wX cA xd vd sd nd hd td ed kd images errors fewest vspoon vmark vcount vbodies sbits slens snum h_weight h_known h_hour h_swS h_swW h_waS h_spoons h_kind h_mark h_silver h_fresh h_texts h_tape h_tapeCount h_z h_waiting h_waitingCount t_weight t_known t_hour t_swS t_swW t_waS t_spoons t_kind t_mark t_silver t_fresh t_texts t_tape t_tapeCount t_z t_waiting t_waitingCount e_weight e_known e_hour e_swS e_swW e_waS e_spoons e_kind e_mark e_silver e_fresh e_texts e_tape e_tapeCount e_z e_waiting e_waitingCount L tx tst) := hD
  refine lv_if_ne (tgt := 17) hx hb dX11_hours_7 (by decide) (fun c_3 => ?_) (fun c_3 => ?_)
  · have h := ite_f c_3 h
    refine lv_aload_n hx hb dX11_hours_17 rfl (lv_at hv 0 rfl) ?_
    refine va_get (D := D) (ci := 11) (v := .ref (hd 0)) (C := RX11) (T := TX11) (N := 9) hx hb hts in_11 hown hK hP 0 rfl rfl 0 (by decide) w_0 (fun _ h9 => h9) rfl dX11_hours_18 ?_
    refine va_get (D := D) (ci := 3) (v := .int h_hour) (C := RX3) (T := TX3) (N := 18) hx hb hts in_3 hown hK hP 14 rfl rfl 3 (by decide) w_1 (fun _ h9 => h9) rfl dX11_hours_21 ?_
    refine lv_sipush (v := (9999 : Int32)) hx hb dX11_hours_24 (by decide) ?_
    refine lv_iload_n hx hb dX11_hours_27 rfl (lv_at hv 1 rfl) ?_
    refine lv_isub hx hb dX11_hours_28 ?_
    refine lv_icmp_le (tgt := 39) hx hb dX11_hours_29 (by decide) (fun c_4 => ?_) (fun c_4 => ?_)
    · have h := ite_t c_4 h
      refine lv_aload_n hx hb dX11_hours_39 rfl (lv_at hv 0 rfl) ?_
      refine va_get (D := D) (ci := 11) (v := .ref (hd 0)) (C := RX11) (T := TX11) (N := 9) hx hb hts in_11 hown hK hP 0 rfl rfl 0 (by decide) w_0 (fun _ h9 => h9) rfl dX11_hours_40 ?_
      refine lv_iload_n hx hb dX11_hours_43 rfl (lv_at hv 1 rfl) ?_
      obtain ⟨⟨h_known_5, h_hour_6, h_silver_7, h_fresh_8, tst_9⟩, hf_10, h⟩ := bd_ex h
      have sb : Sb D A H (wH cA hd kd h_weight h_known h_hour h_swS h_swW h_waS h_spoons h_kind h_mark h_silver h_fresh h_texts h_tape h_tapeCount h_z h_waiting h_waitingCount L tx tst) := sbXh hP hD hS hA
      refine calV (va_runV (As := [.int n]) (rest := []) ⟨hx, hb, hml, hown, hts⟩ (c_X3_passHours l G D cA hd kd _ h_weight h_known h_hour h_swS h_swW h_waS h_spoons h_kind h_mark h_silver h_fresh h_texts h_tape h_tapeCount h_z h_waiting h_waitingCount L tx tst n h_known_5 h_hour_6 h_silver_7 h_fresh_8 tst_9 hf_10) (cwV 1 hts gX11_hours_X3_passHours rfl rfl rfl (by decide +kernel) ⟨Nat.le_of_ble_eq_true rfl, Nat.le_of_ble_eq_true rfl⟩) (pvV hE hK hS sb (va_recv hK hP (ci := 3) (q0 := 14) rfl rfl)) rfl rfl hv.1 rfl (lv_room (Nat.le_of_ble_eq_true rfl)) dX11_hours_44 ⟨Nat.le_of_ble_eq_true rfl, Nat.le_of_ble_eq_true rfl⟩) hS sb (jnXh hP hD) (fun H locs hP hD hS => ?_)
      have hP : va_P D vwCl (wX cA xd vd sd nd hd td ed kd images errors fewest vspoon vmark vcount vbodies sbits slens snum h_weight h_known_5 h_hour_6 h_swS h_swW h_waS h_spoons h_kind h_mark h_silver_7 h_fresh_8 h_texts h_tape h_tapeCount h_z h_waiting h_waitingCount t_weight t_known t_hour t_swS t_swW t_waS t_spoons t_kind t_mark t_silver t_fresh t_texts t_tape t_tapeCount t_z t_waiting t_waitingCount e_weight e_known e_hour e_swS e_swW e_waS e_spoons e_kind e_mark e_silver e_fresh e_texts e_tape e_tapeCount e_z e_waiting e_waitingCount L tx tst_9) H := hP
      have hD : va_D A (wX cA xd vd sd nd hd td ed kd images errors fewest vspoon vmark vcount vbodies sbits slens snum h_weight h_known_5 h_hour_6 h_swS h_swW h_waS h_spoons h_kind h_mark h_silver_7 h_fresh_8 h_texts h_tape h_tapeCount h_z h_waiting h_waitingCount t_weight t_known t_hour t_swS t_swW t_waS t_spoons t_kind t_mark t_silver t_fresh t_texts t_tape t_tapeCount t_z t_waiting t_waitingCount e_weight e_known e_hour e_swS e_swW e_waS e_spoons e_kind e_mark e_silver e_fresh e_texts e_tape e_tapeCount e_z e_waiting e_waitingCount L tx tst_9) := hD
      refine lv_aload_n hx hb dX11_hours_47 rfl (lv_at hv 0 rfl) ?_
      refine va_get (D := D) (ci := 11) (v := .ref (hd 0)) (C := RX11) (T := TX11) (N := 9) hx hb hts in_11 hown hK hP 0 rfl rfl 0 (by decide) w_0 (fun _ h9 => h9) rfl dX11_hours_48 ?_
      refine va_get (D := D) (ci := 3) (v := .int h_known_5) (C := RX3) (T := TX3) (N := 18) hx hb hts in_3 hown hK hP 14 rfl rfl 2 (by decide) w_2 (fun _ h9 => h9) rfl dX11_hours_51 ?_
      have h := Option.some.inj h
      have ee0 : h_known_5 = rR := congrArg (fun q => q.1) h
      have ee1 : errors = errorsR := congrArg (fun q => q.2.1) h
      have ee2 : h_known_5 = h_knownR := congrArg (fun q => q.2.2.1) h
      have ee3 : h_hour_6 = h_hourR := congrArg (fun q => q.2.2.2.1) h
      have ee4 : h_silver_7 = h_silverR := congrArg (fun q => q.2.2.2.2.1) h
      have ee5 : h_fresh_8 = h_freshR := congrArg (fun q => q.2.2.2.2.2.1) h
      have ee6 : tst_9 = tstR := congrArg (fun q => q.2.2.2.2.2.2) h
      subst ee0
      subst ee1
      subst ee2
      subst ee3
      subst ee4
      subst ee5
      subst ee6
      rw [← hQ]
      exact retI hx hb hr hlk hK hP hD hS dX11_hours_54 ⟨Nat.le_of_ble_eq_true rfl, Nat.le_of_ble_eq_true rfl⟩
    · have h := ite_f c_4 h
      refine lv_aload_n hx hb dX11_hours_32 rfl (lv_at hv 0 rfl) ?_
      refine lv_ldc (v := (-1000000003 : Int32)) hx hb hown w_3 dX11_hours_33 ?_
      obtain ⟨⟨r_11, errors_12⟩, hf_13, h⟩ := bd_ex h
      have sb := Sb.same hP hD hS hA
      refine calI (va_runV (As := [.int (-1000000003 : Int32)]) (rest := []) ⟨hx, hb, hml, hown, hts⟩ (c_X11_refused l G D cA xd vd sd nd hd td ed kd _ images errors fewest vspoon vmark vcount vbodies sbits slens snum h_weight h_known h_hour h_swS h_swW h_waS h_spoons h_kind h_mark h_silver h_fresh h_texts h_tape h_tapeCount h_z h_waiting h_waitingCount t_weight t_known t_hour t_swS t_swW t_waS t_spoons t_kind t_mark t_silver t_fresh t_texts t_tape t_tapeCount t_z t_waiting t_waitingCount e_weight e_known e_hour e_swS e_swW e_waS e_spoons e_kind e_mark e_silver e_fresh e_texts e_tape e_tapeCount e_z e_waiting e_waitingCount L tx tst (-1000000003 : Int32) r_11 errors_12 hf_13) (cwV 1 hts gX11_hours_X11_refused rfl rfl rfl (by decide +kernel) ⟨Nat.le_of_ble_eq_true rfl, Nat.le_of_ble_eq_true rfl⟩) (pvV hE hK hS sb (va_recv hK hP (ci := 11) (q0 := 0) rfl rfl)) rfl rfl hv.1 rfl (lv_room (Nat.le_of_ble_eq_true rfl)) dX11_hours_35 ⟨Nat.le_of_ble_eq_true rfl, Nat.le_of_ble_eq_true rfl⟩) hS sb (Jn.same sb) (fun H locs hP hD hS => ?_)
      have hP : va_P D vwCl (wX cA xd vd sd nd hd td ed kd images errors_12 fewest vspoon vmark vcount vbodies sbits slens snum h_weight h_known h_hour h_swS h_swW h_waS h_spoons h_kind h_mark h_silver h_fresh h_texts h_tape h_tapeCount h_z h_waiting h_waitingCount t_weight t_known t_hour t_swS t_swW t_waS t_spoons t_kind t_mark t_silver t_fresh t_texts t_tape t_tapeCount t_z t_waiting t_waitingCount e_weight e_known e_hour e_swS e_swW e_waS e_spoons e_kind e_mark e_silver e_fresh e_texts e_tape e_tapeCount e_z e_waiting e_waitingCount L tx tst) H := hP
      have hD : va_D A (wX cA xd vd sd nd hd td ed kd images errors_12 fewest vspoon vmark vcount vbodies sbits slens snum h_weight h_known h_hour h_swS h_swW h_waS h_spoons h_kind h_mark h_silver h_fresh h_texts h_tape h_tapeCount h_z h_waiting h_waitingCount t_weight t_known t_hour t_swS t_swW t_waS t_spoons t_kind t_mark t_silver t_fresh t_texts t_tape t_tapeCount t_z t_waiting t_waitingCount e_weight e_known e_hour e_swS e_swW e_waS e_spoons e_kind e_mark e_silver e_fresh e_texts e_tape e_tapeCount e_z e_waiting e_waitingCount L tx tst) := hD
      have h := Option.some.inj h
      have ee0 : r_11 = rR := congrArg (fun q => q.1) h
      have ee1 : errors_12 = errorsR := congrArg (fun q => q.2.1) h
      have ee2 : h_known = h_knownR := congrArg (fun q => q.2.2.1) h
      have ee3 : h_hour = h_hourR := congrArg (fun q => q.2.2.2.1) h
      have ee4 : h_silver = h_silverR := congrArg (fun q => q.2.2.2.2.1) h
      have ee5 : h_fresh = h_freshR := congrArg (fun q => q.2.2.2.2.2.1) h
      have ee6 : tst = tstR := congrArg (fun q => q.2.2.2.2.2.2) h
      subst ee0
      subst ee1
      subst ee2
      subst ee3
      subst ee4
      subst ee5
      subst ee6
      rw [← hQ]
      exact retI hx hb hr hlk hK hP hD hS dX11_hours_38 ⟨Nat.le_of_ble_eq_true rfl, Nat.le_of_ble_eq_true rfl⟩
  · have h := ite_t c_3 h
    refine lv_aload_n hx hb dX11_hours_10 rfl (lv_at hv 0 rfl) ?_
    refine lv_ldc (v := (-1000000001 : Int32)) hx hb hown w_4 dX11_hours_11 ?_
    obtain ⟨⟨r_14, errors_15⟩, hf_16, h⟩ := bd_ex h
    have sb := Sb.same hP hD hS hA
    refine calI (va_runV (As := [.int (-1000000001 : Int32)]) (rest := []) ⟨hx, hb, hml, hown, hts⟩ (c_X11_refused l G D cA xd vd sd nd hd td ed kd _ images errors fewest vspoon vmark vcount vbodies sbits slens snum h_weight h_known h_hour h_swS h_swW h_waS h_spoons h_kind h_mark h_silver h_fresh h_texts h_tape h_tapeCount h_z h_waiting h_waitingCount t_weight t_known t_hour t_swS t_swW t_waS t_spoons t_kind t_mark t_silver t_fresh t_texts t_tape t_tapeCount t_z t_waiting t_waitingCount e_weight e_known e_hour e_swS e_swW e_waS e_spoons e_kind e_mark e_silver e_fresh e_texts e_tape e_tapeCount e_z e_waiting e_waitingCount L tx tst (-1000000001 : Int32) r_14 errors_15 hf_16) (cwV 1 hts gX11_hours_X11_refused rfl rfl rfl (by decide +kernel) ⟨Nat.le_of_ble_eq_true rfl, Nat.le_of_ble_eq_true rfl⟩) (pvV hE hK hS sb (va_recv hK hP (ci := 11) (q0 := 0) rfl rfl)) rfl rfl hv.1 rfl (lv_room (Nat.le_of_ble_eq_true rfl)) dX11_hours_13 ⟨Nat.le_of_ble_eq_true rfl, Nat.le_of_ble_eq_true rfl⟩) hS sb (Jn.same sb) (fun H locs hP hD hS => ?_)
    have hP : va_P D vwCl (wX cA xd vd sd nd hd td ed kd images errors_15 fewest vspoon vmark vcount vbodies sbits slens snum h_weight h_known h_hour h_swS h_swW h_waS h_spoons h_kind h_mark h_silver h_fresh h_texts h_tape h_tapeCount h_z h_waiting h_waitingCount t_weight t_known t_hour t_swS t_swW t_waS t_spoons t_kind t_mark t_silver t_fresh t_texts t_tape t_tapeCount t_z t_waiting t_waitingCount e_weight e_known e_hour e_swS e_swW e_waS e_spoons e_kind e_mark e_silver e_fresh e_texts e_tape e_tapeCount e_z e_waiting e_waitingCount L tx tst) H := hP
    have hD : va_D A (wX cA xd vd sd nd hd td ed kd images errors_15 fewest vspoon vmark vcount vbodies sbits slens snum h_weight h_known h_hour h_swS h_swW h_waS h_spoons h_kind h_mark h_silver h_fresh h_texts h_tape h_tapeCount h_z h_waiting h_waitingCount t_weight t_known t_hour t_swS t_swW t_waS t_spoons t_kind t_mark t_silver t_fresh t_texts t_tape t_tapeCount t_z t_waiting t_waitingCount e_weight e_known e_hour e_swS e_swW e_waS e_spoons e_kind e_mark e_silver e_fresh e_texts e_tape e_tapeCount e_z e_waiting e_waitingCount L tx tst) := hD
    have h := Option.some.inj h
    have ee0 : r_14 = rR := congrArg (fun q => q.1) h
    have ee1 : errors_15 = errorsR := congrArg (fun q => q.2.1) h
    have ee2 : h_known = h_knownR := congrArg (fun q => q.2.2.1) h
    have ee3 : h_hour = h_hourR := congrArg (fun q => q.2.2.2.1) h
    have ee4 : h_silver = h_silverR := congrArg (fun q => q.2.2.2.2.1) h
    have ee5 : h_fresh = h_freshR := congrArg (fun q => q.2.2.2.2.2.1) h
    have ee6 : tst = tstR := congrArg (fun q => q.2.2.2.2.2.2) h
    subst ee0
    subst ee1
    subst ee2
    subst ee3
    subst ee4
    subst ee5
    subst ee6
    rw [← hQ]
    exact retI hx hb hr hlk hK hP hD hS dX11_hours_16 ⟨Nat.le_of_ble_eq_true rfl, Nat.le_of_ble_eq_true rfl⟩

def fX11_loose_41B (v1_41 : Int32) (errors_41 : Nat → Int32) (h_weight : Nat → Int32) (h_waS : Nat → Int32) (h_spoons : Int32) (h_kind : Nat → Int32) (h_mark : Nat → Int32) (h_texts : Nat → Option Nat) (L : List Nat) (tx : Nat → TXc) (v2_41b : Int32) (h_known_41b : Int32) (h_hour_41b : Int32) (h_swS_41b : Nat → Int32) (h_swW_41b : Nat → Int32) (h_silver_41b : Nat → Int32) (h_fresh_41b : Nat → Int64) (h_z_41b : Int32) (tst_41b : Nat → Nat → Int32) : Option ((Int32 × Int32 × Int32 × (Nat → Int32) × (Nat → Int32) × (Nat → Int32) × (Nat → Int64) × Int32 × (Nat → Nat → Int32)) ⊕ (Int32 × Int32 × Int32 × (Nat → Int32) × (Nat → Int32) × (Nat → Int32) × (Nat → Int64) × Int32 × (Nat → Nat → Int32))) :=
  (if v1_41 ≤ v2_41b then some (.inr (v2_41b, h_known_41b, h_hour_41b, h_swS_41b, h_swW_41b, h_silver_41b, h_fresh_41b, h_z_41b, tst_41b)) else bd (fX3_drawSwallow h_hour_41b h_swS_41b h_swW_41b h_z_41b) fun (h_swS_6, h_swW_7, h_z_8) => bd (fX3_passHours (1 : Int32) h_weight h_known_41b h_hour_41b h_swS_6 h_swW_7 h_waS h_spoons h_kind h_mark h_silver_41b h_fresh_41b h_texts L tx tst_41b) fun (h_known_10, h_hour_11, h_silver_12, h_fresh_13, tst_14) => bnd (v2_41b + (1 : Int32)) fun y_16 => some (.inl (y_16, h_known_10, h_hour_11, h_swS_6, h_swW_7, h_silver_12, h_fresh_13, h_z_8, tst_14)))
def fX11_loose_41 (v1_41 : Int32) (v2_41 : Int32) (errors_41 : Nat → Int32) (h_weight : Nat → Int32) (h_known_41 : Int32) (h_hour_41 : Int32) (h_swS_41 : Nat → Int32) (h_swW_41 : Nat → Int32) (h_waS : Nat → Int32) (h_spoons : Int32) (h_kind : Nat → Int32) (h_mark : Nat → Int32) (h_silver_41 : Nat → Int32) (h_fresh_41 : Nat → Int64) (h_texts : Nat → Option Nat) (h_z_41 : Int32) (L : List Nat) (tx : Nat → TXc) (tst_41 : Nat → Nat → Int32) : Option (Int32 × (Nat → Int32) × Int32 × Int32 × (Nat → Int32) × (Nat → Int32) × (Nat → Int32) × (Nat → Int64) × Int32 × (Nat → Nat → Int32)) :=
  bd (lp (fun σ : Int32 × Int32 × Int32 × (Nat → Int32) × (Nat → Int32) × (Nat → Int32) × (Nat → Int64) × Int32 × (Nat → Nat → Int32) => fX11_loose_41B v1_41 errors_41 h_weight h_waS h_spoons h_kind h_mark h_texts L tx (σ.1) (σ.2.1) (σ.2.2.1) (σ.2.2.2.1) (σ.2.2.2.2.1) (σ.2.2.2.2.2.1) (σ.2.2.2.2.2.2.1) (σ.2.2.2.2.2.2.2.1) (σ.2.2.2.2.2.2.2.2)) FU (v2_41, h_known_41, h_hour_41, h_swS_41, h_swW_41, h_silver_41, h_fresh_41, h_z_41, tst_41)) fun ρ => match ρ with | (v2_41r, h_known_41r, h_hour_41r, h_swS_41r, h_swW_41r, h_silver_41r, h_fresh_41r, h_z_41r, tst_41r) => some (h_known_41r, errors_41, h_known_41r, h_hour_41r, h_swS_41r, h_swW_41r, h_silver_41r, h_fresh_41r, h_z_41r, tst_41r)
def fX11_loose (n : Int32) (errors : Nat → Int32) (h_weight : Nat → Int32) (h_known : Int32) (h_hour : Int32) (h_swS : Nat → Int32) (h_swW : Nat → Int32) (h_waS : Nat → Int32) (h_spoons : Int32) (h_kind : Nat → Int32) (h_mark : Nat → Int32) (h_silver : Nat → Int32) (h_fresh : Nat → Int64) (h_texts : Nat → Option Nat) (h_z : Int32) (L : List Nat) (tx : Nat → TXc) (tst : Nat → Nat → Int32) : Option (Int32 × (Nat → Int32) × Int32 × Int32 × (Nat → Int32) × (Nat → Int32) × (Nat → Int32) × (Nat → Int64) × Int32 × (Nat → Nat → Int32)) :=
  bd (fX11_within n (1 : Int32) (40 : Int32)) fun r_1 => (if r_1 = 0 then bd (fX11_refused (-1000000001 : Int32) errors) fun (r_20, errors_21) => some (r_20, errors_21, h_known, h_hour, h_swS, h_swW, h_silver, h_fresh, h_z, tst) else (if h_hour ≤ ((9999 : Int32) - n) then fX11_loose_41 n (0 : Int32) errors h_weight h_known h_hour h_swS h_swW h_waS h_spoons h_kind h_mark h_silver h_fresh h_texts h_z L tx tst else bd (fX11_refused (-1000000003 : Int32) errors) fun (r_17, errors_18) => some (r_17, errors_18, h_known, h_hour, h_swS, h_swW, h_silver, h_fresh, h_z, tst)))
set_option maxHeartbeats 4000000 in
set_option maxRecDepth 100000 in
theorem c_X11_loose (l : Launch) (G : Nat → Nat) (D : va_G) (cA : Nat → ClassId) (xd : Nat → Nat) (vd : Nat → Nat) (sd : Nat → Nat) (nd : Nat → Nat) (hd : Nat → Nat) (td : Nat → Nat) (ed : Nat → Nat) (kd : Nat → Nat) (sz : Nat) (images : Int32) (errors : Nat → Int32) (fewest : Nat → Int32) (vspoon : Int32) (vmark : Int32) (vcount : Int32) (vbodies : Nat → Int32) (sbits : Nat → Int32) (slens : Nat → Int32) (snum : Nat → Nat → Int32) (h_weight : Nat → Int32) (h_known : Int32) (h_hour : Int32) (h_swS : Nat → Int32) (h_swW : Nat → Int32) (h_waS : Nat → Int32) (h_spoons : Int32) (h_kind : Nat → Int32) (h_mark : Nat → Int32) (h_silver : Nat → Int32) (h_fresh : Nat → Int64) (h_texts : Nat → Option Nat) (h_tape : Nat → Int32) (h_tapeCount : Int32) (h_z : Int32) (h_waiting : Nat → Int32) (h_waitingCount : Int32) (t_weight : Nat → Int32) (t_known : Int32) (t_hour : Int32) (t_swS : Nat → Int32) (t_swW : Nat → Int32) (t_waS : Nat → Int32) (t_spoons : Int32) (t_kind : Nat → Int32) (t_mark : Nat → Int32) (t_silver : Nat → Int32) (t_fresh : Nat → Int64) (t_texts : Nat → Option Nat) (t_tape : Nat → Int32) (t_tapeCount : Int32) (t_z : Int32) (t_waiting : Nat → Int32) (t_waitingCount : Int32) (e_weight : Nat → Int32) (e_known : Int32) (e_hour : Int32) (e_swS : Nat → Int32) (e_swW : Nat → Int32) (e_waS : Nat → Int32) (e_spoons : Int32) (e_kind : Nat → Int32) (e_mark : Nat → Int32) (e_silver : Nat → Int32) (e_fresh : Nat → Int64) (e_texts : Nat → Option Nat) (e_tape : Nat → Int32) (e_tapeCount : Int32) (e_z : Int32) (e_waiting : Nat → Int32) (e_waitingCount : Int32) (L : List Nat) (tx : Nat → TXc) (tst : Nat → Nat → Int32) (n : Int32) (rR : Int32) (errorsR : Nat → Int32) (h_knownR : Int32) (h_hourR : Int32) (h_swSR : Nat → Int32) (h_swWR : Nat → Int32) (h_silverR : Nat → Int32) (h_freshR : Nat → Int64) (h_zR : Int32) (tstR : Nat → Nat → Int32) (h : fX11_loose n errors h_weight h_known h_hour h_swS h_swW h_waS h_spoons h_kind h_mark h_silver h_fresh h_texts h_z L tx tst = some (rR, errorsR, h_knownR, h_hourR, h_swSR, h_swWR, h_silverR, h_freshR, h_zR, tstR)) : Met l yX11_loose wsX11_loose ({ frames := 6, cells := 0, slots := 0, locals := 141 } : Room) (PW G D (tyC cA) sz (wX cA xd vd sd nd hd td ed kd images errors fewest vspoon vmark vcount vbodies sbits slens snum h_weight h_known h_hour h_swS h_swW h_waS h_spoons h_kind h_mark h_silver h_fresh h_texts h_tape h_tapeCount h_z h_waiting h_waitingCount t_weight t_known t_hour t_swS t_swW t_waS t_spoons t_kind t_mark t_silver t_fresh t_texts t_tape t_tapeCount t_z t_waiting t_waitingCount e_weight e_known e_hour e_swS e_swW e_waS e_spoons e_kind e_mark e_silver e_fresh e_texts e_tape e_tapeCount e_z e_waiting e_waitingCount L tx tst) [.ref (xd 0), .int n]) (QI D (tyC cA) (va_A (wX cA xd vd sd nd hd td ed kd images errors fewest vspoon vmark vcount vbodies sbits slens snum h_weight h_known h_hour h_swS h_swW h_waS h_spoons h_kind h_mark h_silver h_fresh h_texts h_tape h_tapeCount h_z h_waiting h_waitingCount t_weight t_known t_hour t_swS t_swW t_waS t_spoons t_kind t_mark t_silver t_fresh t_texts t_tape t_tapeCount t_z t_waiting t_waitingCount e_weight e_known e_hour e_swS e_swW e_waS e_spoons e_kind e_mark e_silver e_fresh e_texts e_tape e_tapeCount e_z e_waiting e_waitingCount L tx tst) sz) rR (wX cA xd vd sd nd hd td ed kd images errorsR fewest vspoon vmark vcount vbodies sbits slens snum h_weight h_knownR h_hourR h_swSR h_swWR h_waS h_spoons h_kind h_mark h_silverR h_freshR h_texts h_tape h_tapeCount h_zR h_waiting h_waitingCount t_weight t_known t_hour t_swS t_swW t_waS t_spoons t_kind t_mark t_silver t_fresh t_texts t_tape t_tapeCount t_z t_waiting t_waitingCount e_weight e_known e_hour e_swS e_swW e_waS e_spoons e_kind e_mark e_silver e_fresh e_texts e_tape e_tapeCount e_z e_waiting e_waitingCount L tx tstR)) 0 0 (va_A (wX cA xd vd sd nd hd td ed kd images errors fewest vspoon vmark vcount vbodies sbits slens snum h_weight h_known h_hour h_swS h_swW h_waS h_spoons h_kind h_mark h_silver h_fresh h_texts h_tape h_tapeCount h_z h_waiting h_waitingCount t_weight t_known t_hour t_swS t_swW t_waS t_spoons t_kind t_mark t_silver t_fresh t_texts t_tape t_tapeCount t_z t_waiting t_waitingCount e_weight e_known e_hour e_swS e_swW e_waS e_spoons e_kind e_mark e_silver e_fresh e_texts e_tape e_tapeCount e_z e_waiting e_waitingCount L tx tst) sz) := by
  refine ent (cc := cX11_loose) (maxL := 3) (ret := (some .int)) (fun A => QI D (tyC cA) A rR (wX cA xd vd sd nd hd td ed kd images errorsR fewest vspoon vmark vcount vbodies sbits slens snum h_weight h_knownR h_hourR h_swSR h_swWR h_waS h_spoons h_kind h_mark h_silverR h_freshR h_texts h_tape h_tapeCount h_zR h_waiting h_waitingCount t_weight t_known t_hour t_swS t_swW t_waS t_spoons t_kind t_mark t_silver t_fresh t_texts t_tape t_tapeCount t_z t_waiting t_waitingCount e_weight e_known e_hour e_swS e_swW e_waS e_spoons e_kind e_mark e_silver e_fresh e_texts e_tape e_tapeCount e_z e_waiting e_waitingCount L tx tstR)) (by decide +kernel) rfl (Nat.le_of_ble_eq_true rfl) ?_
  intro p e s m args below meth c A ls H hx hb hml hr hlk hts hown hA hK hE hP hD hS hv hmm
  have hv : lv_has ls 3 [(0, .ref (xd 0)), (1, .int n)] := hv
  have in_3 : ∀ w ∈ u_ws RX3 TX3 18, w ∈ wsX11_loose := fun _ h => List.mem_cons_of_mem _ (List.mem_append_left _ (List.mem_append_right _ h))
  have in_11 : ∀ w ∈ u_ws RX11 TX11 9, w ∈ wsX11_loose := fun _ h => List.mem_cons_of_mem _ (List.mem_append_left _ (List.mem_append_left _ (List.mem_append_right _ h)))
  have w_0 := hts (.fieldLink RX11 39 "SpoonsLast" "house" "LSpoonsLast$House;") (List.mem_of_getElem? (i := 2) rfl)
  have w_1 := hts (.fieldLink RX11 178 "SpoonsLast$House" "hour" "I") (List.mem_of_getElem? (i := 3) rfl)
  have w_2 := hts (.fieldLink RX11 86 "SpoonsLast$House" "known" "I") (List.mem_of_getElem? (i := 5) rfl)
  have w_3 := hts (.constant RX11 181 (-1000000003)) (List.mem_of_getElem? (i := 4) rfl)
  have w_4 := hts (.constant RX11 78 (-1000000001)) (List.mem_of_getElem? (i := 1) rfl)
  generalize hQ : MQ below _ args s 0 0 A = Q
  have C_41 : ∀ (v1_41 : Int32) (v2_41 : Int32) (errors_41 : Nat → Int32) (h_known_41 : Int32) (h_hour_41 : Int32) (h_swS_41 : Nat → Int32) (h_swW_41 : Nat → Int32) (h_silver_41 : Nat → Int32) (h_fresh_41 : Nat → Int64) (h_z_41 : Int32) (tst_41 : Nat → Nat → Int32), fX11_loose_41 v1_41 v2_41 errors_41 h_weight h_known_41 h_hour_41 h_swS_41 h_swW_41 h_waS h_spoons h_kind h_mark h_silver_41 h_fresh_41 h_texts h_z_41 L tx tst_41 = some (rR, errorsR, h_knownR, h_hourR, h_swSR, h_swWR, h_silverR, h_freshR, h_zR, tstR) → WW p l e ({ frames := 6, cells := 0, slots := 0, locals := 141 } : Room) s m args below meth c D A 0 0 Q (wX cA xd vd sd nd hd td ed kd images errors_41 fewest vspoon vmark vcount vbodies sbits slens snum h_weight h_known_41 h_hour_41 h_swS_41 h_swW_41 h_waS h_spoons h_kind h_mark h_silver_41 h_fresh_41 h_texts h_tape h_tapeCount h_z_41 h_waiting h_waitingCount t_weight t_known t_hour t_swS t_swW t_waS t_spoons t_kind t_mark t_silver t_fresh t_texts t_tape t_tapeCount t_z t_waiting t_waitingCount e_weight e_known e_hour e_swS e_swW e_waS e_spoons e_kind e_mark e_silver e_fresh e_texts e_tape e_tapeCount e_z e_waiting e_waitingCount L tx tst_41) 3 [(0, .ref (xd 0)), (1, .int v1_41), (2, .int v2_41)] 41 [] := by
    intro v1_41 v2_41 errors_41 h_known_41 h_hour_41 h_swS_41 h_swW_41 h_silver_41 h_fresh_41 h_z_41 tst_41 h
    unfold fX11_loose_41 at h
    obtain ⟨⟨v2_41r, h_known_41r, h_hour_41r, h_swS_41r, h_swW_41r, h_silver_41r, h_fresh_41r, h_z_41r, tst_41r⟩, ho, h⟩ := bd_ex h
    have LE : WW p l e ({ frames := 6, cells := 0, slots := 0, locals := 141 } : Room) s m args below meth c D A 0 0 Q (wX cA xd vd sd nd hd td ed kd images errors_41 fewest vspoon vmark vcount vbodies sbits slens snum h_weight h_known_41r h_hour_41r h_swS_41r h_swW_41r h_waS h_spoons h_kind h_mark h_silver_41r h_fresh_41r h_texts h_tape h_tapeCount h_z_41r h_waiting h_waitingCount t_weight t_known t_hour t_swS t_swW t_waS t_spoons t_kind t_mark t_silver t_fresh t_texts t_tape t_tapeCount t_z t_waiting t_waitingCount e_weight e_known e_hour e_swS e_swW e_waS e_spoons e_kind e_mark e_silver e_fresh e_texts e_tape e_tapeCount e_z e_waiting e_waitingCount L tx tst_41r) 3 [(0, .ref (xd 0))] 67 [] := by
      intro H locs ls hP hD hS hv
      refine lv_aload_n hx hb dX11_loose_67 rfl (lv_at hv 0 rfl) ?_
      refine va_get (D := D) (ci := 11) (v := .ref (hd 0)) (C := RX11) (T := TX11) (N := 9) hx hb hts in_11 hown hK hP 0 rfl rfl 0 (by decide) w_0 (fun _ h9 => h9) rfl dX11_loose_68 ?_
      refine va_get (D := D) (ci := 3) (v := .int h_known_41r) (C := RX3) (T := TX3) (N := 18) hx hb hts in_3 hown hK hP 14 rfl rfl 2 (by decide) w_2 (fun _ h9 => h9) rfl dX11_loose_71 ?_
      have h := Option.some.inj h
      have ee0 : h_known_41r = rR := congrArg (fun q => q.1) h
      have ee1 : errors_41 = errorsR := congrArg (fun q => q.2.1) h
      have ee2 : h_known_41r = h_knownR := congrArg (fun q => q.2.2.1) h
      have ee3 : h_hour_41r = h_hourR := congrArg (fun q => q.2.2.2.1) h
      have ee4 : h_swS_41r = h_swSR := congrArg (fun q => q.2.2.2.2.1) h
      have ee5 : h_swW_41r = h_swWR := congrArg (fun q => q.2.2.2.2.2.1) h
      have ee6 : h_silver_41r = h_silverR := congrArg (fun q => q.2.2.2.2.2.2.1) h
      have ee7 : h_fresh_41r = h_freshR := congrArg (fun q => q.2.2.2.2.2.2.2.1) h
      have ee8 : h_z_41r = h_zR := congrArg (fun q => q.2.2.2.2.2.2.2.2.1) h
      have ee9 : tst_41r = tstR := congrArg (fun q => q.2.2.2.2.2.2.2.2.2) h
      subst ee0
      subst ee1
      subst ee2
      subst ee3
      subst ee4
      subst ee5
      subst ee6
      subst ee7
      subst ee8
      subst ee9
      rw [← hQ]
      exact retI hx hb hr hlk hK hP hD hS dX11_loose_74 ⟨Nat.le_of_ble_eq_true rfl, Nat.le_of_ble_eq_true rfl⟩
    have LB : ∀ (nf : Nat) (v2_41b : Int32) (h_known_41b : Int32) (h_hour_41b : Int32) (h_swS_41b : Nat → Int32) (h_swW_41b : Nat → Int32) (h_silver_41b : Nat → Int32) (h_fresh_41b : Nat → Int64) (h_z_41b : Int32) (tst_41b : Nat → Nat → Int32), lp (fun σ : Int32 × Int32 × Int32 × (Nat → Int32) × (Nat → Int32) × (Nat → Int32) × (Nat → Int64) × Int32 × (Nat → Nat → Int32) => fX11_loose_41B v1_41 errors_41 h_weight h_waS h_spoons h_kind h_mark h_texts L tx (σ.1) (σ.2.1) (σ.2.2.1) (σ.2.2.2.1) (σ.2.2.2.2.1) (σ.2.2.2.2.2.1) (σ.2.2.2.2.2.2.1) (σ.2.2.2.2.2.2.2.1) (σ.2.2.2.2.2.2.2.2)) nf (v2_41b, h_known_41b, h_hour_41b, h_swS_41b, h_swW_41b, h_silver_41b, h_fresh_41b, h_z_41b, tst_41b) = some (v2_41r, h_known_41r, h_hour_41r, h_swS_41r, h_swW_41r, h_silver_41r, h_fresh_41r, h_z_41r, tst_41r) → WW p l e ({ frames := 6, cells := 0, slots := 0, locals := 141 } : Room) s m args below meth c D A 0 0 Q (wX cA xd vd sd nd hd td ed kd images errors_41 fewest vspoon vmark vcount vbodies sbits slens snum h_weight h_known_41b h_hour_41b h_swS_41b h_swW_41b h_waS h_spoons h_kind h_mark h_silver_41b h_fresh_41b h_texts h_tape h_tapeCount h_z_41b h_waiting h_waitingCount t_weight t_known t_hour t_swS t_swW t_waS t_spoons t_kind t_mark t_silver t_fresh t_texts t_tape t_tapeCount t_z t_waiting t_waitingCount e_weight e_known e_hour e_swS e_swW e_waS e_spoons e_kind e_mark e_silver e_fresh e_texts e_tape e_tapeCount e_z e_waiting e_waitingCount L tx tst_41b) 3 [(0, .ref (xd 0)), (1, .int v1_41), (2, .int v2_41b)] 41 [] := by
      intro nf
      induction nf with
      | zero => intro v2_41b h_known_41b h_hour_41b h_swS_41b h_swW_41b h_silver_41b h_fresh_41b h_z_41b tst_41b hl; cases hl
      | succ nf ih =>
        intro v2_41b h_known_41b h_hour_41b h_swS_41b h_swW_41b h_silver_41b h_fresh_41b h_z_41b tst_41b hl
        obtain ⟨x, h, hl⟩ := lp_ex hl
        have h : fX11_loose_41B v1_41 errors_41 h_weight h_waS h_spoons h_kind h_mark h_texts L tx v2_41b h_known_41b h_hour_41b h_swS_41b h_swW_41b h_silver_41b h_fresh_41b h_z_41b tst_41b = some x := h
        unfold fX11_loose_41B at h
        intro H locs ls hP hD hS hv
        refine lv_iload_n hx hb dX11_loose_41 rfl (lv_at hv 2 rfl) ?_
        refine lv_iload_n hx hb dX11_loose_42 rfl (lv_at hv 1 rfl) ?_
        refine lv_icmp_ge (tgt := 67) hx hb dX11_loose_43 (by decide) (fun c_5 => ?_) (fun c_5 => ?_)
        · have h := ite_t c_5 h
          cases h
          have hl : some (v2_41b, h_known_41b, h_hour_41b, h_swS_41b, h_swW_41b, h_silver_41b, h_fresh_41b, h_z_41b, tst_41b) = some (v2_41r, h_known_41r, h_hour_41r, h_swS_41r, h_swW_41r, h_silver_41r, h_fresh_41r, h_z_41r, tst_41r) := hl
          have hl := Option.some.inj hl
          have ee0 : v2_41b = v2_41r := congrArg (fun q => q.1) hl
          have ee1 : h_known_41b = h_known_41r := congrArg (fun q => q.2.1) hl
          have ee2 : h_hour_41b = h_hour_41r := congrArg (fun q => q.2.2.1) hl
          have ee3 : h_swS_41b = h_swS_41r := congrArg (fun q => q.2.2.2.1) hl
          have ee4 : h_swW_41b = h_swW_41r := congrArg (fun q => q.2.2.2.2.1) hl
          have ee5 : h_silver_41b = h_silver_41r := congrArg (fun q => q.2.2.2.2.2.1) hl
          have ee6 : h_fresh_41b = h_fresh_41r := congrArg (fun q => q.2.2.2.2.2.2.1) hl
          have ee7 : h_z_41b = h_z_41r := congrArg (fun q => q.2.2.2.2.2.2.2.1) hl
          have ee8 : tst_41b = tst_41r := congrArg (fun q => q.2.2.2.2.2.2.2.2) hl
          subst ee0
          subst ee1
          subst ee2
          subst ee3
          subst ee4
          subst ee5
          subst ee6
          subst ee7
          subst ee8
          exact LE _ _ _ hP hD hS (lv_sub hv [0] rfl)
        · have h := ite_f c_5 h
          refine lv_aload_n hx hb dX11_loose_46 rfl (lv_at hv 0 rfl) ?_
          refine va_get (D := D) (ci := 11) (v := .ref (hd 0)) (C := RX11) (T := TX11) (N := 9) hx hb hts in_11 hown hK hP 0 rfl rfl 0 (by decide) w_0 (fun _ h9 => h9) rfl dX11_loose_47 ?_
          obtain ⟨⟨h_swS_6, h_swW_7, h_z_8⟩, hf_9, h⟩ := bd_ex h
          have sb : Sb D A H (wH cA hd kd h_weight h_known_41b h_hour_41b h_swS_41b h_swW_41b h_waS h_spoons h_kind h_mark h_silver_41b h_fresh_41b h_texts h_tape h_tapeCount h_z_41b h_waiting h_waitingCount L tx tst_41b) := sbXh hP hD hS hA
          refine calV (va_runV (As := []) (rest := []) ⟨hx, hb, hml, hown, hts⟩ (c_X3_drawSwallow l G D cA hd kd _ h_weight h_known_41b h_hour_41b h_swS_41b h_swW_41b h_waS h_spoons h_kind h_mark h_silver_41b h_fresh_41b h_texts h_tape h_tapeCount h_z_41b h_waiting h_waitingCount L tx tst_41b h_swS_6 h_swW_7 h_z_8 hf_9) (cwV 0 hts gX11_loose_X3_drawSwallow rfl rfl rfl (by decide +kernel) ⟨Nat.le_of_ble_eq_true rfl, Nat.le_of_ble_eq_true rfl⟩) (pvV hE hK hS sb (va_recv hK hP (ci := 3) (q0 := 14) rfl rfl)) rfl rfl hv.1 rfl (lv_room (Nat.le_of_ble_eq_true rfl)) dX11_loose_50 ⟨Nat.le_of_ble_eq_true rfl, Nat.le_of_ble_eq_true rfl⟩) hS sb (jnXh hP hD) (fun H locs hP hD hS => ?_)
          have hP : va_P D vwCl (wX cA xd vd sd nd hd td ed kd images errors_41 fewest vspoon vmark vcount vbodies sbits slens snum h_weight h_known_41b h_hour_41b h_swS_6 h_swW_7 h_waS h_spoons h_kind h_mark h_silver_41b h_fresh_41b h_texts h_tape h_tapeCount h_z_8 h_waiting h_waitingCount t_weight t_known t_hour t_swS t_swW t_waS t_spoons t_kind t_mark t_silver t_fresh t_texts t_tape t_tapeCount t_z t_waiting t_waitingCount e_weight e_known e_hour e_swS e_swW e_waS e_spoons e_kind e_mark e_silver e_fresh e_texts e_tape e_tapeCount e_z e_waiting e_waitingCount L tx tst_41b) H := hP
          have hD : va_D A (wX cA xd vd sd nd hd td ed kd images errors_41 fewest vspoon vmark vcount vbodies sbits slens snum h_weight h_known_41b h_hour_41b h_swS_6 h_swW_7 h_waS h_spoons h_kind h_mark h_silver_41b h_fresh_41b h_texts h_tape h_tapeCount h_z_8 h_waiting h_waitingCount t_weight t_known t_hour t_swS t_swW t_waS t_spoons t_kind t_mark t_silver t_fresh t_texts t_tape t_tapeCount t_z t_waiting t_waitingCount e_weight e_known e_hour e_swS e_swW e_waS e_spoons e_kind e_mark e_silver e_fresh e_texts e_tape e_tapeCount e_z e_waiting e_waitingCount L tx tst_41b) := hD
          refine lv_aload_n hx hb dX11_loose_53 rfl (lv_at hv 0 rfl) ?_
          refine va_get (D := D) (ci := 11) (v := .ref (hd 0)) (C := RX11) (T := TX11) (N := 9) hx hb hts in_11 hown hK hP 0 rfl rfl 0 (by decide) w_0 (fun _ h9 => h9) rfl dX11_loose_54 ?_
          refine lv_iconst (v := (1 : Int32)) hx hb dX11_loose_57 (by decide) ?_
          obtain ⟨⟨h_known_10, h_hour_11, h_silver_12, h_fresh_13, tst_14⟩, hf_15, h⟩ := bd_ex h
          have sb : Sb D A H (wH cA hd kd h_weight h_known_41b h_hour_41b h_swS_6 h_swW_7 h_waS h_spoons h_kind h_mark h_silver_41b h_fresh_41b h_texts h_tape h_tapeCount h_z_8 h_waiting h_waitingCount L tx tst_41b) := sbXh hP hD hS hA
          refine calV (va_runV (As := [.int (1 : Int32)]) (rest := []) ⟨hx, hb, hml, hown, hts⟩ (c_X3_passHours l G D cA hd kd _ h_weight h_known_41b h_hour_41b h_swS_6 h_swW_7 h_waS h_spoons h_kind h_mark h_silver_41b h_fresh_41b h_texts h_tape h_tapeCount h_z_8 h_waiting h_waitingCount L tx tst_41b (1 : Int32) h_known_10 h_hour_11 h_silver_12 h_fresh_13 tst_14 hf_15) (cwV 1 hts gX11_loose_X3_passHours rfl rfl rfl (by decide +kernel) ⟨Nat.le_of_ble_eq_true rfl, Nat.le_of_ble_eq_true rfl⟩) (pvV hE hK hS sb (va_recv hK hP (ci := 3) (q0 := 14) rfl rfl)) rfl rfl hv.1 rfl (lv_room (Nat.le_of_ble_eq_true rfl)) dX11_loose_58 ⟨Nat.le_of_ble_eq_true rfl, Nat.le_of_ble_eq_true rfl⟩) hS sb (jnXh hP hD) (fun H locs hP hD hS => ?_)
          have hP : va_P D vwCl (wX cA xd vd sd nd hd td ed kd images errors_41 fewest vspoon vmark vcount vbodies sbits slens snum h_weight h_known_10 h_hour_11 h_swS_6 h_swW_7 h_waS h_spoons h_kind h_mark h_silver_12 h_fresh_13 h_texts h_tape h_tapeCount h_z_8 h_waiting h_waitingCount t_weight t_known t_hour t_swS t_swW t_waS t_spoons t_kind t_mark t_silver t_fresh t_texts t_tape t_tapeCount t_z t_waiting t_waitingCount e_weight e_known e_hour e_swS e_swW e_waS e_spoons e_kind e_mark e_silver e_fresh e_texts e_tape e_tapeCount e_z e_waiting e_waitingCount L tx tst_14) H := hP
          have hD : va_D A (wX cA xd vd sd nd hd td ed kd images errors_41 fewest vspoon vmark vcount vbodies sbits slens snum h_weight h_known_10 h_hour_11 h_swS_6 h_swW_7 h_waS h_spoons h_kind h_mark h_silver_12 h_fresh_13 h_texts h_tape h_tapeCount h_z_8 h_waiting h_waitingCount t_weight t_known t_hour t_swS t_swW t_waS t_spoons t_kind t_mark t_silver t_fresh t_texts t_tape t_tapeCount t_z t_waiting t_waitingCount e_weight e_known e_hour e_swS e_swW e_waS e_spoons e_kind e_mark e_silver e_fresh e_texts e_tape e_tapeCount e_z e_waiting e_waitingCount L tx tst_14) := hD
          obtain ⟨y_16, ey_16, h⟩ := bnd_ex h
          refine lv_iinc (v := y_16) (lv' := [(2, .int y_16), (0, .ref (xd 0)), (1, .int v1_41)]) hx hb dX11_loose_61 hv (k := 2) rfl (by rw [ey_16]; rfl) (by decide) rfl (fun ls hv => ?_)
          refine lv_goto (tgt := 41) hx hb dX11_loose_64 (by decide) ?_
          cases h
          exact ih y_16 h_known_10 h_hour_11 h_swS_6 h_swW_7 h_silver_12 h_fresh_13 h_z_8 tst_14 hl _ _ _ hP hD hS (lv_sub hv [1, 2, 0] rfl)
    exact LB FU v2_41 h_known_41 h_hour_41 h_swS_41 h_swW_41 h_silver_41 h_fresh_41 h_z_41 tst_41 ho
  have hP : va_P D vwCl (wX cA xd vd sd nd hd td ed kd images errors fewest vspoon vmark vcount vbodies sbits slens snum h_weight h_known h_hour h_swS h_swW h_waS h_spoons h_kind h_mark h_silver h_fresh h_texts h_tape h_tapeCount h_z h_waiting h_waitingCount t_weight t_known t_hour t_swS t_swW t_waS t_spoons t_kind t_mark t_silver t_fresh t_texts t_tape t_tapeCount t_z t_waiting t_waitingCount e_weight e_known e_hour e_swS e_swW e_waS e_spoons e_kind e_mark e_silver e_fresh e_texts e_tape e_tapeCount e_z e_waiting e_waitingCount L tx tst) H := hP
  unfold fX11_loose at h
  refine lv_iload_n hx hb dX11_loose_0 rfl (lv_at hv 1 rfl) ?_
  refine lv_iconst (v := (1 : Int32)) hx hb dX11_loose_1 (by decide) ?_
  refine lv_bipush (v := (40 : Int32)) hx hb dX11_loose_2 (by decide) ?_
  obtain ⟨r_1, hf_2, h⟩ := bd_ex h
  have sb := Sb.nil hP hD hS hA
  refine calI (va_runS (As := [.int n, .int (1 : Int32), .int (40 : Int32)]) (rest := []) ⟨hx, hb, hml, hown, hts⟩ (c_X11_within l G D cA  _ n (1 : Int32) (40 : Int32) r_1 hf_2) (va_cwS 3 hts gX11_loose_X11_within rfl rfl rfl (by decide +kernel) ⟨Nat.le_of_ble_eq_true rfl, Nat.le_of_ble_eq_true rfl⟩) (pvS hE hK hS sb) rfl rfl hv.1 rfl (lv_room (Nat.le_of_ble_eq_true rfl)) dX11_loose_4 ⟨Nat.le_of_ble_eq_true rfl, Nat.le_of_ble_eq_true rfl⟩) hS sb (Jn.nil hP hD) (fun H locs hP hD hS => ?_)
  have hP : va_P D vwCl (wX cA xd vd sd nd hd td ed kd images errors fewest vspoon vmark vcount vbodies sbits slens snum h_weight h_known h_hour h_swS h_swW h_waS h_spoons h_kind h_mark h_silver h_fresh h_texts h_tape h_tapeCount h_z h_waiting h_waitingCount t_weight t_known t_hour t_swS t_swW t_waS t_spoons t_kind t_mark t_silver t_fresh t_texts t_tape t_tapeCount t_z t_waiting t_waitingCount e_weight e_known e_hour e_swS e_swW e_waS e_spoons e_kind e_mark e_silver e_fresh e_texts e_tape e_tapeCount e_z e_waiting e_waitingCount L tx tst) H := hP
  have hD : va_D A (wX cA xd vd sd nd hd td ed kd images errors fewest vspoon vmark vcount vbodies sbits slens snum h_weight h_known h_hour h_swS h_swW h_waS h_spoons h_kind h_mark h_silver h_fresh h_texts h_tape h_tapeCount h_z h_waiting h_waitingCount t_weight t_known t_hour t_swS t_swW t_waS t_spoons t_kind t_mark t_silver t_fresh t_texts t_tape t_tapeCount t_z t_waiting t_waitingCount e_weight e_known e_hour e_swS e_swW e_waS e_spoons e_kind e_mark e_silver e_fresh e_texts e_tape e_tapeCount e_z e_waiting e_waitingCount L tx tst) := hD
  refine lv_if_ne (tgt := 17) hx hb dX11_loose_7 (by decide) (fun c_3 => ?_) (fun c_3 => ?_)
  · have h := ite_f c_3 h
    refine lv_aload_n hx hb dX11_loose_17 rfl (lv_at hv 0 rfl) ?_
    refine va_get (D := D) (ci := 11) (v := .ref (hd 0)) (C := RX11) (T := TX11) (N := 9) hx hb hts in_11 hown hK hP 0 rfl rfl 0 (by decide) w_0 (fun _ h9 => h9) rfl dX11_loose_18 ?_
    refine va_get (D := D) (ci := 3) (v := .int h_hour) (C := RX3) (T := TX3) (N := 18) hx hb hts in_3 hown hK hP 14 rfl rfl 3 (by decide) w_1 (fun _ h9 => h9) rfl dX11_loose_21 ?_
    refine lv_sipush (v := (9999 : Int32)) hx hb dX11_loose_24 (by decide) ?_
    refine lv_iload_n hx hb dX11_loose_27 rfl (lv_at hv 1 rfl) ?_
    refine lv_isub hx hb dX11_loose_28 ?_
    refine lv_icmp_le (tgt := 39) hx hb dX11_loose_29 (by decide) (fun c_4 => ?_) (fun c_4 => ?_)
    · have h := ite_t c_4 h
      refine lv_iconst (v := (0 : Int32)) hx hb dX11_loose_39 (by decide) ?_
      refine lv_istore_n (lv' := [(2, .int (0 : Int32)), (0, .ref (xd 0)), (1, .int n)]) hx hb dX11_loose_40 rfl hv (by decide) rfl (fun ls hv => ?_)
      exact C_41 n (0 : Int32) errors h_known h_hour h_swS h_swW h_silver h_fresh h_z tst h _ _ _ hP hD hS (lv_sub hv [1, 2, 0] rfl)
    · have h := ite_f c_4 h
      refine lv_aload_n hx hb dX11_loose_32 rfl (lv_at hv 0 rfl) ?_
      refine lv_ldc (v := (-1000000003 : Int32)) hx hb hown w_3 dX11_loose_33 ?_
      obtain ⟨⟨r_17, errors_18⟩, hf_19, h⟩ := bd_ex h
      have sb := Sb.same hP hD hS hA
      refine calI (va_runV (As := [.int (-1000000003 : Int32)]) (rest := []) ⟨hx, hb, hml, hown, hts⟩ (c_X11_refused l G D cA xd vd sd nd hd td ed kd _ images errors fewest vspoon vmark vcount vbodies sbits slens snum h_weight h_known h_hour h_swS h_swW h_waS h_spoons h_kind h_mark h_silver h_fresh h_texts h_tape h_tapeCount h_z h_waiting h_waitingCount t_weight t_known t_hour t_swS t_swW t_waS t_spoons t_kind t_mark t_silver t_fresh t_texts t_tape t_tapeCount t_z t_waiting t_waitingCount e_weight e_known e_hour e_swS e_swW e_waS e_spoons e_kind e_mark e_silver e_fresh e_texts e_tape e_tapeCount e_z e_waiting e_waitingCount L tx tst (-1000000003 : Int32) r_17 errors_18 hf_19) (cwV 1 hts gX11_loose_X11_refused rfl rfl rfl (by decide +kernel) ⟨Nat.le_of_ble_eq_true rfl, Nat.le_of_ble_eq_true rfl⟩) (pvV hE hK hS sb (va_recv hK hP (ci := 11) (q0 := 0) rfl rfl)) rfl rfl hv.1 rfl (lv_room (Nat.le_of_ble_eq_true rfl)) dX11_loose_35 ⟨Nat.le_of_ble_eq_true rfl, Nat.le_of_ble_eq_true rfl⟩) hS sb (Jn.same sb) (fun H locs hP hD hS => ?_)
      have hP : va_P D vwCl (wX cA xd vd sd nd hd td ed kd images errors_18 fewest vspoon vmark vcount vbodies sbits slens snum h_weight h_known h_hour h_swS h_swW h_waS h_spoons h_kind h_mark h_silver h_fresh h_texts h_tape h_tapeCount h_z h_waiting h_waitingCount t_weight t_known t_hour t_swS t_swW t_waS t_spoons t_kind t_mark t_silver t_fresh t_texts t_tape t_tapeCount t_z t_waiting t_waitingCount e_weight e_known e_hour e_swS e_swW e_waS e_spoons e_kind e_mark e_silver e_fresh e_texts e_tape e_tapeCount e_z e_waiting e_waitingCount L tx tst) H := hP
      have hD : va_D A (wX cA xd vd sd nd hd td ed kd images errors_18 fewest vspoon vmark vcount vbodies sbits slens snum h_weight h_known h_hour h_swS h_swW h_waS h_spoons h_kind h_mark h_silver h_fresh h_texts h_tape h_tapeCount h_z h_waiting h_waitingCount t_weight t_known t_hour t_swS t_swW t_waS t_spoons t_kind t_mark t_silver t_fresh t_texts t_tape t_tapeCount t_z t_waiting t_waitingCount e_weight e_known e_hour e_swS e_swW e_waS e_spoons e_kind e_mark e_silver e_fresh e_texts e_tape e_tapeCount e_z e_waiting e_waitingCount L tx tst) := hD
      have h := Option.some.inj h
      have ee0 : r_17 = rR := congrArg (fun q => q.1) h
      have ee1 : errors_18 = errorsR := congrArg (fun q => q.2.1) h
      have ee2 : h_known = h_knownR := congrArg (fun q => q.2.2.1) h
      have ee3 : h_hour = h_hourR := congrArg (fun q => q.2.2.2.1) h
      have ee4 : h_swS = h_swSR := congrArg (fun q => q.2.2.2.2.1) h
      have ee5 : h_swW = h_swWR := congrArg (fun q => q.2.2.2.2.2.1) h
      have ee6 : h_silver = h_silverR := congrArg (fun q => q.2.2.2.2.2.2.1) h
      have ee7 : h_fresh = h_freshR := congrArg (fun q => q.2.2.2.2.2.2.2.1) h
      have ee8 : h_z = h_zR := congrArg (fun q => q.2.2.2.2.2.2.2.2.1) h
      have ee9 : tst = tstR := congrArg (fun q => q.2.2.2.2.2.2.2.2.2) h
      subst ee0
      subst ee1
      subst ee2
      subst ee3
      subst ee4
      subst ee5
      subst ee6
      subst ee7
      subst ee8
      subst ee9
      rw [← hQ]
      exact retI hx hb hr hlk hK hP hD hS dX11_loose_38 ⟨Nat.le_of_ble_eq_true rfl, Nat.le_of_ble_eq_true rfl⟩
  · have h := ite_t c_3 h
    refine lv_aload_n hx hb dX11_loose_10 rfl (lv_at hv 0 rfl) ?_
    refine lv_ldc (v := (-1000000001 : Int32)) hx hb hown w_4 dX11_loose_11 ?_
    obtain ⟨⟨r_20, errors_21⟩, hf_22, h⟩ := bd_ex h
    have sb := Sb.same hP hD hS hA
    refine calI (va_runV (As := [.int (-1000000001 : Int32)]) (rest := []) ⟨hx, hb, hml, hown, hts⟩ (c_X11_refused l G D cA xd vd sd nd hd td ed kd _ images errors fewest vspoon vmark vcount vbodies sbits slens snum h_weight h_known h_hour h_swS h_swW h_waS h_spoons h_kind h_mark h_silver h_fresh h_texts h_tape h_tapeCount h_z h_waiting h_waitingCount t_weight t_known t_hour t_swS t_swW t_waS t_spoons t_kind t_mark t_silver t_fresh t_texts t_tape t_tapeCount t_z t_waiting t_waitingCount e_weight e_known e_hour e_swS e_swW e_waS e_spoons e_kind e_mark e_silver e_fresh e_texts e_tape e_tapeCount e_z e_waiting e_waitingCount L tx tst (-1000000001 : Int32) r_20 errors_21 hf_22) (cwV 1 hts gX11_loose_X11_refused rfl rfl rfl (by decide +kernel) ⟨Nat.le_of_ble_eq_true rfl, Nat.le_of_ble_eq_true rfl⟩) (pvV hE hK hS sb (va_recv hK hP (ci := 11) (q0 := 0) rfl rfl)) rfl rfl hv.1 rfl (lv_room (Nat.le_of_ble_eq_true rfl)) dX11_loose_13 ⟨Nat.le_of_ble_eq_true rfl, Nat.le_of_ble_eq_true rfl⟩) hS sb (Jn.same sb) (fun H locs hP hD hS => ?_)
    have hP : va_P D vwCl (wX cA xd vd sd nd hd td ed kd images errors_21 fewest vspoon vmark vcount vbodies sbits slens snum h_weight h_known h_hour h_swS h_swW h_waS h_spoons h_kind h_mark h_silver h_fresh h_texts h_tape h_tapeCount h_z h_waiting h_waitingCount t_weight t_known t_hour t_swS t_swW t_waS t_spoons t_kind t_mark t_silver t_fresh t_texts t_tape t_tapeCount t_z t_waiting t_waitingCount e_weight e_known e_hour e_swS e_swW e_waS e_spoons e_kind e_mark e_silver e_fresh e_texts e_tape e_tapeCount e_z e_waiting e_waitingCount L tx tst) H := hP
    have hD : va_D A (wX cA xd vd sd nd hd td ed kd images errors_21 fewest vspoon vmark vcount vbodies sbits slens snum h_weight h_known h_hour h_swS h_swW h_waS h_spoons h_kind h_mark h_silver h_fresh h_texts h_tape h_tapeCount h_z h_waiting h_waitingCount t_weight t_known t_hour t_swS t_swW t_waS t_spoons t_kind t_mark t_silver t_fresh t_texts t_tape t_tapeCount t_z t_waiting t_waitingCount e_weight e_known e_hour e_swS e_swW e_waS e_spoons e_kind e_mark e_silver e_fresh e_texts e_tape e_tapeCount e_z e_waiting e_waitingCount L tx tst) := hD
    have h := Option.some.inj h
    have ee0 : r_20 = rR := congrArg (fun q => q.1) h
    have ee1 : errors_21 = errorsR := congrArg (fun q => q.2.1) h
    have ee2 : h_known = h_knownR := congrArg (fun q => q.2.2.1) h
    have ee3 : h_hour = h_hourR := congrArg (fun q => q.2.2.2.1) h
    have ee4 : h_swS = h_swSR := congrArg (fun q => q.2.2.2.2.1) h
    have ee5 : h_swW = h_swWR := congrArg (fun q => q.2.2.2.2.2.1) h
    have ee6 : h_silver = h_silverR := congrArg (fun q => q.2.2.2.2.2.2.1) h
    have ee7 : h_fresh = h_freshR := congrArg (fun q => q.2.2.2.2.2.2.2.1) h
    have ee8 : h_z = h_zR := congrArg (fun q => q.2.2.2.2.2.2.2.2.1) h
    have ee9 : tst = tstR := congrArg (fun q => q.2.2.2.2.2.2.2.2.2) h
    subst ee0
    subst ee1
    subst ee2
    subst ee3
    subst ee4
    subst ee5
    subst ee6
    subst ee7
    subst ee8
    subst ee9
    rw [← hQ]
    exact retI hx hb hr hlk hK hP hD hS dX11_loose_16 ⟨Nat.le_of_ble_eq_true rfl, Nat.le_of_ble_eq_true rfl⟩

