def fX11_seed (v : Int32) (h_z : Int32) : Option (Int32 × Int32) :=
  some (h_z, v)
set_option maxHeartbeats 4000000 in
set_option maxRecDepth 100000 in
theorem c_X11_seed (l : Launch) (G : Nat → Nat) (D : va_G) (cA : Nat → ClassId) (xd : Nat → Nat) (vd : Nat → Nat) (sd : Nat → Nat) (nd : Nat → Nat) (hd : Nat → Nat) (td : Nat → Nat) (ed : Nat → Nat) (kd : Nat → Nat) (sz : Nat) (images : Int32) (errors : Nat → Int32) (fewest : Nat → Int32) (vspoon : Int32) (vmark : Int32) (vcount : Int32) (vbodies : Nat → Int32) (sbits : Nat → Int32) (slens : Nat → Int32) (snum : Nat → Nat → Int32) (h_weight : Nat → Int32) (h_known : Int32) (h_hour : Int32) (h_swS : Nat → Int32) (h_swW : Nat → Int32) (h_waS : Nat → Int32) (h_spoons : Int32) (h_kind : Nat → Int32) (h_mark : Nat → Int32) (h_silver : Nat → Int32) (h_fresh : Nat → Int64) (h_texts : Nat → Option Nat) (h_tape : Nat → Int32) (h_tapeCount : Int32) (h_z : Int32) (h_waiting : Nat → Int32) (h_waitingCount : Int32) (t_weight : Nat → Int32) (t_known : Int32) (t_hour : Int32) (t_swS : Nat → Int32) (t_swW : Nat → Int32) (t_waS : Nat → Int32) (t_spoons : Int32) (t_kind : Nat → Int32) (t_mark : Nat → Int32) (t_silver : Nat → Int32) (t_fresh : Nat → Int64) (t_texts : Nat → Option Nat) (t_tape : Nat → Int32) (t_tapeCount : Int32) (t_z : Int32) (t_waiting : Nat → Int32) (t_waitingCount : Int32) (e_weight : Nat → Int32) (e_known : Int32) (e_hour : Int32) (e_swS : Nat → Int32) (e_swW : Nat → Int32) (e_waS : Nat → Int32) (e_spoons : Int32) (e_kind : Nat → Int32) (e_mark : Nat → Int32) (e_silver : Nat → Int32) (e_fresh : Nat → Int64) (e_texts : Nat → Option Nat) (e_tape : Nat → Int32) (e_tapeCount : Int32) (e_z : Int32) (e_waiting : Nat → Int32) (e_waitingCount : Int32) (L : List Nat) (tx : Nat → TXc) (tst : Nat → Nat → Int32) (v : Int32) (rR : Int32) (h_zR : Int32) (h : fX11_seed v h_z = some (rR, h_zR)) : Met l yX11_seed wsX11_seed ({ frames := 0, cells := 0, slots := 0, locals := 0 } : Room) (PW G D (tyC cA) sz (wX cA xd vd sd nd hd td ed kd images errors fewest vspoon vmark vcount vbodies sbits slens snum h_weight h_known h_hour h_swS h_swW h_waS h_spoons h_kind h_mark h_silver h_fresh h_texts h_tape h_tapeCount h_z h_waiting h_waitingCount t_weight t_known t_hour t_swS t_swW t_waS t_spoons t_kind t_mark t_silver t_fresh t_texts t_tape t_tapeCount t_z t_waiting t_waitingCount e_weight e_known e_hour e_swS e_swW e_waS e_spoons e_kind e_mark e_silver e_fresh e_texts e_tape e_tapeCount e_z e_waiting e_waitingCount L tx tst) [.ref (xd 0), .int v]) (QI D (tyC cA) (va_A (wX cA xd vd sd nd hd td ed kd images errors fewest vspoon vmark vcount vbodies sbits slens snum h_weight h_known h_hour h_swS h_swW h_waS h_spoons h_kind h_mark h_silver h_fresh h_texts h_tape h_tapeCount h_z h_waiting h_waitingCount t_weight t_known t_hour t_swS t_swW t_waS t_spoons t_kind t_mark t_silver t_fresh t_texts t_tape t_tapeCount t_z t_waiting t_waitingCount e_weight e_known e_hour e_swS e_swW e_waS e_spoons e_kind e_mark e_silver e_fresh e_texts e_tape e_tapeCount e_z e_waiting e_waitingCount L tx tst) sz) rR (wX cA xd vd sd nd hd td ed kd images errors fewest vspoon vmark vcount vbodies sbits slens snum h_weight h_known h_hour h_swS h_swW h_waS h_spoons h_kind h_mark h_silver h_fresh h_texts h_tape h_tapeCount h_zR h_waiting h_waitingCount t_weight t_known t_hour t_swS t_swW t_waS t_spoons t_kind t_mark t_silver t_fresh t_texts t_tape t_tapeCount t_z t_waiting t_waitingCount e_weight e_known e_hour e_swS e_swW e_waS e_spoons e_kind e_mark e_silver e_fresh e_texts e_tape e_tapeCount e_z e_waiting e_waitingCount L tx tst)) 0 0 (va_A (wX cA xd vd sd nd hd td ed kd images errors fewest vspoon vmark vcount vbodies sbits slens snum h_weight h_known h_hour h_swS h_swW h_waS h_spoons h_kind h_mark h_silver h_fresh h_texts h_tape h_tapeCount h_z h_waiting h_waitingCount t_weight t_known t_hour t_swS t_swW t_waS t_spoons t_kind t_mark t_silver t_fresh t_texts t_tape t_tapeCount t_z t_waiting t_waitingCount e_weight e_known e_hour e_swS e_swW e_waS e_spoons e_kind e_mark e_silver e_fresh e_texts e_tape e_tapeCount e_z e_waiting e_waitingCount L tx tst) sz) := by
  refine ent (cc := cX11_seed) (maxL := 3) (ret := (some .int)) (fun A => QI D (tyC cA) A rR (wX cA xd vd sd nd hd td ed kd images errors fewest vspoon vmark vcount vbodies sbits slens snum h_weight h_known h_hour h_swS h_swW h_waS h_spoons h_kind h_mark h_silver h_fresh h_texts h_tape h_tapeCount h_zR h_waiting h_waitingCount t_weight t_known t_hour t_swS t_swW t_waS t_spoons t_kind t_mark t_silver t_fresh t_texts t_tape t_tapeCount t_z t_waiting t_waitingCount e_weight e_known e_hour e_swS e_swW e_waS e_spoons e_kind e_mark e_silver e_fresh e_texts e_tape e_tapeCount e_z e_waiting e_waitingCount L tx tst)) (by decide +kernel) rfl (Nat.le_of_ble_eq_true rfl) ?_
  intro p e s m args below meth c A ls H hx hb hml hr hlk hts hown hA hK hE hP hD hS hv hmm
  have hv : lv_has ls 3 [(0, .ref (xd 0)), (1, .int v)] := hv
  have in_3 : ∀ w ∈ u_ws RX3 TX3 18, w ∈ wsX11_seed := fun _ h => List.mem_cons_of_mem _ (List.mem_append_right _ h)
  have in_11 : ∀ w ∈ u_ws RX11 TX11 9, w ∈ wsX11_seed := fun _ h => List.mem_cons_of_mem _ (List.mem_append_left _ (List.mem_append_right _ h))
  have w_0 := hts (.fieldLink RX11 39 "SpoonsLast" "house" "LSpoonsLast$House;") (List.mem_of_getElem? (i := 1) rfl)
  have w_1 := hts (.fieldLink RX11 243 "SpoonsLast$House" "z" "I") (List.mem_of_getElem? (i := 2) rfl)
  generalize hQ : MQ below _ args s 0 0 A = Q
  have hP : va_P D vwCl (wX cA xd vd sd nd hd td ed kd images errors fewest vspoon vmark vcount vbodies sbits slens snum h_weight h_known h_hour h_swS h_swW h_waS h_spoons h_kind h_mark h_silver h_fresh h_texts h_tape h_tapeCount h_z h_waiting h_waitingCount t_weight t_known t_hour t_swS t_swW t_waS t_spoons t_kind t_mark t_silver t_fresh t_texts t_tape t_tapeCount t_z t_waiting t_waitingCount e_weight e_known e_hour e_swS e_swW e_waS e_spoons e_kind e_mark e_silver e_fresh e_texts e_tape e_tapeCount e_z e_waiting e_waitingCount L tx tst) H := hP
  unfold fX11_seed at h
  refine lv_aload_n hx hb dX11_seed_0 rfl (lv_at hv 0 rfl) ?_
  refine va_get (D := D) (ci := 11) (v := .ref (hd 0)) (C := RX11) (T := TX11) (N := 9) hx hb hts in_11 hown hK hP 0 rfl rfl 0 (by decide) w_0 (fun _ h9 => h9) rfl dX11_seed_1 ?_
  refine va_get (D := D) (ci := 3) (v := .int h_z) (C := RX3) (T := TX3) (N := 18) hx hb hts in_3 hown hK hP 14 rfl rfl 15 (by decide) w_1 (fun _ h9 => h9) rfl dX11_seed_4 ?_
  refine lv_istore_n (lv' := [(2, .int h_z), (0, .ref (xd 0)), (1, .int v)]) hx hb dX11_seed_7 rfl hv (by decide) rfl (fun ls hv => ?_)
  refine lv_aload_n hx hb dX11_seed_8 rfl (lv_at hv 1 rfl) ?_
  refine va_get (D := D) (ci := 11) (v := .ref (hd 0)) (C := RX11) (T := TX11) (N := 9) hx hb hts in_11 hown hK hP 0 rfl rfl 0 (by decide) w_0 (fun _ h9 => h9) rfl dX11_seed_9 ?_
  refine lv_iload_n hx hb dX11_seed_12 rfl (lv_at hv 2 rfl) ?_
  refine va_put (D := D) (ci := 3) (v := .int v) (ty := .int) (C := RX3) (T := TX3) (N := 18) hx hb hts in_3 tyX3 tyX3_ok nmX3 hown hK hP hD hS 14 rfl rfl 15 (by decide) w_1 (fun _ h9 => h9) rfl (by decide +kernel) rfl rfl (Nat.le_of_ble_eq_true rfl) dX11_seed_13 (fun H locs hP hD hS => ?_)
  have hP : va_P D vwCl (wX cA xd vd sd nd hd td ed kd images errors fewest vspoon vmark vcount vbodies sbits slens snum h_weight h_known h_hour h_swS h_swW h_waS h_spoons h_kind h_mark h_silver h_fresh h_texts h_tape h_tapeCount v h_waiting h_waitingCount t_weight t_known t_hour t_swS t_swW t_waS t_spoons t_kind t_mark t_silver t_fresh t_texts t_tape t_tapeCount t_z t_waiting t_waitingCount e_weight e_known e_hour e_swS e_swW e_waS e_spoons e_kind e_mark e_silver e_fresh e_texts e_tape e_tapeCount e_z e_waiting e_waitingCount L tx tst) H := hP
  have hD : va_D A (wX cA xd vd sd nd hd td ed kd images errors fewest vspoon vmark vcount vbodies sbits slens snum h_weight h_known h_hour h_swS h_swW h_waS h_spoons h_kind h_mark h_silver h_fresh h_texts h_tape h_tapeCount v h_waiting h_waitingCount t_weight t_known t_hour t_swS t_swW t_waS t_spoons t_kind t_mark t_silver t_fresh t_texts t_tape t_tapeCount t_z t_waiting t_waitingCount e_weight e_known e_hour e_swS e_swW e_waS e_spoons e_kind e_mark e_silver e_fresh e_texts e_tape e_tapeCount e_z e_waiting e_waitingCount L tx tst) := hD
  refine lv_iload_n hx hb dX11_seed_16 rfl (lv_at hv 0 rfl) ?_
  have h := Option.some.inj h
  have ee0 : h_z = rR := congrArg (fun q => q.1) h
  have ee1 : v = h_zR := congrArg (fun q => q.2) h
  subst ee0
  subst ee1
  rw [← hQ]
  exact retI hx hb hr hlk hK hP hD hS dX11_seed_17 ⟨Nat.le_of_ble_eq_true rfl, Nat.le_of_ble_eq_true rfl⟩

def fX11_voice (a : Int32) (b : Int32) (k : Int32) (errors : Nat → Int32) (vspoon : Int32) (vmark : Int32) (vcount : Int32) (vbodies : Nat → Int32) (h_spoons : Int32) (h_kind : Nat → Int32) (h_mark : Nat → Int32) : Option (Int32 × (Nat → Int32) × Int32 × Int32 × Int32 × (Nat → Int32)) :=
  bd (fX11_isSpoon a h_spoons) fun r_1 => (if r_1 = 0 then bd (fX11_refused (-1000000001 : Int32) errors) fun (r_4, errors_5) => some (r_4, errors_5, vspoon, vmark, vcount, vbodies) else bd (fX11_within b (0 : Int32) (3 : Int32)) fun r_7 => (if r_7 = 0 then bd (fX11_refused (-1000000001 : Int32) errors) fun (r_36, errors_37) => some (r_36, errors_37, vspoon, vmark, vcount, vbodies) else ckI a 8 (bd (fX10_of a (h_mark (a).toNatClampNeg) vspoon vmark vcount) fun (vspoon_11, vmark_12, vcount_13) => ckI a 8 (ckI (h_kind (a).toNatClampNeg) 7 ((if b = (0 : Int32) then bd (dX_shines ((h_kind (a).toNatClampNeg)).toNatClampNeg k vspoon_11 vmark_12 vcount_13 vbodies) fun (r_18, vcount_19, vbodies_20) => some (r_18, errors, vspoon_11, vmark_12, vcount_19, vbodies_20) else (if b = (1 : Int32) then bd (dX_dulls ((h_kind (a).toNatClampNeg)).toNatClampNeg k vspoon_11 vmark_12 vcount_13 vbodies) fun (r_23, vcount_24, vbodies_25) => some (r_23, errors, vspoon_11, vmark_12, vcount_24, vbodies_25) else (if b = (2 : Int32) then bd (dX_holds ((h_kind (a).toNatClampNeg)).toNatClampNeg k vspoon_11 vmark_12 vcount_13 vbodies) fun (r_28, vcount_29, vbodies_30) => some (r_28, errors, vspoon_11, vmark_12, vcount_29, vbodies_30) else bd (dX_tells ((h_kind (a).toNatClampNeg)).toNatClampNeg k vspoon_11 vmark_12 vcount_13 vbodies) fun (r_32, vcount_33, vbodies_34) => some (r_32, errors, vspoon_11, vmark_12, vcount_33, vbodies_34)))))))))
set_option maxHeartbeats 4000000 in
set_option maxRecDepth 100000 in
theorem c_X11_voice (l : Launch) (G : Nat → Nat) (D : va_G) (cA : Nat → ClassId) (xd : Nat → Nat) (vd : Nat → Nat) (sd : Nat → Nat) (nd : Nat → Nat) (hd : Nat → Nat) (td : Nat → Nat) (ed : Nat → Nat) (kd : Nat → Nat) (sz : Nat) (images : Int32) (errors : Nat → Int32) (fewest : Nat → Int32) (vspoon : Int32) (vmark : Int32) (vcount : Int32) (vbodies : Nat → Int32) (sbits : Nat → Int32) (slens : Nat → Int32) (snum : Nat → Nat → Int32) (h_weight : Nat → Int32) (h_known : Int32) (h_hour : Int32) (h_swS : Nat → Int32) (h_swW : Nat → Int32) (h_waS : Nat → Int32) (h_spoons : Int32) (h_kind : Nat → Int32) (h_mark : Nat → Int32) (h_silver : Nat → Int32) (h_fresh : Nat → Int64) (h_texts : Nat → Option Nat) (h_tape : Nat → Int32) (h_tapeCount : Int32) (h_z : Int32) (h_waiting : Nat → Int32) (h_waitingCount : Int32) (t_weight : Nat → Int32) (t_known : Int32) (t_hour : Int32) (t_swS : Nat → Int32) (t_swW : Nat → Int32) (t_waS : Nat → Int32) (t_spoons : Int32) (t_kind : Nat → Int32) (t_mark : Nat → Int32) (t_silver : Nat → Int32) (t_fresh : Nat → Int64) (t_texts : Nat → Option Nat) (t_tape : Nat → Int32) (t_tapeCount : Int32) (t_z : Int32) (t_waiting : Nat → Int32) (t_waitingCount : Int32) (e_weight : Nat → Int32) (e_known : Int32) (e_hour : Int32) (e_swS : Nat → Int32) (e_swW : Nat → Int32) (e_waS : Nat → Int32) (e_spoons : Int32) (e_kind : Nat → Int32) (e_mark : Nat → Int32) (e_silver : Nat → Int32) (e_fresh : Nat → Int64) (e_texts : Nat → Option Nat) (e_tape : Nat → Int32) (e_tapeCount : Int32) (e_z : Int32) (e_waiting : Nat → Int32) (e_waitingCount : Int32) (L : List Nat) (tx : Nat → TXc) (tst : Nat → Nat → Int32) (a : Int32) (b : Int32) (k : Int32) (rR : Int32) (errorsR : Nat → Int32) (vspoonR : Int32) (vmarkR : Int32) (vcountR : Int32) (vbodiesR : Nat → Int32) (h : fX11_voice a b k errors vspoon vmark vcount vbodies h_spoons h_kind h_mark = some (rR, errorsR, vspoonR, vmarkR, vcountR, vbodiesR)) : Met l yX11_voice wsX11_voice ({ frames := 6, cells := 0, slots := 0, locals := 131 } : Room) (PW G D (tyC cA) sz (wX cA xd vd sd nd hd td ed kd images errors fewest vspoon vmark vcount vbodies sbits slens snum h_weight h_known h_hour h_swS h_swW h_waS h_spoons h_kind h_mark h_silver h_fresh h_texts h_tape h_tapeCount h_z h_waiting h_waitingCount t_weight t_known t_hour t_swS t_swW t_waS t_spoons t_kind t_mark t_silver t_fresh t_texts t_tape t_tapeCount t_z t_waiting t_waitingCount e_weight e_known e_hour e_swS e_swW e_waS e_spoons e_kind e_mark e_silver e_fresh e_texts e_tape e_tapeCount e_z e_waiting e_waitingCount L tx tst) [.ref (xd 0), .int a, .int b, .int k]) (QI D (tyC cA) (va_A (wX cA xd vd sd nd hd td ed kd images errors fewest vspoon vmark vcount vbodies sbits slens snum h_weight h_known h_hour h_swS h_swW h_waS h_spoons h_kind h_mark h_silver h_fresh h_texts h_tape h_tapeCount h_z h_waiting h_waitingCount t_weight t_known t_hour t_swS t_swW t_waS t_spoons t_kind t_mark t_silver t_fresh t_texts t_tape t_tapeCount t_z t_waiting t_waitingCount e_weight e_known e_hour e_swS e_swW e_waS e_spoons e_kind e_mark e_silver e_fresh e_texts e_tape e_tapeCount e_z e_waiting e_waitingCount L tx tst) sz) rR (wX cA xd vd sd nd hd td ed kd images errorsR fewest vspoonR vmarkR vcountR vbodiesR sbits slens snum h_weight h_known h_hour h_swS h_swW h_waS h_spoons h_kind h_mark h_silver h_fresh h_texts h_tape h_tapeCount h_z h_waiting h_waitingCount t_weight t_known t_hour t_swS t_swW t_waS t_spoons t_kind t_mark t_silver t_fresh t_texts t_tape t_tapeCount t_z t_waiting t_waitingCount e_weight e_known e_hour e_swS e_swW e_waS e_spoons e_kind e_mark e_silver e_fresh e_texts e_tape e_tapeCount e_z e_waiting e_waitingCount L tx tst)) 0 0 (va_A (wX cA xd vd sd nd hd td ed kd images errors fewest vspoon vmark vcount vbodies sbits slens snum h_weight h_known h_hour h_swS h_swW h_waS h_spoons h_kind h_mark h_silver h_fresh h_texts h_tape h_tapeCount h_z h_waiting h_waitingCount t_weight t_known t_hour t_swS t_swW t_waS t_spoons t_kind t_mark t_silver t_fresh t_texts t_tape t_tapeCount t_z t_waiting t_waitingCount e_weight e_known e_hour e_swS e_swW e_waS e_spoons e_kind e_mark e_silver e_fresh e_texts e_tape e_tapeCount e_z e_waiting e_waitingCount L tx tst) sz) := by
  refine ent (cc := cX11_voice) (maxL := 5) (ret := (some .int)) (fun A => QI D (tyC cA) A rR (wX cA xd vd sd nd hd td ed kd images errorsR fewest vspoonR vmarkR vcountR vbodiesR sbits slens snum h_weight h_known h_hour h_swS h_swW h_waS h_spoons h_kind h_mark h_silver h_fresh h_texts h_tape h_tapeCount h_z h_waiting h_waitingCount t_weight t_known t_hour t_swS t_swW t_waS t_spoons t_kind t_mark t_silver t_fresh t_texts t_tape t_tapeCount t_z t_waiting t_waitingCount e_weight e_known e_hour e_swS e_swW e_waS e_spoons e_kind e_mark e_silver e_fresh e_texts e_tape e_tapeCount e_z e_waiting e_waitingCount L tx tst)) (by decide +kernel) rfl (Nat.le_of_ble_eq_true rfl) ?_
  intro p e s m args below meth c A ls H hx hb hml hr hlk hts hown hA hK hE hP hD hS hv hmm
  have hv : lv_has ls 5 [(0, .ref (xd 0)), (1, .int a), (2, .int b), (3, .int k)] := hv
  have in_3 : ∀ w ∈ u_ws RX3 TX3 18, w ∈ wsX11_voice := fun _ h => List.mem_cons_of_mem _ (List.mem_append_left _ (List.mem_append_right _ h))
  have in_11 : ∀ w ∈ u_ws RX11 TX11 9, w ∈ wsX11_voice := fun _ h => List.mem_cons_of_mem _ (List.mem_append_left _ (List.mem_append_left _ (List.mem_append_right _ h)))
  have w_0 := hts (.constant RX11 78 (-1000000001)) (List.mem_of_getElem? (i := 1) rfl)
  have w_1 := hts (.fieldLink RX11 52 "SpoonsLast" "voice" "LSpoonsLast$Voice;") (List.mem_of_getElem? (i := 2) rfl)
  have w_2 := hts (.fieldLink RX11 39 "SpoonsLast" "house" "LSpoonsLast$House;") (List.mem_of_getElem? (i := 3) rfl)
  have w_3 := hts (.fieldLink RX11 118 "SpoonsLast$House" "mark" "[I") (List.mem_of_getElem? (i := 4) rfl)
  have w_4 := hts (.fieldLink RX11 30 "SpoonsLast" "kinds" "[LSpoonsLast$Spoon;") (List.mem_of_getElem? (i := 5) rfl)
  have w_5 := hts (.fieldLink RX11 115 "SpoonsLast$House" "kind" "[I") (List.mem_of_getElem? (i := 6) rfl)
  generalize hQ : MQ below _ args s 0 0 A = Q
  have hP : va_P D vwCl (wX cA xd vd sd nd hd td ed kd images errors fewest vspoon vmark vcount vbodies sbits slens snum h_weight h_known h_hour h_swS h_swW h_waS h_spoons h_kind h_mark h_silver h_fresh h_texts h_tape h_tapeCount h_z h_waiting h_waitingCount t_weight t_known t_hour t_swS t_swW t_waS t_spoons t_kind t_mark t_silver t_fresh t_texts t_tape t_tapeCount t_z t_waiting t_waitingCount e_weight e_known e_hour e_swS e_swW e_waS e_spoons e_kind e_mark e_silver e_fresh e_texts e_tape e_tapeCount e_z e_waiting e_waitingCount L tx tst) H := hP
  unfold fX11_voice at h
  refine lv_aload_n hx hb dX11_voice_0 rfl (lv_at hv 0 rfl) ?_
  refine lv_iload_n hx hb dX11_voice_1 rfl (lv_at hv 1 rfl) ?_
  obtain ⟨r_1, hf_2, h⟩ := bd_ex h
  have sb := Sb.same hP hD hS hA
  refine calI (va_runV (As := [.int a]) (rest := []) ⟨hx, hb, hml, hown, hts⟩ (c_X11_isSpoon l G D cA xd vd sd nd hd td ed kd _ images errors fewest vspoon vmark vcount vbodies sbits slens snum h_weight h_known h_hour h_swS h_swW h_waS h_spoons h_kind h_mark h_silver h_fresh h_texts h_tape h_tapeCount h_z h_waiting h_waitingCount t_weight t_known t_hour t_swS t_swW t_waS t_spoons t_kind t_mark t_silver t_fresh t_texts t_tape t_tapeCount t_z t_waiting t_waitingCount e_weight e_known e_hour e_swS e_swW e_waS e_spoons e_kind e_mark e_silver e_fresh e_texts e_tape e_tapeCount e_z e_waiting e_waitingCount L tx tst a r_1 hf_2) (cwV 1 hts gX11_voice_X11_isSpoon rfl rfl rfl (by decide +kernel) ⟨Nat.le_of_ble_eq_true rfl, Nat.le_of_ble_eq_true rfl⟩) (pvV hE hK hS sb (va_recv hK hP (ci := 11) (q0 := 0) rfl rfl)) rfl rfl hv.1 rfl (lv_room (Nat.le_of_ble_eq_true rfl)) dX11_voice_2 ⟨Nat.le_of_ble_eq_true rfl, Nat.le_of_ble_eq_true rfl⟩) hS sb (Jn.same sb) (fun H locs hP hD hS => ?_)
  have hP : va_P D vwCl (wX cA xd vd sd nd hd td ed kd images errors fewest vspoon vmark vcount vbodies sbits slens snum h_weight h_known h_hour h_swS h_swW h_waS h_spoons h_kind h_mark h_silver h_fresh h_texts h_tape h_tapeCount h_z h_waiting h_waitingCount t_weight t_known t_hour t_swS t_swW t_waS t_spoons t_kind t_mark t_silver t_fresh t_texts t_tape t_tapeCount t_z t_waiting t_waitingCount e_weight e_known e_hour e_swS e_swW e_waS e_spoons e_kind e_mark e_silver e_fresh e_texts e_tape e_tapeCount e_z e_waiting e_waitingCount L tx tst) H := hP
  have hD : va_D A (wX cA xd vd sd nd hd td ed kd images errors fewest vspoon vmark vcount vbodies sbits slens snum h_weight h_known h_hour h_swS h_swW h_waS h_spoons h_kind h_mark h_silver h_fresh h_texts h_tape h_tapeCount h_z h_waiting h_waitingCount t_weight t_known t_hour t_swS t_swW t_waS t_spoons t_kind t_mark t_silver t_fresh t_texts t_tape t_tapeCount t_z t_waiting t_waitingCount e_weight e_known e_hour e_swS e_swW e_waS e_spoons e_kind e_mark e_silver e_fresh e_texts e_tape e_tapeCount e_z e_waiting e_waitingCount L tx tst) := hD
  refine lv_if_eq (tgt := 17) hx hb dX11_voice_5 (by decide) (fun c_3 => ?_) (fun c_3 => ?_)
  · have h := ite_t c_3 h
    refine lv_aload_n hx hb dX11_voice_17 rfl (lv_at hv 0 rfl) ?_
    refine lv_ldc (v := (-1000000001 : Int32)) hx hb hown w_0 dX11_voice_18 ?_
    obtain ⟨⟨r_4, errors_5⟩, hf_6, h⟩ := bd_ex h
    have sb := Sb.same hP hD hS hA
    refine calI (va_runV (As := [.int (-1000000001 : Int32)]) (rest := []) ⟨hx, hb, hml, hown, hts⟩ (c_X11_refused l G D cA xd vd sd nd hd td ed kd _ images errors fewest vspoon vmark vcount vbodies sbits slens snum h_weight h_known h_hour h_swS h_swW h_waS h_spoons h_kind h_mark h_silver h_fresh h_texts h_tape h_tapeCount h_z h_waiting h_waitingCount t_weight t_known t_hour t_swS t_swW t_waS t_spoons t_kind t_mark t_silver t_fresh t_texts t_tape t_tapeCount t_z t_waiting t_waitingCount e_weight e_known e_hour e_swS e_swW e_waS e_spoons e_kind e_mark e_silver e_fresh e_texts e_tape e_tapeCount e_z e_waiting e_waitingCount L tx tst (-1000000001 : Int32) r_4 errors_5 hf_6) (cwV 1 hts gX11_voice_X11_refused rfl rfl rfl (by decide +kernel) ⟨Nat.le_of_ble_eq_true rfl, Nat.le_of_ble_eq_true rfl⟩) (pvV hE hK hS sb (va_recv hK hP (ci := 11) (q0 := 0) rfl rfl)) rfl rfl hv.1 rfl (lv_room (Nat.le_of_ble_eq_true rfl)) dX11_voice_20 ⟨Nat.le_of_ble_eq_true rfl, Nat.le_of_ble_eq_true rfl⟩) hS sb (Jn.same sb) (fun H locs hP hD hS => ?_)
    have hP : va_P D vwCl (wX cA xd vd sd nd hd td ed kd images errors_5 fewest vspoon vmark vcount vbodies sbits slens snum h_weight h_known h_hour h_swS h_swW h_waS h_spoons h_kind h_mark h_silver h_fresh h_texts h_tape h_tapeCount h_z h_waiting h_waitingCount t_weight t_known t_hour t_swS t_swW t_waS t_spoons t_kind t_mark t_silver t_fresh t_texts t_tape t_tapeCount t_z t_waiting t_waitingCount e_weight e_known e_hour e_swS e_swW e_waS e_spoons e_kind e_mark e_silver e_fresh e_texts e_tape e_tapeCount e_z e_waiting e_waitingCount L tx tst) H := hP
    have hD : va_D A (wX cA xd vd sd nd hd td ed kd images errors_5 fewest vspoon vmark vcount vbodies sbits slens snum h_weight h_known h_hour h_swS h_swW h_waS h_spoons h_kind h_mark h_silver h_fresh h_texts h_tape h_tapeCount h_z h_waiting h_waitingCount t_weight t_known t_hour t_swS t_swW t_waS t_spoons t_kind t_mark t_silver t_fresh t_texts t_tape t_tapeCount t_z t_waiting t_waitingCount e_weight e_known e_hour e_swS e_swW e_waS e_spoons e_kind e_mark e_silver e_fresh e_texts e_tape e_tapeCount e_z e_waiting e_waitingCount L tx tst) := hD
    have h := Option.some.inj h
    have ee0 : r_4 = rR := congrArg (fun q => q.1) h
    have ee1 : errors_5 = errorsR := congrArg (fun q => q.2.1) h
    have ee2 : vspoon = vspoonR := congrArg (fun q => q.2.2.1) h
    have ee3 : vmark = vmarkR := congrArg (fun q => q.2.2.2.1) h
    have ee4 : vcount = vcountR := congrArg (fun q => q.2.2.2.2.1) h
    have ee5 : vbodies = vbodiesR := congrArg (fun q => q.2.2.2.2.2) h
    subst ee0
    subst ee1
    subst ee2
    subst ee3
    subst ee4
    subst ee5
    rw [← hQ]
    exact retI hx hb hr hlk hK hP hD hS dX11_voice_23 ⟨Nat.le_of_ble_eq_true rfl, Nat.le_of_ble_eq_true rfl⟩
  · have h := ite_f c_3 h
    refine lv_iload_n hx hb dX11_voice_8 rfl (lv_at hv 2 rfl) ?_
    refine lv_iconst (v := (0 : Int32)) hx hb dX11_voice_9 (by decide) ?_
    refine lv_iconst (v := (3 : Int32)) hx hb dX11_voice_10 (by decide) ?_
    obtain ⟨r_7, hf_8, h⟩ := bd_ex h
    have sb := Sb.nil hP hD hS hA
    refine calI (va_runS (As := [.int b, .int (0 : Int32), .int (3 : Int32)]) (rest := []) ⟨hx, hb, hml, hown, hts⟩ (c_X11_within l G D cA  _ b (0 : Int32) (3 : Int32) r_7 hf_8) (va_cwS 3 hts gX11_voice_X11_within rfl rfl rfl (by decide +kernel) ⟨Nat.le_of_ble_eq_true rfl, Nat.le_of_ble_eq_true rfl⟩) (pvS hE hK hS sb) rfl rfl hv.1 rfl (lv_room (Nat.le_of_ble_eq_true rfl)) dX11_voice_11 ⟨Nat.le_of_ble_eq_true rfl, Nat.le_of_ble_eq_true rfl⟩) hS sb (Jn.nil hP hD) (fun H locs hP hD hS => ?_)
    have hP : va_P D vwCl (wX cA xd vd sd nd hd td ed kd images errors fewest vspoon vmark vcount vbodies sbits slens snum h_weight h_known h_hour h_swS h_swW h_waS h_spoons h_kind h_mark h_silver h_fresh h_texts h_tape h_tapeCount h_z h_waiting h_waitingCount t_weight t_known t_hour t_swS t_swW t_waS t_spoons t_kind t_mark t_silver t_fresh t_texts t_tape t_tapeCount t_z t_waiting t_waitingCount e_weight e_known e_hour e_swS e_swW e_waS e_spoons e_kind e_mark e_silver e_fresh e_texts e_tape e_tapeCount e_z e_waiting e_waitingCount L tx tst) H := hP
    have hD : va_D A (wX cA xd vd sd nd hd td ed kd images errors fewest vspoon vmark vcount vbodies sbits slens snum h_weight h_known h_hour h_swS h_swW h_waS h_spoons h_kind h_mark h_silver h_fresh h_texts h_tape h_tapeCount h_z h_waiting h_waitingCount t_weight t_known t_hour t_swS t_swW t_waS t_spoons t_kind t_mark t_silver t_fresh t_texts t_tape t_tapeCount t_z t_waiting t_waitingCount e_weight e_known e_hour e_swS e_swW e_waS e_spoons e_kind e_mark e_silver e_fresh e_texts e_tape e_tapeCount e_z e_waiting e_waitingCount L tx tst) := hD
    refine lv_if_ne (tgt := 24) hx hb dX11_voice_14 (by decide) (fun c_9 => ?_) (fun c_9 => ?_)
    · have h := ite_f c_9 h
      refine lv_aload_n hx hb dX11_voice_24 rfl (lv_at hv 0 rfl) ?_
      refine va_get (D := D) (ci := 11) (v := .ref (vd 0)) (C := RX11) (T := TX11) (N := 9) hx hb hts in_11 hown hK hP 0 rfl rfl 5 (by decide) w_1 (fun _ h9 => h9) rfl dX11_voice_25 ?_
      refine lv_iload_n hx hb dX11_voice_28 rfl (lv_at hv 1 rfl) ?_
      refine lv_aload_n hx hb dX11_voice_29 rfl (lv_at hv 0 rfl) ?_
      refine va_get (D := D) (ci := 11) (v := .ref (hd 0)) (C := RX11) (T := TX11) (N := 9) hx hb hts in_11 hown hK hP 0 rfl rfl 0 (by decide) w_2 (fun _ h9 => h9) rfl dX11_voice_30 ?_
      refine va_get (D := D) (ci := 3) (v := .ref (hd 10)) (C := RX3) (T := TX3) (N := 18) hx hb hts in_3 hown hK hP 14 rfl rfl 9 (by decide) w_3 (fun _ h9 => h9) rfl dX11_voice_33 ?_
      refine lv_iload_n hx hb dX11_voice_36 rfl (lv_at hv 1 rfl) ?_
      obtain ⟨c_10, h⟩ := ckI_ex h
      refine va_iald (D := D) hx hb hK hP 20 0 rfl rfl c_10 dX11_voice_37 ?_
      obtain ⟨⟨vspoon_11, vmark_12, vcount_13⟩, hf_14, h⟩ := bd_ex h
      have sb : Sb D A H (wV cA vd vspoon vmark vcount vbodies) := Sb.pl [4, 5] (by decide) rfl hP hD hS hA
      refine calV (va_runV (As := [.int a, .int (h_mark (a).toNatClampNeg)]) (rest := []) ⟨hx, hb, hml, hown, hts⟩ (c_X10_of l G D cA vd _ vspoon vmark vcount vbodies a (h_mark (a).toNatClampNeg) vspoon_11 vmark_12 vcount_13 hf_14) (cwV 2 hts gX11_voice_X10_of rfl rfl rfl (by decide +kernel) ⟨Nat.le_of_ble_eq_true rfl, Nat.le_of_ble_eq_true rfl⟩) (pvV hE hK hS sb (va_recv hK hP (ci := 10) (q0 := 4) rfl rfl)) rfl rfl hv.1 rfl (lv_room (Nat.le_of_ble_eq_true rfl)) dX11_voice_38 ⟨Nat.le_of_ble_eq_true rfl, Nat.le_of_ble_eq_true rfl⟩) hS sb (Jn.pl (ws := (wX cA xd vd sd nd hd td ed kd images errors fewest vspoon vmark vcount vbodies sbits slens snum h_weight h_known h_hour h_swS h_swW h_waS h_spoons h_kind h_mark h_silver h_fresh h_texts h_tape h_tapeCount h_z h_waiting h_waitingCount t_weight t_known t_hour t_swS t_swW t_waS t_spoons t_kind t_mark t_silver t_fresh t_texts t_tape t_tapeCount t_z t_waiting t_waitingCount e_weight e_known e_hour e_swS e_swW e_waS e_spoons e_kind e_mark e_silver e_fresh e_texts e_tape e_tapeCount e_z e_waiting e_waitingCount L tx tst)) (w1 := (wV cA vd vspoon_11 vmark_12 vcount_13 vbodies)) (ws' := (wX cA xd vd sd nd hd td ed kd images errors fewest vspoon_11 vmark_12 vcount_13 vbodies sbits slens snum h_weight h_known h_hour h_swS h_swW h_waS h_spoons h_kind h_mark h_silver h_fresh h_texts h_tape h_tapeCount h_z h_waiting h_waitingCount t_weight t_known t_hour t_swS t_swW t_waS t_spoons t_kind t_mark t_silver t_fresh t_texts t_tape t_tapeCount t_z t_waiting t_waitingCount e_weight e_known e_hour e_swS e_swW e_waS e_spoons e_kind e_mark e_silver e_fresh e_texts e_tape e_tapeCount e_z e_waiting e_waitingCount L tx tst)) [4, 5] rfl rfl rfl rfl hP hD) (fun H locs hP hD hS => ?_)
      have hP : va_P D vwCl (wX cA xd vd sd nd hd td ed kd images errors fewest vspoon_11 vmark_12 vcount_13 vbodies sbits slens snum h_weight h_known h_hour h_swS h_swW h_waS h_spoons h_kind h_mark h_silver h_fresh h_texts h_tape h_tapeCount h_z h_waiting h_waitingCount t_weight t_known t_hour t_swS t_swW t_waS t_spoons t_kind t_mark t_silver t_fresh t_texts t_tape t_tapeCount t_z t_waiting t_waitingCount e_weight e_known e_hour e_swS e_swW e_waS e_spoons e_kind e_mark e_silver e_fresh e_texts e_tape e_tapeCount e_z e_waiting e_waitingCount L tx tst) H := hP
      have hD : va_D A (wX cA xd vd sd nd hd td ed kd images errors fewest vspoon_11 vmark_12 vcount_13 vbodies sbits slens snum h_weight h_known h_hour h_swS h_swW h_waS h_spoons h_kind h_mark h_silver h_fresh h_texts h_tape h_tapeCount h_z h_waiting h_waitingCount t_weight t_known t_hour t_swS t_swW t_waS t_spoons t_kind t_mark t_silver t_fresh t_texts t_tape t_tapeCount t_z t_waiting t_waitingCount e_weight e_known e_hour e_swS e_swW e_waS e_spoons e_kind e_mark e_silver e_fresh e_texts e_tape e_tapeCount e_z e_waiting e_waitingCount L tx tst) := hD
      refine lv_aload_n hx hb dX11_voice_41 rfl (lv_at hv 0 rfl) ?_
      refine va_get (D := D) (ci := 11) (v := .ref (kd 0)) (C := RX11) (T := TX11) (N := 9) hx hb hts in_11 hown hK hP 0 rfl rfl 4 (by decide) w_4 (fun _ h9 => h9) rfl dX11_voice_42 ?_
      refine lv_aload_n hx hb dX11_voice_45 rfl (lv_at hv 0 rfl) ?_
      refine va_get (D := D) (ci := 11) (v := .ref (hd 0)) (C := RX11) (T := TX11) (N := 9) hx hb hts in_11 hown hK hP 0 rfl rfl 0 (by decide) w_2 (fun _ h9 => h9) rfl dX11_voice_46 ?_
      refine va_get (D := D) (ci := 3) (v := .ref (hd 9)) (C := RX3) (T := TX3) (N := 18) hx hb hts in_3 hown hK hP 14 rfl rfl 8 (by decide) w_5 (fun _ h9 => h9) rfl dX11_voice_49 ?_
      refine lv_iload_n hx hb dX11_voice_52 rfl (lv_at hv 1 rfl) ?_
      obtain ⟨c_15, h⟩ := ckI_ex h
      refine va_iald (D := D) hx hb hK hP 19 0 rfl rfl c_15 dX11_voice_53 ?_
      obtain ⟨c_16, h⟩ := ckI_ex h
      refine va_aldq (D := D) (f := fun j => some (kd (j + 1))) hx hb hK hP 50 2 rfl rfl c_16 dX11_voice_54 ?_
      refine W.eq (g2 := F0 m 55 ls [.ref (kd (((h_kind (a).toNatClampNeg)).toNatClampNeg + 1))]) rfl ?_
      refine lv_astore (lv' := [(4, .ref (kd (((h_kind (a).toNatClampNeg)).toNatClampNeg + 1))), (0, .ref (xd 0)), (1, .int a), (2, .int b), (3, .int k)]) hx hb dX11_voice_55 hv (by decide) rfl (fun ls hv => ?_)
      refine lv_iload_n hx hb dX11_voice_57 rfl (lv_at hv 3 rfl) ?_
      by_cases c_17 : b = (0 : Int32)
      · refine lv_tableIn (tgt := 84) (off := 26) hx hb dX11_voice_58 (by rw [c_17]; decide) (by rw [c_17]; decide) (by rw [c_17]; rfl) (by decide) ?_
        have h := ite_t c_17 h
        refine lv_aload hx hb dX11_voice_84 (lv_at hv 0 rfl) ?_
        refine lv_aload_n hx hb dX11_voice_86 rfl (lv_at hv 1 rfl) ?_
        refine va_get (D := D) (ci := 11) (v := .ref (vd 0)) (C := RX11) (T := TX11) (N := 9) hx hb hts in_11 hown hK hP 0 rfl rfl 5 (by decide) w_1 (fun _ h9 => h9) rfl dX11_voice_87 ?_
        refine lv_iload_n hx hb dX11_voice_90 rfl (lv_at hv 4 rfl) ?_
        obtain ⟨⟨r_18, vcount_19, vbodies_20⟩, hd_21, h⟩ := bd_ex h
        have kont : ∀ (H : Heap) (locs : List Loc), va_P D vwCl (wX cA xd vd sd nd hd td ed kd images errors fewest vspoon_11 vmark_12 vcount_19 vbodies_20 sbits slens snum h_weight h_known h_hour h_swS h_swW h_waS h_spoons h_kind h_mark h_silver h_fresh h_texts h_tape h_tapeCount h_z h_waiting h_waitingCount t_weight t_known t_hour t_swS t_swW t_waS t_spoons t_kind t_mark t_silver t_fresh t_texts t_tape t_tapeCount t_z t_waiting t_waitingCount e_weight e_known e_hour e_swS e_swW e_waS e_spoons e_kind e_mark e_silver e_fresh e_texts e_tape e_tapeCount e_z e_waiting e_waitingCount L tx tst) H → va_D A (wX cA xd vd sd nd hd td ed kd images errors fewest vspoon_11 vmark_12 vcount_19 vbodies_20 sbits slens snum h_weight h_known h_hour h_swS h_swW h_waS h_spoons h_kind h_mark h_silver h_fresh h_texts h_tape h_tapeCount h_z h_waiting h_waitingCount t_weight t_known t_hour t_swS t_swW t_waS t_spoons t_kind t_mark t_silver t_fresh t_texts t_tape t_tapeCount t_z t_waiting t_waitingCount e_weight e_known e_hour e_swS e_swW e_waS e_spoons e_kind e_mark e_silver e_fresh e_texts e_tape e_tapeCount e_z e_waiting e_waitingCount L tx tst) → va_S A s.heap H locs → W p l e ({ frames := 6, cells := 0, slots := 0, locals := 131 } : Room) s m args below meth c H locs 0 0 Q (F0 m 94 ls [.int r_18]) := by
          intro H locs hP hD hS
          have h := Option.some.inj h
          have ee0 : r_18 = rR := congrArg (fun q => q.1) h
          have ee1 : errors = errorsR := congrArg (fun q => q.2.1) h
          have ee2 : vspoon_11 = vspoonR := congrArg (fun q => q.2.2.1) h
          have ee3 : vmark_12 = vmarkR := congrArg (fun q => q.2.2.2.1) h
          have ee4 : vcount_19 = vcountR := congrArg (fun q => q.2.2.2.2.1) h
          have ee5 : vbodies_20 = vbodiesR := congrArg (fun q => q.2.2.2.2.2) h
          subst ee0
          subst ee1
          subst ee2
          subst ee3
          subst ee4
          subst ee5
          rw [← hQ]
          exact retI hx hb hr hlk hK hP hD hS dX11_voice_94 ⟨Nat.le_of_ble_eq_true rfl, Nat.le_of_ble_eq_true rfl⟩
        obtain ⟨j, hj, ej⟩ := vp_in_of c_16 (by decide)
        have ec : ((h_kind (a).toNatClampNeg)).toNatClampNeg = j := by rw [ej]; exact nI_clamp (by omega)
        rw [ec] at hd_21 ⊢
        clear ej ec
        obtain rfl | rfl | rfl | rfl | rfl | rfl | rfl : j = 0 ∨ j = 1 ∨ j = 2 ∨ j = 3 ∨ j = 4 ∨ j = 5 ∨ j = 6 := by omega
        · have sb : Sb D A H (wVO cA 8 (kd 1) vd vspoon_11 vmark_12 vcount_13 vbodies) := Sb.pl [51, 4, 5] (by decide) rfl hP hD hS hA
          refine calI (va_runV (As := [.ref (vd 0), .int k]) (rest := []) ⟨hx, hb, hml, hown, hts⟩ (c_X8_shines_k8 l G D cA (kd 1) vd _ vspoon_11 vmark_12 vcount_13 vbodies k r_18 vcount_19 vbodies_20 hd_21) (cwV 2 hts gX11_voice_X8_shines rfl rfl rfl (by decide +kernel) ⟨Nat.le_of_ble_eq_true rfl, Nat.le_of_ble_eq_true rfl⟩) (pvV hE hK hS sb (va_recv hK hP (ci := 8) (q0 := 51) rfl rfl)) rfl rfl hv.1 rfl (lv_room (Nat.le_of_ble_eq_true rfl)) dX11_voice_91 ⟨Nat.le_of_ble_eq_true rfl, Nat.le_of_ble_eq_true rfl⟩) hS sb (Jn.pl (ws := (wX cA xd vd sd nd hd td ed kd images errors fewest vspoon_11 vmark_12 vcount_13 vbodies sbits slens snum h_weight h_known h_hour h_swS h_swW h_waS h_spoons h_kind h_mark h_silver h_fresh h_texts h_tape h_tapeCount h_z h_waiting h_waitingCount t_weight t_known t_hour t_swS t_swW t_waS t_spoons t_kind t_mark t_silver t_fresh t_texts t_tape t_tapeCount t_z t_waiting t_waitingCount e_weight e_known e_hour e_swS e_swW e_waS e_spoons e_kind e_mark e_silver e_fresh e_texts e_tape e_tapeCount e_z e_waiting e_waitingCount L tx tst)) (w1 := wVO cA 8 (kd 1) vd vspoon_11 vmark_12 vcount_19 vbodies_20) (ws' := (wX cA xd vd sd nd hd td ed kd images errors fewest vspoon_11 vmark_12 vcount_19 vbodies_20 sbits slens snum h_weight h_known h_hour h_swS h_swW h_waS h_spoons h_kind h_mark h_silver h_fresh h_texts h_tape h_tapeCount h_z h_waiting h_waitingCount t_weight t_known t_hour t_swS t_swW t_waS t_spoons t_kind t_mark t_silver t_fresh t_texts t_tape t_tapeCount t_z t_waiting t_waitingCount e_weight e_known e_hour e_swS e_swW e_waS e_spoons e_kind e_mark e_silver e_fresh e_texts e_tape e_tapeCount e_z e_waiting e_waitingCount L tx tst)) [51, 4, 5] rfl rfl rfl rfl hP hD) (fun H locs hP hD hS => kont H locs hP hD hS)
        · have sb : Sb D A H (wVO cA 2 (kd 2) vd vspoon_11 vmark_12 vcount_13 vbodies) := Sb.pl [52, 4, 5] (by decide) rfl hP hD hS hA
          refine calI (va_runU (As := [.ref (vd 0), .int k]) (rest := []) ⟨hx, hb, hml, hown, hts⟩ (c_X2_shines_k2 l G D cA (kd 2) vd _ vspoon_11 vmark_12 vcount_13 vbodies k r_18 vcount_19 vbodies_20 hd_21) (va_cwO 2 hts gX11_voice_X2_shines_u250X2 rfl rfl rfl (by decide +kernel : Cond.code yX8_shines cX8_shines 3 (some .int) ∈ wsX11_voice) (by decide +kernel) ⟨Nat.le_of_ble_eq_true rfl, Nat.le_of_ble_eq_true rfl⟩) (pvV hE hK hS sb (va_recv hK hP (ci := 2) (q0 := 52) rfl rfl)) rfl rfl hv.1 rfl (lv_room (Nat.le_of_ble_eq_true rfl)) dX11_voice_91 ⟨Nat.le_of_ble_eq_true rfl, Nat.le_of_ble_eq_true rfl⟩) hS sb (Jn.pl (ws := (wX cA xd vd sd nd hd td ed kd images errors fewest vspoon_11 vmark_12 vcount_13 vbodies sbits slens snum h_weight h_known h_hour h_swS h_swW h_waS h_spoons h_kind h_mark h_silver h_fresh h_texts h_tape h_tapeCount h_z h_waiting h_waitingCount t_weight t_known t_hour t_swS t_swW t_waS t_spoons t_kind t_mark t_silver t_fresh t_texts t_tape t_tapeCount t_z t_waiting t_waitingCount e_weight e_known e_hour e_swS e_swW e_waS e_spoons e_kind e_mark e_silver e_fresh e_texts e_tape e_tapeCount e_z e_waiting e_waitingCount L tx tst)) (w1 := wVO cA 2 (kd 2) vd vspoon_11 vmark_12 vcount_19 vbodies_20) (ws' := (wX cA xd vd sd nd hd td ed kd images errors fewest vspoon_11 vmark_12 vcount_19 vbodies_20 sbits slens snum h_weight h_known h_hour h_swS h_swW h_waS h_spoons h_kind h_mark h_silver h_fresh h_texts h_tape h_tapeCount h_z h_waiting h_waitingCount t_weight t_known t_hour t_swS t_swW t_waS t_spoons t_kind t_mark t_silver t_fresh t_texts t_tape t_tapeCount t_z t_waiting t_waitingCount e_weight e_known e_hour e_swS e_swW e_waS e_spoons e_kind e_mark e_silver e_fresh e_texts e_tape e_tapeCount e_z e_waiting e_waitingCount L tx tst)) [52, 4, 5] rfl rfl rfl rfl hP hD) (fun H locs hP hD hS => kont H locs hP hD hS)
        · have sb : Sb D A H (wVO cA 0 (kd 3) vd vspoon_11 vmark_12 vcount_13 vbodies) := Sb.pl [53, 4, 5] (by decide) rfl hP hD hS hA
          refine calI (va_runU (As := [.ref (vd 0), .int k]) (rest := []) ⟨hx, hb, hml, hown, hts⟩ (c_X8_shines_k0 l G D cA (kd 3) vd _ vspoon_11 vmark_12 vcount_13 vbodies k r_18 vcount_19 vbodies_20 hd_21) (va_cwU 2 hts gX11_voice_X8_shines_u250X0 rfl rfl rfl rfl (by decide +kernel) ⟨Nat.le_of_ble_eq_true rfl, Nat.le_of_ble_eq_true rfl⟩) (pvV hE hK hS sb (va_recv hK hP (ci := 0) (q0 := 53) rfl rfl)) rfl rfl hv.1 rfl (lv_room (Nat.le_of_ble_eq_true rfl)) dX11_voice_91 ⟨Nat.le_of_ble_eq_true rfl, Nat.le_of_ble_eq_true rfl⟩) hS sb (Jn.pl (ws := (wX cA xd vd sd nd hd td ed kd images errors fewest vspoon_11 vmark_12 vcount_13 vbodies sbits slens snum h_weight h_known h_hour h_swS h_swW h_waS h_spoons h_kind h_mark h_silver h_fresh h_texts h_tape h_tapeCount h_z h_waiting h_waitingCount t_weight t_known t_hour t_swS t_swW t_waS t_spoons t_kind t_mark t_silver t_fresh t_texts t_tape t_tapeCount t_z t_waiting t_waitingCount e_weight e_known e_hour e_swS e_swW e_waS e_spoons e_kind e_mark e_silver e_fresh e_texts e_tape e_tapeCount e_z e_waiting e_waitingCount L tx tst)) (w1 := wVO cA 0 (kd 3) vd vspoon_11 vmark_12 vcount_19 vbodies_20) (ws' := (wX cA xd vd sd nd hd td ed kd images errors fewest vspoon_11 vmark_12 vcount_19 vbodies_20 sbits slens snum h_weight h_known h_hour h_swS h_swW h_waS h_spoons h_kind h_mark h_silver h_fresh h_texts h_tape h_tapeCount h_z h_waiting h_waitingCount t_weight t_known t_hour t_swS t_swW t_waS t_spoons t_kind t_mark t_silver t_fresh t_texts t_tape t_tapeCount t_z t_waiting t_waitingCount e_weight e_known e_hour e_swS e_swW e_waS e_spoons e_kind e_mark e_silver e_fresh e_texts e_tape e_tapeCount e_z e_waiting e_waitingCount L tx tst)) [53, 4, 5] rfl rfl rfl rfl hP hD) (fun H locs hP hD hS => kont H locs hP hD hS)
        · have sb : Sb D A H (wVO cA 5 (kd 4) vd vspoon_11 vmark_12 vcount_13 vbodies) := Sb.pl [54, 4, 5] (by decide) rfl hP hD hS hA
          refine calI (va_runU (As := [.ref (vd 0), .int k]) (rest := []) ⟨hx, hb, hml, hown, hts⟩ (c_X8_shines_k5 l G D cA (kd 4) vd _ vspoon_11 vmark_12 vcount_13 vbodies k r_18 vcount_19 vbodies_20 hd_21) (va_cwU 2 hts gX11_voice_X8_shines_u250X5 rfl rfl rfl rfl (by decide +kernel) ⟨Nat.le_of_ble_eq_true rfl, Nat.le_of_ble_eq_true rfl⟩) (pvV hE hK hS sb (va_recv hK hP (ci := 5) (q0 := 54) rfl rfl)) rfl rfl hv.1 rfl (lv_room (Nat.le_of_ble_eq_true rfl)) dX11_voice_91 ⟨Nat.le_of_ble_eq_true rfl, Nat.le_of_ble_eq_true rfl⟩) hS sb (Jn.pl (ws := (wX cA xd vd sd nd hd td ed kd images errors fewest vspoon_11 vmark_12 vcount_13 vbodies sbits slens snum h_weight h_known h_hour h_swS h_swW h_waS h_spoons h_kind h_mark h_silver h_fresh h_texts h_tape h_tapeCount h_z h_waiting h_waitingCount t_weight t_known t_hour t_swS t_swW t_waS t_spoons t_kind t_mark t_silver t_fresh t_texts t_tape t_tapeCount t_z t_waiting t_waitingCount e_weight e_known e_hour e_swS e_swW e_waS e_spoons e_kind e_mark e_silver e_fresh e_texts e_tape e_tapeCount e_z e_waiting e_waitingCount L tx tst)) (w1 := wVO cA 5 (kd 4) vd vspoon_11 vmark_12 vcount_19 vbodies_20) (ws' := (wX cA xd vd sd nd hd td ed kd images errors fewest vspoon_11 vmark_12 vcount_19 vbodies_20 sbits slens snum h_weight h_known h_hour h_swS h_swW h_waS h_spoons h_kind h_mark h_silver h_fresh h_texts h_tape h_tapeCount h_z h_waiting h_waitingCount t_weight t_known t_hour t_swS t_swW t_waS t_spoons t_kind t_mark t_silver t_fresh t_texts t_tape t_tapeCount t_z t_waiting t_waitingCount e_weight e_known e_hour e_swS e_swW e_waS e_spoons e_kind e_mark e_silver e_fresh e_texts e_tape e_tapeCount e_z e_waiting e_waitingCount L tx tst)) [54, 4, 5] rfl rfl rfl rfl hP hD) (fun H locs hP hD hS => kont H locs hP hD hS)
        · have sb : Sb D A H (wVO cA 6 (kd 5) vd vspoon_11 vmark_12 vcount_13 vbodies) := Sb.pl [55, 4, 5] (by decide) rfl hP hD hS hA
          refine calI (va_runU (As := [.ref (vd 0), .int k]) (rest := []) ⟨hx, hb, hml, hown, hts⟩ (c_X2_shines_k6 l G D cA (kd 5) vd _ vspoon_11 vmark_12 vcount_13 vbodies k r_18 vcount_19 vbodies_20 hd_21) (va_cwO 2 hts gX11_voice_X2_shines_u250X6 rfl rfl rfl (by decide +kernel : Cond.code yX8_shines cX8_shines 3 (some .int) ∈ wsX11_voice) (by decide +kernel) ⟨Nat.le_of_ble_eq_true rfl, Nat.le_of_ble_eq_true rfl⟩) (pvV hE hK hS sb (va_recv hK hP (ci := 6) (q0 := 55) rfl rfl)) rfl rfl hv.1 rfl (lv_room (Nat.le_of_ble_eq_true rfl)) dX11_voice_91 ⟨Nat.le_of_ble_eq_true rfl, Nat.le_of_ble_eq_true rfl⟩) hS sb (Jn.pl (ws := (wX cA xd vd sd nd hd td ed kd images errors fewest vspoon_11 vmark_12 vcount_13 vbodies sbits slens snum h_weight h_known h_hour h_swS h_swW h_waS h_spoons h_kind h_mark h_silver h_fresh h_texts h_tape h_tapeCount h_z h_waiting h_waitingCount t_weight t_known t_hour t_swS t_swW t_waS t_spoons t_kind t_mark t_silver t_fresh t_texts t_tape t_tapeCount t_z t_waiting t_waitingCount e_weight e_known e_hour e_swS e_swW e_waS e_spoons e_kind e_mark e_silver e_fresh e_texts e_tape e_tapeCount e_z e_waiting e_waitingCount L tx tst)) (w1 := wVO cA 6 (kd 5) vd vspoon_11 vmark_12 vcount_19 vbodies_20) (ws' := (wX cA xd vd sd nd hd td ed kd images errors fewest vspoon_11 vmark_12 vcount_19 vbodies_20 sbits slens snum h_weight h_known h_hour h_swS h_swW h_waS h_spoons h_kind h_mark h_silver h_fresh h_texts h_tape h_tapeCount h_z h_waiting h_waitingCount t_weight t_known t_hour t_swS t_swW t_waS t_spoons t_kind t_mark t_silver t_fresh t_texts t_tape t_tapeCount t_z t_waiting t_waitingCount e_weight e_known e_hour e_swS e_swW e_waS e_spoons e_kind e_mark e_silver e_fresh e_texts e_tape e_tapeCount e_z e_waiting e_waitingCount L tx tst)) [55, 4, 5] rfl rfl rfl rfl hP hD) (fun H locs hP hD hS => kont H locs hP hD hS)
        · have sb : Sb D A H (wVO cA 4 (kd 6) vd vspoon_11 vmark_12 vcount_13 vbodies) := Sb.pl [56, 4, 5] (by decide) rfl hP hD hS hA
          refine calI (va_runU (As := [.ref (vd 0), .int k]) (rest := []) ⟨hx, hb, hml, hown, hts⟩ (c_X8_shines_k4 l G D cA (kd 6) vd _ vspoon_11 vmark_12 vcount_13 vbodies k r_18 vcount_19 vbodies_20 hd_21) (va_cwU 2 hts gX11_voice_X8_shines_u250X4 rfl rfl rfl rfl (by decide +kernel) ⟨Nat.le_of_ble_eq_true rfl, Nat.le_of_ble_eq_true rfl⟩) (pvV hE hK hS sb (va_recv hK hP (ci := 4) (q0 := 56) rfl rfl)) rfl rfl hv.1 rfl (lv_room (Nat.le_of_ble_eq_true rfl)) dX11_voice_91 ⟨Nat.le_of_ble_eq_true rfl, Nat.le_of_ble_eq_true rfl⟩) hS sb (Jn.pl (ws := (wX cA xd vd sd nd hd td ed kd images errors fewest vspoon_11 vmark_12 vcount_13 vbodies sbits slens snum h_weight h_known h_hour h_swS h_swW h_waS h_spoons h_kind h_mark h_silver h_fresh h_texts h_tape h_tapeCount h_z h_waiting h_waitingCount t_weight t_known t_hour t_swS t_swW t_waS t_spoons t_kind t_mark t_silver t_fresh t_texts t_tape t_tapeCount t_z t_waiting t_waitingCount e_weight e_known e_hour e_swS e_swW e_waS e_spoons e_kind e_mark e_silver e_fresh e_texts e_tape e_tapeCount e_z e_waiting e_waitingCount L tx tst)) (w1 := wVO cA 4 (kd 6) vd vspoon_11 vmark_12 vcount_19 vbodies_20) (ws' := (wX cA xd vd sd nd hd td ed kd images errors fewest vspoon_11 vmark_12 vcount_19 vbodies_20 sbits slens snum h_weight h_known h_hour h_swS h_swW h_waS h_spoons h_kind h_mark h_silver h_fresh h_texts h_tape h_tapeCount h_z h_waiting h_waitingCount t_weight t_known t_hour t_swS t_swW t_waS t_spoons t_kind t_mark t_silver t_fresh t_texts t_tape t_tapeCount t_z t_waiting t_waitingCount e_weight e_known e_hour e_swS e_swW e_waS e_spoons e_kind e_mark e_silver e_fresh e_texts e_tape e_tapeCount e_z e_waiting e_waitingCount L tx tst)) [56, 4, 5] rfl rfl rfl rfl hP hD) (fun H locs hP hD hS => kont H locs hP hD hS)
        · have sb : Sb D A H (wVO cA 1 (kd 7) vd vspoon_11 vmark_12 vcount_13 vbodies) := Sb.pl [57, 4, 5] (by decide) rfl hP hD hS hA
          refine calI (va_runU (As := [.ref (vd 0), .int k]) (rest := []) ⟨hx, hb, hml, hown, hts⟩ (c_X8_shines_k1 l G D cA (kd 7) vd _ vspoon_11 vmark_12 vcount_13 vbodies k r_18 vcount_19 vbodies_20 hd_21) (va_cwU 2 hts gX11_voice_X8_shines_u250X1 rfl rfl rfl rfl (by decide +kernel) ⟨Nat.le_of_ble_eq_true rfl, Nat.le_of_ble_eq_true rfl⟩) (pvV hE hK hS sb (va_recv hK hP (ci := 1) (q0 := 57) rfl rfl)) rfl rfl hv.1 rfl (lv_room (Nat.le_of_ble_eq_true rfl)) dX11_voice_91 ⟨Nat.le_of_ble_eq_true rfl, Nat.le_of_ble_eq_true rfl⟩) hS sb (Jn.pl (ws := (wX cA xd vd sd nd hd td ed kd images errors fewest vspoon_11 vmark_12 vcount_13 vbodies sbits slens snum h_weight h_known h_hour h_swS h_swW h_waS h_spoons h_kind h_mark h_silver h_fresh h_texts h_tape h_tapeCount h_z h_waiting h_waitingCount t_weight t_known t_hour t_swS t_swW t_waS t_spoons t_kind t_mark t_silver t_fresh t_texts t_tape t_tapeCount t_z t_waiting t_waitingCount e_weight e_known e_hour e_swS e_swW e_waS e_spoons e_kind e_mark e_silver e_fresh e_texts e_tape e_tapeCount e_z e_waiting e_waitingCount L tx tst)) (w1 := wVO cA 1 (kd 7) vd vspoon_11 vmark_12 vcount_19 vbodies_20) (ws' := (wX cA xd vd sd nd hd td ed kd images errors fewest vspoon_11 vmark_12 vcount_19 vbodies_20 sbits slens snum h_weight h_known h_hour h_swS h_swW h_waS h_spoons h_kind h_mark h_silver h_fresh h_texts h_tape h_tapeCount h_z h_waiting h_waitingCount t_weight t_known t_hour t_swS t_swW t_waS t_spoons t_kind t_mark t_silver t_fresh t_texts t_tape t_tapeCount t_z t_waiting t_waitingCount e_weight e_known e_hour e_swS e_swW e_waS e_spoons e_kind e_mark e_silver e_fresh e_texts e_tape e_tapeCount e_z e_waiting e_waitingCount L tx tst)) [57, 4, 5] rfl rfl rfl rfl hP hD) (fun H locs hP hD hS => kont H locs hP hD hS)
      have h := ite_f c_17 h
      by_cases c_22 : b = (1 : Int32)
      · refine lv_tableIn (tgt := 95) (off := 37) hx hb dX11_voice_58 (by rw [c_22]; decide) (by rw [c_22]; decide) (by rw [c_22]; rfl) (by decide) ?_
        have h := ite_t c_22 h
        refine lv_aload hx hb dX11_voice_95 (lv_at hv 0 rfl) ?_
        refine lv_aload_n hx hb dX11_voice_97 rfl (lv_at hv 1 rfl) ?_
        refine va_get (D := D) (ci := 11) (v := .ref (vd 0)) (C := RX11) (T := TX11) (N := 9) hx hb hts in_11 hown hK hP 0 rfl rfl 5 (by decide) w_1 (fun _ h9 => h9) rfl dX11_voice_98 ?_
        refine lv_iload_n hx hb dX11_voice_101 rfl (lv_at hv 4 rfl) ?_
        obtain ⟨⟨r_23, vcount_24, vbodies_25⟩, hd_26, h⟩ := bd_ex h
        have kont : ∀ (H : Heap) (locs : List Loc), va_P D vwCl (wX cA xd vd sd nd hd td ed kd images errors fewest vspoon_11 vmark_12 vcount_24 vbodies_25 sbits slens snum h_weight h_known h_hour h_swS h_swW h_waS h_spoons h_kind h_mark h_silver h_fresh h_texts h_tape h_tapeCount h_z h_waiting h_waitingCount t_weight t_known t_hour t_swS t_swW t_waS t_spoons t_kind t_mark t_silver t_fresh t_texts t_tape t_tapeCount t_z t_waiting t_waitingCount e_weight e_known e_hour e_swS e_swW e_waS e_spoons e_kind e_mark e_silver e_fresh e_texts e_tape e_tapeCount e_z e_waiting e_waitingCount L tx tst) H → va_D A (wX cA xd vd sd nd hd td ed kd images errors fewest vspoon_11 vmark_12 vcount_24 vbodies_25 sbits slens snum h_weight h_known h_hour h_swS h_swW h_waS h_spoons h_kind h_mark h_silver h_fresh h_texts h_tape h_tapeCount h_z h_waiting h_waitingCount t_weight t_known t_hour t_swS t_swW t_waS t_spoons t_kind t_mark t_silver t_fresh t_texts t_tape t_tapeCount t_z t_waiting t_waitingCount e_weight e_known e_hour e_swS e_swW e_waS e_spoons e_kind e_mark e_silver e_fresh e_texts e_tape e_tapeCount e_z e_waiting e_waitingCount L tx tst) → va_S A s.heap H locs → W p l e ({ frames := 6, cells := 0, slots := 0, locals := 131 } : Room) s m args below meth c H locs 0 0 Q (F0 m 105 ls [.int r_23]) := by
          intro H locs hP hD hS
          have h := Option.some.inj h
          have ee0 : r_23 = rR := congrArg (fun q => q.1) h
          have ee1 : errors = errorsR := congrArg (fun q => q.2.1) h
          have ee2 : vspoon_11 = vspoonR := congrArg (fun q => q.2.2.1) h
          have ee3 : vmark_12 = vmarkR := congrArg (fun q => q.2.2.2.1) h
          have ee4 : vcount_24 = vcountR := congrArg (fun q => q.2.2.2.2.1) h
          have ee5 : vbodies_25 = vbodiesR := congrArg (fun q => q.2.2.2.2.2) h
          subst ee0
          subst ee1
          subst ee2
          subst ee3
          subst ee4
          subst ee5
          rw [← hQ]
          exact retI hx hb hr hlk hK hP hD hS dX11_voice_105 ⟨Nat.le_of_ble_eq_true rfl, Nat.le_of_ble_eq_true rfl⟩
        obtain ⟨j, hj, ej⟩ := vp_in_of c_16 (by decide)
        have ec : ((h_kind (a).toNatClampNeg)).toNatClampNeg = j := by rw [ej]; exact nI_clamp (by omega)
        rw [ec] at hd_26 ⊢
        clear ej ec
        obtain rfl | rfl | rfl | rfl | rfl | rfl | rfl : j = 0 ∨ j = 1 ∨ j = 2 ∨ j = 3 ∨ j = 4 ∨ j = 5 ∨ j = 6 := by omega
        · have sb : Sb D A H (wVO cA 8 (kd 1) vd vspoon_11 vmark_12 vcount_13 vbodies) := Sb.pl [51, 4, 5] (by decide) rfl hP hD hS hA
          refine calI (va_runV (As := [.ref (vd 0), .int k]) (rest := []) ⟨hx, hb, hml, hown, hts⟩ (c_X8_dulls_k8 l G D cA (kd 1) vd _ vspoon_11 vmark_12 vcount_13 vbodies k r_23 vcount_24 vbodies_25 hd_26) (cwV 2 hts gX11_voice_X8_dulls rfl rfl rfl (by decide +kernel) ⟨Nat.le_of_ble_eq_true rfl, Nat.le_of_ble_eq_true rfl⟩) (pvV hE hK hS sb (va_recv hK hP (ci := 8) (q0 := 51) rfl rfl)) rfl rfl hv.1 rfl (lv_room (Nat.le_of_ble_eq_true rfl)) dX11_voice_102 ⟨Nat.le_of_ble_eq_true rfl, Nat.le_of_ble_eq_true rfl⟩) hS sb (Jn.pl (ws := (wX cA xd vd sd nd hd td ed kd images errors fewest vspoon_11 vmark_12 vcount_13 vbodies sbits slens snum h_weight h_known h_hour h_swS h_swW h_waS h_spoons h_kind h_mark h_silver h_fresh h_texts h_tape h_tapeCount h_z h_waiting h_waitingCount t_weight t_known t_hour t_swS t_swW t_waS t_spoons t_kind t_mark t_silver t_fresh t_texts t_tape t_tapeCount t_z t_waiting t_waitingCount e_weight e_known e_hour e_swS e_swW e_waS e_spoons e_kind e_mark e_silver e_fresh e_texts e_tape e_tapeCount e_z e_waiting e_waitingCount L tx tst)) (w1 := wVO cA 8 (kd 1) vd vspoon_11 vmark_12 vcount_24 vbodies_25) (ws' := (wX cA xd vd sd nd hd td ed kd images errors fewest vspoon_11 vmark_12 vcount_24 vbodies_25 sbits slens snum h_weight h_known h_hour h_swS h_swW h_waS h_spoons h_kind h_mark h_silver h_fresh h_texts h_tape h_tapeCount h_z h_waiting h_waitingCount t_weight t_known t_hour t_swS t_swW t_waS t_spoons t_kind t_mark t_silver t_fresh t_texts t_tape t_tapeCount t_z t_waiting t_waitingCount e_weight e_known e_hour e_swS e_swW e_waS e_spoons e_kind e_mark e_silver e_fresh e_texts e_tape e_tapeCount e_z e_waiting e_waitingCount L tx tst)) [51, 4, 5] rfl rfl rfl rfl hP hD) (fun H locs hP hD hS => kont H locs hP hD hS)
        · have sb : Sb D A H (wVO cA 2 (kd 2) vd vspoon_11 vmark_12 vcount_13 vbodies) := Sb.pl [52, 4, 5] (by decide) rfl hP hD hS hA
          refine calI (va_runU (As := [.ref (vd 0), .int k]) (rest := []) ⟨hx, hb, hml, hown, hts⟩ (c_X8_dulls_k2 l G D cA (kd 2) vd _ vspoon_11 vmark_12 vcount_13 vbodies k r_23 vcount_24 vbodies_25 hd_26) (va_cwU 2 hts gX11_voice_X8_dulls_u254X2 rfl rfl rfl rfl (by decide +kernel) ⟨Nat.le_of_ble_eq_true rfl, Nat.le_of_ble_eq_true rfl⟩) (pvV hE hK hS sb (va_recv hK hP (ci := 2) (q0 := 52) rfl rfl)) rfl rfl hv.1 rfl (lv_room (Nat.le_of_ble_eq_true rfl)) dX11_voice_102 ⟨Nat.le_of_ble_eq_true rfl, Nat.le_of_ble_eq_true rfl⟩) hS sb (Jn.pl (ws := (wX cA xd vd sd nd hd td ed kd images errors fewest vspoon_11 vmark_12 vcount_13 vbodies sbits slens snum h_weight h_known h_hour h_swS h_swW h_waS h_spoons h_kind h_mark h_silver h_fresh h_texts h_tape h_tapeCount h_z h_waiting h_waitingCount t_weight t_known t_hour t_swS t_swW t_waS t_spoons t_kind t_mark t_silver t_fresh t_texts t_tape t_tapeCount t_z t_waiting t_waitingCount e_weight e_known e_hour e_swS e_swW e_waS e_spoons e_kind e_mark e_silver e_fresh e_texts e_tape e_tapeCount e_z e_waiting e_waitingCount L tx tst)) (w1 := wVO cA 2 (kd 2) vd vspoon_11 vmark_12 vcount_24 vbodies_25) (ws' := (wX cA xd vd sd nd hd td ed kd images errors fewest vspoon_11 vmark_12 vcount_24 vbodies_25 sbits slens snum h_weight h_known h_hour h_swS h_swW h_waS h_spoons h_kind h_mark h_silver h_fresh h_texts h_tape h_tapeCount h_z h_waiting h_waitingCount t_weight t_known t_hour t_swS t_swW t_waS t_spoons t_kind t_mark t_silver t_fresh t_texts t_tape t_tapeCount t_z t_waiting t_waitingCount e_weight e_known e_hour e_swS e_swW e_waS e_spoons e_kind e_mark e_silver e_fresh e_texts e_tape e_tapeCount e_z e_waiting e_waitingCount L tx tst)) [52, 4, 5] rfl rfl rfl rfl hP hD) (fun H locs hP hD hS => kont H locs hP hD hS)
        · have sb : Sb D A H (wVO cA 0 (kd 3) vd vspoon_11 vmark_12 vcount_13 vbodies) := Sb.pl [53, 4, 5] (by decide) rfl hP hD hS hA
          refine calI (va_runU (As := [.ref (vd 0), .int k]) (rest := []) ⟨hx, hb, hml, hown, hts⟩ (c_X0_dulls_k0 l G D cA (kd 3) vd _ vspoon_11 vmark_12 vcount_13 vbodies k r_23 vcount_24 vbodies_25 hd_26) (va_cwO 2 hts gX11_voice_X0_dulls_u254X0 rfl rfl rfl (by decide +kernel : Cond.code yX8_dulls cX8_dulls 3 (some .int) ∈ wsX11_voice) (by decide +kernel) ⟨Nat.le_of_ble_eq_true rfl, Nat.le_of_ble_eq_true rfl⟩) (pvV hE hK hS sb (va_recv hK hP (ci := 0) (q0 := 53) rfl rfl)) rfl rfl hv.1 rfl (lv_room (Nat.le_of_ble_eq_true rfl)) dX11_voice_102 ⟨Nat.le_of_ble_eq_true rfl, Nat.le_of_ble_eq_true rfl⟩) hS sb (Jn.pl (ws := (wX cA xd vd sd nd hd td ed kd images errors fewest vspoon_11 vmark_12 vcount_13 vbodies sbits slens snum h_weight h_known h_hour h_swS h_swW h_waS h_spoons h_kind h_mark h_silver h_fresh h_texts h_tape h_tapeCount h_z h_waiting h_waitingCount t_weight t_known t_hour t_swS t_swW t_waS t_spoons t_kind t_mark t_silver t_fresh t_texts t_tape t_tapeCount t_z t_waiting t_waitingCount e_weight e_known e_hour e_swS e_swW e_waS e_spoons e_kind e_mark e_silver e_fresh e_texts e_tape e_tapeCount e_z e_waiting e_waitingCount L tx tst)) (w1 := wVO cA 0 (kd 3) vd vspoon_11 vmark_12 vcount_24 vbodies_25) (ws' := (wX cA xd vd sd nd hd td ed kd images errors fewest vspoon_11 vmark_12 vcount_24 vbodies_25 sbits slens snum h_weight h_known h_hour h_swS h_swW h_waS h_spoons h_kind h_mark h_silver h_fresh h_texts h_tape h_tapeCount h_z h_waiting h_waitingCount t_weight t_known t_hour t_swS t_swW t_waS t_spoons t_kind t_mark t_silver t_fresh t_texts t_tape t_tapeCount t_z t_waiting t_waitingCount e_weight e_known e_hour e_swS e_swW e_waS e_spoons e_kind e_mark e_silver e_fresh e_texts e_tape e_tapeCount e_z e_waiting e_waitingCount L tx tst)) [53, 4, 5] rfl rfl rfl rfl hP hD) (fun H locs hP hD hS => kont H locs hP hD hS)
        · have sb : Sb D A H (wVO cA 5 (kd 4) vd vspoon_11 vmark_12 vcount_13 vbodies) := Sb.pl [54, 4, 5] (by decide) rfl hP hD hS hA
          refine calI (va_runU (As := [.ref (vd 0), .int k]) (rest := []) ⟨hx, hb, hml, hown, hts⟩ (c_X8_dulls_k5 l G D cA (kd 4) vd _ vspoon_11 vmark_12 vcount_13 vbodies k r_23 vcount_24 vbodies_25 hd_26) (va_cwU 2 hts gX11_voice_X8_dulls_u254X5 rfl rfl rfl rfl (by decide +kernel) ⟨Nat.le_of_ble_eq_true rfl, Nat.le_of_ble_eq_true rfl⟩) (pvV hE hK hS sb (va_recv hK hP (ci := 5) (q0 := 54) rfl rfl)) rfl rfl hv.1 rfl (lv_room (Nat.le_of_ble_eq_true rfl)) dX11_voice_102 ⟨Nat.le_of_ble_eq_true rfl, Nat.le_of_ble_eq_true rfl⟩) hS sb (Jn.pl (ws := (wX cA xd vd sd nd hd td ed kd images errors fewest vspoon_11 vmark_12 vcount_13 vbodies sbits slens snum h_weight h_known h_hour h_swS h_swW h_waS h_spoons h_kind h_mark h_silver h_fresh h_texts h_tape h_tapeCount h_z h_waiting h_waitingCount t_weight t_known t_hour t_swS t_swW t_waS t_spoons t_kind t_mark t_silver t_fresh t_texts t_tape t_tapeCount t_z t_waiting t_waitingCount e_weight e_known e_hour e_swS e_swW e_waS e_spoons e_kind e_mark e_silver e_fresh e_texts e_tape e_tapeCount e_z e_waiting e_waitingCount L tx tst)) (w1 := wVO cA 5 (kd 4) vd vspoon_11 vmark_12 vcount_24 vbodies_25) (ws' := (wX cA xd vd sd nd hd td ed kd images errors fewest vspoon_11 vmark_12 vcount_24 vbodies_25 sbits slens snum h_weight h_known h_hour h_swS h_swW h_waS h_spoons h_kind h_mark h_silver h_fresh h_texts h_tape h_tapeCount h_z h_waiting h_waitingCount t_weight t_known t_hour t_swS t_swW t_waS t_spoons t_kind t_mark t_silver t_fresh t_texts t_tape t_tapeCount t_z t_waiting t_waitingCount e_weight e_known e_hour e_swS e_swW e_waS e_spoons e_kind e_mark e_silver e_fresh e_texts e_tape e_tapeCount e_z e_waiting e_waitingCount L tx tst)) [54, 4, 5] rfl rfl rfl rfl hP hD) (fun H locs hP hD hS => kont H locs hP hD hS)
        · have sb : Sb D A H (wVO cA 6 (kd 5) vd vspoon_11 vmark_12 vcount_13 vbodies) := Sb.pl [55, 4, 5] (by decide) rfl hP hD hS hA
          refine calI (va_runU (As := [.ref (vd 0), .int k]) (rest := []) ⟨hx, hb, hml, hown, hts⟩ (c_X8_dulls_k6 l G D cA (kd 5) vd _ vspoon_11 vmark_12 vcount_13 vbodies k r_23 vcount_24 vbodies_25 hd_26) (va_cwU 2 hts gX11_voice_X8_dulls_u254X6 rfl rfl rfl rfl (by decide +kernel) ⟨Nat.le_of_ble_eq_true rfl, Nat.le_of_ble_eq_true rfl⟩) (pvV hE hK hS sb (va_recv hK hP (ci := 6) (q0 := 55) rfl rfl)) rfl rfl hv.1 rfl (lv_room (Nat.le_of_ble_eq_true rfl)) dX11_voice_102 ⟨Nat.le_of_ble_eq_true rfl, Nat.le_of_ble_eq_true rfl⟩) hS sb (Jn.pl (ws := (wX cA xd vd sd nd hd td ed kd images errors fewest vspoon_11 vmark_12 vcount_13 vbodies sbits slens snum h_weight h_known h_hour h_swS h_swW h_waS h_spoons h_kind h_mark h_silver h_fresh h_texts h_tape h_tapeCount h_z h_waiting h_waitingCount t_weight t_known t_hour t_swS t_swW t_waS t_spoons t_kind t_mark t_silver t_fresh t_texts t_tape t_tapeCount t_z t_waiting t_waitingCount e_weight e_known e_hour e_swS e_swW e_waS e_spoons e_kind e_mark e_silver e_fresh e_texts e_tape e_tapeCount e_z e_waiting e_waitingCount L tx tst)) (w1 := wVO cA 6 (kd 5) vd vspoon_11 vmark_12 vcount_24 vbodies_25) (ws' := (wX cA xd vd sd nd hd td ed kd images errors fewest vspoon_11 vmark_12 vcount_24 vbodies_25 sbits slens snum h_weight h_known h_hour h_swS h_swW h_waS h_spoons h_kind h_mark h_silver h_fresh h_texts h_tape h_tapeCount h_z h_waiting h_waitingCount t_weight t_known t_hour t_swS t_swW t_waS t_spoons t_kind t_mark t_silver t_fresh t_texts t_tape t_tapeCount t_z t_waiting t_waitingCount e_weight e_known e_hour e_swS e_swW e_waS e_spoons e_kind e_mark e_silver e_fresh e_texts e_tape e_tapeCount e_z e_waiting e_waitingCount L tx tst)) [55, 4, 5] rfl rfl rfl rfl hP hD) (fun H locs hP hD hS => kont H locs hP hD hS)
        · have sb : Sb D A H (wVO cA 4 (kd 6) vd vspoon_11 vmark_12 vcount_13 vbodies) := Sb.pl [56, 4, 5] (by decide) rfl hP hD hS hA
          refine calI (va_runU (As := [.ref (vd 0), .int k]) (rest := []) ⟨hx, hb, hml, hown, hts⟩ (c_X4_dulls_k4 l G D cA (kd 6) vd _ vspoon_11 vmark_12 vcount_13 vbodies k r_23 vcount_24 vbodies_25 hd_26) (va_cwO 2 hts gX11_voice_X4_dulls_u254X4 rfl rfl rfl (by decide +kernel : Cond.code yX8_dulls cX8_dulls 3 (some .int) ∈ wsX11_voice) (by decide +kernel) ⟨Nat.le_of_ble_eq_true rfl, Nat.le_of_ble_eq_true rfl⟩) (pvV hE hK hS sb (va_recv hK hP (ci := 4) (q0 := 56) rfl rfl)) rfl rfl hv.1 rfl (lv_room (Nat.le_of_ble_eq_true rfl)) dX11_voice_102 ⟨Nat.le_of_ble_eq_true rfl, Nat.le_of_ble_eq_true rfl⟩) hS sb (Jn.pl (ws := (wX cA xd vd sd nd hd td ed kd images errors fewest vspoon_11 vmark_12 vcount_13 vbodies sbits slens snum h_weight h_known h_hour h_swS h_swW h_waS h_spoons h_kind h_mark h_silver h_fresh h_texts h_tape h_tapeCount h_z h_waiting h_waitingCount t_weight t_known t_hour t_swS t_swW t_waS t_spoons t_kind t_mark t_silver t_fresh t_texts t_tape t_tapeCount t_z t_waiting t_waitingCount e_weight e_known e_hour e_swS e_swW e_waS e_spoons e_kind e_mark e_silver e_fresh e_texts e_tape e_tapeCount e_z e_waiting e_waitingCount L tx tst)) (w1 := wVO cA 4 (kd 6) vd vspoon_11 vmark_12 vcount_24 vbodies_25) (ws' := (wX cA xd vd sd nd hd td ed kd images errors fewest vspoon_11 vmark_12 vcount_24 vbodies_25 sbits slens snum h_weight h_known h_hour h_swS h_swW h_waS h_spoons h_kind h_mark h_silver h_fresh h_texts h_tape h_tapeCount h_z h_waiting h_waitingCount t_weight t_known t_hour t_swS t_swW t_waS t_spoons t_kind t_mark t_silver t_fresh t_texts t_tape t_tapeCount t_z t_waiting t_waitingCount e_weight e_known e_hour e_swS e_swW e_waS e_spoons e_kind e_mark e_silver e_fresh e_texts e_tape e_tapeCount e_z e_waiting e_waitingCount L tx tst)) [56, 4, 5] rfl rfl rfl rfl hP hD) (fun H locs hP hD hS => kont H locs hP hD hS)
        · have sb : Sb D A H (wVO cA 1 (kd 7) vd vspoon_11 vmark_12 vcount_13 vbodies) := Sb.pl [57, 4, 5] (by decide) rfl hP hD hS hA
          refine calI (va_runU (As := [.ref (vd 0), .int k]) (rest := []) ⟨hx, hb, hml, hown, hts⟩ (c_X8_dulls_k1 l G D cA (kd 7) vd _ vspoon_11 vmark_12 vcount_13 vbodies k r_23 vcount_24 vbodies_25 hd_26) (va_cwU 2 hts gX11_voice_X8_dulls_u254X1 rfl rfl rfl rfl (by decide +kernel) ⟨Nat.le_of_ble_eq_true rfl, Nat.le_of_ble_eq_true rfl⟩) (pvV hE hK hS sb (va_recv hK hP (ci := 1) (q0 := 57) rfl rfl)) rfl rfl hv.1 rfl (lv_room (Nat.le_of_ble_eq_true rfl)) dX11_voice_102 ⟨Nat.le_of_ble_eq_true rfl, Nat.le_of_ble_eq_true rfl⟩) hS sb (Jn.pl (ws := (wX cA xd vd sd nd hd td ed kd images errors fewest vspoon_11 vmark_12 vcount_13 vbodies sbits slens snum h_weight h_known h_hour h_swS h_swW h_waS h_spoons h_kind h_mark h_silver h_fresh h_texts h_tape h_tapeCount h_z h_waiting h_waitingCount t_weight t_known t_hour t_swS t_swW t_waS t_spoons t_kind t_mark t_silver t_fresh t_texts t_tape t_tapeCount t_z t_waiting t_waitingCount e_weight e_known e_hour e_swS e_swW e_waS e_spoons e_kind e_mark e_silver e_fresh e_texts e_tape e_tapeCount e_z e_waiting e_waitingCount L tx tst)) (w1 := wVO cA 1 (kd 7) vd vspoon_11 vmark_12 vcount_24 vbodies_25) (ws' := (wX cA xd vd sd nd hd td ed kd images errors fewest vspoon_11 vmark_12 vcount_24 vbodies_25 sbits slens snum h_weight h_known h_hour h_swS h_swW h_waS h_spoons h_kind h_mark h_silver h_fresh h_texts h_tape h_tapeCount h_z h_waiting h_waitingCount t_weight t_known t_hour t_swS t_swW t_waS t_spoons t_kind t_mark t_silver t_fresh t_texts t_tape t_tapeCount t_z t_waiting t_waitingCount e_weight e_known e_hour e_swS e_swW e_waS e_spoons e_kind e_mark e_silver e_fresh e_texts e_tape e_tapeCount e_z e_waiting e_waitingCount L tx tst)) [57, 4, 5] rfl rfl rfl rfl hP hD) (fun H locs hP hD hS => kont H locs hP hD hS)
      have h := ite_f c_22 h
      by_cases c_27 : b = (2 : Int32)
      · refine lv_tableIn (tgt := 106) (off := 48) hx hb dX11_voice_58 (by rw [c_27]; decide) (by rw [c_27]; decide) (by rw [c_27]; rfl) (by decide) ?_
        have h := ite_t c_27 h
        refine lv_aload hx hb dX11_voice_106 (lv_at hv 0 rfl) ?_
        refine lv_aload_n hx hb dX11_voice_108 rfl (lv_at hv 1 rfl) ?_
        refine va_get (D := D) (ci := 11) (v := .ref (vd 0)) (C := RX11) (T := TX11) (N := 9) hx hb hts in_11 hown hK hP 0 rfl rfl 5 (by decide) w_1 (fun _ h9 => h9) rfl dX11_voice_109 ?_
        refine lv_iload_n hx hb dX11_voice_112 rfl (lv_at hv 4 rfl) ?_
        obtain ⟨⟨r_28, vcount_29, vbodies_30⟩, hd_31, h⟩ := bd_ex h
        have kont : ∀ (H : Heap) (locs : List Loc), va_P D vwCl (wX cA xd vd sd nd hd td ed kd images errors fewest vspoon_11 vmark_12 vcount_29 vbodies_30 sbits slens snum h_weight h_known h_hour h_swS h_swW h_waS h_spoons h_kind h_mark h_silver h_fresh h_texts h_tape h_tapeCount h_z h_waiting h_waitingCount t_weight t_known t_hour t_swS t_swW t_waS t_spoons t_kind t_mark t_silver t_fresh t_texts t_tape t_tapeCount t_z t_waiting t_waitingCount e_weight e_known e_hour e_swS e_swW e_waS e_spoons e_kind e_mark e_silver e_fresh e_texts e_tape e_tapeCount e_z e_waiting e_waitingCount L tx tst) H → va_D A (wX cA xd vd sd nd hd td ed kd images errors fewest vspoon_11 vmark_12 vcount_29 vbodies_30 sbits slens snum h_weight h_known h_hour h_swS h_swW h_waS h_spoons h_kind h_mark h_silver h_fresh h_texts h_tape h_tapeCount h_z h_waiting h_waitingCount t_weight t_known t_hour t_swS t_swW t_waS t_spoons t_kind t_mark t_silver t_fresh t_texts t_tape t_tapeCount t_z t_waiting t_waitingCount e_weight e_known e_hour e_swS e_swW e_waS e_spoons e_kind e_mark e_silver e_fresh e_texts e_tape e_tapeCount e_z e_waiting e_waitingCount L tx tst) → va_S A s.heap H locs → W p l e ({ frames := 6, cells := 0, slots := 0, locals := 131 } : Room) s m args below meth c H locs 0 0 Q (F0 m 116 ls [.int r_28]) := by
          intro H locs hP hD hS
          have h := Option.some.inj h
          have ee0 : r_28 = rR := congrArg (fun q => q.1) h
          have ee1 : errors = errorsR := congrArg (fun q => q.2.1) h
          have ee2 : vspoon_11 = vspoonR := congrArg (fun q => q.2.2.1) h
          have ee3 : vmark_12 = vmarkR := congrArg (fun q => q.2.2.2.1) h
          have ee4 : vcount_29 = vcountR := congrArg (fun q => q.2.2.2.2.1) h
          have ee5 : vbodies_30 = vbodiesR := congrArg (fun q => q.2.2.2.2.2) h
          subst ee0
          subst ee1
          subst ee2
          subst ee3
          subst ee4
          subst ee5
          rw [← hQ]
          exact retI hx hb hr hlk hK hP hD hS dX11_voice_116 ⟨Nat.le_of_ble_eq_true rfl, Nat.le_of_ble_eq_true rfl⟩
        obtain ⟨j, hj, ej⟩ := vp_in_of c_16 (by decide)
        have ec : ((h_kind (a).toNatClampNeg)).toNatClampNeg = j := by rw [ej]; exact nI_clamp (by omega)
        rw [ec] at hd_31 ⊢
        clear ej ec
        obtain rfl | rfl | rfl | rfl | rfl | rfl | rfl : j = 0 ∨ j = 1 ∨ j = 2 ∨ j = 3 ∨ j = 4 ∨ j = 5 ∨ j = 6 := by omega
        · have sb : Sb D A H (wVO cA 8 (kd 1) vd vspoon_11 vmark_12 vcount_13 vbodies) := Sb.pl [51, 4, 5] (by decide) rfl hP hD hS hA
          refine calI (va_runV (As := [.ref (vd 0), .int k]) (rest := []) ⟨hx, hb, hml, hown, hts⟩ (c_X8_holds_k8 l G D cA (kd 1) vd _ vspoon_11 vmark_12 vcount_13 vbodies k r_28 vcount_29 vbodies_30 hd_31) (cwV 2 hts gX11_voice_X8_holds rfl rfl rfl (by decide +kernel) ⟨Nat.le_of_ble_eq_true rfl, Nat.le_of_ble_eq_true rfl⟩) (pvV hE hK hS sb (va_recv hK hP (ci := 8) (q0 := 51) rfl rfl)) rfl rfl hv.1 rfl (lv_room (Nat.le_of_ble_eq_true rfl)) dX11_voice_113 ⟨Nat.le_of_ble_eq_true rfl, Nat.le_of_ble_eq_true rfl⟩) hS sb (Jn.pl (ws := (wX cA xd vd sd nd hd td ed kd images errors fewest vspoon_11 vmark_12 vcount_13 vbodies sbits slens snum h_weight h_known h_hour h_swS h_swW h_waS h_spoons h_kind h_mark h_silver h_fresh h_texts h_tape h_tapeCount h_z h_waiting h_waitingCount t_weight t_known t_hour t_swS t_swW t_waS t_spoons t_kind t_mark t_silver t_fresh t_texts t_tape t_tapeCount t_z t_waiting t_waitingCount e_weight e_known e_hour e_swS e_swW e_waS e_spoons e_kind e_mark e_silver e_fresh e_texts e_tape e_tapeCount e_z e_waiting e_waitingCount L tx tst)) (w1 := wVO cA 8 (kd 1) vd vspoon_11 vmark_12 vcount_29 vbodies_30) (ws' := (wX cA xd vd sd nd hd td ed kd images errors fewest vspoon_11 vmark_12 vcount_29 vbodies_30 sbits slens snum h_weight h_known h_hour h_swS h_swW h_waS h_spoons h_kind h_mark h_silver h_fresh h_texts h_tape h_tapeCount h_z h_waiting h_waitingCount t_weight t_known t_hour t_swS t_swW t_waS t_spoons t_kind t_mark t_silver t_fresh t_texts t_tape t_tapeCount t_z t_waiting t_waitingCount e_weight e_known e_hour e_swS e_swW e_waS e_spoons e_kind e_mark e_silver e_fresh e_texts e_tape e_tapeCount e_z e_waiting e_waitingCount L tx tst)) [51, 4, 5] rfl rfl rfl rfl hP hD) (fun H locs hP hD hS => kont H locs hP hD hS)
        · have sb : Sb D A H (wVO cA 2 (kd 2) vd vspoon_11 vmark_12 vcount_13 vbodies) := Sb.pl [52, 4, 5] (by decide) rfl hP hD hS hA
          refine calI (va_runU (As := [.ref (vd 0), .int k]) (rest := []) ⟨hx, hb, hml, hown, hts⟩ (c_X8_holds_k2 l G D cA (kd 2) vd _ vspoon_11 vmark_12 vcount_13 vbodies k r_28 vcount_29 vbodies_30 hd_31) (va_cwU 2 hts gX11_voice_X8_holds_u257X2 rfl rfl rfl rfl (by decide +kernel) ⟨Nat.le_of_ble_eq_true rfl, Nat.le_of_ble_eq_true rfl⟩) (pvV hE hK hS sb (va_recv hK hP (ci := 2) (q0 := 52) rfl rfl)) rfl rfl hv.1 rfl (lv_room (Nat.le_of_ble_eq_true rfl)) dX11_voice_113 ⟨Nat.le_of_ble_eq_true rfl, Nat.le_of_ble_eq_true rfl⟩) hS sb (Jn.pl (ws := (wX cA xd vd sd nd hd td ed kd images errors fewest vspoon_11 vmark_12 vcount_13 vbodies sbits slens snum h_weight h_known h_hour h_swS h_swW h_waS h_spoons h_kind h_mark h_silver h_fresh h_texts h_tape h_tapeCount h_z h_waiting h_waitingCount t_weight t_known t_hour t_swS t_swW t_waS t_spoons t_kind t_mark t_silver t_fresh t_texts t_tape t_tapeCount t_z t_waiting t_waitingCount e_weight e_known e_hour e_swS e_swW e_waS e_spoons e_kind e_mark e_silver e_fresh e_texts e_tape e_tapeCount e_z e_waiting e_waitingCount L tx tst)) (w1 := wVO cA 2 (kd 2) vd vspoon_11 vmark_12 vcount_29 vbodies_30) (ws' := (wX cA xd vd sd nd hd td ed kd images errors fewest vspoon_11 vmark_12 vcount_29 vbodies_30 sbits slens snum h_weight h_known h_hour h_swS h_swW h_waS h_spoons h_kind h_mark h_silver h_fresh h_texts h_tape h_tapeCount h_z h_waiting h_waitingCount t_weight t_known t_hour t_swS t_swW t_waS t_spoons t_kind t_mark t_silver t_fresh t_texts t_tape t_tapeCount t_z t_waiting t_waitingCount e_weight e_known e_hour e_swS e_swW e_waS e_spoons e_kind e_mark e_silver e_fresh e_texts e_tape e_tapeCount e_z e_waiting e_waitingCount L tx tst)) [52, 4, 5] rfl rfl rfl rfl hP hD) (fun H locs hP hD hS => kont H locs hP hD hS)
        · have sb : Sb D A H (wVO cA 0 (kd 3) vd vspoon_11 vmark_12 vcount_13 vbodies) := Sb.pl [53, 4, 5] (by decide) rfl hP hD hS hA
          refine calI (va_runU (As := [.ref (vd 0), .int k]) (rest := []) ⟨hx, hb, hml, hown, hts⟩ (c_X8_holds_k0 l G D cA (kd 3) vd _ vspoon_11 vmark_12 vcount_13 vbodies k r_28 vcount_29 vbodies_30 hd_31) (va_cwU 2 hts gX11_voice_X8_holds_u257X0 rfl rfl rfl rfl (by decide +kernel) ⟨Nat.le_of_ble_eq_true rfl, Nat.le_of_ble_eq_true rfl⟩) (pvV hE hK hS sb (va_recv hK hP (ci := 0) (q0 := 53) rfl rfl)) rfl rfl hv.1 rfl (lv_room (Nat.le_of_ble_eq_true rfl)) dX11_voice_113 ⟨Nat.le_of_ble_eq_true rfl, Nat.le_of_ble_eq_true rfl⟩) hS sb (Jn.pl (ws := (wX cA xd vd sd nd hd td ed kd images errors fewest vspoon_11 vmark_12 vcount_13 vbodies sbits slens snum h_weight h_known h_hour h_swS h_swW h_waS h_spoons h_kind h_mark h_silver h_fresh h_texts h_tape h_tapeCount h_z h_waiting h_waitingCount t_weight t_known t_hour t_swS t_swW t_waS t_spoons t_kind t_mark t_silver t_fresh t_texts t_tape t_tapeCount t_z t_waiting t_waitingCount e_weight e_known e_hour e_swS e_swW e_waS e_spoons e_kind e_mark e_silver e_fresh e_texts e_tape e_tapeCount e_z e_waiting e_waitingCount L tx tst)) (w1 := wVO cA 0 (kd 3) vd vspoon_11 vmark_12 vcount_29 vbodies_30) (ws' := (wX cA xd vd sd nd hd td ed kd images errors fewest vspoon_11 vmark_12 vcount_29 vbodies_30 sbits slens snum h_weight h_known h_hour h_swS h_swW h_waS h_spoons h_kind h_mark h_silver h_fresh h_texts h_tape h_tapeCount h_z h_waiting h_waitingCount t_weight t_known t_hour t_swS t_swW t_waS t_spoons t_kind t_mark t_silver t_fresh t_texts t_tape t_tapeCount t_z t_waiting t_waitingCount e_weight e_known e_hour e_swS e_swW e_waS e_spoons e_kind e_mark e_silver e_fresh e_texts e_tape e_tapeCount e_z e_waiting e_waitingCount L tx tst)) [53, 4, 5] rfl rfl rfl rfl hP hD) (fun H locs hP hD hS => kont H locs hP hD hS)
        · have sb : Sb D A H (wVO cA 5 (kd 4) vd vspoon_11 vmark_12 vcount_13 vbodies) := Sb.pl [54, 4, 5] (by decide) rfl hP hD hS hA
          refine calI (va_runU (As := [.ref (vd 0), .int k]) (rest := []) ⟨hx, hb, hml, hown, hts⟩ (c_X5_holds_k5 l G D cA (kd 4) vd _ vspoon_11 vmark_12 vcount_13 vbodies k r_28 vcount_29 vbodies_30 hd_31) (va_cwO 2 hts gX11_voice_X5_holds_u257X5 rfl rfl rfl (by decide +kernel : Cond.code yX8_holds cX8_holds 3 (some .int) ∈ wsX11_voice) (by decide +kernel) ⟨Nat.le_of_ble_eq_true rfl, Nat.le_of_ble_eq_true rfl⟩) (pvV hE hK hS sb (va_recv hK hP (ci := 5) (q0 := 54) rfl rfl)) rfl rfl hv.1 rfl (lv_room (Nat.le_of_ble_eq_true rfl)) dX11_voice_113 ⟨Nat.le_of_ble_eq_true rfl, Nat.le_of_ble_eq_true rfl⟩) hS sb (Jn.pl (ws := (wX cA xd vd sd nd hd td ed kd images errors fewest vspoon_11 vmark_12 vcount_13 vbodies sbits slens snum h_weight h_known h_hour h_swS h_swW h_waS h_spoons h_kind h_mark h_silver h_fresh h_texts h_tape h_tapeCount h_z h_waiting h_waitingCount t_weight t_known t_hour t_swS t_swW t_waS t_spoons t_kind t_mark t_silver t_fresh t_texts t_tape t_tapeCount t_z t_waiting t_waitingCount e_weight e_known e_hour e_swS e_swW e_waS e_spoons e_kind e_mark e_silver e_fresh e_texts e_tape e_tapeCount e_z e_waiting e_waitingCount L tx tst)) (w1 := wVO cA 5 (kd 4) vd vspoon_11 vmark_12 vcount_29 vbodies_30) (ws' := (wX cA xd vd sd nd hd td ed kd images errors fewest vspoon_11 vmark_12 vcount_29 vbodies_30 sbits slens snum h_weight h_known h_hour h_swS h_swW h_waS h_spoons h_kind h_mark h_silver h_fresh h_texts h_tape h_tapeCount h_z h_waiting h_waitingCount t_weight t_known t_hour t_swS t_swW t_waS t_spoons t_kind t_mark t_silver t_fresh t_texts t_tape t_tapeCount t_z t_waiting t_waitingCount e_weight e_known e_hour e_swS e_swW e_waS e_spoons e_kind e_mark e_silver e_fresh e_texts e_tape e_tapeCount e_z e_waiting e_waitingCount L tx tst)) [54, 4, 5] rfl rfl rfl rfl hP hD) (fun H locs hP hD hS => kont H locs hP hD hS)
        · have sb : Sb D A H (wVO cA 6 (kd 5) vd vspoon_11 vmark_12 vcount_13 vbodies) := Sb.pl [55, 4, 5] (by decide) rfl hP hD hS hA
          refine calI (va_runU (As := [.ref (vd 0), .int k]) (rest := []) ⟨hx, hb, hml, hown, hts⟩ (c_X8_holds_k6 l G D cA (kd 5) vd _ vspoon_11 vmark_12 vcount_13 vbodies k r_28 vcount_29 vbodies_30 hd_31) (va_cwU 2 hts gX11_voice_X8_holds_u257X6 rfl rfl rfl rfl (by decide +kernel) ⟨Nat.le_of_ble_eq_true rfl, Nat.le_of_ble_eq_true rfl⟩) (pvV hE hK hS sb (va_recv hK hP (ci := 6) (q0 := 55) rfl rfl)) rfl rfl hv.1 rfl (lv_room (Nat.le_of_ble_eq_true rfl)) dX11_voice_113 ⟨Nat.le_of_ble_eq_true rfl, Nat.le_of_ble_eq_true rfl⟩) hS sb (Jn.pl (ws := (wX cA xd vd sd nd hd td ed kd images errors fewest vspoon_11 vmark_12 vcount_13 vbodies sbits slens snum h_weight h_known h_hour h_swS h_swW h_waS h_spoons h_kind h_mark h_silver h_fresh h_texts h_tape h_tapeCount h_z h_waiting h_waitingCount t_weight t_known t_hour t_swS t_swW t_waS t_spoons t_kind t_mark t_silver t_fresh t_texts t_tape t_tapeCount t_z t_waiting t_waitingCount e_weight e_known e_hour e_swS e_swW e_waS e_spoons e_kind e_mark e_silver e_fresh e_texts e_tape e_tapeCount e_z e_waiting e_waitingCount L tx tst)) (w1 := wVO cA 6 (kd 5) vd vspoon_11 vmark_12 vcount_29 vbodies_30) (ws' := (wX cA xd vd sd nd hd td ed kd images errors fewest vspoon_11 vmark_12 vcount_29 vbodies_30 sbits slens snum h_weight h_known h_hour h_swS h_swW h_waS h_spoons h_kind h_mark h_silver h_fresh h_texts h_tape h_tapeCount h_z h_waiting h_waitingCount t_weight t_known t_hour t_swS t_swW t_waS t_spoons t_kind t_mark t_silver t_fresh t_texts t_tape t_tapeCount t_z t_waiting t_waitingCount e_weight e_known e_hour e_swS e_swW e_waS e_spoons e_kind e_mark e_silver e_fresh e_texts e_tape e_tapeCount e_z e_waiting e_waitingCount L tx tst)) [55, 4, 5] rfl rfl rfl rfl hP hD) (fun H locs hP hD hS => kont H locs hP hD hS)
        · have sb : Sb D A H (wVO cA 4 (kd 6) vd vspoon_11 vmark_12 vcount_13 vbodies) := Sb.pl [56, 4, 5] (by decide) rfl hP hD hS hA
          refine calI (va_runU (As := [.ref (vd 0), .int k]) (rest := []) ⟨hx, hb, hml, hown, hts⟩ (c_X8_holds_k4 l G D cA (kd 6) vd _ vspoon_11 vmark_12 vcount_13 vbodies k r_28 vcount_29 vbodies_30 hd_31) (va_cwU 2 hts gX11_voice_X8_holds_u257X4 rfl rfl rfl rfl (by decide +kernel) ⟨Nat.le_of_ble_eq_true rfl, Nat.le_of_ble_eq_true rfl⟩) (pvV hE hK hS sb (va_recv hK hP (ci := 4) (q0 := 56) rfl rfl)) rfl rfl hv.1 rfl (lv_room (Nat.le_of_ble_eq_true rfl)) dX11_voice_113 ⟨Nat.le_of_ble_eq_true rfl, Nat.le_of_ble_eq_true rfl⟩) hS sb (Jn.pl (ws := (wX cA xd vd sd nd hd td ed kd images errors fewest vspoon_11 vmark_12 vcount_13 vbodies sbits slens snum h_weight h_known h_hour h_swS h_swW h_waS h_spoons h_kind h_mark h_silver h_fresh h_texts h_tape h_tapeCount h_z h_waiting h_waitingCount t_weight t_known t_hour t_swS t_swW t_waS t_spoons t_kind t_mark t_silver t_fresh t_texts t_tape t_tapeCount t_z t_waiting t_waitingCount e_weight e_known e_hour e_swS e_swW e_waS e_spoons e_kind e_mark e_silver e_fresh e_texts e_tape e_tapeCount e_z e_waiting e_waitingCount L tx tst)) (w1 := wVO cA 4 (kd 6) vd vspoon_11 vmark_12 vcount_29 vbodies_30) (ws' := (wX cA xd vd sd nd hd td ed kd images errors fewest vspoon_11 vmark_12 vcount_29 vbodies_30 sbits slens snum h_weight h_known h_hour h_swS h_swW h_waS h_spoons h_kind h_mark h_silver h_fresh h_texts h_tape h_tapeCount h_z h_waiting h_waitingCount t_weight t_known t_hour t_swS t_swW t_waS t_spoons t_kind t_mark t_silver t_fresh t_texts t_tape t_tapeCount t_z t_waiting t_waitingCount e_weight e_known e_hour e_swS e_swW e_waS e_spoons e_kind e_mark e_silver e_fresh e_texts e_tape e_tapeCount e_z e_waiting e_waitingCount L tx tst)) [56, 4, 5] rfl rfl rfl rfl hP hD) (fun H locs hP hD hS => kont H locs hP hD hS)
        · have sb : Sb D A H (wVO cA 1 (kd 7) vd vspoon_11 vmark_12 vcount_13 vbodies) := Sb.pl [57, 4, 5] (by decide) rfl hP hD hS hA
          refine calI (va_runU (As := [.ref (vd 0), .int k]) (rest := []) ⟨hx, hb, hml, hown, hts⟩ (c_X1_holds_k1 l G D cA (kd 7) vd _ vspoon_11 vmark_12 vcount_13 vbodies k r_28 vcount_29 vbodies_30 hd_31) (va_cwO 2 hts gX11_voice_X1_holds_u257X1 rfl rfl rfl (by decide +kernel : Cond.code yX8_holds cX8_holds 3 (some .int) ∈ wsX11_voice) (by decide +kernel) ⟨Nat.le_of_ble_eq_true rfl, Nat.le_of_ble_eq_true rfl⟩) (pvV hE hK hS sb (va_recv hK hP (ci := 1) (q0 := 57) rfl rfl)) rfl rfl hv.1 rfl (lv_room (Nat.le_of_ble_eq_true rfl)) dX11_voice_113 ⟨Nat.le_of_ble_eq_true rfl, Nat.le_of_ble_eq_true rfl⟩) hS sb (Jn.pl (ws := (wX cA xd vd sd nd hd td ed kd images errors fewest vspoon_11 vmark_12 vcount_13 vbodies sbits slens snum h_weight h_known h_hour h_swS h_swW h_waS h_spoons h_kind h_mark h_silver h_fresh h_texts h_tape h_tapeCount h_z h_waiting h_waitingCount t_weight t_known t_hour t_swS t_swW t_waS t_spoons t_kind t_mark t_silver t_fresh t_texts t_tape t_tapeCount t_z t_waiting t_waitingCount e_weight e_known e_hour e_swS e_swW e_waS e_spoons e_kind e_mark e_silver e_fresh e_texts e_tape e_tapeCount e_z e_waiting e_waitingCount L tx tst)) (w1 := wVO cA 1 (kd 7) vd vspoon_11 vmark_12 vcount_29 vbodies_30) (ws' := (wX cA xd vd sd nd hd td ed kd images errors fewest vspoon_11 vmark_12 vcount_29 vbodies_30 sbits slens snum h_weight h_known h_hour h_swS h_swW h_waS h_spoons h_kind h_mark h_silver h_fresh h_texts h_tape h_tapeCount h_z h_waiting h_waitingCount t_weight t_known t_hour t_swS t_swW t_waS t_spoons t_kind t_mark t_silver t_fresh t_texts t_tape t_tapeCount t_z t_waiting t_waitingCount e_weight e_known e_hour e_swS e_swW e_waS e_spoons e_kind e_mark e_silver e_fresh e_texts e_tape e_tapeCount e_z e_waiting e_waitingCount L tx tst)) [57, 4, 5] rfl rfl rfl rfl hP hD) (fun H locs hP hD hS => kont H locs hP hD hS)
      have h := ite_f c_27 h
      have nc_17 := lv_neT c_17 (show ((0 : Int32)).toInt = 0 from rfl)
      have nc_22 := lv_neT c_22 (show ((1 : Int32)).toInt = 1 from rfl)
      have nc_27 := lv_neT c_27 (show ((2 : Int32)).toInt = 2 from rfl)
      refine lv_tableOut (tgt := 117) hx hb dX11_voice_58 (by omega) (by decide) ?_
      refine lv_aload hx hb dX11_voice_117 (lv_at hv 0 rfl) ?_
      refine lv_aload_n hx hb dX11_voice_119 rfl (lv_at hv 1 rfl) ?_
      refine va_get (D := D) (ci := 11) (v := .ref (vd 0)) (C := RX11) (T := TX11) (N := 9) hx hb hts in_11 hown hK hP 0 rfl rfl 5 (by decide) w_1 (fun _ h9 => h9) rfl dX11_voice_120 ?_
      refine lv_iload_n hx hb dX11_voice_123 rfl (lv_at hv 4 rfl) ?_
      obtain ⟨⟨r_32, vcount_33, vbodies_34⟩, hd_35, h⟩ := bd_ex h
      have kont : ∀ (H : Heap) (locs : List Loc), va_P D vwCl (wX cA xd vd sd nd hd td ed kd images errors fewest vspoon_11 vmark_12 vcount_33 vbodies_34 sbits slens snum h_weight h_known h_hour h_swS h_swW h_waS h_spoons h_kind h_mark h_silver h_fresh h_texts h_tape h_tapeCount h_z h_waiting h_waitingCount t_weight t_known t_hour t_swS t_swW t_waS t_spoons t_kind t_mark t_silver t_fresh t_texts t_tape t_tapeCount t_z t_waiting t_waitingCount e_weight e_known e_hour e_swS e_swW e_waS e_spoons e_kind e_mark e_silver e_fresh e_texts e_tape e_tapeCount e_z e_waiting e_waitingCount L tx tst) H → va_D A (wX cA xd vd sd nd hd td ed kd images errors fewest vspoon_11 vmark_12 vcount_33 vbodies_34 sbits slens snum h_weight h_known h_hour h_swS h_swW h_waS h_spoons h_kind h_mark h_silver h_fresh h_texts h_tape h_tapeCount h_z h_waiting h_waitingCount t_weight t_known t_hour t_swS t_swW t_waS t_spoons t_kind t_mark t_silver t_fresh t_texts t_tape t_tapeCount t_z t_waiting t_waitingCount e_weight e_known e_hour e_swS e_swW e_waS e_spoons e_kind e_mark e_silver e_fresh e_texts e_tape e_tapeCount e_z e_waiting e_waitingCount L tx tst) → va_S A s.heap H locs → W p l e ({ frames := 6, cells := 0, slots := 0, locals := 131 } : Room) s m args below meth c H locs 0 0 Q (F0 m 127 ls [.int r_32]) := by
        intro H locs hP hD hS
        have h := Option.some.inj h
        have ee0 : r_32 = rR := congrArg (fun q => q.1) h
        have ee1 : errors = errorsR := congrArg (fun q => q.2.1) h
        have ee2 : vspoon_11 = vspoonR := congrArg (fun q => q.2.2.1) h
        have ee3 : vmark_12 = vmarkR := congrArg (fun q => q.2.2.2.1) h
        have ee4 : vcount_33 = vcountR := congrArg (fun q => q.2.2.2.2.1) h
        have ee5 : vbodies_34 = vbodiesR := congrArg (fun q => q.2.2.2.2.2) h
        subst ee0
        subst ee1
        subst ee2
        subst ee3
        subst ee4
        subst ee5
        rw [← hQ]
        exact retI hx hb hr hlk hK hP hD hS dX11_voice_127 ⟨Nat.le_of_ble_eq_true rfl, Nat.le_of_ble_eq_true rfl⟩
      obtain ⟨j, hj, ej⟩ := vp_in_of c_16 (by decide)
      have ec : ((h_kind (a).toNatClampNeg)).toNatClampNeg = j := by rw [ej]; exact nI_clamp (by omega)
      rw [ec] at hd_35 ⊢
      clear ej ec
      obtain rfl | rfl | rfl | rfl | rfl | rfl | rfl : j = 0 ∨ j = 1 ∨ j = 2 ∨ j = 3 ∨ j = 4 ∨ j = 5 ∨ j = 6 := by omega
      · have sb : Sb D A H (wVO cA 8 (kd 1) vd vspoon_11 vmark_12 vcount_13 vbodies) := Sb.pl [51, 4, 5] (by decide) rfl hP hD hS hA
        refine calI (va_runV (As := [.ref (vd 0), .int k]) (rest := []) ⟨hx, hb, hml, hown, hts⟩ (c_X8_tells_k8 l G D cA (kd 1) vd _ vspoon_11 vmark_12 vcount_13 vbodies k r_32 vcount_33 vbodies_34 hd_35) (cwV 2 hts gX11_voice_X8_tells rfl rfl rfl (by decide +kernel) ⟨Nat.le_of_ble_eq_true rfl, Nat.le_of_ble_eq_true rfl⟩) (pvV hE hK hS sb (va_recv hK hP (ci := 8) (q0 := 51) rfl rfl)) rfl rfl hv.1 rfl (lv_room (Nat.le_of_ble_eq_true rfl)) dX11_voice_124 ⟨Nat.le_of_ble_eq_true rfl, Nat.le_of_ble_eq_true rfl⟩) hS sb (Jn.pl (ws := (wX cA xd vd sd nd hd td ed kd images errors fewest vspoon_11 vmark_12 vcount_13 vbodies sbits slens snum h_weight h_known h_hour h_swS h_swW h_waS h_spoons h_kind h_mark h_silver h_fresh h_texts h_tape h_tapeCount h_z h_waiting h_waitingCount t_weight t_known t_hour t_swS t_swW t_waS t_spoons t_kind t_mark t_silver t_fresh t_texts t_tape t_tapeCount t_z t_waiting t_waitingCount e_weight e_known e_hour e_swS e_swW e_waS e_spoons e_kind e_mark e_silver e_fresh e_texts e_tape e_tapeCount e_z e_waiting e_waitingCount L tx tst)) (w1 := wVO cA 8 (kd 1) vd vspoon_11 vmark_12 vcount_33 vbodies_34) (ws' := (wX cA xd vd sd nd hd td ed kd images errors fewest vspoon_11 vmark_12 vcount_33 vbodies_34 sbits slens snum h_weight h_known h_hour h_swS h_swW h_waS h_spoons h_kind h_mark h_silver h_fresh h_texts h_tape h_tapeCount h_z h_waiting h_waitingCount t_weight t_known t_hour t_swS t_swW t_waS t_spoons t_kind t_mark t_silver t_fresh t_texts t_tape t_tapeCount t_z t_waiting t_waitingCount e_weight e_known e_hour e_swS e_swW e_waS e_spoons e_kind e_mark e_silver e_fresh e_texts e_tape e_tapeCount e_z e_waiting e_waitingCount L tx tst)) [51, 4, 5] rfl rfl rfl rfl hP hD) (fun H locs hP hD hS => kont H locs hP hD hS)
      · have sb : Sb D A H (wVO cA 2 (kd 2) vd vspoon_11 vmark_12 vcount_13 vbodies) := Sb.pl [52, 4, 5] (by decide) rfl hP hD hS hA
        refine calI (va_runU (As := [.ref (vd 0), .int k]) (rest := []) ⟨hx, hb, hml, hown, hts⟩ (c_X8_tells_k2 l G D cA (kd 2) vd _ vspoon_11 vmark_12 vcount_13 vbodies k r_32 vcount_33 vbodies_34 hd_35) (va_cwU 2 hts gX11_voice_X8_tells_u260X2 rfl rfl rfl rfl (by decide +kernel) ⟨Nat.le_of_ble_eq_true rfl, Nat.le_of_ble_eq_true rfl⟩) (pvV hE hK hS sb (va_recv hK hP (ci := 2) (q0 := 52) rfl rfl)) rfl rfl hv.1 rfl (lv_room (Nat.le_of_ble_eq_true rfl)) dX11_voice_124 ⟨Nat.le_of_ble_eq_true rfl, Nat.le_of_ble_eq_true rfl⟩) hS sb (Jn.pl (ws := (wX cA xd vd sd nd hd td ed kd images errors fewest vspoon_11 vmark_12 vcount_13 vbodies sbits slens snum h_weight h_known h_hour h_swS h_swW h_waS h_spoons h_kind h_mark h_silver h_fresh h_texts h_tape h_tapeCount h_z h_waiting h_waitingCount t_weight t_known t_hour t_swS t_swW t_waS t_spoons t_kind t_mark t_silver t_fresh t_texts t_tape t_tapeCount t_z t_waiting t_waitingCount e_weight e_known e_hour e_swS e_swW e_waS e_spoons e_kind e_mark e_silver e_fresh e_texts e_tape e_tapeCount e_z e_waiting e_waitingCount L tx tst)) (w1 := wVO cA 2 (kd 2) vd vspoon_11 vmark_12 vcount_33 vbodies_34) (ws' := (wX cA xd vd sd nd hd td ed kd images errors fewest vspoon_11 vmark_12 vcount_33 vbodies_34 sbits slens snum h_weight h_known h_hour h_swS h_swW h_waS h_spoons h_kind h_mark h_silver h_fresh h_texts h_tape h_tapeCount h_z h_waiting h_waitingCount t_weight t_known t_hour t_swS t_swW t_waS t_spoons t_kind t_mark t_silver t_fresh t_texts t_tape t_tapeCount t_z t_waiting t_waitingCount e_weight e_known e_hour e_swS e_swW e_waS e_spoons e_kind e_mark e_silver e_fresh e_texts e_tape e_tapeCount e_z e_waiting e_waitingCount L tx tst)) [52, 4, 5] rfl rfl rfl rfl hP hD) (fun H locs hP hD hS => kont H locs hP hD hS)
      · have sb : Sb D A H (wVO cA 0 (kd 3) vd vspoon_11 vmark_12 vcount_13 vbodies) := Sb.pl [53, 4, 5] (by decide) rfl hP hD hS hA
        refine calI (va_runU (As := [.ref (vd 0), .int k]) (rest := []) ⟨hx, hb, hml, hown, hts⟩ (c_X8_tells_k0 l G D cA (kd 3) vd _ vspoon_11 vmark_12 vcount_13 vbodies k r_32 vcount_33 vbodies_34 hd_35) (va_cwU 2 hts gX11_voice_X8_tells_u260X0 rfl rfl rfl rfl (by decide +kernel) ⟨Nat.le_of_ble_eq_true rfl, Nat.le_of_ble_eq_true rfl⟩) (pvV hE hK hS sb (va_recv hK hP (ci := 0) (q0 := 53) rfl rfl)) rfl rfl hv.1 rfl (lv_room (Nat.le_of_ble_eq_true rfl)) dX11_voice_124 ⟨Nat.le_of_ble_eq_true rfl, Nat.le_of_ble_eq_true rfl⟩) hS sb (Jn.pl (ws := (wX cA xd vd sd nd hd td ed kd images errors fewest vspoon_11 vmark_12 vcount_13 vbodies sbits slens snum h_weight h_known h_hour h_swS h_swW h_waS h_spoons h_kind h_mark h_silver h_fresh h_texts h_tape h_tapeCount h_z h_waiting h_waitingCount t_weight t_known t_hour t_swS t_swW t_waS t_spoons t_kind t_mark t_silver t_fresh t_texts t_tape t_tapeCount t_z t_waiting t_waitingCount e_weight e_known e_hour e_swS e_swW e_waS e_spoons e_kind e_mark e_silver e_fresh e_texts e_tape e_tapeCount e_z e_waiting e_waitingCount L tx tst)) (w1 := wVO cA 0 (kd 3) vd vspoon_11 vmark_12 vcount_33 vbodies_34) (ws' := (wX cA xd vd sd nd hd td ed kd images errors fewest vspoon_11 vmark_12 vcount_33 vbodies_34 sbits slens snum h_weight h_known h_hour h_swS h_swW h_waS h_spoons h_kind h_mark h_silver h_fresh h_texts h_tape h_tapeCount h_z h_waiting h_waitingCount t_weight t_known t_hour t_swS t_swW t_waS t_spoons t_kind t_mark t_silver t_fresh t_texts t_tape t_tapeCount t_z t_waiting t_waitingCount e_weight e_known e_hour e_swS e_swW e_waS e_spoons e_kind e_mark e_silver e_fresh e_texts e_tape e_tapeCount e_z e_waiting e_waitingCount L tx tst)) [53, 4, 5] rfl rfl rfl rfl hP hD) (fun H locs hP hD hS => kont H locs hP hD hS)
      · have sb : Sb D A H (wVO cA 5 (kd 4) vd vspoon_11 vmark_12 vcount_13 vbodies) := Sb.pl [54, 4, 5] (by decide) rfl hP hD hS hA
        refine calI (va_runU (As := [.ref (vd 0), .int k]) (rest := []) ⟨hx, hb, hml, hown, hts⟩ (c_X8_tells_k5 l G D cA (kd 4) vd _ vspoon_11 vmark_12 vcount_13 vbodies k r_32 vcount_33 vbodies_34 hd_35) (va_cwU 2 hts gX11_voice_X8_tells_u260X5 rfl rfl rfl rfl (by decide +kernel) ⟨Nat.le_of_ble_eq_true rfl, Nat.le_of_ble_eq_true rfl⟩) (pvV hE hK hS sb (va_recv hK hP (ci := 5) (q0 := 54) rfl rfl)) rfl rfl hv.1 rfl (lv_room (Nat.le_of_ble_eq_true rfl)) dX11_voice_124 ⟨Nat.le_of_ble_eq_true rfl, Nat.le_of_ble_eq_true rfl⟩) hS sb (Jn.pl (ws := (wX cA xd vd sd nd hd td ed kd images errors fewest vspoon_11 vmark_12 vcount_13 vbodies sbits slens snum h_weight h_known h_hour h_swS h_swW h_waS h_spoons h_kind h_mark h_silver h_fresh h_texts h_tape h_tapeCount h_z h_waiting h_waitingCount t_weight t_known t_hour t_swS t_swW t_waS t_spoons t_kind t_mark t_silver t_fresh t_texts t_tape t_tapeCount t_z t_waiting t_waitingCount e_weight e_known e_hour e_swS e_swW e_waS e_spoons e_kind e_mark e_silver e_fresh e_texts e_tape e_tapeCount e_z e_waiting e_waitingCount L tx tst)) (w1 := wVO cA 5 (kd 4) vd vspoon_11 vmark_12 vcount_33 vbodies_34) (ws' := (wX cA xd vd sd nd hd td ed kd images errors fewest vspoon_11 vmark_12 vcount_33 vbodies_34 sbits slens snum h_weight h_known h_hour h_swS h_swW h_waS h_spoons h_kind h_mark h_silver h_fresh h_texts h_tape h_tapeCount h_z h_waiting h_waitingCount t_weight t_known t_hour t_swS t_swW t_waS t_spoons t_kind t_mark t_silver t_fresh t_texts t_tape t_tapeCount t_z t_waiting t_waitingCount e_weight e_known e_hour e_swS e_swW e_waS e_spoons e_kind e_mark e_silver e_fresh e_texts e_tape e_tapeCount e_z e_waiting e_waitingCount L tx tst)) [54, 4, 5] rfl rfl rfl rfl hP hD) (fun H locs hP hD hS => kont H locs hP hD hS)
      · have sb : Sb D A H (wVO cA 6 (kd 5) vd vspoon_11 vmark_12 vcount_13 vbodies) := Sb.pl [55, 4, 5] (by decide) rfl hP hD hS hA
        refine calI (va_runU (As := [.ref (vd 0), .int k]) (rest := []) ⟨hx, hb, hml, hown, hts⟩ (c_X6_tells_k6 l G D cA (kd 5) vd _ vspoon_11 vmark_12 vcount_13 vbodies k r_32 vcount_33 vbodies_34 hd_35) (va_cwO 2 hts gX11_voice_X6_tells_u260X6 rfl rfl rfl (by decide +kernel : Cond.code yX8_tells cX8_tells 3 (some .int) ∈ wsX11_voice) (by decide +kernel) ⟨Nat.le_of_ble_eq_true rfl, Nat.le_of_ble_eq_true rfl⟩) (pvV hE hK hS sb (va_recv hK hP (ci := 6) (q0 := 55) rfl rfl)) rfl rfl hv.1 rfl (lv_room (Nat.le_of_ble_eq_true rfl)) dX11_voice_124 ⟨Nat.le_of_ble_eq_true rfl, Nat.le_of_ble_eq_true rfl⟩) hS sb (Jn.pl (ws := (wX cA xd vd sd nd hd td ed kd images errors fewest vspoon_11 vmark_12 vcount_13 vbodies sbits slens snum h_weight h_known h_hour h_swS h_swW h_waS h_spoons h_kind h_mark h_silver h_fresh h_texts h_tape h_tapeCount h_z h_waiting h_waitingCount t_weight t_known t_hour t_swS t_swW t_waS t_spoons t_kind t_mark t_silver t_fresh t_texts t_tape t_tapeCount t_z t_waiting t_waitingCount e_weight e_known e_hour e_swS e_swW e_waS e_spoons e_kind e_mark e_silver e_fresh e_texts e_tape e_tapeCount e_z e_waiting e_waitingCount L tx tst)) (w1 := wVO cA 6 (kd 5) vd vspoon_11 vmark_12 vcount_33 vbodies_34) (ws' := (wX cA xd vd sd nd hd td ed kd images errors fewest vspoon_11 vmark_12 vcount_33 vbodies_34 sbits slens snum h_weight h_known h_hour h_swS h_swW h_waS h_spoons h_kind h_mark h_silver h_fresh h_texts h_tape h_tapeCount h_z h_waiting h_waitingCount t_weight t_known t_hour t_swS t_swW t_waS t_spoons t_kind t_mark t_silver t_fresh t_texts t_tape t_tapeCount t_z t_waiting t_waitingCount e_weight e_known e_hour e_swS e_swW e_waS e_spoons e_kind e_mark e_silver e_fresh e_texts e_tape e_tapeCount e_z e_waiting e_waitingCount L tx tst)) [55, 4, 5] rfl rfl rfl rfl hP hD) (fun H locs hP hD hS => kont H locs hP hD hS)
      · have sb : Sb D A H (wVO cA 4 (kd 6) vd vspoon_11 vmark_12 vcount_13 vbodies) := Sb.pl [56, 4, 5] (by decide) rfl hP hD hS hA
        refine calI (va_runU (As := [.ref (vd 0), .int k]) (rest := []) ⟨hx, hb, hml, hown, hts⟩ (c_X8_tells_k4 l G D cA (kd 6) vd _ vspoon_11 vmark_12 vcount_13 vbodies k r_32 vcount_33 vbodies_34 hd_35) (va_cwU 2 hts gX11_voice_X8_tells_u260X4 rfl rfl rfl rfl (by decide +kernel) ⟨Nat.le_of_ble_eq_true rfl, Nat.le_of_ble_eq_true rfl⟩) (pvV hE hK hS sb (va_recv hK hP (ci := 4) (q0 := 56) rfl rfl)) rfl rfl hv.1 rfl (lv_room (Nat.le_of_ble_eq_true rfl)) dX11_voice_124 ⟨Nat.le_of_ble_eq_true rfl, Nat.le_of_ble_eq_true rfl⟩) hS sb (Jn.pl (ws := (wX cA xd vd sd nd hd td ed kd images errors fewest vspoon_11 vmark_12 vcount_13 vbodies sbits slens snum h_weight h_known h_hour h_swS h_swW h_waS h_spoons h_kind h_mark h_silver h_fresh h_texts h_tape h_tapeCount h_z h_waiting h_waitingCount t_weight t_known t_hour t_swS t_swW t_waS t_spoons t_kind t_mark t_silver t_fresh t_texts t_tape t_tapeCount t_z t_waiting t_waitingCount e_weight e_known e_hour e_swS e_swW e_waS e_spoons e_kind e_mark e_silver e_fresh e_texts e_tape e_tapeCount e_z e_waiting e_waitingCount L tx tst)) (w1 := wVO cA 4 (kd 6) vd vspoon_11 vmark_12 vcount_33 vbodies_34) (ws' := (wX cA xd vd sd nd hd td ed kd images errors fewest vspoon_11 vmark_12 vcount_33 vbodies_34 sbits slens snum h_weight h_known h_hour h_swS h_swW h_waS h_spoons h_kind h_mark h_silver h_fresh h_texts h_tape h_tapeCount h_z h_waiting h_waitingCount t_weight t_known t_hour t_swS t_swW t_waS t_spoons t_kind t_mark t_silver t_fresh t_texts t_tape t_tapeCount t_z t_waiting t_waitingCount e_weight e_known e_hour e_swS e_swW e_waS e_spoons e_kind e_mark e_silver e_fresh e_texts e_tape e_tapeCount e_z e_waiting e_waitingCount L tx tst)) [56, 4, 5] rfl rfl rfl rfl hP hD) (fun H locs hP hD hS => kont H locs hP hD hS)
      · have sb : Sb D A H (wVO cA 1 (kd 7) vd vspoon_11 vmark_12 vcount_13 vbodies) := Sb.pl [57, 4, 5] (by decide) rfl hP hD hS hA
        refine calI (va_runU (As := [.ref (vd 0), .int k]) (rest := []) ⟨hx, hb, hml, hown, hts⟩ (c_X1_tells_k1 l G D cA (kd 7) vd _ vspoon_11 vmark_12 vcount_13 vbodies k r_32 vcount_33 vbodies_34 hd_35) (va_cwO 2 hts gX11_voice_X1_tells_u260X1 rfl rfl rfl (by decide +kernel : Cond.code yX8_tells cX8_tells 3 (some .int) ∈ wsX11_voice) (by decide +kernel) ⟨Nat.le_of_ble_eq_true rfl, Nat.le_of_ble_eq_true rfl⟩) (pvV hE hK hS sb (va_recv hK hP (ci := 1) (q0 := 57) rfl rfl)) rfl rfl hv.1 rfl (lv_room (Nat.le_of_ble_eq_true rfl)) dX11_voice_124 ⟨Nat.le_of_ble_eq_true rfl, Nat.le_of_ble_eq_true rfl⟩) hS sb (Jn.pl (ws := (wX cA xd vd sd nd hd td ed kd images errors fewest vspoon_11 vmark_12 vcount_13 vbodies sbits slens snum h_weight h_known h_hour h_swS h_swW h_waS h_spoons h_kind h_mark h_silver h_fresh h_texts h_tape h_tapeCount h_z h_waiting h_waitingCount t_weight t_known t_hour t_swS t_swW t_waS t_spoons t_kind t_mark t_silver t_fresh t_texts t_tape t_tapeCount t_z t_waiting t_waitingCount e_weight e_known e_hour e_swS e_swW e_waS e_spoons e_kind e_mark e_silver e_fresh e_texts e_tape e_tapeCount e_z e_waiting e_waitingCount L tx tst)) (w1 := wVO cA 1 (kd 7) vd vspoon_11 vmark_12 vcount_33 vbodies_34) (ws' := (wX cA xd vd sd nd hd td ed kd images errors fewest vspoon_11 vmark_12 vcount_33 vbodies_34 sbits slens snum h_weight h_known h_hour h_swS h_swW h_waS h_spoons h_kind h_mark h_silver h_fresh h_texts h_tape h_tapeCount h_z h_waiting h_waitingCount t_weight t_known t_hour t_swS t_swW t_waS t_spoons t_kind t_mark t_silver t_fresh t_texts t_tape t_tapeCount t_z t_waiting t_waitingCount e_weight e_known e_hour e_swS e_swW e_waS e_spoons e_kind e_mark e_silver e_fresh e_texts e_tape e_tapeCount e_z e_waiting e_waitingCount L tx tst)) [57, 4, 5] rfl rfl rfl rfl hP hD) (fun H locs hP hD hS => kont H locs hP hD hS)
    · have h := ite_t c_9 h
      refine lv_aload_n hx hb dX11_voice_17 rfl (lv_at hv 0 rfl) ?_
      refine lv_ldc (v := (-1000000001 : Int32)) hx hb hown w_0 dX11_voice_18 ?_
      obtain ⟨⟨r_36, errors_37⟩, hf_38, h⟩ := bd_ex h
      have sb := Sb.same hP hD hS hA
      refine calI (va_runV (As := [.int (-1000000001 : Int32)]) (rest := []) ⟨hx, hb, hml, hown, hts⟩ (c_X11_refused l G D cA xd vd sd nd hd td ed kd _ images errors fewest vspoon vmark vcount vbodies sbits slens snum h_weight h_known h_hour h_swS h_swW h_waS h_spoons h_kind h_mark h_silver h_fresh h_texts h_tape h_tapeCount h_z h_waiting h_waitingCount t_weight t_known t_hour t_swS t_swW t_waS t_spoons t_kind t_mark t_silver t_fresh t_texts t_tape t_tapeCount t_z t_waiting t_waitingCount e_weight e_known e_hour e_swS e_swW e_waS e_spoons e_kind e_mark e_silver e_fresh e_texts e_tape e_tapeCount e_z e_waiting e_waitingCount L tx tst (-1000000001 : Int32) r_36 errors_37 hf_38) (cwV 1 hts gX11_voice_X11_refused rfl rfl rfl (by decide +kernel) ⟨Nat.le_of_ble_eq_true rfl, Nat.le_of_ble_eq_true rfl⟩) (pvV hE hK hS sb (va_recv hK hP (ci := 11) (q0 := 0) rfl rfl)) rfl rfl hv.1 rfl (lv_room (Nat.le_of_ble_eq_true rfl)) dX11_voice_20 ⟨Nat.le_of_ble_eq_true rfl, Nat.le_of_ble_eq_true rfl⟩) hS sb (Jn.same sb) (fun H locs hP hD hS => ?_)
      have hP : va_P D vwCl (wX cA xd vd sd nd hd td ed kd images errors_37 fewest vspoon vmark vcount vbodies sbits slens snum h_weight h_known h_hour h_swS h_swW h_waS h_spoons h_kind h_mark h_silver h_fresh h_texts h_tape h_tapeCount h_z h_waiting h_waitingCount t_weight t_known t_hour t_swS t_swW t_waS t_spoons t_kind t_mark t_silver t_fresh t_texts t_tape t_tapeCount t_z t_waiting t_waitingCount e_weight e_known e_hour e_swS e_swW e_waS e_spoons e_kind e_mark e_silver e_fresh e_texts e_tape e_tapeCount e_z e_waiting e_waitingCount L tx tst) H := hP
      have hD : va_D A (wX cA xd vd sd nd hd td ed kd images errors_37 fewest vspoon vmark vcount vbodies sbits slens snum h_weight h_known h_hour h_swS h_swW h_waS h_spoons h_kind h_mark h_silver h_fresh h_texts h_tape h_tapeCount h_z h_waiting h_waitingCount t_weight t_known t_hour t_swS t_swW t_waS t_spoons t_kind t_mark t_silver t_fresh t_texts t_tape t_tapeCount t_z t_waiting t_waitingCount e_weight e_known e_hour e_swS e_swW e_waS e_spoons e_kind e_mark e_silver e_fresh e_texts e_tape e_tapeCount e_z e_waiting e_waitingCount L tx tst) := hD
      have h := Option.some.inj h
      have ee0 : r_36 = rR := congrArg (fun q => q.1) h
      have ee1 : errors_37 = errorsR := congrArg (fun q => q.2.1) h
      have ee2 : vspoon = vspoonR := congrArg (fun q => q.2.2.1) h
      have ee3 : vmark = vmarkR := congrArg (fun q => q.2.2.2.1) h
      have ee4 : vcount = vcountR := congrArg (fun q => q.2.2.2.2.1) h
      have ee5 : vbodies = vbodiesR := congrArg (fun q => q.2.2.2.2.2) h
      subst ee0
      subst ee1
      subst ee2
      subst ee3
      subst ee4
      subst ee5
      rw [← hQ]
      exact retI hx hb hr hlk hK hP hD hS dX11_voice_23 ⟨Nat.le_of_ble_eq_true rfl, Nat.le_of_ble_eq_true rfl⟩

def fX11_trace (a : Int32) (errors : Nat → Int32) (vcount : Int32) (vbodies : Nat → Int32) : Option (Int32 × (Nat → Int32)) :=
  bd (fX11_within a (0 : Int32) (vcount - (1 : Int32))) fun r_1 => (if r_1 = 0 then bd (fX11_refused (-1000000002 : Int32) errors) fun (r_4, errors_5) => some (r_4, errors_5) else ckI a 40 (some ((vbodies (a).toNatClampNeg), errors)))
set_option maxHeartbeats 4000000 in
set_option maxRecDepth 100000 in
theorem c_X11_trace (l : Launch) (G : Nat → Nat) (D : va_G) (cA : Nat → ClassId) (xd : Nat → Nat) (vd : Nat → Nat) (sd : Nat → Nat) (nd : Nat → Nat) (hd : Nat → Nat) (td : Nat → Nat) (ed : Nat → Nat) (kd : Nat → Nat) (sz : Nat) (images : Int32) (errors : Nat → Int32) (fewest : Nat → Int32) (vspoon : Int32) (vmark : Int32) (vcount : Int32) (vbodies : Nat → Int32) (sbits : Nat → Int32) (slens : Nat → Int32) (snum : Nat → Nat → Int32) (h_weight : Nat → Int32) (h_known : Int32) (h_hour : Int32) (h_swS : Nat → Int32) (h_swW : Nat → Int32) (h_waS : Nat → Int32) (h_spoons : Int32) (h_kind : Nat → Int32) (h_mark : Nat → Int32) (h_silver : Nat → Int32) (h_fresh : Nat → Int64) (h_texts : Nat → Option Nat) (h_tape : Nat → Int32) (h_tapeCount : Int32) (h_z : Int32) (h_waiting : Nat → Int32) (h_waitingCount : Int32) (t_weight : Nat → Int32) (t_known : Int32) (t_hour : Int32) (t_swS : Nat → Int32) (t_swW : Nat → Int32) (t_waS : Nat → Int32) (t_spoons : Int32) (t_kind : Nat → Int32) (t_mark : Nat → Int32) (t_silver : Nat → Int32) (t_fresh : Nat → Int64) (t_texts : Nat → Option Nat) (t_tape : Nat → Int32) (t_tapeCount : Int32) (t_z : Int32) (t_waiting : Nat → Int32) (t_waitingCount : Int32) (e_weight : Nat → Int32) (e_known : Int32) (e_hour : Int32) (e_swS : Nat → Int32) (e_swW : Nat → Int32) (e_waS : Nat → Int32) (e_spoons : Int32) (e_kind : Nat → Int32) (e_mark : Nat → Int32) (e_silver : Nat → Int32) (e_fresh : Nat → Int64) (e_texts : Nat → Option Nat) (e_tape : Nat → Int32) (e_tapeCount : Int32) (e_z : Int32) (e_waiting : Nat → Int32) (e_waitingCount : Int32) (L : List Nat) (tx : Nat → TXc) (tst : Nat → Nat → Int32) (a : Int32) (rR : Int32) (errorsR : Nat → Int32) (h : fX11_trace a errors vcount vbodies = some (rR, errorsR)) : Met l yX11_trace wsX11_trace ({ frames := 1, cells := 0, slots := 0, locals := 22 } : Room) (PW G D (tyC cA) sz (wX cA xd vd sd nd hd td ed kd images errors fewest vspoon vmark vcount vbodies sbits slens snum h_weight h_known h_hour h_swS h_swW h_waS h_spoons h_kind h_mark h_silver h_fresh h_texts h_tape h_tapeCount h_z h_waiting h_waitingCount t_weight t_known t_hour t_swS t_swW t_waS t_spoons t_kind t_mark t_silver t_fresh t_texts t_tape t_tapeCount t_z t_waiting t_waitingCount e_weight e_known e_hour e_swS e_swW e_waS e_spoons e_kind e_mark e_silver e_fresh e_texts e_tape e_tapeCount e_z e_waiting e_waitingCount L tx tst) [.ref (xd 0), .int a]) (QI D (tyC cA) (va_A (wX cA xd vd sd nd hd td ed kd images errors fewest vspoon vmark vcount vbodies sbits slens snum h_weight h_known h_hour h_swS h_swW h_waS h_spoons h_kind h_mark h_silver h_fresh h_texts h_tape h_tapeCount h_z h_waiting h_waitingCount t_weight t_known t_hour t_swS t_swW t_waS t_spoons t_kind t_mark t_silver t_fresh t_texts t_tape t_tapeCount t_z t_waiting t_waitingCount e_weight e_known e_hour e_swS e_swW e_waS e_spoons e_kind e_mark e_silver e_fresh e_texts e_tape e_tapeCount e_z e_waiting e_waitingCount L tx tst) sz) rR (wX cA xd vd sd nd hd td ed kd images errorsR fewest vspoon vmark vcount vbodies sbits slens snum h_weight h_known h_hour h_swS h_swW h_waS h_spoons h_kind h_mark h_silver h_fresh h_texts h_tape h_tapeCount h_z h_waiting h_waitingCount t_weight t_known t_hour t_swS t_swW t_waS t_spoons t_kind t_mark t_silver t_fresh t_texts t_tape t_tapeCount t_z t_waiting t_waitingCount e_weight e_known e_hour e_swS e_swW e_waS e_spoons e_kind e_mark e_silver e_fresh e_texts e_tape e_tapeCount e_z e_waiting e_waitingCount L tx tst)) 0 0 (va_A (wX cA xd vd sd nd hd td ed kd images errors fewest vspoon vmark vcount vbodies sbits slens snum h_weight h_known h_hour h_swS h_swW h_waS h_spoons h_kind h_mark h_silver h_fresh h_texts h_tape h_tapeCount h_z h_waiting h_waitingCount t_weight t_known t_hour t_swS t_swW t_waS t_spoons t_kind t_mark t_silver t_fresh t_texts t_tape t_tapeCount t_z t_waiting t_waitingCount e_weight e_known e_hour e_swS e_swW e_waS e_spoons e_kind e_mark e_silver e_fresh e_texts e_tape e_tapeCount e_z e_waiting e_waitingCount L tx tst) sz) := by
  refine ent (cc := cX11_trace) (maxL := 2) (ret := (some .int)) (fun A => QI D (tyC cA) A rR (wX cA xd vd sd nd hd td ed kd images errorsR fewest vspoon vmark vcount vbodies sbits slens snum h_weight h_known h_hour h_swS h_swW h_waS h_spoons h_kind h_mark h_silver h_fresh h_texts h_tape h_tapeCount h_z h_waiting h_waitingCount t_weight t_known t_hour t_swS t_swW t_waS t_spoons t_kind t_mark t_silver t_fresh t_texts t_tape t_tapeCount t_z t_waiting t_waitingCount e_weight e_known e_hour e_swS e_swW e_waS e_spoons e_kind e_mark e_silver e_fresh e_texts e_tape e_tapeCount e_z e_waiting e_waitingCount L tx tst)) (by decide +kernel) rfl (Nat.le_of_ble_eq_true rfl) ?_
  intro p e s m args below meth c A ls H hx hb hml hr hlk hts hown hA hK hE hP hD hS hv hmm
  have hv : lv_has ls 2 [(0, .ref (xd 0)), (1, .int a)] := hv
  have in_10 : ∀ w ∈ u_ws RX10 TX10 4, w ∈ wsX11_trace := fun _ h => List.mem_cons_of_mem _ (List.mem_append_right _ h)
  have in_11 : ∀ w ∈ u_ws RX11 TX11 9, w ∈ wsX11_trace := fun _ h => List.mem_cons_of_mem _ (List.mem_append_left _ (List.mem_append_right _ h))
  have w_0 := hts (.fieldLink RX11 52 "SpoonsLast" "voice" "LSpoonsLast$Voice;") (List.mem_of_getElem? (i := 1) rfl)
  have w_1 := hts (.fieldLink RX11 263 "SpoonsLast$Voice" "count" "I") (List.mem_of_getElem? (i := 2) rfl)
  have w_2 := hts (.constant RX11 204 (-1000000002)) (List.mem_of_getElem? (i := 4) rfl)
  have w_3 := hts (.fieldLink RX11 266 "SpoonsLast$Voice" "bodies" "[I") (List.mem_of_getElem? (i := 3) rfl)
  generalize hQ : MQ below _ args s 0 0 A = Q
  have hP : va_P D vwCl (wX cA xd vd sd nd hd td ed kd images errors fewest vspoon vmark vcount vbodies sbits slens snum h_weight h_known h_hour h_swS h_swW h_waS h_spoons h_kind h_mark h_silver h_fresh h_texts h_tape h_tapeCount h_z h_waiting h_waitingCount t_weight t_known t_hour t_swS t_swW t_waS t_spoons t_kind t_mark t_silver t_fresh t_texts t_tape t_tapeCount t_z t_waiting t_waitingCount e_weight e_known e_hour e_swS e_swW e_waS e_spoons e_kind e_mark e_silver e_fresh e_texts e_tape e_tapeCount e_z e_waiting e_waitingCount L tx tst) H := hP
  unfold fX11_trace at h
  refine lv_iload_n hx hb dX11_trace_0 rfl (lv_at hv 1 rfl) ?_
  refine lv_iconst (v := (0 : Int32)) hx hb dX11_trace_1 (by decide) ?_
  refine lv_aload_n hx hb dX11_trace_2 rfl (lv_at hv 0 rfl) ?_
  refine va_get (D := D) (ci := 11) (v := .ref (vd 0)) (C := RX11) (T := TX11) (N := 9) hx hb hts in_11 hown hK hP 0 rfl rfl 5 (by decide) w_0 (fun _ h9 => h9) rfl dX11_trace_3 ?_
  refine va_get (D := D) (ci := 10) (v := .int vcount) (C := RX10) (T := TX10) (N := 4) hx hb hts in_10 hown hK hP 4 rfl rfl 2 (by decide) w_1 (fun _ h9 => h9) rfl dX11_trace_6 ?_
  refine lv_iconst (v := (1 : Int32)) hx hb dX11_trace_9 (by decide) ?_
  refine lv_isub hx hb dX11_trace_10 ?_
  obtain ⟨r_1, hf_2, h⟩ := bd_ex h
  have sb := Sb.nil hP hD hS hA
  refine calI (va_runS (As := [.int a, .int (0 : Int32), .int (vcount - (1 : Int32))]) (rest := []) ⟨hx, hb, hml, hown, hts⟩ (c_X11_within l G D cA  _ a (0 : Int32) (vcount - (1 : Int32)) r_1 hf_2) (va_cwS 3 hts gX11_trace_X11_within rfl rfl rfl (by decide +kernel) ⟨Nat.le_of_ble_eq_true rfl, Nat.le_of_ble_eq_true rfl⟩) (pvS hE hK hS sb) rfl rfl hv.1 rfl (lv_room (Nat.le_of_ble_eq_true rfl)) dX11_trace_11 ⟨Nat.le_of_ble_eq_true rfl, Nat.le_of_ble_eq_true rfl⟩) hS sb (Jn.nil hP hD) (fun H locs hP hD hS => ?_)
  have hP : va_P D vwCl (wX cA xd vd sd nd hd td ed kd images errors fewest vspoon vmark vcount vbodies sbits slens snum h_weight h_known h_hour h_swS h_swW h_waS h_spoons h_kind h_mark h_silver h_fresh h_texts h_tape h_tapeCount h_z h_waiting h_waitingCount t_weight t_known t_hour t_swS t_swW t_waS t_spoons t_kind t_mark t_silver t_fresh t_texts t_tape t_tapeCount t_z t_waiting t_waitingCount e_weight e_known e_hour e_swS e_swW e_waS e_spoons e_kind e_mark e_silver e_fresh e_texts e_tape e_tapeCount e_z e_waiting e_waitingCount L tx tst) H := hP
  have hD : va_D A (wX cA xd vd sd nd hd td ed kd images errors fewest vspoon vmark vcount vbodies sbits slens snum h_weight h_known h_hour h_swS h_swW h_waS h_spoons h_kind h_mark h_silver h_fresh h_texts h_tape h_tapeCount h_z h_waiting h_waitingCount t_weight t_known t_hour t_swS t_swW t_waS t_spoons t_kind t_mark t_silver t_fresh t_texts t_tape t_tapeCount t_z t_waiting t_waitingCount e_weight e_known e_hour e_swS e_swW e_waS e_spoons e_kind e_mark e_silver e_fresh e_texts e_tape e_tapeCount e_z e_waiting e_waitingCount L tx tst) := hD
  refine lv_if_eq (tgt := 29) hx hb dX11_trace_14 (by decide) (fun c_3 => ?_) (fun c_3 => ?_)
  · have h := ite_t c_3 h
    refine lv_aload_n hx hb dX11_trace_29 rfl (lv_at hv 0 rfl) ?_
    refine lv_ldc (v := (-1000000002 : Int32)) hx hb hown w_2 dX11_trace_30 ?_
    obtain ⟨⟨r_4, errors_5⟩, hf_6, h⟩ := bd_ex h
    have sb := Sb.same hP hD hS hA
    refine calI (va_runV (As := [.int (-1000000002 : Int32)]) (rest := []) ⟨hx, hb, hml, hown, hts⟩ (c_X11_refused l G D cA xd vd sd nd hd td ed kd _ images errors fewest vspoon vmark vcount vbodies sbits slens snum h_weight h_known h_hour h_swS h_swW h_waS h_spoons h_kind h_mark h_silver h_fresh h_texts h_tape h_tapeCount h_z h_waiting h_waitingCount t_weight t_known t_hour t_swS t_swW t_waS t_spoons t_kind t_mark t_silver t_fresh t_texts t_tape t_tapeCount t_z t_waiting t_waitingCount e_weight e_known e_hour e_swS e_swW e_waS e_spoons e_kind e_mark e_silver e_fresh e_texts e_tape e_tapeCount e_z e_waiting e_waitingCount L tx tst (-1000000002 : Int32) r_4 errors_5 hf_6) (cwV 1 hts gX11_trace_X11_refused rfl rfl rfl (by decide +kernel) ⟨Nat.le_of_ble_eq_true rfl, Nat.le_of_ble_eq_true rfl⟩) (pvV hE hK hS sb (va_recv hK hP (ci := 11) (q0 := 0) rfl rfl)) rfl rfl hv.1 rfl (lv_room (Nat.le_of_ble_eq_true rfl)) dX11_trace_32 ⟨Nat.le_of_ble_eq_true rfl, Nat.le_of_ble_eq_true rfl⟩) hS sb (Jn.same sb) (fun H locs hP hD hS => ?_)
    have hP : va_P D vwCl (wX cA xd vd sd nd hd td ed kd images errors_5 fewest vspoon vmark vcount vbodies sbits slens snum h_weight h_known h_hour h_swS h_swW h_waS h_spoons h_kind h_mark h_silver h_fresh h_texts h_tape h_tapeCount h_z h_waiting h_waitingCount t_weight t_known t_hour t_swS t_swW t_waS t_spoons t_kind t_mark t_silver t_fresh t_texts t_tape t_tapeCount t_z t_waiting t_waitingCount e_weight e_known e_hour e_swS e_swW e_waS e_spoons e_kind e_mark e_silver e_fresh e_texts e_tape e_tapeCount e_z e_waiting e_waitingCount L tx tst) H := hP
    have hD : va_D A (wX cA xd vd sd nd hd td ed kd images errors_5 fewest vspoon vmark vcount vbodies sbits slens snum h_weight h_known h_hour h_swS h_swW h_waS h_spoons h_kind h_mark h_silver h_fresh h_texts h_tape h_tapeCount h_z h_waiting h_waitingCount t_weight t_known t_hour t_swS t_swW t_waS t_spoons t_kind t_mark t_silver t_fresh t_texts t_tape t_tapeCount t_z t_waiting t_waitingCount e_weight e_known e_hour e_swS e_swW e_waS e_spoons e_kind e_mark e_silver e_fresh e_texts e_tape e_tapeCount e_z e_waiting e_waitingCount L tx tst) := hD
    have h := Option.some.inj h
    have ee0 : r_4 = rR := congrArg (fun q => q.1) h
    have ee1 : errors_5 = errorsR := congrArg (fun q => q.2) h
    subst ee0
    subst ee1
    rw [← hQ]
    exact retI hx hb hr hlk hK hP hD hS dX11_trace_35 ⟨Nat.le_of_ble_eq_true rfl, Nat.le_of_ble_eq_true rfl⟩
  · have h := ite_f c_3 h
    refine lv_aload_n hx hb dX11_trace_17 rfl (lv_at hv 0 rfl) ?_
    refine va_get (D := D) (ci := 11) (v := .ref (vd 0)) (C := RX11) (T := TX11) (N := 9) hx hb hts in_11 hown hK hP 0 rfl rfl 5 (by decide) w_0 (fun _ h9 => h9) rfl dX11_trace_18 ?_
    refine va_get (D := D) (ci := 10) (v := .ref (vd 1)) (C := RX10) (T := TX10) (N := 4) hx hb hts in_10 hown hK hP 4 rfl rfl 3 (by decide) w_3 (fun _ h9 => h9) rfl dX11_trace_21 ?_
    refine lv_iload_n hx hb dX11_trace_24 rfl (lv_at hv 1 rfl) ?_
    obtain ⟨c_7, h⟩ := ckI_ex h
    refine va_iald (D := D) hx hb hK hP 5 0 rfl rfl c_7 dX11_trace_25 ?_
    refine lv_goto (tgt := 35) hx hb dX11_trace_26 (by decide) ?_
    have h := Option.some.inj h
    have ee0 : (vbodies (a).toNatClampNeg) = rR := congrArg (fun q => q.1) h
    have ee1 : errors = errorsR := congrArg (fun q => q.2) h
    subst ee0
    subst ee1
    rw [← hQ]
    exact retI hx hb hr hlk hK hP hD hS dX11_trace_35 ⟨Nat.le_of_ble_eq_true rfl, Nat.le_of_ble_eq_true rfl⟩

def fX11_sheet_68 (v1_68 : Int32) (v2_68 : Int32) (v3_68 : Int32) (errors_68 : Nat → Int32) (sbits_68 : Nat → Int32) (slens_68 : Nat → Int32) (snum_68 : Nat → Nat → Int32) : Option (Int32 × (Nat → Int32) × (Nat → Int32) × (Nat → Int32) × (Nat → Nat → Int32)) :=
  ckI v1_68 4 ((if v2_68 = 0 then ckI v1_68 4 (bd (fX7_begin v2_68 (0 : Int32) (sbits_68 (v1_68).toNatClampNeg) (slens_68 (v1_68).toNatClampNeg) (snum_68 (v1_68).toNatClampNeg)) fun (sbits_21, slen0_22, snum_23) => bnd (va_up sbits_68 (v1_68).toNatClampNeg sbits_21) fun sbits_25 => bnd (va_up slens_68 (v1_68).toNatClampNeg slen0_22) fun slens_26 => bnd (va_up snum_68 (v1_68).toNatClampNeg snum_23) fun snum_27 => some ((1 : Int32), errors_68, sbits_25, slens_26, snum_27)) else ckI v1_68 4 (bd (fX7_begin v2_68 v3_68 (sbits_68 (v1_68).toNatClampNeg) (slens_68 (v1_68).toNatClampNeg) (snum_68 (v1_68).toNatClampNeg)) fun (sbits_13, slen0_14, snum_15) => bnd (va_up sbits_68 (v1_68).toNatClampNeg sbits_13) fun sbits_17 => bnd (va_up slens_68 (v1_68).toNatClampNeg slen0_14) fun slens_18 => bnd (va_up snum_68 (v1_68).toNatClampNeg snum_15) fun snum_19 => some ((1 : Int32), errors_68, sbits_17, slens_18, snum_19))))
def fX11_sheet_51 (v1_51 : Int32) (v2_51 : Int32) (v3_51 : Int32) (errors_51 : Nat → Int32) (sbits_51 : Nat → Int32) (slens_51 : Nat → Int32) (snum_51 : Nat → Nat → Int32) : Option (Int32 × (Nat → Int32) × (Nat → Int32) × (Nat → Int32) × (Nat → Nat → Int32)) :=
  (if v2_51 = 0 then fX11_sheet_68 v1_51 v2_51 v3_51 errors_51 sbits_51 slens_51 snum_51 else (if v3_51 ≤ (40 : Int32) then fX11_sheet_68 v1_51 v2_51 v3_51 errors_51 sbits_51 slens_51 snum_51 else bd (fX11_refused (-1000000001 : Int32) errors_51) fun (r_29, errors_30) => some (r_29, errors_30, sbits_51, slens_51, snum_51)))
def fX11_sheet_36 (v1_36 : Int32) (v2_36 : Int32) (v3_36 : Int32) (errors_36 : Nat → Int32) (sbits_36 : Nat → Int32) (slens_36 : Nat → Int32) (snum_36 : Nat → Nat → Int32) : Option (Int32 × (Nat → Int32) × (Nat → Int32) × (Nat → Int32) × (Nat → Nat → Int32)) :=
  (if v2_36 = 0 then fX11_sheet_51 v1_36 v2_36 v3_36 errors_36 sbits_36 slens_36 snum_36 else (if 0 ≤ v3_36 then fX11_sheet_51 v1_36 v2_36 v3_36 errors_36 sbits_36 slens_36 snum_36 else bd (fX11_refused (-1000000003 : Int32) errors_36) fun (r_33, errors_34) => some (r_33, errors_34, sbits_36, slens_36, snum_36)))
def fX11_sheet (a : Int32) (b : Int32) (n : Int32) (errors : Nat → Int32) (sbits : Nat → Int32) (slens : Nat → Int32) (snum : Nat → Nat → Int32) : Option (Int32 × (Nat → Int32) × (Nat → Int32) × (Nat → Int32) × (Nat → Nat → Int32)) :=
  bd (fX11_isSheet a) fun r_1 => (if r_1 = 0 then bd (fX11_refused (-1000000001 : Int32) errors) fun (r_4, errors_5) => some (r_4, errors_5, sbits, slens, snum) else (if b = 0 then fX11_sheet_36 a b n errors sbits slens snum else (if b = (8 : Int32) then fX11_sheet_36 a b n errors sbits slens snum else (if b = (16 : Int32) then fX11_sheet_36 a b n errors sbits slens snum else (if b = (32 : Int32) then fX11_sheet_36 a b n errors sbits slens snum else bd (fX11_refused (-1000000001 : Int32) errors) fun (r_39, errors_40) => some (r_39, errors_40, sbits, slens, snum))))))
set_option maxHeartbeats 4000000 in
set_option maxRecDepth 100000 in
theorem c_X11_sheet (l : Launch) (G : Nat → Nat) (D : va_G) (cA : Nat → ClassId) (xd : Nat → Nat) (vd : Nat → Nat) (sd : Nat → Nat) (nd : Nat → Nat) (hd : Nat → Nat) (td : Nat → Nat) (ed : Nat → Nat) (kd : Nat → Nat) (sz : Nat) (images : Int32) (errors : Nat → Int32) (fewest : Nat → Int32) (vspoon : Int32) (vmark : Int32) (vcount : Int32) (vbodies : Nat → Int32) (sbits : Nat → Int32) (slens : Nat → Int32) (snum : Nat → Nat → Int32) (h_weight : Nat → Int32) (h_known : Int32) (h_hour : Int32) (h_swS : Nat → Int32) (h_swW : Nat → Int32) (h_waS : Nat → Int32) (h_spoons : Int32) (h_kind : Nat → Int32) (h_mark : Nat → Int32) (h_silver : Nat → Int32) (h_fresh : Nat → Int64) (h_texts : Nat → Option Nat) (h_tape : Nat → Int32) (h_tapeCount : Int32) (h_z : Int32) (h_waiting : Nat → Int32) (h_waitingCount : Int32) (t_weight : Nat → Int32) (t_known : Int32) (t_hour : Int32) (t_swS : Nat → Int32) (t_swW : Nat → Int32) (t_waS : Nat → Int32) (t_spoons : Int32) (t_kind : Nat → Int32) (t_mark : Nat → Int32) (t_silver : Nat → Int32) (t_fresh : Nat → Int64) (t_texts : Nat → Option Nat) (t_tape : Nat → Int32) (t_tapeCount : Int32) (t_z : Int32) (t_waiting : Nat → Int32) (t_waitingCount : Int32) (e_weight : Nat → Int32) (e_known : Int32) (e_hour : Int32) (e_swS : Nat → Int32) (e_swW : Nat → Int32) (e_waS : Nat → Int32) (e_spoons : Int32) (e_kind : Nat → Int32) (e_mark : Nat → Int32) (e_silver : Nat → Int32) (e_fresh : Nat → Int64) (e_texts : Nat → Option Nat) (e_tape : Nat → Int32) (e_tapeCount : Int32) (e_z : Int32) (e_waiting : Nat → Int32) (e_waitingCount : Int32) (L : List Nat) (tx : Nat → TXc) (tst : Nat → Nat → Int32) (a : Int32) (b : Int32) (n : Int32) (rR : Int32) (errorsR : Nat → Int32) (sbitsR : Nat → Int32) (slensR : Nat → Int32) (snumR : Nat → Nat → Int32) (h : fX11_sheet a b n errors sbits slens snum = some (rR, errorsR, sbitsR, slensR, snumR)) : Met l yX11_sheet wsX11_sheet ({ frames := 2, cells := 0, slots := 0, locals := 45 } : Room) (PW G D (tyC cA) sz (wX cA xd vd sd nd hd td ed kd images errors fewest vspoon vmark vcount vbodies sbits slens snum h_weight h_known h_hour h_swS h_swW h_waS h_spoons h_kind h_mark h_silver h_fresh h_texts h_tape h_tapeCount h_z h_waiting h_waitingCount t_weight t_known t_hour t_swS t_swW t_waS t_spoons t_kind t_mark t_silver t_fresh t_texts t_tape t_tapeCount t_z t_waiting t_waitingCount e_weight e_known e_hour e_swS e_swW e_waS e_spoons e_kind e_mark e_silver e_fresh e_texts e_tape e_tapeCount e_z e_waiting e_waitingCount L tx tst) [.ref (xd 0), .int a, .int b, .int n]) (QI D (tyC cA) (va_A (wX cA xd vd sd nd hd td ed kd images errors fewest vspoon vmark vcount vbodies sbits slens snum h_weight h_known h_hour h_swS h_swW h_waS h_spoons h_kind h_mark h_silver h_fresh h_texts h_tape h_tapeCount h_z h_waiting h_waitingCount t_weight t_known t_hour t_swS t_swW t_waS t_spoons t_kind t_mark t_silver t_fresh t_texts t_tape t_tapeCount t_z t_waiting t_waitingCount e_weight e_known e_hour e_swS e_swW e_waS e_spoons e_kind e_mark e_silver e_fresh e_texts e_tape e_tapeCount e_z e_waiting e_waitingCount L tx tst) sz) rR (wX cA xd vd sd nd hd td ed kd images errorsR fewest vspoon vmark vcount vbodies sbitsR slensR snumR h_weight h_known h_hour h_swS h_swW h_waS h_spoons h_kind h_mark h_silver h_fresh h_texts h_tape h_tapeCount h_z h_waiting h_waitingCount t_weight t_known t_hour t_swS t_swW t_waS t_spoons t_kind t_mark t_silver t_fresh t_texts t_tape t_tapeCount t_z t_waiting t_waitingCount e_weight e_known e_hour e_swS e_swW e_waS e_spoons e_kind e_mark e_silver e_fresh e_texts e_tape e_tapeCount e_z e_waiting e_waitingCount L tx tst)) 0 0 (va_A (wX cA xd vd sd nd hd td ed kd images errors fewest vspoon vmark vcount vbodies sbits slens snum h_weight h_known h_hour h_swS h_swW h_waS h_spoons h_kind h_mark h_silver h_fresh h_texts h_tape h_tapeCount h_z h_waiting h_waitingCount t_weight t_known t_hour t_swS t_swW t_waS t_spoons t_kind t_mark t_silver t_fresh t_texts t_tape t_tapeCount t_z t_waiting t_waitingCount e_weight e_known e_hour e_swS e_swW e_waS e_spoons e_kind e_mark e_silver e_fresh e_texts e_tape e_tapeCount e_z e_waiting e_waitingCount L tx tst) sz) := by
  refine ent (cc := cX11_sheet) (maxL := 4) (ret := (some .int)) (fun A => QI D (tyC cA) A rR (wX cA xd vd sd nd hd td ed kd images errorsR fewest vspoon vmark vcount vbodies sbitsR slensR snumR h_weight h_known h_hour h_swS h_swW h_waS h_spoons h_kind h_mark h_silver h_fresh h_texts h_tape h_tapeCount h_z h_waiting h_waitingCount t_weight t_known t_hour t_swS t_swW t_waS t_spoons t_kind t_mark t_silver t_fresh t_texts t_tape t_tapeCount t_z t_waiting t_waitingCount e_weight e_known e_hour e_swS e_swW e_waS e_spoons e_kind e_mark e_silver e_fresh e_texts e_tape e_tapeCount e_z e_waiting e_waitingCount L tx tst)) (by decide +kernel) rfl (Nat.le_of_ble_eq_true rfl) ?_
  intro p e s m args below meth c A ls H hx hb hml hr hlk hts hown hA hK hE hP hD hS hv hmm
  have hv : lv_has ls 4 [(0, .ref (xd 0)), (1, .int a), (2, .int b), (3, .int n)] := hv
  have in_11 : ∀ w ∈ u_ws RX11 TX11 9, w ∈ wsX11_sheet := fun _ h => List.mem_cons_of_mem _ (List.mem_append_left _ (List.mem_append_right _ h))
  have w_0 := hts (.constant RX11 78 (-1000000001)) (List.mem_of_getElem? (i := 1) rfl)
  have w_1 := hts (.fieldLink RX11 58 "SpoonsLast" "sheets" "[LSpoonsLast$Sheet;") (List.mem_of_getElem? (i := 3) rfl)
  have w_2 := hts (.constant RX11 181 (-1000000003)) (List.mem_of_getElem? (i := 2) rfl)
  generalize hQ : MQ below _ args s 0 0 A = Q
  have C_68 : ∀ (v1_68 : Int32) (v2_68 : Int32) (v3_68 : Int32) (errors_68 : Nat → Int32) (sbits_68 : Nat → Int32) (slens_68 : Nat → Int32) (snum_68 : Nat → Nat → Int32), fX11_sheet_68 v1_68 v2_68 v3_68 errors_68 sbits_68 slens_68 snum_68 = some (rR, errorsR, sbitsR, slensR, snumR) → WW p l e ({ frames := 2, cells := 0, slots := 0, locals := 45 } : Room) s m args below meth c D A 0 0 Q (wX cA xd vd sd nd hd td ed kd images errors_68 fewest vspoon vmark vcount vbodies sbits_68 slens_68 snum_68 h_weight h_known h_hour h_swS h_swW h_waS h_spoons h_kind h_mark h_silver h_fresh h_texts h_tape h_tapeCount h_z h_waiting h_waitingCount t_weight t_known t_hour t_swS t_swW t_waS t_spoons t_kind t_mark t_silver t_fresh t_texts t_tape t_tapeCount t_z t_waiting t_waitingCount e_weight e_known e_hour e_swS e_swW e_waS e_spoons e_kind e_mark e_silver e_fresh e_texts e_tape e_tapeCount e_z e_waiting e_waitingCount L tx tst) 4 [(0, .ref (xd 0)), (1, .int v1_68), (2, .int v2_68), (3, .int v3_68)] 68 [] := by
    intro v1_68 v2_68 v3_68 errors_68 sbits_68 slens_68 snum_68 h
    unfold fX11_sheet_68 at h
    intro H locs ls hP hD hS hv
    refine lv_aload_n hx hb dX11_sheet_68 rfl (lv_at hv 0 rfl) ?_
    refine va_get (D := D) (ci := 11) (v := .ref (xd 1)) (C := RX11) (T := TX11) (N := 9) hx hb hts in_11 hown hK hP 0 rfl rfl 6 (by decide) w_1 (fun _ h9 => h9) rfl dX11_sheet_69 ?_
    refine lv_iload_n hx hb dX11_sheet_72 rfl (lv_at hv 1 rfl) ?_
    obtain ⟨c_10, h⟩ := ckI_ex h
    refine va_aldq (D := D) (f := fun j => some (sd j)) hx hb hK hP 1 4 rfl rfl c_10 dX11_sheet_73 ?_
    refine W.eq (g2 := F0 m 74 ls [.ref (sd (v1_68).toNatClampNeg)]) rfl ?_
    refine lv_iload_n hx hb dX11_sheet_74 rfl (lv_at hv 2 rfl) ?_
    refine lv_iload_n hx hb dX11_sheet_75 rfl (lv_at hv 2 rfl) ?_
    refine lv_if_ne (tgt := 83) hx hb dX11_sheet_76 (by decide) (fun c_11 => ?_) (fun c_11 => ?_)
    · have h := ite_f c_11 h
      refine lv_iload_n hx hb dX11_sheet_83 rfl (lv_at hv 3 rfl) ?_
      obtain ⟨c_12, h⟩ := ckI_ex h
      obtain ⟨⟨sbits_13, slen0_14, snum_15⟩, hf_16, h⟩ := bd_ex h
      have sb : Sb D A H (wS cA (sd (v1_68).toNatClampNeg) (nd (v1_68).toNatClampNeg) (sbits_68 (v1_68).toNatClampNeg) (slens_68 (v1_68).toNatClampNeg) (snum_68 (v1_68).toNatClampNeg)) := wX_sbS (vlt c_12) hP hD hS hA
      refine calV (va_runV (As := [.int v2_68, .int v3_68]) (rest := []) ⟨hx, hb, hml, hown, hts⟩ (c_X7_begin l G D cA (sd (v1_68).toNatClampNeg) (nd (v1_68).toNatClampNeg) _ (sbits_68 (v1_68).toNatClampNeg) (slens_68 (v1_68).toNatClampNeg) (snum_68 (v1_68).toNatClampNeg) v2_68 v3_68 sbits_13 slen0_14 snum_15 hf_16) (cwV 2 hts gX11_sheet_X7_begin rfl rfl rfl (by decide +kernel) ⟨Nat.le_of_ble_eq_true rfl, Nat.le_of_ble_eq_true rfl⟩) (pvV hE hK hS sb (va_recv hK hP (ci := 7) (q0 := 6 + (v1_68).toNatClampNeg) rfl (wX_so (vlt c_12)))) rfl rfl hv.1 rfl (lv_room (Nat.le_of_ble_eq_true rfl)) dX11_sheet_84 ⟨Nat.le_of_ble_eq_true rfl, Nat.le_of_ble_eq_true rfl⟩) hS sb (wX_jnS (vlt c_12) hP hD) (fun H locs hP hD hS => ?_)
      obtain ⟨sbits_17, esbits_17, h⟩ := bnd_ex h
      rw [← esbits_17] at hP hD
      obtain ⟨slens_18, eslens_18, h⟩ := bnd_ex h
      rw [← eslens_18] at hP hD
      obtain ⟨snum_19, esnum_19, h⟩ := bnd_ex h
      rw [← esnum_19] at hP hD
      have hP : va_P D vwCl (wX cA xd vd sd nd hd td ed kd images errors_68 fewest vspoon vmark vcount vbodies sbits_17 slens_18 snum_19 h_weight h_known h_hour h_swS h_swW h_waS h_spoons h_kind h_mark h_silver h_fresh h_texts h_tape h_tapeCount h_z h_waiting h_waitingCount t_weight t_known t_hour t_swS t_swW t_waS t_spoons t_kind t_mark t_silver t_fresh t_texts t_tape t_tapeCount t_z t_waiting t_waitingCount e_weight e_known e_hour e_swS e_swW e_waS e_spoons e_kind e_mark e_silver e_fresh e_texts e_tape e_tapeCount e_z e_waiting e_waitingCount L tx tst) H := hP
      have hD : va_D A (wX cA xd vd sd nd hd td ed kd images errors_68 fewest vspoon vmark vcount vbodies sbits_17 slens_18 snum_19 h_weight h_known h_hour h_swS h_swW h_waS h_spoons h_kind h_mark h_silver h_fresh h_texts h_tape h_tapeCount h_z h_waiting h_waitingCount t_weight t_known t_hour t_swS t_swW t_waS t_spoons t_kind t_mark t_silver t_fresh t_texts t_tape t_tapeCount t_z t_waiting t_waitingCount e_weight e_known e_hour e_swS e_swW e_waS e_spoons e_kind e_mark e_silver e_fresh e_texts e_tape e_tapeCount e_z e_waiting e_waitingCount L tx tst) := hD
      refine lv_iconst (v := (1 : Int32)) hx hb dX11_sheet_87 (by decide) ?_
      have h := Option.some.inj h
      have ee0 : (1 : Int32) = rR := congrArg (fun q => q.1) h
      have ee1 : errors_68 = errorsR := congrArg (fun q => q.2.1) h
      have ee2 : sbits_17 = sbitsR := congrArg (fun q => q.2.2.1) h
      have ee3 : slens_18 = slensR := congrArg (fun q => q.2.2.2.1) h
      have ee4 : snum_19 = snumR := congrArg (fun q => q.2.2.2.2) h
      subst ee0
      subst ee1
      subst ee2
      subst ee3
      subst ee4
      rw [← hQ]
      exact retI hx hb hr hlk hK hP hD hS dX11_sheet_88 ⟨Nat.le_of_ble_eq_true rfl, Nat.le_of_ble_eq_true rfl⟩
    · have h := ite_t c_11 h
      refine lv_iconst (v := (0 : Int32)) hx hb dX11_sheet_79 (by decide) ?_
      refine lv_goto (tgt := 84) hx hb dX11_sheet_80 (by decide) ?_
      obtain ⟨c_20, h⟩ := ckI_ex h
      obtain ⟨⟨sbits_21, slen0_22, snum_23⟩, hf_24, h⟩ := bd_ex h
      have sb : Sb D A H (wS cA (sd (v1_68).toNatClampNeg) (nd (v1_68).toNatClampNeg) (sbits_68 (v1_68).toNatClampNeg) (slens_68 (v1_68).toNatClampNeg) (snum_68 (v1_68).toNatClampNeg)) := wX_sbS (vlt c_20) hP hD hS hA
      refine calV (va_runV (As := [.int v2_68, .int (0 : Int32)]) (rest := []) ⟨hx, hb, hml, hown, hts⟩ (c_X7_begin l G D cA (sd (v1_68).toNatClampNeg) (nd (v1_68).toNatClampNeg) _ (sbits_68 (v1_68).toNatClampNeg) (slens_68 (v1_68).toNatClampNeg) (snum_68 (v1_68).toNatClampNeg) v2_68 (0 : Int32) sbits_21 slen0_22 snum_23 hf_24) (cwV 2 hts gX11_sheet_X7_begin rfl rfl rfl (by decide +kernel) ⟨Nat.le_of_ble_eq_true rfl, Nat.le_of_ble_eq_true rfl⟩) (pvV hE hK hS sb (va_recv hK hP (ci := 7) (q0 := 6 + (v1_68).toNatClampNeg) rfl (wX_so (vlt c_20)))) rfl rfl hv.1 rfl (lv_room (Nat.le_of_ble_eq_true rfl)) dX11_sheet_84 ⟨Nat.le_of_ble_eq_true rfl, Nat.le_of_ble_eq_true rfl⟩) hS sb (wX_jnS (vlt c_20) hP hD) (fun H locs hP hD hS => ?_)
      obtain ⟨sbits_25, esbits_25, h⟩ := bnd_ex h
      rw [← esbits_25] at hP hD
      obtain ⟨slens_26, eslens_26, h⟩ := bnd_ex h
      rw [← eslens_26] at hP hD
      obtain ⟨snum_27, esnum_27, h⟩ := bnd_ex h
      rw [← esnum_27] at hP hD
      have hP : va_P D vwCl (wX cA xd vd sd nd hd td ed kd images errors_68 fewest vspoon vmark vcount vbodies sbits_25 slens_26 snum_27 h_weight h_known h_hour h_swS h_swW h_waS h_spoons h_kind h_mark h_silver h_fresh h_texts h_tape h_tapeCount h_z h_waiting h_waitingCount t_weight t_known t_hour t_swS t_swW t_waS t_spoons t_kind t_mark t_silver t_fresh t_texts t_tape t_tapeCount t_z t_waiting t_waitingCount e_weight e_known e_hour e_swS e_swW e_waS e_spoons e_kind e_mark e_silver e_fresh e_texts e_tape e_tapeCount e_z e_waiting e_waitingCount L tx tst) H := hP
      have hD : va_D A (wX cA xd vd sd nd hd td ed kd images errors_68 fewest vspoon vmark vcount vbodies sbits_25 slens_26 snum_27 h_weight h_known h_hour h_swS h_swW h_waS h_spoons h_kind h_mark h_silver h_fresh h_texts h_tape h_tapeCount h_z h_waiting h_waitingCount t_weight t_known t_hour t_swS t_swW t_waS t_spoons t_kind t_mark t_silver t_fresh t_texts t_tape t_tapeCount t_z t_waiting t_waitingCount e_weight e_known e_hour e_swS e_swW e_waS e_spoons e_kind e_mark e_silver e_fresh e_texts e_tape e_tapeCount e_z e_waiting e_waitingCount L tx tst) := hD
      refine lv_iconst (v := (1 : Int32)) hx hb dX11_sheet_87 (by decide) ?_
      have h := Option.some.inj h
      have ee0 : (1 : Int32) = rR := congrArg (fun q => q.1) h
      have ee1 : errors_68 = errorsR := congrArg (fun q => q.2.1) h
      have ee2 : sbits_25 = sbitsR := congrArg (fun q => q.2.2.1) h
      have ee3 : slens_26 = slensR := congrArg (fun q => q.2.2.2.1) h
      have ee4 : snum_27 = snumR := congrArg (fun q => q.2.2.2.2) h
      subst ee0
      subst ee1
      subst ee2
      subst ee3
      subst ee4
      rw [← hQ]
      exact retI hx hb hr hlk hK hP hD hS dX11_sheet_88 ⟨Nat.le_of_ble_eq_true rfl, Nat.le_of_ble_eq_true rfl⟩
  have C_51 : ∀ (v1_51 : Int32) (v2_51 : Int32) (v3_51 : Int32) (errors_51 : Nat → Int32) (sbits_51 : Nat → Int32) (slens_51 : Nat → Int32) (snum_51 : Nat → Nat → Int32), fX11_sheet_51 v1_51 v2_51 v3_51 errors_51 sbits_51 slens_51 snum_51 = some (rR, errorsR, sbitsR, slensR, snumR) → WW p l e ({ frames := 2, cells := 0, slots := 0, locals := 45 } : Room) s m args below meth c D A 0 0 Q (wX cA xd vd sd nd hd td ed kd images errors_51 fewest vspoon vmark vcount vbodies sbits_51 slens_51 snum_51 h_weight h_known h_hour h_swS h_swW h_waS h_spoons h_kind h_mark h_silver h_fresh h_texts h_tape h_tapeCount h_z h_waiting h_waitingCount t_weight t_known t_hour t_swS t_swW t_waS t_spoons t_kind t_mark t_silver t_fresh t_texts t_tape t_tapeCount t_z t_waiting t_waitingCount e_weight e_known e_hour e_swS e_swW e_waS e_spoons e_kind e_mark e_silver e_fresh e_texts e_tape e_tapeCount e_z e_waiting e_waitingCount L tx tst) 4 [(0, .ref (xd 0)), (1, .int v1_51), (2, .int v2_51), (3, .int v3_51)] 51 [] := by
    intro v1_51 v2_51 v3_51 errors_51 sbits_51 slens_51 snum_51 h
    unfold fX11_sheet_51 at h
    intro H locs ls hP hD hS hv
    refine lv_iload_n hx hb dX11_sheet_51 rfl (lv_at hv 2 rfl) ?_
    refine lv_if_eq (tgt := 68) hx hb dX11_sheet_52 (by decide) (fun c_9 => ?_) (fun c_9 => ?_)
    · have h := ite_t c_9 h
      exact C_68 v1_51 v2_51 v3_51 errors_51 sbits_51 slens_51 snum_51 h _ _ _ hP hD hS (lv_sub hv [0, 1, 2, 3] rfl)
    · have h := ite_f c_9 h
      refine lv_iload_n hx hb dX11_sheet_55 rfl (lv_at hv 3 rfl) ?_
      refine lv_bipush (v := (40 : Int32)) hx hb dX11_sheet_56 (by decide) ?_
      refine lv_icmp_le (tgt := 68) hx hb dX11_sheet_58 (by decide) (fun c_28 => ?_) (fun c_28 => ?_)
      · have h := ite_t c_28 h
        exact C_68 v1_51 v2_51 v3_51 errors_51 sbits_51 slens_51 snum_51 h _ _ _ hP hD hS (lv_sub hv [0, 1, 2, 3] rfl)
      · have h := ite_f c_28 h
        refine lv_aload_n hx hb dX11_sheet_61 rfl (lv_at hv 0 rfl) ?_
        refine lv_ldc (v := (-1000000001 : Int32)) hx hb hown w_0 dX11_sheet_62 ?_
        obtain ⟨⟨r_29, errors_30⟩, hf_31, h⟩ := bd_ex h
        have sb := Sb.same hP hD hS hA
        refine calI (va_runV (As := [.int (-1000000001 : Int32)]) (rest := []) ⟨hx, hb, hml, hown, hts⟩ (c_X11_refused l G D cA xd vd sd nd hd td ed kd _ images errors_51 fewest vspoon vmark vcount vbodies sbits_51 slens_51 snum_51 h_weight h_known h_hour h_swS h_swW h_waS h_spoons h_kind h_mark h_silver h_fresh h_texts h_tape h_tapeCount h_z h_waiting h_waitingCount t_weight t_known t_hour t_swS t_swW t_waS t_spoons t_kind t_mark t_silver t_fresh t_texts t_tape t_tapeCount t_z t_waiting t_waitingCount e_weight e_known e_hour e_swS e_swW e_waS e_spoons e_kind e_mark e_silver e_fresh e_texts e_tape e_tapeCount e_z e_waiting e_waitingCount L tx tst (-1000000001 : Int32) r_29 errors_30 hf_31) (cwV 1 hts gX11_sheet_X11_refused rfl rfl rfl (by decide +kernel) ⟨Nat.le_of_ble_eq_true rfl, Nat.le_of_ble_eq_true rfl⟩) (pvV hE hK hS sb (va_recv hK hP (ci := 11) (q0 := 0) rfl rfl)) rfl rfl hv.1 rfl (lv_room (Nat.le_of_ble_eq_true rfl)) dX11_sheet_64 ⟨Nat.le_of_ble_eq_true rfl, Nat.le_of_ble_eq_true rfl⟩) hS sb (Jn.same sb) (fun H locs hP hD hS => ?_)
        have hP : va_P D vwCl (wX cA xd vd sd nd hd td ed kd images errors_30 fewest vspoon vmark vcount vbodies sbits_51 slens_51 snum_51 h_weight h_known h_hour h_swS h_swW h_waS h_spoons h_kind h_mark h_silver h_fresh h_texts h_tape h_tapeCount h_z h_waiting h_waitingCount t_weight t_known t_hour t_swS t_swW t_waS t_spoons t_kind t_mark t_silver t_fresh t_texts t_tape t_tapeCount t_z t_waiting t_waitingCount e_weight e_known e_hour e_swS e_swW e_waS e_spoons e_kind e_mark e_silver e_fresh e_texts e_tape e_tapeCount e_z e_waiting e_waitingCount L tx tst) H := hP
        have hD : va_D A (wX cA xd vd sd nd hd td ed kd images errors_30 fewest vspoon vmark vcount vbodies sbits_51 slens_51 snum_51 h_weight h_known h_hour h_swS h_swW h_waS h_spoons h_kind h_mark h_silver h_fresh h_texts h_tape h_tapeCount h_z h_waiting h_waitingCount t_weight t_known t_hour t_swS t_swW t_waS t_spoons t_kind t_mark t_silver t_fresh t_texts t_tape t_tapeCount t_z t_waiting t_waitingCount e_weight e_known e_hour e_swS e_swW e_waS e_spoons e_kind e_mark e_silver e_fresh e_texts e_tape e_tapeCount e_z e_waiting e_waitingCount L tx tst) := hD
        have h := Option.some.inj h
        have ee0 : r_29 = rR := congrArg (fun q => q.1) h
        have ee1 : errors_30 = errorsR := congrArg (fun q => q.2.1) h
        have ee2 : sbits_51 = sbitsR := congrArg (fun q => q.2.2.1) h
        have ee3 : slens_51 = slensR := congrArg (fun q => q.2.2.2.1) h
        have ee4 : snum_51 = snumR := congrArg (fun q => q.2.2.2.2) h
        subst ee0
        subst ee1
        subst ee2
        subst ee3
        subst ee4
        rw [← hQ]
        exact retI hx hb hr hlk hK hP hD hS dX11_sheet_67 ⟨Nat.le_of_ble_eq_true rfl, Nat.le_of_ble_eq_true rfl⟩
  have C_36 : ∀ (v1_36 : Int32) (v2_36 : Int32) (v3_36 : Int32) (errors_36 : Nat → Int32) (sbits_36 : Nat → Int32) (slens_36 : Nat → Int32) (snum_36 : Nat → Nat → Int32), fX11_sheet_36 v1_36 v2_36 v3_36 errors_36 sbits_36 slens_36 snum_36 = some (rR, errorsR, sbitsR, slensR, snumR) → WW p l e ({ frames := 2, cells := 0, slots := 0, locals := 45 } : Room) s m args below meth c D A 0 0 Q (wX cA xd vd sd nd hd td ed kd images errors_36 fewest vspoon vmark vcount vbodies sbits_36 slens_36 snum_36 h_weight h_known h_hour h_swS h_swW h_waS h_spoons h_kind h_mark h_silver h_fresh h_texts h_tape h_tapeCount h_z h_waiting h_waitingCount t_weight t_known t_hour t_swS t_swW t_waS t_spoons t_kind t_mark t_silver t_fresh t_texts t_tape t_tapeCount t_z t_waiting t_waitingCount e_weight e_known e_hour e_swS e_swW e_waS e_spoons e_kind e_mark e_silver e_fresh e_texts e_tape e_tapeCount e_z e_waiting e_waitingCount L tx tst) 4 [(0, .ref (xd 0)), (1, .int v1_36), (2, .int v2_36), (3, .int v3_36)] 36 [] := by
    intro v1_36 v2_36 v3_36 errors_36 sbits_36 slens_36 snum_36 h
    unfold fX11_sheet_36 at h
    intro H locs ls hP hD hS hv
    refine lv_iload_n hx hb dX11_sheet_36 rfl (lv_at hv 2 rfl) ?_
    refine lv_if_eq (tgt := 51) hx hb dX11_sheet_37 (by decide) (fun c_8 => ?_) (fun c_8 => ?_)
    · have h := ite_t c_8 h
      exact C_51 v1_36 v2_36 v3_36 errors_36 sbits_36 slens_36 snum_36 h _ _ _ hP hD hS (lv_sub hv [0, 1, 2, 3] rfl)
    · have h := ite_f c_8 h
      refine lv_iload_n hx hb dX11_sheet_40 rfl (lv_at hv 3 rfl) ?_
      refine lv_if_ge (tgt := 51) hx hb dX11_sheet_41 (by decide) (fun c_32 => ?_) (fun c_32 => ?_)
      · have h := ite_t c_32 h
        exact C_51 v1_36 v2_36 v3_36 errors_36 sbits_36 slens_36 snum_36 h _ _ _ hP hD hS (lv_sub hv [0, 1, 2, 3] rfl)
      · have h := ite_f c_32 h
        refine lv_aload_n hx hb dX11_sheet_44 rfl (lv_at hv 0 rfl) ?_
        refine lv_ldc (v := (-1000000003 : Int32)) hx hb hown w_2 dX11_sheet_45 ?_
        obtain ⟨⟨r_33, errors_34⟩, hf_35, h⟩ := bd_ex h
        have sb := Sb.same hP hD hS hA
        refine calI (va_runV (As := [.int (-1000000003 : Int32)]) (rest := []) ⟨hx, hb, hml, hown, hts⟩ (c_X11_refused l G D cA xd vd sd nd hd td ed kd _ images errors_36 fewest vspoon vmark vcount vbodies sbits_36 slens_36 snum_36 h_weight h_known h_hour h_swS h_swW h_waS h_spoons h_kind h_mark h_silver h_fresh h_texts h_tape h_tapeCount h_z h_waiting h_waitingCount t_weight t_known t_hour t_swS t_swW t_waS t_spoons t_kind t_mark t_silver t_fresh t_texts t_tape t_tapeCount t_z t_waiting t_waitingCount e_weight e_known e_hour e_swS e_swW e_waS e_spoons e_kind e_mark e_silver e_fresh e_texts e_tape e_tapeCount e_z e_waiting e_waitingCount L tx tst (-1000000003 : Int32) r_33 errors_34 hf_35) (cwV 1 hts gX11_sheet_X11_refused rfl rfl rfl (by decide +kernel) ⟨Nat.le_of_ble_eq_true rfl, Nat.le_of_ble_eq_true rfl⟩) (pvV hE hK hS sb (va_recv hK hP (ci := 11) (q0 := 0) rfl rfl)) rfl rfl hv.1 rfl (lv_room (Nat.le_of_ble_eq_true rfl)) dX11_sheet_47 ⟨Nat.le_of_ble_eq_true rfl, Nat.le_of_ble_eq_true rfl⟩) hS sb (Jn.same sb) (fun H locs hP hD hS => ?_)
        have hP : va_P D vwCl (wX cA xd vd sd nd hd td ed kd images errors_34 fewest vspoon vmark vcount vbodies sbits_36 slens_36 snum_36 h_weight h_known h_hour h_swS h_swW h_waS h_spoons h_kind h_mark h_silver h_fresh h_texts h_tape h_tapeCount h_z h_waiting h_waitingCount t_weight t_known t_hour t_swS t_swW t_waS t_spoons t_kind t_mark t_silver t_fresh t_texts t_tape t_tapeCount t_z t_waiting t_waitingCount e_weight e_known e_hour e_swS e_swW e_waS e_spoons e_kind e_mark e_silver e_fresh e_texts e_tape e_tapeCount e_z e_waiting e_waitingCount L tx tst) H := hP
        have hD : va_D A (wX cA xd vd sd nd hd td ed kd images errors_34 fewest vspoon vmark vcount vbodies sbits_36 slens_36 snum_36 h_weight h_known h_hour h_swS h_swW h_waS h_spoons h_kind h_mark h_silver h_fresh h_texts h_tape h_tapeCount h_z h_waiting h_waitingCount t_weight t_known t_hour t_swS t_swW t_waS t_spoons t_kind t_mark t_silver t_fresh t_texts t_tape t_tapeCount t_z t_waiting t_waitingCount e_weight e_known e_hour e_swS e_swW e_waS e_spoons e_kind e_mark e_silver e_fresh e_texts e_tape e_tapeCount e_z e_waiting e_waitingCount L tx tst) := hD
        have h := Option.some.inj h
        have ee0 : r_33 = rR := congrArg (fun q => q.1) h
        have ee1 : errors_34 = errorsR := congrArg (fun q => q.2.1) h
        have ee2 : sbits_36 = sbitsR := congrArg (fun q => q.2.2.1) h
        have ee3 : slens_36 = slensR := congrArg (fun q => q.2.2.2.1) h
        have ee4 : snum_36 = snumR := congrArg (fun q => q.2.2.2.2) h
        subst ee0
        subst ee1
        subst ee2
        subst ee3
        subst ee4
        rw [← hQ]
        exact retI hx hb hr hlk hK hP hD hS dX11_sheet_50 ⟨Nat.le_of_ble_eq_true rfl, Nat.le_of_ble_eq_true rfl⟩
  have hP : va_P D vwCl (wX cA xd vd sd nd hd td ed kd images errors fewest vspoon vmark vcount vbodies sbits slens snum h_weight h_known h_hour h_swS h_swW h_waS h_spoons h_kind h_mark h_silver h_fresh h_texts h_tape h_tapeCount h_z h_waiting h_waitingCount t_weight t_known t_hour t_swS t_swW t_waS t_spoons t_kind t_mark t_silver t_fresh t_texts t_tape t_tapeCount t_z t_waiting t_waitingCount e_weight e_known e_hour e_swS e_swW e_waS e_spoons e_kind e_mark e_silver e_fresh e_texts e_tape e_tapeCount e_z e_waiting e_waitingCount L tx tst) H := hP
  unfold fX11_sheet at h
  refine lv_iload_n hx hb dX11_sheet_0 rfl (lv_at hv 1 rfl) ?_
  obtain ⟨r_1, hf_2, h⟩ := bd_ex h
  have sb := Sb.nil hP hD hS hA
  refine calI (va_runS (As := [.int a]) (rest := []) ⟨hx, hb, hml, hown, hts⟩ (c_X11_isSheet l G D cA  _ a r_1 hf_2) (va_cwS 1 hts gX11_sheet_X11_isSheet rfl rfl rfl (by decide +kernel) ⟨Nat.le_of_ble_eq_true rfl, Nat.le_of_ble_eq_true rfl⟩) (pvS hE hK hS sb) rfl rfl hv.1 rfl (lv_room (Nat.le_of_ble_eq_true rfl)) dX11_sheet_1 ⟨Nat.le_of_ble_eq_true rfl, Nat.le_of_ble_eq_true rfl⟩) hS sb (Jn.nil hP hD) (fun H locs hP hD hS => ?_)
  have hP : va_P D vwCl (wX cA xd vd sd nd hd td ed kd images errors fewest vspoon vmark vcount vbodies sbits slens snum h_weight h_known h_hour h_swS h_swW h_waS h_spoons h_kind h_mark h_silver h_fresh h_texts h_tape h_tapeCount h_z h_waiting h_waitingCount t_weight t_known t_hour t_swS t_swW t_waS t_spoons t_kind t_mark t_silver t_fresh t_texts t_tape t_tapeCount t_z t_waiting t_waitingCount e_weight e_known e_hour e_swS e_swW e_waS e_spoons e_kind e_mark e_silver e_fresh e_texts e_tape e_tapeCount e_z e_waiting e_waitingCount L tx tst) H := hP
  have hD : va_D A (wX cA xd vd sd nd hd td ed kd images errors fewest vspoon vmark vcount vbodies sbits slens snum h_weight h_known h_hour h_swS h_swW h_waS h_spoons h_kind h_mark h_silver h_fresh h_texts h_tape h_tapeCount h_z h_waiting h_waitingCount t_weight t_known t_hour t_swS t_swW t_waS t_spoons t_kind t_mark t_silver t_fresh t_texts t_tape t_tapeCount t_z t_waiting t_waitingCount e_weight e_known e_hour e_swS e_swW e_waS e_spoons e_kind e_mark e_silver e_fresh e_texts e_tape e_tapeCount e_z e_waiting e_waitingCount L tx tst) := hD
  refine lv_if_eq (tgt := 29) hx hb dX11_sheet_4 (by decide) (fun c_3 => ?_) (fun c_3 => ?_)
  · have h := ite_t c_3 h
    refine lv_aload_n hx hb dX11_sheet_29 rfl (lv_at hv 0 rfl) ?_
    refine lv_ldc (v := (-1000000001 : Int32)) hx hb hown w_0 dX11_sheet_30 ?_
    obtain ⟨⟨r_4, errors_5⟩, hf_6, h⟩ := bd_ex h
    have sb := Sb.same hP hD hS hA
    refine calI (va_runV (As := [.int (-1000000001 : Int32)]) (rest := []) ⟨hx, hb, hml, hown, hts⟩ (c_X11_refused l G D cA xd vd sd nd hd td ed kd _ images errors fewest vspoon vmark vcount vbodies sbits slens snum h_weight h_known h_hour h_swS h_swW h_waS h_spoons h_kind h_mark h_silver h_fresh h_texts h_tape h_tapeCount h_z h_waiting h_waitingCount t_weight t_known t_hour t_swS t_swW t_waS t_spoons t_kind t_mark t_silver t_fresh t_texts t_tape t_tapeCount t_z t_waiting t_waitingCount e_weight e_known e_hour e_swS e_swW e_waS e_spoons e_kind e_mark e_silver e_fresh e_texts e_tape e_tapeCount e_z e_waiting e_waitingCount L tx tst (-1000000001 : Int32) r_4 errors_5 hf_6) (cwV 1 hts gX11_sheet_X11_refused rfl rfl rfl (by decide +kernel) ⟨Nat.le_of_ble_eq_true rfl, Nat.le_of_ble_eq_true rfl⟩) (pvV hE hK hS sb (va_recv hK hP (ci := 11) (q0 := 0) rfl rfl)) rfl rfl hv.1 rfl (lv_room (Nat.le_of_ble_eq_true rfl)) dX11_sheet_32 ⟨Nat.le_of_ble_eq_true rfl, Nat.le_of_ble_eq_true rfl⟩) hS sb (Jn.same sb) (fun H locs hP hD hS => ?_)
    have hP : va_P D vwCl (wX cA xd vd sd nd hd td ed kd images errors_5 fewest vspoon vmark vcount vbodies sbits slens snum h_weight h_known h_hour h_swS h_swW h_waS h_spoons h_kind h_mark h_silver h_fresh h_texts h_tape h_tapeCount h_z h_waiting h_waitingCount t_weight t_known t_hour t_swS t_swW t_waS t_spoons t_kind t_mark t_silver t_fresh t_texts t_tape t_tapeCount t_z t_waiting t_waitingCount e_weight e_known e_hour e_swS e_swW e_waS e_spoons e_kind e_mark e_silver e_fresh e_texts e_tape e_tapeCount e_z e_waiting e_waitingCount L tx tst) H := hP
    have hD : va_D A (wX cA xd vd sd nd hd td ed kd images errors_5 fewest vspoon vmark vcount vbodies sbits slens snum h_weight h_known h_hour h_swS h_swW h_waS h_spoons h_kind h_mark h_silver h_fresh h_texts h_tape h_tapeCount h_z h_waiting h_waitingCount t_weight t_known t_hour t_swS t_swW t_waS t_spoons t_kind t_mark t_silver t_fresh t_texts t_tape t_tapeCount t_z t_waiting t_waitingCount e_weight e_known e_hour e_swS e_swW e_waS e_spoons e_kind e_mark e_silver e_fresh e_texts e_tape e_tapeCount e_z e_waiting e_waitingCount L tx tst) := hD
    have h := Option.some.inj h
    have ee0 : r_4 = rR := congrArg (fun q => q.1) h
    have ee1 : errors_5 = errorsR := congrArg (fun q => q.2.1) h
    have ee2 : sbits = sbitsR := congrArg (fun q => q.2.2.1) h
    have ee3 : slens = slensR := congrArg (fun q => q.2.2.2.1) h
    have ee4 : snum = snumR := congrArg (fun q => q.2.2.2.2) h
    subst ee0
    subst ee1
    subst ee2
    subst ee3
    subst ee4
    rw [← hQ]
    exact retI hx hb hr hlk hK hP hD hS dX11_sheet_35 ⟨Nat.le_of_ble_eq_true rfl, Nat.le_of_ble_eq_true rfl⟩
  · have h := ite_f c_3 h
    refine lv_iload_n hx hb dX11_sheet_7 rfl (lv_at hv 2 rfl) ?_
    refine lv_if_eq (tgt := 36) hx hb dX11_sheet_8 (by decide) (fun c_7 => ?_) (fun c_7 => ?_)
    · have h := ite_t c_7 h
      exact C_36 a b n errors sbits slens snum h _ _ _ hP hD hS (lv_sub hv [0, 1, 2, 3] rfl)
    · have h := ite_f c_7 h
      refine lv_iload_n hx hb dX11_sheet_11 rfl (lv_at hv 2 rfl) ?_
      refine lv_bipush (v := (8 : Int32)) hx hb dX11_sheet_12 (by decide) ?_
      refine lv_icmp_eq (tgt := 36) hx hb dX11_sheet_14 (by decide) (fun c_36 => ?_) (fun c_36 => ?_)
      · have h := ite_t c_36 h
        exact C_36 a b n errors sbits slens snum h _ _ _ hP hD hS (lv_sub hv [0, 1, 2, 3] rfl)
      · have h := ite_f c_36 h
        refine lv_iload_n hx hb dX11_sheet_17 rfl (lv_at hv 2 rfl) ?_
        refine lv_bipush (v := (16 : Int32)) hx hb dX11_sheet_18 (by decide) ?_
        refine lv_icmp_eq (tgt := 36) hx hb dX11_sheet_20 (by decide) (fun c_37 => ?_) (fun c_37 => ?_)
        · have h := ite_t c_37 h
          exact C_36 a b n errors sbits slens snum h _ _ _ hP hD hS (lv_sub hv [0, 1, 2, 3] rfl)
        · have h := ite_f c_37 h
          refine lv_iload_n hx hb dX11_sheet_23 rfl (lv_at hv 2 rfl) ?_
          refine lv_bipush (v := (32 : Int32)) hx hb dX11_sheet_24 (by decide) ?_
          refine lv_icmp_eq (tgt := 36) hx hb dX11_sheet_26 (by decide) (fun c_38 => ?_) (fun c_38 => ?_)
          · have h := ite_t c_38 h
            exact C_36 a b n errors sbits slens snum h _ _ _ hP hD hS (lv_sub hv [0, 1, 2, 3] rfl)
          · have h := ite_f c_38 h
            refine lv_aload_n hx hb dX11_sheet_29 rfl (lv_at hv 0 rfl) ?_
            refine lv_ldc (v := (-1000000001 : Int32)) hx hb hown w_0 dX11_sheet_30 ?_
            obtain ⟨⟨r_39, errors_40⟩, hf_41, h⟩ := bd_ex h
            have sb := Sb.same hP hD hS hA
            refine calI (va_runV (As := [.int (-1000000001 : Int32)]) (rest := []) ⟨hx, hb, hml, hown, hts⟩ (c_X11_refused l G D cA xd vd sd nd hd td ed kd _ images errors fewest vspoon vmark vcount vbodies sbits slens snum h_weight h_known h_hour h_swS h_swW h_waS h_spoons h_kind h_mark h_silver h_fresh h_texts h_tape h_tapeCount h_z h_waiting h_waitingCount t_weight t_known t_hour t_swS t_swW t_waS t_spoons t_kind t_mark t_silver t_fresh t_texts t_tape t_tapeCount t_z t_waiting t_waitingCount e_weight e_known e_hour e_swS e_swW e_waS e_spoons e_kind e_mark e_silver e_fresh e_texts e_tape e_tapeCount e_z e_waiting e_waitingCount L tx tst (-1000000001 : Int32) r_39 errors_40 hf_41) (cwV 1 hts gX11_sheet_X11_refused rfl rfl rfl (by decide +kernel) ⟨Nat.le_of_ble_eq_true rfl, Nat.le_of_ble_eq_true rfl⟩) (pvV hE hK hS sb (va_recv hK hP (ci := 11) (q0 := 0) rfl rfl)) rfl rfl hv.1 rfl (lv_room (Nat.le_of_ble_eq_true rfl)) dX11_sheet_32 ⟨Nat.le_of_ble_eq_true rfl, Nat.le_of_ble_eq_true rfl⟩) hS sb (Jn.same sb) (fun H locs hP hD hS => ?_)
            have hP : va_P D vwCl (wX cA xd vd sd nd hd td ed kd images errors_40 fewest vspoon vmark vcount vbodies sbits slens snum h_weight h_known h_hour h_swS h_swW h_waS h_spoons h_kind h_mark h_silver h_fresh h_texts h_tape h_tapeCount h_z h_waiting h_waitingCount t_weight t_known t_hour t_swS t_swW t_waS t_spoons t_kind t_mark t_silver t_fresh t_texts t_tape t_tapeCount t_z t_waiting t_waitingCount e_weight e_known e_hour e_swS e_swW e_waS e_spoons e_kind e_mark e_silver e_fresh e_texts e_tape e_tapeCount e_z e_waiting e_waitingCount L tx tst) H := hP
            have hD : va_D A (wX cA xd vd sd nd hd td ed kd images errors_40 fewest vspoon vmark vcount vbodies sbits slens snum h_weight h_known h_hour h_swS h_swW h_waS h_spoons h_kind h_mark h_silver h_fresh h_texts h_tape h_tapeCount h_z h_waiting h_waitingCount t_weight t_known t_hour t_swS t_swW t_waS t_spoons t_kind t_mark t_silver t_fresh t_texts t_tape t_tapeCount t_z t_waiting t_waitingCount e_weight e_known e_hour e_swS e_swW e_waS e_spoons e_kind e_mark e_silver e_fresh e_texts e_tape e_tapeCount e_z e_waiting e_waitingCount L tx tst) := hD
            have h := Option.some.inj h
            have ee0 : r_39 = rR := congrArg (fun q => q.1) h
            have ee1 : errors_40 = errorsR := congrArg (fun q => q.2.1) h
            have ee2 : sbits = sbitsR := congrArg (fun q => q.2.2.1) h
            have ee3 : slens = slensR := congrArg (fun q => q.2.2.2.1) h
            have ee4 : snum = snumR := congrArg (fun q => q.2.2.2.2) h
            subst ee0
            subst ee1
            subst ee2
            subst ee3
            subst ee4
            rw [← hQ]
            exact retI hx hb hr hlk hK hP hD hS dX11_sheet_35 ⟨Nat.le_of_ble_eq_true rfl, Nat.le_of_ble_eq_true rfl⟩

def fX11_put (a : Int32) (b : Int32) (v : Int32) (errors : Nat → Int32) (sbits : Nat → Int32) (slens : Nat → Int32) (snum : Nat → Nat → Int32) : Option (Int32 × (Nat → Int32) × (Nat → Nat → Int32)) :=
  bd (fX11_isSheet a) fun r_1 => (if r_1 = 0 then bd (fX11_refused (-1000000001 : Int32) errors) fun (r_24, errors_25) => some (r_24, errors_25, snum) else ckI a 4 (ckI a 4 ((if (sbits (a).toNatClampNeg) = 0 then bd (fX11_refused (-1000000002 : Int32) errors) fun (r_21, errors_22) => some (r_21, errors_22, snum) else ckI a 4 (bd (fX7_hasStanding b (1 : Int32) (slens (a).toNatClampNeg)) fun r_8 => (if r_8 = 0 then bd (fX11_refused (-1000000001 : Int32) errors) fun (r_18, errors_19) => some (r_18, errors_19, snum) else ckI a 4 (ckI a 4 (bd (fX7_lowestBits v (sbits (a).toNatClampNeg)) fun r_13 => ckI a 4 (ckI b 40 (bnd (va_up snum (a).toNatClampNeg (upd (snum (a).toNatClampNeg) (b).toNatClampNeg r_13)) fun snum_17 => some ((1 : Int32), errors, snum_17)))))))))))
set_option maxHeartbeats 4000000 in
set_option maxRecDepth 100000 in
theorem c_X11_put (l : Launch) (G : Nat → Nat) (D : va_G) (cA : Nat → ClassId) (xd : Nat → Nat) (vd : Nat → Nat) (sd : Nat → Nat) (nd : Nat → Nat) (hd : Nat → Nat) (td : Nat → Nat) (ed : Nat → Nat) (kd : Nat → Nat) (sz : Nat) (images : Int32) (errors : Nat → Int32) (fewest : Nat → Int32) (vspoon : Int32) (vmark : Int32) (vcount : Int32) (vbodies : Nat → Int32) (sbits : Nat → Int32) (slens : Nat → Int32) (snum : Nat → Nat → Int32) (h_weight : Nat → Int32) (h_known : Int32) (h_hour : Int32) (h_swS : Nat → Int32) (h_swW : Nat → Int32) (h_waS : Nat → Int32) (h_spoons : Int32) (h_kind : Nat → Int32) (h_mark : Nat → Int32) (h_silver : Nat → Int32) (h_fresh : Nat → Int64) (h_texts : Nat → Option Nat) (h_tape : Nat → Int32) (h_tapeCount : Int32) (h_z : Int32) (h_waiting : Nat → Int32) (h_waitingCount : Int32) (t_weight : Nat → Int32) (t_known : Int32) (t_hour : Int32) (t_swS : Nat → Int32) (t_swW : Nat → Int32) (t_waS : Nat → Int32) (t_spoons : Int32) (t_kind : Nat → Int32) (t_mark : Nat → Int32) (t_silver : Nat → Int32) (t_fresh : Nat → Int64) (t_texts : Nat → Option Nat) (t_tape : Nat → Int32) (t_tapeCount : Int32) (t_z : Int32) (t_waiting : Nat → Int32) (t_waitingCount : Int32) (e_weight : Nat → Int32) (e_known : Int32) (e_hour : Int32) (e_swS : Nat → Int32) (e_swW : Nat → Int32) (e_waS : Nat → Int32) (e_spoons : Int32) (e_kind : Nat → Int32) (e_mark : Nat → Int32) (e_silver : Nat → Int32) (e_fresh : Nat → Int64) (e_texts : Nat → Option Nat) (e_tape : Nat → Int32) (e_tapeCount : Int32) (e_z : Int32) (e_waiting : Nat → Int32) (e_waitingCount : Int32) (L : List Nat) (tx : Nat → TXc) (tst : Nat → Nat → Int32) (a : Int32) (b : Int32) (v : Int32) (rR : Int32) (errorsR : Nat → Int32) (snumR : Nat → Nat → Int32) (h : fX11_put a b v errors sbits slens snum = some (rR, errorsR, snumR)) : Met l yX11_put wsX11_put ({ frames := 2, cells := 0, slots := 0, locals := 42 } : Room) (PW G D (tyC cA) sz (wX cA xd vd sd nd hd td ed kd images errors fewest vspoon vmark vcount vbodies sbits slens snum h_weight h_known h_hour h_swS h_swW h_waS h_spoons h_kind h_mark h_silver h_fresh h_texts h_tape h_tapeCount h_z h_waiting h_waitingCount t_weight t_known t_hour t_swS t_swW t_waS t_spoons t_kind t_mark t_silver t_fresh t_texts t_tape t_tapeCount t_z t_waiting t_waitingCount e_weight e_known e_hour e_swS e_swW e_waS e_spoons e_kind e_mark e_silver e_fresh e_texts e_tape e_tapeCount e_z e_waiting e_waitingCount L tx tst) [.ref (xd 0), .int a, .int b, .int v]) (QI D (tyC cA) (va_A (wX cA xd vd sd nd hd td ed kd images errors fewest vspoon vmark vcount vbodies sbits slens snum h_weight h_known h_hour h_swS h_swW h_waS h_spoons h_kind h_mark h_silver h_fresh h_texts h_tape h_tapeCount h_z h_waiting h_waitingCount t_weight t_known t_hour t_swS t_swW t_waS t_spoons t_kind t_mark t_silver t_fresh t_texts t_tape t_tapeCount t_z t_waiting t_waitingCount e_weight e_known e_hour e_swS e_swW e_waS e_spoons e_kind e_mark e_silver e_fresh e_texts e_tape e_tapeCount e_z e_waiting e_waitingCount L tx tst) sz) rR (wX cA xd vd sd nd hd td ed kd images errorsR fewest vspoon vmark vcount vbodies sbits slens snumR h_weight h_known h_hour h_swS h_swW h_waS h_spoons h_kind h_mark h_silver h_fresh h_texts h_tape h_tapeCount h_z h_waiting h_waitingCount t_weight t_known t_hour t_swS t_swW t_waS t_spoons t_kind t_mark t_silver t_fresh t_texts t_tape t_tapeCount t_z t_waiting t_waitingCount e_weight e_known e_hour e_swS e_swW e_waS e_spoons e_kind e_mark e_silver e_fresh e_texts e_tape e_tapeCount e_z e_waiting e_waitingCount L tx tst)) 0 0 (va_A (wX cA xd vd sd nd hd td ed kd images errors fewest vspoon vmark vcount vbodies sbits slens snum h_weight h_known h_hour h_swS h_swW h_waS h_spoons h_kind h_mark h_silver h_fresh h_texts h_tape h_tapeCount h_z h_waiting h_waitingCount t_weight t_known t_hour t_swS t_swW t_waS t_spoons t_kind t_mark t_silver t_fresh t_texts t_tape t_tapeCount t_z t_waiting t_waitingCount e_weight e_known e_hour e_swS e_swW e_waS e_spoons e_kind e_mark e_silver e_fresh e_texts e_tape e_tapeCount e_z e_waiting e_waitingCount L tx tst) sz) := by
  refine ent (cc := cX11_put) (maxL := 5) (ret := (some .int)) (fun A => QI D (tyC cA) A rR (wX cA xd vd sd nd hd td ed kd images errorsR fewest vspoon vmark vcount vbodies sbits slens snumR h_weight h_known h_hour h_swS h_swW h_waS h_spoons h_kind h_mark h_silver h_fresh h_texts h_tape h_tapeCount h_z h_waiting h_waitingCount t_weight t_known t_hour t_swS t_swW t_waS t_spoons t_kind t_mark t_silver t_fresh t_texts t_tape t_tapeCount t_z t_waiting t_waitingCount e_weight e_known e_hour e_swS e_swW e_waS e_spoons e_kind e_mark e_silver e_fresh e_texts e_tape e_tapeCount e_z e_waiting e_waitingCount L tx tst)) (by decide +kernel) rfl (Nat.le_of_ble_eq_true rfl) ?_
  intro p e s m args below meth c A ls H hx hb hml hr hlk hts hown hA hK hE hP hD hS hv hmm
  have hv : lv_has ls 5 [(0, .ref (xd 0)), (1, .int a), (2, .int b), (3, .int v)] := hv
  have in_7 : ∀ w ∈ u_ws RX7 TX7 3, w ∈ wsX11_put := fun _ h => List.mem_cons_of_mem _ (List.mem_append_right _ h)
  have in_11 : ∀ w ∈ u_ws RX11 TX11 9, w ∈ wsX11_put := fun _ h => List.mem_cons_of_mem _ (List.mem_append_left _ (List.mem_append_right _ h))
  have w_0 := hts (.fieldLink RX11 58 "SpoonsLast" "sheets" "[LSpoonsLast$Sheet;") (List.mem_of_getElem? (i := 2) rfl)
  have w_1 := hts (.fieldLink RX11 208 "SpoonsLast$Sheet" "bits" "I") (List.mem_of_getElem? (i := 3) rfl)
  have w_2 := hts (.fieldLink RX11 211 "SpoonsLast$Sheet" "numbers" "[I") (List.mem_of_getElem? (i := 5) rfl)
  have w_3 := hts (.constant RX11 78 (-1000000001)) (List.mem_of_getElem? (i := 1) rfl)
  have w_4 := hts (.constant RX11 204 (-1000000002)) (List.mem_of_getElem? (i := 4) rfl)
  generalize hQ : MQ below _ args s 0 0 A = Q
  have hP : va_P D vwCl (wX cA xd vd sd nd hd td ed kd images errors fewest vspoon vmark vcount vbodies sbits slens snum h_weight h_known h_hour h_swS h_swW h_waS h_spoons h_kind h_mark h_silver h_fresh h_texts h_tape h_tapeCount h_z h_waiting h_waitingCount t_weight t_known t_hour t_swS t_swW t_waS t_spoons t_kind t_mark t_silver t_fresh t_texts t_tape t_tapeCount t_z t_waiting t_waitingCount e_weight e_known e_hour e_swS e_swW e_waS e_spoons e_kind e_mark e_silver e_fresh e_texts e_tape e_tapeCount e_z e_waiting e_waitingCount L tx tst) H := hP
  unfold fX11_put at h
  refine lv_iload_n hx hb dX11_put_0 rfl (lv_at hv 1 rfl) ?_
  obtain ⟨r_1, hf_2, h⟩ := bd_ex h
  have sb := Sb.nil hP hD hS hA
  refine calI (va_runS (As := [.int a]) (rest := []) ⟨hx, hb, hml, hown, hts⟩ (c_X11_isSheet l G D cA  _ a r_1 hf_2) (va_cwS 1 hts gX11_put_X11_isSheet rfl rfl rfl (by decide +kernel) ⟨Nat.le_of_ble_eq_true rfl, Nat.le_of_ble_eq_true rfl⟩) (pvS hE hK hS sb) rfl rfl hv.1 rfl (lv_room (Nat.le_of_ble_eq_true rfl)) dX11_put_1 ⟨Nat.le_of_ble_eq_true rfl, Nat.le_of_ble_eq_true rfl⟩) hS sb (Jn.nil hP hD) (fun H locs hP hD hS => ?_)
  have hP : va_P D vwCl (wX cA xd vd sd nd hd td ed kd images errors fewest vspoon vmark vcount vbodies sbits slens snum h_weight h_known h_hour h_swS h_swW h_waS h_spoons h_kind h_mark h_silver h_fresh h_texts h_tape h_tapeCount h_z h_waiting h_waitingCount t_weight t_known t_hour t_swS t_swW t_waS t_spoons t_kind t_mark t_silver t_fresh t_texts t_tape t_tapeCount t_z t_waiting t_waitingCount e_weight e_known e_hour e_swS e_swW e_waS e_spoons e_kind e_mark e_silver e_fresh e_texts e_tape e_tapeCount e_z e_waiting e_waitingCount L tx tst) H := hP
  have hD : va_D A (wX cA xd vd sd nd hd td ed kd images errors fewest vspoon vmark vcount vbodies sbits slens snum h_weight h_known h_hour h_swS h_swW h_waS h_spoons h_kind h_mark h_silver h_fresh h_texts h_tape h_tapeCount h_z h_waiting h_waitingCount t_weight t_known t_hour t_swS t_swW t_waS t_spoons t_kind t_mark t_silver t_fresh t_texts t_tape t_tapeCount t_z t_waiting t_waitingCount e_weight e_known e_hour e_swS e_swW e_waS e_spoons e_kind e_mark e_silver e_fresh e_texts e_tape e_tapeCount e_z e_waiting e_waitingCount L tx tst) := hD
  refine lv_if_ne (tgt := 14) hx hb dX11_put_4 (by decide) (fun c_3 => ?_) (fun c_3 => ?_)
  · have h := ite_f c_3 h
    refine lv_aload_n hx hb dX11_put_14 rfl (lv_at hv 0 rfl) ?_
    refine va_get (D := D) (ci := 11) (v := .ref (xd 1)) (C := RX11) (T := TX11) (N := 9) hx hb hts in_11 hown hK hP 0 rfl rfl 6 (by decide) w_0 (fun _ h9 => h9) rfl dX11_put_15 ?_
    refine lv_iload_n hx hb dX11_put_18 rfl (lv_at hv 1 rfl) ?_
    obtain ⟨c_4, h⟩ := ckI_ex h
    refine va_aldq (D := D) (f := fun j => some (sd j)) hx hb hK hP 1 4 rfl rfl c_4 dX11_put_19 ?_
    refine W.eq (g2 := F0 m 20 ls [.ref (sd (a).toNatClampNeg)]) rfl ?_
    refine lv_astore (lv' := [(4, .ref (sd (a).toNatClampNeg)), (0, .ref (xd 0)), (1, .int a), (2, .int b), (3, .int v)]) hx hb dX11_put_20 hv (by decide) rfl (fun ls hv => ?_)
    refine lv_aload hx hb dX11_put_22 (lv_at hv 0 rfl) ?_
    obtain ⟨c_5, h⟩ := ckI_ex h
    refine va_get (D := D) (ci := 7) (v := .int (sbits (a).toNatClampNeg)) (C := RX7) (T := TX7) (N := 3) hx hb hts in_7 hown hK hP (6 + (a).toNatClampNeg) (wX_so (vlt c_5)) rfl 0 (by decide) w_1 (fun _ h9 => h9) rfl dX11_put_24 ?_
    refine lv_if_ne (tgt := 37) hx hb dX11_put_27 (by decide) (fun c_6 => ?_) (fun c_6 => ?_)
    · have h := ite_f c_6 h
      refine lv_aload hx hb dX11_put_37 (lv_at hv 0 rfl) ?_
      refine lv_iload_n hx hb dX11_put_39 rfl (lv_at hv 3 rfl) ?_
      refine lv_iconst (v := (1 : Int32)) hx hb dX11_put_40 (by decide) ?_
      obtain ⟨c_7, h⟩ := ckI_ex h
      obtain ⟨r_8, hf_9, h⟩ := bd_ex h
      have sb : Sb D A H (wS cA (sd (a).toNatClampNeg) (nd (a).toNatClampNeg) (sbits (a).toNatClampNeg) (slens (a).toNatClampNeg) (snum (a).toNatClampNeg)) := wX_sbS (vlt c_7) hP hD hS hA
      refine calI (va_runV (As := [.int b, .int (1 : Int32)]) (rest := []) ⟨hx, hb, hml, hown, hts⟩ (c_X7_hasStanding l G D cA (sd (a).toNatClampNeg) (nd (a).toNatClampNeg) _ (sbits (a).toNatClampNeg) (slens (a).toNatClampNeg) (snum (a).toNatClampNeg) b (1 : Int32) r_8 hf_9) (cwV 2 hts gX11_put_X7_hasStanding rfl rfl rfl (by decide +kernel) ⟨Nat.le_of_ble_eq_true rfl, Nat.le_of_ble_eq_true rfl⟩) (pvV hE hK hS sb (va_recv hK hP (ci := 7) (q0 := 6 + (a).toNatClampNeg) rfl (wX_so (vlt c_7)))) rfl rfl hv.1 rfl (lv_room (Nat.le_of_ble_eq_true rfl)) dX11_put_41 ⟨Nat.le_of_ble_eq_true rfl, Nat.le_of_ble_eq_true rfl⟩) hS sb (wX_jnS0 (vlt c_7) hP hD) (fun H locs hP hD hS => ?_)
      have hP : va_P D vwCl (wX cA xd vd sd nd hd td ed kd images errors fewest vspoon vmark vcount vbodies sbits slens snum h_weight h_known h_hour h_swS h_swW h_waS h_spoons h_kind h_mark h_silver h_fresh h_texts h_tape h_tapeCount h_z h_waiting h_waitingCount t_weight t_known t_hour t_swS t_swW t_waS t_spoons t_kind t_mark t_silver t_fresh t_texts t_tape t_tapeCount t_z t_waiting t_waitingCount e_weight e_known e_hour e_swS e_swW e_waS e_spoons e_kind e_mark e_silver e_fresh e_texts e_tape e_tapeCount e_z e_waiting e_waitingCount L tx tst) H := hP
      have hD : va_D A (wX cA xd vd sd nd hd td ed kd images errors fewest vspoon vmark vcount vbodies sbits slens snum h_weight h_known h_hour h_swS h_swW h_waS h_spoons h_kind h_mark h_silver h_fresh h_texts h_tape h_tapeCount h_z h_waiting h_waitingCount t_weight t_known t_hour t_swS t_swW t_waS t_spoons t_kind t_mark t_silver t_fresh t_texts t_tape t_tapeCount t_z t_waiting t_waitingCount e_weight e_known e_hour e_swS e_swW e_waS e_spoons e_kind e_mark e_silver e_fresh e_texts e_tape e_tapeCount e_z e_waiting e_waitingCount L tx tst) := hD
      refine lv_if_ne (tgt := 54) hx hb dX11_put_44 (by decide) (fun c_10 => ?_) (fun c_10 => ?_)
      · have h := ite_f c_10 h
        refine lv_aload hx hb dX11_put_54 (lv_at hv 0 rfl) ?_
        obtain ⟨c_11, h⟩ := ckI_ex h
        refine va_get (D := D) (ci := 7) (v := .ref (nd (a).toNatClampNeg)) (C := RX7) (T := TX7) (N := 3) hx hb hts in_7 hown hK hP (6 + (a).toNatClampNeg) (wX_so (vlt c_11)) rfl 2 (by decide) w_2 (fun _ h9 => h9) rfl dX11_put_56 ?_
        refine lv_iload_n hx hb dX11_put_59 rfl (lv_at hv 3 rfl) ?_
        refine lv_aload hx hb dX11_put_60 (lv_at hv 0 rfl) ?_
        refine lv_iload_n hx hb dX11_put_62 rfl (lv_at hv 4 rfl) ?_
        obtain ⟨c_12, h⟩ := ckI_ex h
        obtain ⟨r_13, hf_14, h⟩ := bd_ex h
        have sb : Sb D A H (wS cA (sd (a).toNatClampNeg) (nd (a).toNatClampNeg) (sbits (a).toNatClampNeg) (slens (a).toNatClampNeg) (snum (a).toNatClampNeg)) := wX_sbS (vlt c_12) hP hD hS hA
        refine calI (va_runV (As := [.int v]) (rest := [.int b, .ref (nd (a).toNatClampNeg)]) ⟨hx, hb, hml, hown, hts⟩ (c_X7_lowestBits l G D cA (sd (a).toNatClampNeg) (nd (a).toNatClampNeg) _ (sbits (a).toNatClampNeg) (slens (a).toNatClampNeg) (snum (a).toNatClampNeg) v r_13 hf_14) (cwV 1 hts gX11_put_X7_lowestBits rfl rfl rfl (by decide +kernel) ⟨Nat.le_of_ble_eq_true rfl, Nat.le_of_ble_eq_true rfl⟩) (pvV hE hK hS sb (va_recv hK hP (ci := 7) (q0 := 6 + (a).toNatClampNeg) rfl (wX_so (vlt c_12)))) rfl rfl hv.1 rfl (lv_room (Nat.le_of_ble_eq_true rfl)) dX11_put_63 ⟨Nat.le_of_ble_eq_true rfl, Nat.le_of_ble_eq_true rfl⟩) hS sb (wX_jnS0 (vlt c_12) hP hD) (fun H locs hP hD hS => ?_)
        have hP : va_P D vwCl (wX cA xd vd sd nd hd td ed kd images errors fewest vspoon vmark vcount vbodies sbits slens snum h_weight h_known h_hour h_swS h_swW h_waS h_spoons h_kind h_mark h_silver h_fresh h_texts h_tape h_tapeCount h_z h_waiting h_waitingCount t_weight t_known t_hour t_swS t_swW t_waS t_spoons t_kind t_mark t_silver t_fresh t_texts t_tape t_tapeCount t_z t_waiting t_waitingCount e_weight e_known e_hour e_swS e_swW e_waS e_spoons e_kind e_mark e_silver e_fresh e_texts e_tape e_tapeCount e_z e_waiting e_waitingCount L tx tst) H := hP
        have hD : va_D A (wX cA xd vd sd nd hd td ed kd images errors fewest vspoon vmark vcount vbodies sbits slens snum h_weight h_known h_hour h_swS h_swW h_waS h_spoons h_kind h_mark h_silver h_fresh h_texts h_tape h_tapeCount h_z h_waiting h_waitingCount t_weight t_known t_hour t_swS t_swW t_waS t_spoons t_kind t_mark t_silver t_fresh t_texts t_tape t_tapeCount t_z t_waiting t_waitingCount e_weight e_known e_hour e_swS e_swW e_waS e_spoons e_kind e_mark e_silver e_fresh e_texts e_tape e_tapeCount e_z e_waiting e_waitingCount L tx tst) := hD
        obtain ⟨c_15, h⟩ := ckI_ex h
        obtain ⟨c_16, h⟩ := ckI_ex h
        obtain ⟨snum_17, esnum_17, h⟩ := bnd_ex h
        refine va_iast (D := D) hx hb hK hP hD hS (10 + (a).toNatClampNeg) 0 (wX_sn (vlt c_15)) rfl c_16 dX11_put_66 (fun H locs hP hD hS => ?_)
        rw [wX_setn (vlt c_15), ← esnum_17] at hP hD
        have hP : va_P D vwCl (wX cA xd vd sd nd hd td ed kd images errors fewest vspoon vmark vcount vbodies sbits slens snum_17 h_weight h_known h_hour h_swS h_swW h_waS h_spoons h_kind h_mark h_silver h_fresh h_texts h_tape h_tapeCount h_z h_waiting h_waitingCount t_weight t_known t_hour t_swS t_swW t_waS t_spoons t_kind t_mark t_silver t_fresh t_texts t_tape t_tapeCount t_z t_waiting t_waitingCount e_weight e_known e_hour e_swS e_swW e_waS e_spoons e_kind e_mark e_silver e_fresh e_texts e_tape e_tapeCount e_z e_waiting e_waitingCount L tx tst) H := hP
        have hD : va_D A (wX cA xd vd sd nd hd td ed kd images errors fewest vspoon vmark vcount vbodies sbits slens snum_17 h_weight h_known h_hour h_swS h_swW h_waS h_spoons h_kind h_mark h_silver h_fresh h_texts h_tape h_tapeCount h_z h_waiting h_waitingCount t_weight t_known t_hour t_swS t_swW t_waS t_spoons t_kind t_mark t_silver t_fresh t_texts t_tape t_tapeCount t_z t_waiting t_waitingCount e_weight e_known e_hour e_swS e_swW e_waS e_spoons e_kind e_mark e_silver e_fresh e_texts e_tape e_tapeCount e_z e_waiting e_waitingCount L tx tst) := hD
        refine lv_iconst (v := (1 : Int32)) hx hb dX11_put_67 (by decide) ?_
        have h := Option.some.inj h
        have ee0 : (1 : Int32) = rR := congrArg (fun q => q.1) h
        have ee1 : errors = errorsR := congrArg (fun q => q.2.1) h
        have ee2 : snum_17 = snumR := congrArg (fun q => q.2.2) h
        subst ee0
        subst ee1
        subst ee2
        rw [← hQ]
        exact retI hx hb hr hlk hK hP hD hS dX11_put_68 ⟨Nat.le_of_ble_eq_true rfl, Nat.le_of_ble_eq_true rfl⟩
      · have h := ite_t c_10 h
        refine lv_aload_n hx hb dX11_put_47 rfl (lv_at hv 1 rfl) ?_
        refine lv_ldc (v := (-1000000001 : Int32)) hx hb hown w_3 dX11_put_48 ?_
        obtain ⟨⟨r_18, errors_19⟩, hf_20, h⟩ := bd_ex h
        have sb := Sb.same hP hD hS hA
        refine calI (va_runV (As := [.int (-1000000001 : Int32)]) (rest := []) ⟨hx, hb, hml, hown, hts⟩ (c_X11_refused l G D cA xd vd sd nd hd td ed kd _ images errors fewest vspoon vmark vcount vbodies sbits slens snum h_weight h_known h_hour h_swS h_swW h_waS h_spoons h_kind h_mark h_silver h_fresh h_texts h_tape h_tapeCount h_z h_waiting h_waitingCount t_weight t_known t_hour t_swS t_swW t_waS t_spoons t_kind t_mark t_silver t_fresh t_texts t_tape t_tapeCount t_z t_waiting t_waitingCount e_weight e_known e_hour e_swS e_swW e_waS e_spoons e_kind e_mark e_silver e_fresh e_texts e_tape e_tapeCount e_z e_waiting e_waitingCount L tx tst (-1000000001 : Int32) r_18 errors_19 hf_20) (cwV 1 hts gX11_put_X11_refused rfl rfl rfl (by decide +kernel) ⟨Nat.le_of_ble_eq_true rfl, Nat.le_of_ble_eq_true rfl⟩) (pvV hE hK hS sb (va_recv hK hP (ci := 11) (q0 := 0) rfl rfl)) rfl rfl hv.1 rfl (lv_room (Nat.le_of_ble_eq_true rfl)) dX11_put_50 ⟨Nat.le_of_ble_eq_true rfl, Nat.le_of_ble_eq_true rfl⟩) hS sb (Jn.same sb) (fun H locs hP hD hS => ?_)
        have hP : va_P D vwCl (wX cA xd vd sd nd hd td ed kd images errors_19 fewest vspoon vmark vcount vbodies sbits slens snum h_weight h_known h_hour h_swS h_swW h_waS h_spoons h_kind h_mark h_silver h_fresh h_texts h_tape h_tapeCount h_z h_waiting h_waitingCount t_weight t_known t_hour t_swS t_swW t_waS t_spoons t_kind t_mark t_silver t_fresh t_texts t_tape t_tapeCount t_z t_waiting t_waitingCount e_weight e_known e_hour e_swS e_swW e_waS e_spoons e_kind e_mark e_silver e_fresh e_texts e_tape e_tapeCount e_z e_waiting e_waitingCount L tx tst) H := hP
        have hD : va_D A (wX cA xd vd sd nd hd td ed kd images errors_19 fewest vspoon vmark vcount vbodies sbits slens snum h_weight h_known h_hour h_swS h_swW h_waS h_spoons h_kind h_mark h_silver h_fresh h_texts h_tape h_tapeCount h_z h_waiting h_waitingCount t_weight t_known t_hour t_swS t_swW t_waS t_spoons t_kind t_mark t_silver t_fresh t_texts t_tape t_tapeCount t_z t_waiting t_waitingCount e_weight e_known e_hour e_swS e_swW e_waS e_spoons e_kind e_mark e_silver e_fresh e_texts e_tape e_tapeCount e_z e_waiting e_waitingCount L tx tst) := hD
        have h := Option.some.inj h
        have ee0 : r_18 = rR := congrArg (fun q => q.1) h
        have ee1 : errors_19 = errorsR := congrArg (fun q => q.2.1) h
        have ee2 : snum = snumR := congrArg (fun q => q.2.2) h
        subst ee0
        subst ee1
        subst ee2
        rw [← hQ]
        exact retI hx hb hr hlk hK hP hD hS dX11_put_53 ⟨Nat.le_of_ble_eq_true rfl, Nat.le_of_ble_eq_true rfl⟩
    · have h := ite_t c_6 h
      refine lv_aload_n hx hb dX11_put_30 rfl (lv_at hv 1 rfl) ?_
      refine lv_ldc (v := (-1000000002 : Int32)) hx hb hown w_4 dX11_put_31 ?_
      obtain ⟨⟨r_21, errors_22⟩, hf_23, h⟩ := bd_ex h
      have sb := Sb.same hP hD hS hA
      refine calI (va_runV (As := [.int (-1000000002 : Int32)]) (rest := []) ⟨hx, hb, hml, hown, hts⟩ (c_X11_refused l G D cA xd vd sd nd hd td ed kd _ images errors fewest vspoon vmark vcount vbodies sbits slens snum h_weight h_known h_hour h_swS h_swW h_waS h_spoons h_kind h_mark h_silver h_fresh h_texts h_tape h_tapeCount h_z h_waiting h_waitingCount t_weight t_known t_hour t_swS t_swW t_waS t_spoons t_kind t_mark t_silver t_fresh t_texts t_tape t_tapeCount t_z t_waiting t_waitingCount e_weight e_known e_hour e_swS e_swW e_waS e_spoons e_kind e_mark e_silver e_fresh e_texts e_tape e_tapeCount e_z e_waiting e_waitingCount L tx tst (-1000000002 : Int32) r_21 errors_22 hf_23) (cwV 1 hts gX11_put_X11_refused rfl rfl rfl (by decide +kernel) ⟨Nat.le_of_ble_eq_true rfl, Nat.le_of_ble_eq_true rfl⟩) (pvV hE hK hS sb (va_recv hK hP (ci := 11) (q0 := 0) rfl rfl)) rfl rfl hv.1 rfl (lv_room (Nat.le_of_ble_eq_true rfl)) dX11_put_33 ⟨Nat.le_of_ble_eq_true rfl, Nat.le_of_ble_eq_true rfl⟩) hS sb (Jn.same sb) (fun H locs hP hD hS => ?_)
      have hP : va_P D vwCl (wX cA xd vd sd nd hd td ed kd images errors_22 fewest vspoon vmark vcount vbodies sbits slens snum h_weight h_known h_hour h_swS h_swW h_waS h_spoons h_kind h_mark h_silver h_fresh h_texts h_tape h_tapeCount h_z h_waiting h_waitingCount t_weight t_known t_hour t_swS t_swW t_waS t_spoons t_kind t_mark t_silver t_fresh t_texts t_tape t_tapeCount t_z t_waiting t_waitingCount e_weight e_known e_hour e_swS e_swW e_waS e_spoons e_kind e_mark e_silver e_fresh e_texts e_tape e_tapeCount e_z e_waiting e_waitingCount L tx tst) H := hP
      have hD : va_D A (wX cA xd vd sd nd hd td ed kd images errors_22 fewest vspoon vmark vcount vbodies sbits slens snum h_weight h_known h_hour h_swS h_swW h_waS h_spoons h_kind h_mark h_silver h_fresh h_texts h_tape h_tapeCount h_z h_waiting h_waitingCount t_weight t_known t_hour t_swS t_swW t_waS t_spoons t_kind t_mark t_silver t_fresh t_texts t_tape t_tapeCount t_z t_waiting t_waitingCount e_weight e_known e_hour e_swS e_swW e_waS e_spoons e_kind e_mark e_silver e_fresh e_texts e_tape e_tapeCount e_z e_waiting e_waitingCount L tx tst) := hD
      have h := Option.some.inj h
      have ee0 : r_21 = rR := congrArg (fun q => q.1) h
      have ee1 : errors_22 = errorsR := congrArg (fun q => q.2.1) h
      have ee2 : snum = snumR := congrArg (fun q => q.2.2) h
      subst ee0
      subst ee1
      subst ee2
      rw [← hQ]
      exact retI hx hb hr hlk hK hP hD hS dX11_put_36 ⟨Nat.le_of_ble_eq_true rfl, Nat.le_of_ble_eq_true rfl⟩
  · have h := ite_t c_3 h
    refine lv_aload_n hx hb dX11_put_7 rfl (lv_at hv 0 rfl) ?_
    refine lv_ldc (v := (-1000000001 : Int32)) hx hb hown w_3 dX11_put_8 ?_
    obtain ⟨⟨r_24, errors_25⟩, hf_26, h⟩ := bd_ex h
    have sb := Sb.same hP hD hS hA
    refine calI (va_runV (As := [.int (-1000000001 : Int32)]) (rest := []) ⟨hx, hb, hml, hown, hts⟩ (c_X11_refused l G D cA xd vd sd nd hd td ed kd _ images errors fewest vspoon vmark vcount vbodies sbits slens snum h_weight h_known h_hour h_swS h_swW h_waS h_spoons h_kind h_mark h_silver h_fresh h_texts h_tape h_tapeCount h_z h_waiting h_waitingCount t_weight t_known t_hour t_swS t_swW t_waS t_spoons t_kind t_mark t_silver t_fresh t_texts t_tape t_tapeCount t_z t_waiting t_waitingCount e_weight e_known e_hour e_swS e_swW e_waS e_spoons e_kind e_mark e_silver e_fresh e_texts e_tape e_tapeCount e_z e_waiting e_waitingCount L tx tst (-1000000001 : Int32) r_24 errors_25 hf_26) (cwV 1 hts gX11_put_X11_refused rfl rfl rfl (by decide +kernel) ⟨Nat.le_of_ble_eq_true rfl, Nat.le_of_ble_eq_true rfl⟩) (pvV hE hK hS sb (va_recv hK hP (ci := 11) (q0 := 0) rfl rfl)) rfl rfl hv.1 rfl (lv_room (Nat.le_of_ble_eq_true rfl)) dX11_put_10 ⟨Nat.le_of_ble_eq_true rfl, Nat.le_of_ble_eq_true rfl⟩) hS sb (Jn.same sb) (fun H locs hP hD hS => ?_)
    have hP : va_P D vwCl (wX cA xd vd sd nd hd td ed kd images errors_25 fewest vspoon vmark vcount vbodies sbits slens snum h_weight h_known h_hour h_swS h_swW h_waS h_spoons h_kind h_mark h_silver h_fresh h_texts h_tape h_tapeCount h_z h_waiting h_waitingCount t_weight t_known t_hour t_swS t_swW t_waS t_spoons t_kind t_mark t_silver t_fresh t_texts t_tape t_tapeCount t_z t_waiting t_waitingCount e_weight e_known e_hour e_swS e_swW e_waS e_spoons e_kind e_mark e_silver e_fresh e_texts e_tape e_tapeCount e_z e_waiting e_waitingCount L tx tst) H := hP
    have hD : va_D A (wX cA xd vd sd nd hd td ed kd images errors_25 fewest vspoon vmark vcount vbodies sbits slens snum h_weight h_known h_hour h_swS h_swW h_waS h_spoons h_kind h_mark h_silver h_fresh h_texts h_tape h_tapeCount h_z h_waiting h_waitingCount t_weight t_known t_hour t_swS t_swW t_waS t_spoons t_kind t_mark t_silver t_fresh t_texts t_tape t_tapeCount t_z t_waiting t_waitingCount e_weight e_known e_hour e_swS e_swW e_waS e_spoons e_kind e_mark e_silver e_fresh e_texts e_tape e_tapeCount e_z e_waiting e_waitingCount L tx tst) := hD
    have h := Option.some.inj h
    have ee0 : r_24 = rR := congrArg (fun q => q.1) h
    have ee1 : errors_25 = errorsR := congrArg (fun q => q.2.1) h
    have ee2 : snum = snumR := congrArg (fun q => q.2.2) h
    subst ee0
    subst ee1
    subst ee2
    rw [← hQ]
    exact retI hx hb hr hlk hK hP hD hS dX11_put_13 ⟨Nat.le_of_ble_eq_true rfl, Nat.le_of_ble_eq_true rfl⟩

def fX11_move (a : Int32) (b : Int32) (k : Int32) (o : Int32) (n : Int32) (errors : Nat → Int32) (sbits : Nat → Int32) (slens : Nat → Int32) (snum : Nat → Nat → Int32) : Option (Int32 × (Nat → Int32) × (Nat → Nat → Int32)) :=
  bd (fX11_isSheet a) fun r_1 => (if r_1 = 0 then bd (fX11_refused (-1000000001 : Int32) errors) fun (r_4, errors_5) => some (r_4, errors_5, snum) else bd (fX11_isSheet k) fun r_7 => (if r_7 = 0 then bd (fX11_refused (-1000000001 : Int32) errors) fun (r_48, errors_49) => some (r_48, errors_49, snum) else ckI a 4 (ckI k 4 (ckI a 4 ((if (sbits (a).toNatClampNeg) = 0 then bd (fX11_refused (-1000000002 : Int32) errors) fun (r_14, errors_15) => some (r_14, errors_15, snum) else ckI k 4 ((if (sbits (k).toNatClampNeg) = 0 then bd (fX11_refused (-1000000002 : Int32) errors) fun (r_45, errors_46) => some (r_45, errors_46, snum) else ckI a 4 (ckI k 4 ((if (sbits (a).toNatClampNeg) = (sbits (k).toNatClampNeg) then ckI a 4 (bd (fX7_hasStanding b n (slens (a).toNatClampNeg)) fun r_23 => (if r_23 = 0 then bd (fX11_refused (-1000000001 : Int32) errors) fun (r_26, errors_27) => some (r_26, errors_27, snum) else ckI k 4 (bd (fX7_hasStanding o n (slens (k).toNatClampNeg)) fun r_30 => (if r_30 = 0 then bd (fX11_refused (-1000000001 : Int32) errors) fun (r_39, errors_40) => some (r_39, errors_40, snum) else ckI a 4 (ckI k 4 (ckI a 4 (ckI k 4 (ck ((¬ b < 0 ∧ ¬ o < 0 ∧ ¬ n < 0) ∧ (b).toNatClampNeg + (n).toNatClampNeg ≤ 40 ∧ (o).toNatClampNeg + (n).toNatClampNeg ≤ 40) (bnd (va_up snum (k).toNatClampNeg (va_cpy (snum (a).toNatClampNeg) (snum (k).toNatClampNeg) (b).toNatClampNeg (o).toNatClampNeg (n).toNatClampNeg)) fun snum_38 => some (n, errors, snum_38)))))))))) else bd (fX11_refused (-1000000005 : Int32) errors) fun (r_42, errors_43) => some (r_42, errors_43, snum))))))))))))
set_option maxHeartbeats 4000000 in
set_option maxRecDepth 100000 in
theorem c_X11_move (l : Launch) (G : Nat → Nat) (D : va_G) (cA : Nat → ClassId) (xd : Nat → Nat) (vd : Nat → Nat) (sd : Nat → Nat) (nd : Nat → Nat) (hd : Nat → Nat) (td : Nat → Nat) (ed : Nat → Nat) (kd : Nat → Nat) (sz : Nat) (images : Int32) (errors : Nat → Int32) (fewest : Nat → Int32) (vspoon : Int32) (vmark : Int32) (vcount : Int32) (vbodies : Nat → Int32) (sbits : Nat → Int32) (slens : Nat → Int32) (snum : Nat → Nat → Int32) (h_weight : Nat → Int32) (h_known : Int32) (h_hour : Int32) (h_swS : Nat → Int32) (h_swW : Nat → Int32) (h_waS : Nat → Int32) (h_spoons : Int32) (h_kind : Nat → Int32) (h_mark : Nat → Int32) (h_silver : Nat → Int32) (h_fresh : Nat → Int64) (h_texts : Nat → Option Nat) (h_tape : Nat → Int32) (h_tapeCount : Int32) (h_z : Int32) (h_waiting : Nat → Int32) (h_waitingCount : Int32) (t_weight : Nat → Int32) (t_known : Int32) (t_hour : Int32) (t_swS : Nat → Int32) (t_swW : Nat → Int32) (t_waS : Nat → Int32) (t_spoons : Int32) (t_kind : Nat → Int32) (t_mark : Nat → Int32) (t_silver : Nat → Int32) (t_fresh : Nat → Int64) (t_texts : Nat → Option Nat) (t_tape : Nat → Int32) (t_tapeCount : Int32) (t_z : Int32) (t_waiting : Nat → Int32) (t_waitingCount : Int32) (e_weight : Nat → Int32) (e_known : Int32) (e_hour : Int32) (e_swS : Nat → Int32) (e_swW : Nat → Int32) (e_waS : Nat → Int32) (e_spoons : Int32) (e_kind : Nat → Int32) (e_mark : Nat → Int32) (e_silver : Nat → Int32) (e_fresh : Nat → Int64) (e_texts : Nat → Option Nat) (e_tape : Nat → Int32) (e_tapeCount : Int32) (e_z : Int32) (e_waiting : Nat → Int32) (e_waitingCount : Int32) (L : List Nat) (tx : Nat → TXc) (tst : Nat → Nat → Int32) (a : Int32) (b : Int32) (k : Int32) (o : Int32) (n : Int32) (rR : Int32) (errorsR : Nat → Int32) (snumR : Nat → Nat → Int32) (h : fX11_move a b k o n errors sbits slens snum = some (rR, errorsR, snumR)) : Met l yX11_move wsX11_move ({ frames := 2, cells := 0, slots := 0, locals := 42 } : Room) (PW G D (tyC cA) sz (wX cA xd vd sd nd hd td ed kd images errors fewest vspoon vmark vcount vbodies sbits slens snum h_weight h_known h_hour h_swS h_swW h_waS h_spoons h_kind h_mark h_silver h_fresh h_texts h_tape h_tapeCount h_z h_waiting h_waitingCount t_weight t_known t_hour t_swS t_swW t_waS t_spoons t_kind t_mark t_silver t_fresh t_texts t_tape t_tapeCount t_z t_waiting t_waitingCount e_weight e_known e_hour e_swS e_swW e_waS e_spoons e_kind e_mark e_silver e_fresh e_texts e_tape e_tapeCount e_z e_waiting e_waitingCount L tx tst) [.ref (xd 0), .int a, .int b, .int k, .int o, .int n]) (QI D (tyC cA) (va_A (wX cA xd vd sd nd hd td ed kd images errors fewest vspoon vmark vcount vbodies sbits slens snum h_weight h_known h_hour h_swS h_swW h_waS h_spoons h_kind h_mark h_silver h_fresh h_texts h_tape h_tapeCount h_z h_waiting h_waitingCount t_weight t_known t_hour t_swS t_swW t_waS t_spoons t_kind t_mark t_silver t_fresh t_texts t_tape t_tapeCount t_z t_waiting t_waitingCount e_weight e_known e_hour e_swS e_swW e_waS e_spoons e_kind e_mark e_silver e_fresh e_texts e_tape e_tapeCount e_z e_waiting e_waitingCount L tx tst) sz) rR (wX cA xd vd sd nd hd td ed kd images errorsR fewest vspoon vmark vcount vbodies sbits slens snumR h_weight h_known h_hour h_swS h_swW h_waS h_spoons h_kind h_mark h_silver h_fresh h_texts h_tape h_tapeCount h_z h_waiting h_waitingCount t_weight t_known t_hour t_swS t_swW t_waS t_spoons t_kind t_mark t_silver t_fresh t_texts t_tape t_tapeCount t_z t_waiting t_waitingCount e_weight e_known e_hour e_swS e_swW e_waS e_spoons e_kind e_mark e_silver e_fresh e_texts e_tape e_tapeCount e_z e_waiting e_waitingCount L tx tst)) 0 0 (va_A (wX cA xd vd sd nd hd td ed kd images errors fewest vspoon vmark vcount vbodies sbits slens snum h_weight h_known h_hour h_swS h_swW h_waS h_spoons h_kind h_mark h_silver h_fresh h_texts h_tape h_tapeCount h_z h_waiting h_waitingCount t_weight t_known t_hour t_swS t_swW t_waS t_spoons t_kind t_mark t_silver t_fresh t_texts t_tape t_tapeCount t_z t_waiting t_waitingCount e_weight e_known e_hour e_swS e_swW e_waS e_spoons e_kind e_mark e_silver e_fresh e_texts e_tape e_tapeCount e_z e_waiting e_waitingCount L tx tst) sz) := by
  refine ent (cc := cX11_move) (maxL := 8) (ret := (some .int)) (fun A => QI D (tyC cA) A rR (wX cA xd vd sd nd hd td ed kd images errorsR fewest vspoon vmark vcount vbodies sbits slens snumR h_weight h_known h_hour h_swS h_swW h_waS h_spoons h_kind h_mark h_silver h_fresh h_texts h_tape h_tapeCount h_z h_waiting h_waitingCount t_weight t_known t_hour t_swS t_swW t_waS t_spoons t_kind t_mark t_silver t_fresh t_texts t_tape t_tapeCount t_z t_waiting t_waitingCount e_weight e_known e_hour e_swS e_swW e_waS e_spoons e_kind e_mark e_silver e_fresh e_texts e_tape e_tapeCount e_z e_waiting e_waitingCount L tx tst)) (by decide +kernel) rfl (Nat.le_of_ble_eq_true rfl) ?_
  intro p e s m args below meth c A ls H hx hb hml hr hlk hts hown hA hK hE hP hD hS hv hmm
  have hv : lv_has ls 8 [(0, .ref (xd 0)), (1, .int a), (2, .int b), (3, .int k), (4, .int o), (5, .int n)] := hv
  have in_7 : ∀ w ∈ u_ws RX7 TX7 3, w ∈ wsX11_move := fun _ h => List.mem_cons_of_mem _ (List.mem_append_right _ h)
  have in_11 : ∀ w ∈ u_ws RX11 TX11 9, w ∈ wsX11_move := fun _ h => List.mem_cons_of_mem _ (List.mem_append_left _ (List.mem_append_right _ h))
  have w_0 := hts (.constant RX11 78 (-1000000001)) (List.mem_of_getElem? (i := 1) rfl)
  have w_1 := hts (.fieldLink RX11 58 "SpoonsLast" "sheets" "[LSpoonsLast$Sheet;") (List.mem_of_getElem? (i := 2) rfl)
  have w_2 := hts (.fieldLink RX11 208 "SpoonsLast$Sheet" "bits" "I") (List.mem_of_getElem? (i := 3) rfl)
  have w_3 := hts (.constant RX11 204 (-1000000002)) (List.mem_of_getElem? (i := 4) rfl)
  have w_4 := hts (.fieldLink RX11 211 "SpoonsLast$Sheet" "numbers" "[I") (List.mem_of_getElem? (i := 6) rfl)
  have w_5 := hts (.methodLink RX11 279 arraycopyName) (List.mem_of_getElem? (i := 7) rfl)
  have w_6 := hts (.native arraycopyName) (List.mem_of_getElem? (i := 8) rfl)
  have w_7 := hts (.static arraycopyName) (List.mem_of_getElem? (i := 9) rfl)
  have w_8 := hts (.initialized "java/lang/System") (List.mem_of_getElem? (i := 10) rfl)
  have w_9 := hts (.constant RX11 148 (-1000000005)) (List.mem_of_getElem? (i := 5) rfl)
  generalize hQ : MQ below _ args s 0 0 A = Q
  have hP : va_P D vwCl (wX cA xd vd sd nd hd td ed kd images errors fewest vspoon vmark vcount vbodies sbits slens snum h_weight h_known h_hour h_swS h_swW h_waS h_spoons h_kind h_mark h_silver h_fresh h_texts h_tape h_tapeCount h_z h_waiting h_waitingCount t_weight t_known t_hour t_swS t_swW t_waS t_spoons t_kind t_mark t_silver t_fresh t_texts t_tape t_tapeCount t_z t_waiting t_waitingCount e_weight e_known e_hour e_swS e_swW e_waS e_spoons e_kind e_mark e_silver e_fresh e_texts e_tape e_tapeCount e_z e_waiting e_waitingCount L tx tst) H := hP
  unfold fX11_move at h
  refine lv_iload_n hx hb dX11_move_0 rfl (lv_at hv 1 rfl) ?_
  obtain ⟨r_1, hf_2, h⟩ := bd_ex h
  have sb := Sb.nil hP hD hS hA
  refine calI (va_runS (As := [.int a]) (rest := []) ⟨hx, hb, hml, hown, hts⟩ (c_X11_isSheet l G D cA  _ a r_1 hf_2) (va_cwS 1 hts gX11_move_X11_isSheet rfl rfl rfl (by decide +kernel) ⟨Nat.le_of_ble_eq_true rfl, Nat.le_of_ble_eq_true rfl⟩) (pvS hE hK hS sb) rfl rfl hv.1 rfl (lv_room (Nat.le_of_ble_eq_true rfl)) dX11_move_1 ⟨Nat.le_of_ble_eq_true rfl, Nat.le_of_ble_eq_true rfl⟩) hS sb (Jn.nil hP hD) (fun H locs hP hD hS => ?_)
  have hP : va_P D vwCl (wX cA xd vd sd nd hd td ed kd images errors fewest vspoon vmark vcount vbodies sbits slens snum h_weight h_known h_hour h_swS h_swW h_waS h_spoons h_kind h_mark h_silver h_fresh h_texts h_tape h_tapeCount h_z h_waiting h_waitingCount t_weight t_known t_hour t_swS t_swW t_waS t_spoons t_kind t_mark t_silver t_fresh t_texts t_tape t_tapeCount t_z t_waiting t_waitingCount e_weight e_known e_hour e_swS e_swW e_waS e_spoons e_kind e_mark e_silver e_fresh e_texts e_tape e_tapeCount e_z e_waiting e_waitingCount L tx tst) H := hP
  have hD : va_D A (wX cA xd vd sd nd hd td ed kd images errors fewest vspoon vmark vcount vbodies sbits slens snum h_weight h_known h_hour h_swS h_swW h_waS h_spoons h_kind h_mark h_silver h_fresh h_texts h_tape h_tapeCount h_z h_waiting h_waitingCount t_weight t_known t_hour t_swS t_swW t_waS t_spoons t_kind t_mark t_silver t_fresh t_texts t_tape t_tapeCount t_z t_waiting t_waitingCount e_weight e_known e_hour e_swS e_swW e_waS e_spoons e_kind e_mark e_silver e_fresh e_texts e_tape e_tapeCount e_z e_waiting e_waitingCount L tx tst) := hD
  refine lv_if_eq (tgt := 14) hx hb dX11_move_4 (by decide) (fun c_3 => ?_) (fun c_3 => ?_)
  · have h := ite_t c_3 h
    refine lv_aload_n hx hb dX11_move_14 rfl (lv_at hv 0 rfl) ?_
    refine lv_ldc (v := (-1000000001 : Int32)) hx hb hown w_0 dX11_move_15 ?_
    obtain ⟨⟨r_4, errors_5⟩, hf_6, h⟩ := bd_ex h
    have sb := Sb.same hP hD hS hA
    refine calI (va_runV (As := [.int (-1000000001 : Int32)]) (rest := []) ⟨hx, hb, hml, hown, hts⟩ (c_X11_refused l G D cA xd vd sd nd hd td ed kd _ images errors fewest vspoon vmark vcount vbodies sbits slens snum h_weight h_known h_hour h_swS h_swW h_waS h_spoons h_kind h_mark h_silver h_fresh h_texts h_tape h_tapeCount h_z h_waiting h_waitingCount t_weight t_known t_hour t_swS t_swW t_waS t_spoons t_kind t_mark t_silver t_fresh t_texts t_tape t_tapeCount t_z t_waiting t_waitingCount e_weight e_known e_hour e_swS e_swW e_waS e_spoons e_kind e_mark e_silver e_fresh e_texts e_tape e_tapeCount e_z e_waiting e_waitingCount L tx tst (-1000000001 : Int32) r_4 errors_5 hf_6) (cwV 1 hts gX11_move_X11_refused rfl rfl rfl (by decide +kernel) ⟨Nat.le_of_ble_eq_true rfl, Nat.le_of_ble_eq_true rfl⟩) (pvV hE hK hS sb (va_recv hK hP (ci := 11) (q0 := 0) rfl rfl)) rfl rfl hv.1 rfl (lv_room (Nat.le_of_ble_eq_true rfl)) dX11_move_17 ⟨Nat.le_of_ble_eq_true rfl, Nat.le_of_ble_eq_true rfl⟩) hS sb (Jn.same sb) (fun H locs hP hD hS => ?_)
    have hP : va_P D vwCl (wX cA xd vd sd nd hd td ed kd images errors_5 fewest vspoon vmark vcount vbodies sbits slens snum h_weight h_known h_hour h_swS h_swW h_waS h_spoons h_kind h_mark h_silver h_fresh h_texts h_tape h_tapeCount h_z h_waiting h_waitingCount t_weight t_known t_hour t_swS t_swW t_waS t_spoons t_kind t_mark t_silver t_fresh t_texts t_tape t_tapeCount t_z t_waiting t_waitingCount e_weight e_known e_hour e_swS e_swW e_waS e_spoons e_kind e_mark e_silver e_fresh e_texts e_tape e_tapeCount e_z e_waiting e_waitingCount L tx tst) H := hP
    have hD : va_D A (wX cA xd vd sd nd hd td ed kd images errors_5 fewest vspoon vmark vcount vbodies sbits slens snum h_weight h_known h_hour h_swS h_swW h_waS h_spoons h_kind h_mark h_silver h_fresh h_texts h_tape h_tapeCount h_z h_waiting h_waitingCount t_weight t_known t_hour t_swS t_swW t_waS t_spoons t_kind t_mark t_silver t_fresh t_texts t_tape t_tapeCount t_z t_waiting t_waitingCount e_weight e_known e_hour e_swS e_swW e_waS e_spoons e_kind e_mark e_silver e_fresh e_texts e_tape e_tapeCount e_z e_waiting e_waitingCount L tx tst) := hD
    have h := Option.some.inj h
    have ee0 : r_4 = rR := congrArg (fun q => q.1) h
    have ee1 : errors_5 = errorsR := congrArg (fun q => q.2.1) h
    have ee2 : snum = snumR := congrArg (fun q => q.2.2) h
    subst ee0
    subst ee1
    subst ee2
    rw [← hQ]
    exact retI hx hb hr hlk hK hP hD hS dX11_move_20 ⟨Nat.le_of_ble_eq_true rfl, Nat.le_of_ble_eq_true rfl⟩
  · have h := ite_f c_3 h
    refine lv_iload_n hx hb dX11_move_7 rfl (lv_at hv 3 rfl) ?_
    obtain ⟨r_7, hf_8, h⟩ := bd_ex h
    have sb := Sb.nil hP hD hS hA
    refine calI (va_runS (As := [.int k]) (rest := []) ⟨hx, hb, hml, hown, hts⟩ (c_X11_isSheet l G D cA  _ k r_7 hf_8) (va_cwS 1 hts gX11_move_X11_isSheet rfl rfl rfl (by decide +kernel) ⟨Nat.le_of_ble_eq_true rfl, Nat.le_of_ble_eq_true rfl⟩) (pvS hE hK hS sb) rfl rfl hv.1 rfl (lv_room (Nat.le_of_ble_eq_true rfl)) dX11_move_8 ⟨Nat.le_of_ble_eq_true rfl, Nat.le_of_ble_eq_true rfl⟩) hS sb (Jn.nil hP hD) (fun H locs hP hD hS => ?_)
    have hP : va_P D vwCl (wX cA xd vd sd nd hd td ed kd images errors fewest vspoon vmark vcount vbodies sbits slens snum h_weight h_known h_hour h_swS h_swW h_waS h_spoons h_kind h_mark h_silver h_fresh h_texts h_tape h_tapeCount h_z h_waiting h_waitingCount t_weight t_known t_hour t_swS t_swW t_waS t_spoons t_kind t_mark t_silver t_fresh t_texts t_tape t_tapeCount t_z t_waiting t_waitingCount e_weight e_known e_hour e_swS e_swW e_waS e_spoons e_kind e_mark e_silver e_fresh e_texts e_tape e_tapeCount e_z e_waiting e_waitingCount L tx tst) H := hP
    have hD : va_D A (wX cA xd vd sd nd hd td ed kd images errors fewest vspoon vmark vcount vbodies sbits slens snum h_weight h_known h_hour h_swS h_swW h_waS h_spoons h_kind h_mark h_silver h_fresh h_texts h_tape h_tapeCount h_z h_waiting h_waitingCount t_weight t_known t_hour t_swS t_swW t_waS t_spoons t_kind t_mark t_silver t_fresh t_texts t_tape t_tapeCount t_z t_waiting t_waitingCount e_weight e_known e_hour e_swS e_swW e_waS e_spoons e_kind e_mark e_silver e_fresh e_texts e_tape e_tapeCount e_z e_waiting e_waitingCount L tx tst) := hD
    refine lv_if_ne (tgt := 21) hx hb dX11_move_11 (by decide) (fun c_9 => ?_) (fun c_9 => ?_)
    · have h := ite_f c_9 h
      refine lv_aload_n hx hb dX11_move_21 rfl (lv_at hv 0 rfl) ?_
      refine va_get (D := D) (ci := 11) (v := .ref (xd 1)) (C := RX11) (T := TX11) (N := 9) hx hb hts in_11 hown hK hP 0 rfl rfl 6 (by decide) w_1 (fun _ h9 => h9) rfl dX11_move_22 ?_
      refine lv_iload_n hx hb dX11_move_25 rfl (lv_at hv 1 rfl) ?_
      obtain ⟨c_10, h⟩ := ckI_ex h
      refine va_aldq (D := D) (f := fun j => some (sd j)) hx hb hK hP 1 4 rfl rfl c_10 dX11_move_26 ?_
      refine W.eq (g2 := F0 m 27 ls [.ref (sd (a).toNatClampNeg)]) rfl ?_
      refine lv_astore (lv' := [(6, .ref (sd (a).toNatClampNeg)), (0, .ref (xd 0)), (1, .int a), (2, .int b), (3, .int k), (4, .int o), (5, .int n)]) hx hb dX11_move_27 hv (by decide) rfl (fun ls hv => ?_)
      refine lv_aload_n hx hb dX11_move_29 rfl (lv_at hv 1 rfl) ?_
      refine va_get (D := D) (ci := 11) (v := .ref (xd 1)) (C := RX11) (T := TX11) (N := 9) hx hb hts in_11 hown hK hP 0 rfl rfl 6 (by decide) w_1 (fun _ h9 => h9) rfl dX11_move_30 ?_
      refine lv_iload_n hx hb dX11_move_33 rfl (lv_at hv 4 rfl) ?_
      obtain ⟨c_11, h⟩ := ckI_ex h
      refine va_aldq (D := D) (f := fun j => some (sd j)) hx hb hK hP 1 4 rfl rfl c_11 dX11_move_34 ?_
      refine W.eq (g2 := F0 m 35 ls [.ref (sd (k).toNatClampNeg)]) rfl ?_
      refine lv_astore (lv' := [(7, .ref (sd (k).toNatClampNeg)), (6, .ref (sd (a).toNatClampNeg)), (0, .ref (xd 0)), (1, .int a), (2, .int b), (3, .int k), (4, .int o), (5, .int n)]) hx hb dX11_move_35 hv (by decide) rfl (fun ls hv => ?_)
      refine lv_aload hx hb dX11_move_37 (lv_at hv 1 rfl) ?_
      obtain ⟨c_12, h⟩ := ckI_ex h
      refine va_get (D := D) (ci := 7) (v := .int (sbits (a).toNatClampNeg)) (C := RX7) (T := TX7) (N := 3) hx hb hts in_7 hown hK hP (6 + (a).toNatClampNeg) (wX_so (vlt c_12)) rfl 0 (by decide) w_2 (fun _ h9 => h9) rfl dX11_move_39 ?_
      refine lv_if_eq (tgt := 53) hx hb dX11_move_42 (by decide) (fun c_13 => ?_) (fun c_13 => ?_)
      · have h := ite_t c_13 h
        refine lv_aload_n hx hb dX11_move_53 rfl (lv_at hv 2 rfl) ?_
        refine lv_ldc (v := (-1000000002 : Int32)) hx hb hown w_3 dX11_move_54 ?_
        obtain ⟨⟨r_14, errors_15⟩, hf_16, h⟩ := bd_ex h
        have sb := Sb.same hP hD hS hA
        refine calI (va_runV (As := [.int (-1000000002 : Int32)]) (rest := []) ⟨hx, hb, hml, hown, hts⟩ (c_X11_refused l G D cA xd vd sd nd hd td ed kd _ images errors fewest vspoon vmark vcount vbodies sbits slens snum h_weight h_known h_hour h_swS h_swW h_waS h_spoons h_kind h_mark h_silver h_fresh h_texts h_tape h_tapeCount h_z h_waiting h_waitingCount t_weight t_known t_hour t_swS t_swW t_waS t_spoons t_kind t_mark t_silver t_fresh t_texts t_tape t_tapeCount t_z t_waiting t_waitingCount e_weight e_known e_hour e_swS e_swW e_waS e_spoons e_kind e_mark e_silver e_fresh e_texts e_tape e_tapeCount e_z e_waiting e_waitingCount L tx tst (-1000000002 : Int32) r_14 errors_15 hf_16) (cwV 1 hts gX11_move_X11_refused rfl rfl rfl (by decide +kernel) ⟨Nat.le_of_ble_eq_true rfl, Nat.le_of_ble_eq_true rfl⟩) (pvV hE hK hS sb (va_recv hK hP (ci := 11) (q0 := 0) rfl rfl)) rfl rfl hv.1 rfl (lv_room (Nat.le_of_ble_eq_true rfl)) dX11_move_56 ⟨Nat.le_of_ble_eq_true rfl, Nat.le_of_ble_eq_true rfl⟩) hS sb (Jn.same sb) (fun H locs hP hD hS => ?_)
        have hP : va_P D vwCl (wX cA xd vd sd nd hd td ed kd images errors_15 fewest vspoon vmark vcount vbodies sbits slens snum h_weight h_known h_hour h_swS h_swW h_waS h_spoons h_kind h_mark h_silver h_fresh h_texts h_tape h_tapeCount h_z h_waiting h_waitingCount t_weight t_known t_hour t_swS t_swW t_waS t_spoons t_kind t_mark t_silver t_fresh t_texts t_tape t_tapeCount t_z t_waiting t_waitingCount e_weight e_known e_hour e_swS e_swW e_waS e_spoons e_kind e_mark e_silver e_fresh e_texts e_tape e_tapeCount e_z e_waiting e_waitingCount L tx tst) H := hP
        have hD : va_D A (wX cA xd vd sd nd hd td ed kd images errors_15 fewest vspoon vmark vcount vbodies sbits slens snum h_weight h_known h_hour h_swS h_swW h_waS h_spoons h_kind h_mark h_silver h_fresh h_texts h_tape h_tapeCount h_z h_waiting h_waitingCount t_weight t_known t_hour t_swS t_swW t_waS t_spoons t_kind t_mark t_silver t_fresh t_texts t_tape t_tapeCount t_z t_waiting t_waitingCount e_weight e_known e_hour e_swS e_swW e_waS e_spoons e_kind e_mark e_silver e_fresh e_texts e_tape e_tapeCount e_z e_waiting e_waitingCount L tx tst) := hD
        have h := Option.some.inj h
        have ee0 : r_14 = rR := congrArg (fun q => q.1) h
        have ee1 : errors_15 = errorsR := congrArg (fun q => q.2.1) h
        have ee2 : snum = snumR := congrArg (fun q => q.2.2) h
        subst ee0
        subst ee1
        subst ee2
        rw [← hQ]
        exact retI hx hb hr hlk hK hP hD hS dX11_move_59 ⟨Nat.le_of_ble_eq_true rfl, Nat.le_of_ble_eq_true rfl⟩
      · have h := ite_f c_13 h
        refine lv_aload hx hb dX11_move_45 (lv_at hv 0 rfl) ?_
        obtain ⟨c_17, h⟩ := ckI_ex h
        refine va_get (D := D) (ci := 7) (v := .int (sbits (k).toNatClampNeg)) (C := RX7) (T := TX7) (N := 3) hx hb hts in_7 hown hK hP (6 + (k).toNatClampNeg) (wX_so (vlt c_17)) rfl 0 (by decide) w_2 (fun _ h9 => h9) rfl dX11_move_47 ?_
        refine lv_if_ne (tgt := 60) hx hb dX11_move_50 (by decide) (fun c_18 => ?_) (fun c_18 => ?_)
        · have h := ite_f c_18 h
          refine lv_aload hx hb dX11_move_60 (lv_at hv 1 rfl) ?_
          obtain ⟨c_19, h⟩ := ckI_ex h
          refine va_get (D := D) (ci := 7) (v := .int (sbits (a).toNatClampNeg)) (C := RX7) (T := TX7) (N := 3) hx hb hts in_7 hown hK hP (6 + (a).toNatClampNeg) (wX_so (vlt c_19)) rfl 0 (by decide) w_2 (fun _ h9 => h9) rfl dX11_move_62 ?_
          refine lv_aload hx hb dX11_move_65 (lv_at hv 0 rfl) ?_
          obtain ⟨c_20, h⟩ := ckI_ex h
          refine va_get (D := D) (ci := 7) (v := .int (sbits (k).toNatClampNeg)) (C := RX7) (T := TX7) (N := 3) hx hb hts in_7 hown hK hP (6 + (k).toNatClampNeg) (wX_so (vlt c_20)) rfl 0 (by decide) w_2 (fun _ h9 => h9) rfl dX11_move_67 ?_
          refine lv_icmp_eq (tgt := 80) hx hb dX11_move_70 (by decide) (fun c_21 => ?_) (fun c_21 => ?_)
          · have h := ite_t c_21 h
            refine lv_aload hx hb dX11_move_80 (lv_at hv 1 rfl) ?_
            refine lv_iload_n hx hb dX11_move_82 rfl (lv_at hv 4 rfl) ?_
            refine lv_iload hx hb dX11_move_83 (lv_at hv 7 rfl) ?_
            obtain ⟨c_22, h⟩ := ckI_ex h
            obtain ⟨r_23, hf_24, h⟩ := bd_ex h
            have sb : Sb D A H (wS cA (sd (a).toNatClampNeg) (nd (a).toNatClampNeg) (sbits (a).toNatClampNeg) (slens (a).toNatClampNeg) (snum (a).toNatClampNeg)) := wX_sbS (vlt c_22) hP hD hS hA
            refine calI (va_runV (As := [.int b, .int n]) (rest := []) ⟨hx, hb, hml, hown, hts⟩ (c_X7_hasStanding l G D cA (sd (a).toNatClampNeg) (nd (a).toNatClampNeg) _ (sbits (a).toNatClampNeg) (slens (a).toNatClampNeg) (snum (a).toNatClampNeg) b n r_23 hf_24) (cwV 2 hts gX11_move_X7_hasStanding rfl rfl rfl (by decide +kernel) ⟨Nat.le_of_ble_eq_true rfl, Nat.le_of_ble_eq_true rfl⟩) (pvV hE hK hS sb (va_recv hK hP (ci := 7) (q0 := 6 + (a).toNatClampNeg) rfl (wX_so (vlt c_22)))) rfl rfl hv.1 rfl (lv_room (Nat.le_of_ble_eq_true rfl)) dX11_move_85 ⟨Nat.le_of_ble_eq_true rfl, Nat.le_of_ble_eq_true rfl⟩) hS sb (wX_jnS0 (vlt c_22) hP hD) (fun H locs hP hD hS => ?_)
            have hP : va_P D vwCl (wX cA xd vd sd nd hd td ed kd images errors fewest vspoon vmark vcount vbodies sbits slens snum h_weight h_known h_hour h_swS h_swW h_waS h_spoons h_kind h_mark h_silver h_fresh h_texts h_tape h_tapeCount h_z h_waiting h_waitingCount t_weight t_known t_hour t_swS t_swW t_waS t_spoons t_kind t_mark t_silver t_fresh t_texts t_tape t_tapeCount t_z t_waiting t_waitingCount e_weight e_known e_hour e_swS e_swW e_waS e_spoons e_kind e_mark e_silver e_fresh e_texts e_tape e_tapeCount e_z e_waiting e_waitingCount L tx tst) H := hP
            have hD : va_D A (wX cA xd vd sd nd hd td ed kd images errors fewest vspoon vmark vcount vbodies sbits slens snum h_weight h_known h_hour h_swS h_swW h_waS h_spoons h_kind h_mark h_silver h_fresh h_texts h_tape h_tapeCount h_z h_waiting h_waitingCount t_weight t_known t_hour t_swS t_swW t_waS t_spoons t_kind t_mark t_silver t_fresh t_texts t_tape t_tapeCount t_z t_waiting t_waitingCount e_weight e_known e_hour e_swS e_swW e_waS e_spoons e_kind e_mark e_silver e_fresh e_texts e_tape e_tapeCount e_z e_waiting e_waitingCount L tx tst) := hD
            refine lv_if_eq (tgt := 103) hx hb dX11_move_88 (by decide) (fun c_25 => ?_) (fun c_25 => ?_)
            · have h := ite_t c_25 h
              refine lv_aload_n hx hb dX11_move_103 rfl (lv_at hv 2 rfl) ?_
              refine lv_ldc (v := (-1000000001 : Int32)) hx hb hown w_0 dX11_move_104 ?_
              obtain ⟨⟨r_26, errors_27⟩, hf_28, h⟩ := bd_ex h
              have sb := Sb.same hP hD hS hA
              refine calI (va_runV (As := [.int (-1000000001 : Int32)]) (rest := []) ⟨hx, hb, hml, hown, hts⟩ (c_X11_refused l G D cA xd vd sd nd hd td ed kd _ images errors fewest vspoon vmark vcount vbodies sbits slens snum h_weight h_known h_hour h_swS h_swW h_waS h_spoons h_kind h_mark h_silver h_fresh h_texts h_tape h_tapeCount h_z h_waiting h_waitingCount t_weight t_known t_hour t_swS t_swW t_waS t_spoons t_kind t_mark t_silver t_fresh t_texts t_tape t_tapeCount t_z t_waiting t_waitingCount e_weight e_known e_hour e_swS e_swW e_waS e_spoons e_kind e_mark e_silver e_fresh e_texts e_tape e_tapeCount e_z e_waiting e_waitingCount L tx tst (-1000000001 : Int32) r_26 errors_27 hf_28) (cwV 1 hts gX11_move_X11_refused rfl rfl rfl (by decide +kernel) ⟨Nat.le_of_ble_eq_true rfl, Nat.le_of_ble_eq_true rfl⟩) (pvV hE hK hS sb (va_recv hK hP (ci := 11) (q0 := 0) rfl rfl)) rfl rfl hv.1 rfl (lv_room (Nat.le_of_ble_eq_true rfl)) dX11_move_106 ⟨Nat.le_of_ble_eq_true rfl, Nat.le_of_ble_eq_true rfl⟩) hS sb (Jn.same sb) (fun H locs hP hD hS => ?_)
              have hP : va_P D vwCl (wX cA xd vd sd nd hd td ed kd images errors_27 fewest vspoon vmark vcount vbodies sbits slens snum h_weight h_known h_hour h_swS h_swW h_waS h_spoons h_kind h_mark h_silver h_fresh h_texts h_tape h_tapeCount h_z h_waiting h_waitingCount t_weight t_known t_hour t_swS t_swW t_waS t_spoons t_kind t_mark t_silver t_fresh t_texts t_tape t_tapeCount t_z t_waiting t_waitingCount e_weight e_known e_hour e_swS e_swW e_waS e_spoons e_kind e_mark e_silver e_fresh e_texts e_tape e_tapeCount e_z e_waiting e_waitingCount L tx tst) H := hP
              have hD : va_D A (wX cA xd vd sd nd hd td ed kd images errors_27 fewest vspoon vmark vcount vbodies sbits slens snum h_weight h_known h_hour h_swS h_swW h_waS h_spoons h_kind h_mark h_silver h_fresh h_texts h_tape h_tapeCount h_z h_waiting h_waitingCount t_weight t_known t_hour t_swS t_swW t_waS t_spoons t_kind t_mark t_silver t_fresh t_texts t_tape t_tapeCount t_z t_waiting t_waitingCount e_weight e_known e_hour e_swS e_swW e_waS e_spoons e_kind e_mark e_silver e_fresh e_texts e_tape e_tapeCount e_z e_waiting e_waitingCount L tx tst) := hD
              have h := Option.some.inj h
              have ee0 : r_26 = rR := congrArg (fun q => q.1) h
              have ee1 : errors_27 = errorsR := congrArg (fun q => q.2.1) h
              have ee2 : snum = snumR := congrArg (fun q => q.2.2) h
              subst ee0
              subst ee1
              subst ee2
              rw [← hQ]
              exact retI hx hb hr hlk hK hP hD hS dX11_move_109 ⟨Nat.le_of_ble_eq_true rfl, Nat.le_of_ble_eq_true rfl⟩
            · have h := ite_f c_25 h
              refine lv_aload hx hb dX11_move_91 (lv_at hv 0 rfl) ?_
              refine lv_iload hx hb dX11_move_93 (lv_at hv 6 rfl) ?_
              refine lv_iload hx hb dX11_move_95 (lv_at hv 7 rfl) ?_
              obtain ⟨c_29, h⟩ := ckI_ex h
              obtain ⟨r_30, hf_31, h⟩ := bd_ex h
              have sb : Sb D A H (wS cA (sd (k).toNatClampNeg) (nd (k).toNatClampNeg) (sbits (k).toNatClampNeg) (slens (k).toNatClampNeg) (snum (k).toNatClampNeg)) := wX_sbS (vlt c_29) hP hD hS hA
              refine calI (va_runV (As := [.int o, .int n]) (rest := []) ⟨hx, hb, hml, hown, hts⟩ (c_X7_hasStanding l G D cA (sd (k).toNatClampNeg) (nd (k).toNatClampNeg) _ (sbits (k).toNatClampNeg) (slens (k).toNatClampNeg) (snum (k).toNatClampNeg) o n r_30 hf_31) (cwV 2 hts gX11_move_X7_hasStanding rfl rfl rfl (by decide +kernel) ⟨Nat.le_of_ble_eq_true rfl, Nat.le_of_ble_eq_true rfl⟩) (pvV hE hK hS sb (va_recv hK hP (ci := 7) (q0 := 6 + (k).toNatClampNeg) rfl (wX_so (vlt c_29)))) rfl rfl hv.1 rfl (lv_room (Nat.le_of_ble_eq_true rfl)) dX11_move_97 ⟨Nat.le_of_ble_eq_true rfl, Nat.le_of_ble_eq_true rfl⟩) hS sb (wX_jnS0 (vlt c_29) hP hD) (fun H locs hP hD hS => ?_)
              have hP : va_P D vwCl (wX cA xd vd sd nd hd td ed kd images errors fewest vspoon vmark vcount vbodies sbits slens snum h_weight h_known h_hour h_swS h_swW h_waS h_spoons h_kind h_mark h_silver h_fresh h_texts h_tape h_tapeCount h_z h_waiting h_waitingCount t_weight t_known t_hour t_swS t_swW t_waS t_spoons t_kind t_mark t_silver t_fresh t_texts t_tape t_tapeCount t_z t_waiting t_waitingCount e_weight e_known e_hour e_swS e_swW e_waS e_spoons e_kind e_mark e_silver e_fresh e_texts e_tape e_tapeCount e_z e_waiting e_waitingCount L tx tst) H := hP
              have hD : va_D A (wX cA xd vd sd nd hd td ed kd images errors fewest vspoon vmark vcount vbodies sbits slens snum h_weight h_known h_hour h_swS h_swW h_waS h_spoons h_kind h_mark h_silver h_fresh h_texts h_tape h_tapeCount h_z h_waiting h_waitingCount t_weight t_known t_hour t_swS t_swW t_waS t_spoons t_kind t_mark t_silver t_fresh t_texts t_tape t_tapeCount t_z t_waiting t_waitingCount e_weight e_known e_hour e_swS e_swW e_waS e_spoons e_kind e_mark e_silver e_fresh e_texts e_tape e_tapeCount e_z e_waiting e_waitingCount L tx tst) := hD
              refine lv_if_ne (tgt := 110) hx hb dX11_move_100 (by decide) (fun c_32 => ?_) (fun c_32 => ?_)
              · have h := ite_f c_32 h
                refine lv_aload hx hb dX11_move_110 (lv_at hv 1 rfl) ?_
                obtain ⟨c_33, h⟩ := ckI_ex h
                refine va_get (D := D) (ci := 7) (v := .ref (nd (a).toNatClampNeg)) (C := RX7) (T := TX7) (N := 3) hx hb hts in_7 hown hK hP (6 + (a).toNatClampNeg) (wX_so (vlt c_33)) rfl 2 (by decide) w_4 (fun _ h9 => h9) rfl dX11_move_112 ?_
                refine lv_iload_n hx hb dX11_move_115 rfl (lv_at hv 4 rfl) ?_
                refine lv_aload hx hb dX11_move_116 (lv_at hv 0 rfl) ?_
                obtain ⟨c_34, h⟩ := ckI_ex h
                refine va_get (D := D) (ci := 7) (v := .ref (nd (k).toNatClampNeg)) (C := RX7) (T := TX7) (N := 3) hx hb hts in_7 hown hK hP (6 + (k).toNatClampNeg) (wX_so (vlt c_34)) rfl 2 (by decide) w_4 (fun _ h9 => h9) rfl dX11_move_118 ?_
                refine lv_iload hx hb dX11_move_121 (lv_at hv 6 rfl) ?_
                refine lv_iload hx hb dX11_move_123 (lv_at hv 7 rfl) ?_
                obtain ⟨c_35, h⟩ := ckI_ex h
                obtain ⟨c_36, h⟩ := ckI_ex h
                obtain ⟨c_37, h⟩ := ck_ex h
                obtain ⟨snum_38, esnum_38, h⟩ := bnd_ex h
                refine va_copyi (D := D) hx hb (hml.trans hv.1.symm) hown w_5 w_6 w_7 w_8 hK hP hD hS (10 + (a).toNatClampNeg) (10 + (k).toNatClampNeg) 0 0 (wX_sn (vlt c_35)) (wX_sn (vlt c_36)) rfl rfl rfl c_37.1.1 c_37.1.2.1 c_37.1.2.2 c_37.2.1 c_37.2.2 (fun _ _ => rfl) (Nat.le_of_ble_eq_true rfl) (by decide +kernel) dX11_move_125 (fun H locs hP hD hS => ?_)
                rw [wX_setn (vlt c_36), ← esnum_38] at hP hD
                have hP : va_P D vwCl (wX cA xd vd sd nd hd td ed kd images errors fewest vspoon vmark vcount vbodies sbits slens snum_38 h_weight h_known h_hour h_swS h_swW h_waS h_spoons h_kind h_mark h_silver h_fresh h_texts h_tape h_tapeCount h_z h_waiting h_waitingCount t_weight t_known t_hour t_swS t_swW t_waS t_spoons t_kind t_mark t_silver t_fresh t_texts t_tape t_tapeCount t_z t_waiting t_waitingCount e_weight e_known e_hour e_swS e_swW e_waS e_spoons e_kind e_mark e_silver e_fresh e_texts e_tape e_tapeCount e_z e_waiting e_waitingCount L tx tst) H := hP
                have hD : va_D A (wX cA xd vd sd nd hd td ed kd images errors fewest vspoon vmark vcount vbodies sbits slens snum_38 h_weight h_known h_hour h_swS h_swW h_waS h_spoons h_kind h_mark h_silver h_fresh h_texts h_tape h_tapeCount h_z h_waiting h_waitingCount t_weight t_known t_hour t_swS t_swW t_waS t_spoons t_kind t_mark t_silver t_fresh t_texts t_tape t_tapeCount t_z t_waiting t_waitingCount e_weight e_known e_hour e_swS e_swW e_waS e_spoons e_kind e_mark e_silver e_fresh e_texts e_tape e_tapeCount e_z e_waiting e_waitingCount L tx tst) := hD
                refine lv_iload hx hb dX11_move_128 (lv_at hv 7 rfl) ?_
                have h := Option.some.inj h
                have ee0 : n = rR := congrArg (fun q => q.1) h
                have ee1 : errors = errorsR := congrArg (fun q => q.2.1) h
                have ee2 : snum_38 = snumR := congrArg (fun q => q.2.2) h
                subst ee0
                subst ee1
                subst ee2
                rw [← hQ]
                exact retI hx hb hr hlk hK hP hD hS dX11_move_130 ⟨Nat.le_of_ble_eq_true rfl, Nat.le_of_ble_eq_true rfl⟩
              · have h := ite_t c_32 h
                refine lv_aload_n hx hb dX11_move_103 rfl (lv_at hv 2 rfl) ?_
                refine lv_ldc (v := (-1000000001 : Int32)) hx hb hown w_0 dX11_move_104 ?_
                obtain ⟨⟨r_39, errors_40⟩, hf_41, h⟩ := bd_ex h
                have sb := Sb.same hP hD hS hA
                refine calI (va_runV (As := [.int (-1000000001 : Int32)]) (rest := []) ⟨hx, hb, hml, hown, hts⟩ (c_X11_refused l G D cA xd vd sd nd hd td ed kd _ images errors fewest vspoon vmark vcount vbodies sbits slens snum h_weight h_known h_hour h_swS h_swW h_waS h_spoons h_kind h_mark h_silver h_fresh h_texts h_tape h_tapeCount h_z h_waiting h_waitingCount t_weight t_known t_hour t_swS t_swW t_waS t_spoons t_kind t_mark t_silver t_fresh t_texts t_tape t_tapeCount t_z t_waiting t_waitingCount e_weight e_known e_hour e_swS e_swW e_waS e_spoons e_kind e_mark e_silver e_fresh e_texts e_tape e_tapeCount e_z e_waiting e_waitingCount L tx tst (-1000000001 : Int32) r_39 errors_40 hf_41) (cwV 1 hts gX11_move_X11_refused rfl rfl rfl (by decide +kernel) ⟨Nat.le_of_ble_eq_true rfl, Nat.le_of_ble_eq_true rfl⟩) (pvV hE hK hS sb (va_recv hK hP (ci := 11) (q0 := 0) rfl rfl)) rfl rfl hv.1 rfl (lv_room (Nat.le_of_ble_eq_true rfl)) dX11_move_106 ⟨Nat.le_of_ble_eq_true rfl, Nat.le_of_ble_eq_true rfl⟩) hS sb (Jn.same sb) (fun H locs hP hD hS => ?_)
                have hP : va_P D vwCl (wX cA xd vd sd nd hd td ed kd images errors_40 fewest vspoon vmark vcount vbodies sbits slens snum h_weight h_known h_hour h_swS h_swW h_waS h_spoons h_kind h_mark h_silver h_fresh h_texts h_tape h_tapeCount h_z h_waiting h_waitingCount t_weight t_known t_hour t_swS t_swW t_waS t_spoons t_kind t_mark t_silver t_fresh t_texts t_tape t_tapeCount t_z t_waiting t_waitingCount e_weight e_known e_hour e_swS e_swW e_waS e_spoons e_kind e_mark e_silver e_fresh e_texts e_tape e_tapeCount e_z e_waiting e_waitingCount L tx tst) H := hP
                have hD : va_D A (wX cA xd vd sd nd hd td ed kd images errors_40 fewest vspoon vmark vcount vbodies sbits slens snum h_weight h_known h_hour h_swS h_swW h_waS h_spoons h_kind h_mark h_silver h_fresh h_texts h_tape h_tapeCount h_z h_waiting h_waitingCount t_weight t_known t_hour t_swS t_swW t_waS t_spoons t_kind t_mark t_silver t_fresh t_texts t_tape t_tapeCount t_z t_waiting t_waitingCount e_weight e_known e_hour e_swS e_swW e_waS e_spoons e_kind e_mark e_silver e_fresh e_texts e_tape e_tapeCount e_z e_waiting e_waitingCount L tx tst) := hD
                have h := Option.some.inj h
                have ee0 : r_39 = rR := congrArg (fun q => q.1) h
                have ee1 : errors_40 = errorsR := congrArg (fun q => q.2.1) h
                have ee2 : snum = snumR := congrArg (fun q => q.2.2) h
                subst ee0
                subst ee1
                subst ee2
                rw [← hQ]
                exact retI hx hb hr hlk hK hP hD hS dX11_move_109 ⟨Nat.le_of_ble_eq_true rfl, Nat.le_of_ble_eq_true rfl⟩
          · have h := ite_f c_21 h
            refine lv_aload_n hx hb dX11_move_73 rfl (lv_at hv 2 rfl) ?_
            refine lv_ldc (v := (-1000000005 : Int32)) hx hb hown w_9 dX11_move_74 ?_
            obtain ⟨⟨r_42, errors_43⟩, hf_44, h⟩ := bd_ex h
            have sb := Sb.same hP hD hS hA
            refine calI (va_runV (As := [.int (-1000000005 : Int32)]) (rest := []) ⟨hx, hb, hml, hown, hts⟩ (c_X11_refused l G D cA xd vd sd nd hd td ed kd _ images errors fewest vspoon vmark vcount vbodies sbits slens snum h_weight h_known h_hour h_swS h_swW h_waS h_spoons h_kind h_mark h_silver h_fresh h_texts h_tape h_tapeCount h_z h_waiting h_waitingCount t_weight t_known t_hour t_swS t_swW t_waS t_spoons t_kind t_mark t_silver t_fresh t_texts t_tape t_tapeCount t_z t_waiting t_waitingCount e_weight e_known e_hour e_swS e_swW e_waS e_spoons e_kind e_mark e_silver e_fresh e_texts e_tape e_tapeCount e_z e_waiting e_waitingCount L tx tst (-1000000005 : Int32) r_42 errors_43 hf_44) (cwV 1 hts gX11_move_X11_refused rfl rfl rfl (by decide +kernel) ⟨Nat.le_of_ble_eq_true rfl, Nat.le_of_ble_eq_true rfl⟩) (pvV hE hK hS sb (va_recv hK hP (ci := 11) (q0 := 0) rfl rfl)) rfl rfl hv.1 rfl (lv_room (Nat.le_of_ble_eq_true rfl)) dX11_move_76 ⟨Nat.le_of_ble_eq_true rfl, Nat.le_of_ble_eq_true rfl⟩) hS sb (Jn.same sb) (fun H locs hP hD hS => ?_)
            have hP : va_P D vwCl (wX cA xd vd sd nd hd td ed kd images errors_43 fewest vspoon vmark vcount vbodies sbits slens snum h_weight h_known h_hour h_swS h_swW h_waS h_spoons h_kind h_mark h_silver h_fresh h_texts h_tape h_tapeCount h_z h_waiting h_waitingCount t_weight t_known t_hour t_swS t_swW t_waS t_spoons t_kind t_mark t_silver t_fresh t_texts t_tape t_tapeCount t_z t_waiting t_waitingCount e_weight e_known e_hour e_swS e_swW e_waS e_spoons e_kind e_mark e_silver e_fresh e_texts e_tape e_tapeCount e_z e_waiting e_waitingCount L tx tst) H := hP
            have hD : va_D A (wX cA xd vd sd nd hd td ed kd images errors_43 fewest vspoon vmark vcount vbodies sbits slens snum h_weight h_known h_hour h_swS h_swW h_waS h_spoons h_kind h_mark h_silver h_fresh h_texts h_tape h_tapeCount h_z h_waiting h_waitingCount t_weight t_known t_hour t_swS t_swW t_waS t_spoons t_kind t_mark t_silver t_fresh t_texts t_tape t_tapeCount t_z t_waiting t_waitingCount e_weight e_known e_hour e_swS e_swW e_waS e_spoons e_kind e_mark e_silver e_fresh e_texts e_tape e_tapeCount e_z e_waiting e_waitingCount L tx tst) := hD
            have h := Option.some.inj h
            have ee0 : r_42 = rR := congrArg (fun q => q.1) h
            have ee1 : errors_43 = errorsR := congrArg (fun q => q.2.1) h
            have ee2 : snum = snumR := congrArg (fun q => q.2.2) h
            subst ee0
            subst ee1
            subst ee2
            rw [← hQ]
            exact retI hx hb hr hlk hK hP hD hS dX11_move_79 ⟨Nat.le_of_ble_eq_true rfl, Nat.le_of_ble_eq_true rfl⟩
        · have h := ite_t c_18 h
          refine lv_aload_n hx hb dX11_move_53 rfl (lv_at hv 2 rfl) ?_
          refine lv_ldc (v := (-1000000002 : Int32)) hx hb hown w_3 dX11_move_54 ?_
          obtain ⟨⟨r_45, errors_46⟩, hf_47, h⟩ := bd_ex h
          have sb := Sb.same hP hD hS hA
          refine calI (va_runV (As := [.int (-1000000002 : Int32)]) (rest := []) ⟨hx, hb, hml, hown, hts⟩ (c_X11_refused l G D cA xd vd sd nd hd td ed kd _ images errors fewest vspoon vmark vcount vbodies sbits slens snum h_weight h_known h_hour h_swS h_swW h_waS h_spoons h_kind h_mark h_silver h_fresh h_texts h_tape h_tapeCount h_z h_waiting h_waitingCount t_weight t_known t_hour t_swS t_swW t_waS t_spoons t_kind t_mark t_silver t_fresh t_texts t_tape t_tapeCount t_z t_waiting t_waitingCount e_weight e_known e_hour e_swS e_swW e_waS e_spoons e_kind e_mark e_silver e_fresh e_texts e_tape e_tapeCount e_z e_waiting e_waitingCount L tx tst (-1000000002 : Int32) r_45 errors_46 hf_47) (cwV 1 hts gX11_move_X11_refused rfl rfl rfl (by decide +kernel) ⟨Nat.le_of_ble_eq_true rfl, Nat.le_of_ble_eq_true rfl⟩) (pvV hE hK hS sb (va_recv hK hP (ci := 11) (q0 := 0) rfl rfl)) rfl rfl hv.1 rfl (lv_room (Nat.le_of_ble_eq_true rfl)) dX11_move_56 ⟨Nat.le_of_ble_eq_true rfl, Nat.le_of_ble_eq_true rfl⟩) hS sb (Jn.same sb) (fun H locs hP hD hS => ?_)
          have hP : va_P D vwCl (wX cA xd vd sd nd hd td ed kd images errors_46 fewest vspoon vmark vcount vbodies sbits slens snum h_weight h_known h_hour h_swS h_swW h_waS h_spoons h_kind h_mark h_silver h_fresh h_texts h_tape h_tapeCount h_z h_waiting h_waitingCount t_weight t_known t_hour t_swS t_swW t_waS t_spoons t_kind t_mark t_silver t_fresh t_texts t_tape t_tapeCount t_z t_waiting t_waitingCount e_weight e_known e_hour e_swS e_swW e_waS e_spoons e_kind e_mark e_silver e_fresh e_texts e_tape e_tapeCount e_z e_waiting e_waitingCount L tx tst) H := hP
          have hD : va_D A (wX cA xd vd sd nd hd td ed kd images errors_46 fewest vspoon vmark vcount vbodies sbits slens snum h_weight h_known h_hour h_swS h_swW h_waS h_spoons h_kind h_mark h_silver h_fresh h_texts h_tape h_tapeCount h_z h_waiting h_waitingCount t_weight t_known t_hour t_swS t_swW t_waS t_spoons t_kind t_mark t_silver t_fresh t_texts t_tape t_tapeCount t_z t_waiting t_waitingCount e_weight e_known e_hour e_swS e_swW e_waS e_spoons e_kind e_mark e_silver e_fresh e_texts e_tape e_tapeCount e_z e_waiting e_waitingCount L tx tst) := hD
          have h := Option.some.inj h
          have ee0 : r_45 = rR := congrArg (fun q => q.1) h
          have ee1 : errors_46 = errorsR := congrArg (fun q => q.2.1) h
          have ee2 : snum = snumR := congrArg (fun q => q.2.2) h
          subst ee0
          subst ee1
          subst ee2
          rw [← hQ]
          exact retI hx hb hr hlk hK hP hD hS dX11_move_59 ⟨Nat.le_of_ble_eq_true rfl, Nat.le_of_ble_eq_true rfl⟩
    · have h := ite_t c_9 h
      refine lv_aload_n hx hb dX11_move_14 rfl (lv_at hv 0 rfl) ?_
      refine lv_ldc (v := (-1000000001 : Int32)) hx hb hown w_0 dX11_move_15 ?_
      obtain ⟨⟨r_48, errors_49⟩, hf_50, h⟩ := bd_ex h
      have sb := Sb.same hP hD hS hA
      refine calI (va_runV (As := [.int (-1000000001 : Int32)]) (rest := []) ⟨hx, hb, hml, hown, hts⟩ (c_X11_refused l G D cA xd vd sd nd hd td ed kd _ images errors fewest vspoon vmark vcount vbodies sbits slens snum h_weight h_known h_hour h_swS h_swW h_waS h_spoons h_kind h_mark h_silver h_fresh h_texts h_tape h_tapeCount h_z h_waiting h_waitingCount t_weight t_known t_hour t_swS t_swW t_waS t_spoons t_kind t_mark t_silver t_fresh t_texts t_tape t_tapeCount t_z t_waiting t_waitingCount e_weight e_known e_hour e_swS e_swW e_waS e_spoons e_kind e_mark e_silver e_fresh e_texts e_tape e_tapeCount e_z e_waiting e_waitingCount L tx tst (-1000000001 : Int32) r_48 errors_49 hf_50) (cwV 1 hts gX11_move_X11_refused rfl rfl rfl (by decide +kernel) ⟨Nat.le_of_ble_eq_true rfl, Nat.le_of_ble_eq_true rfl⟩) (pvV hE hK hS sb (va_recv hK hP (ci := 11) (q0 := 0) rfl rfl)) rfl rfl hv.1 rfl (lv_room (Nat.le_of_ble_eq_true rfl)) dX11_move_17 ⟨Nat.le_of_ble_eq_true rfl, Nat.le_of_ble_eq_true rfl⟩) hS sb (Jn.same sb) (fun H locs hP hD hS => ?_)
      have hP : va_P D vwCl (wX cA xd vd sd nd hd td ed kd images errors_49 fewest vspoon vmark vcount vbodies sbits slens snum h_weight h_known h_hour h_swS h_swW h_waS h_spoons h_kind h_mark h_silver h_fresh h_texts h_tape h_tapeCount h_z h_waiting h_waitingCount t_weight t_known t_hour t_swS t_swW t_waS t_spoons t_kind t_mark t_silver t_fresh t_texts t_tape t_tapeCount t_z t_waiting t_waitingCount e_weight e_known e_hour e_swS e_swW e_waS e_spoons e_kind e_mark e_silver e_fresh e_texts e_tape e_tapeCount e_z e_waiting e_waitingCount L tx tst) H := hP
      have hD : va_D A (wX cA xd vd sd nd hd td ed kd images errors_49 fewest vspoon vmark vcount vbodies sbits slens snum h_weight h_known h_hour h_swS h_swW h_waS h_spoons h_kind h_mark h_silver h_fresh h_texts h_tape h_tapeCount h_z h_waiting h_waitingCount t_weight t_known t_hour t_swS t_swW t_waS t_spoons t_kind t_mark t_silver t_fresh t_texts t_tape t_tapeCount t_z t_waiting t_waitingCount e_weight e_known e_hour e_swS e_swW e_waS e_spoons e_kind e_mark e_silver e_fresh e_texts e_tape e_tapeCount e_z e_waiting e_waitingCount L tx tst) := hD
      have h := Option.some.inj h
      have ee0 : r_48 = rR := congrArg (fun q => q.1) h
      have ee1 : errors_49 = errorsR := congrArg (fun q => q.2.1) h
      have ee2 : snum = snumR := congrArg (fun q => q.2.2) h
      subst ee0
      subst ee1
      subst ee2
      rw [← hQ]
      exact retI hx hb hr hlk hK hP hD hS dX11_move_20 ⟨Nat.le_of_ble_eq_true rfl, Nat.le_of_ble_eq_true rfl⟩

def fX11_weights_48B (v3_48 : Int32) (a : Int32) (errors_48 : Nat → Int32) (sbits : Nat → Int32) (slens : Nat → Int32) (snum : Nat → Nat → Int32) (v4_48b : Int32) (h_weight_48b : Nat → Int32) : Option ((Int32 × (Nat → Int32)) ⊕ ((Int32 × (Nat → Int32)) ⊕ (Int32 × (Nat → Int32) × (Nat → Int32)))) :=
  (if v3_48 ≤ v4_48b then some (.inr (.inl (v4_48b, h_weight_48b))) else ckI a 4 (ckI a 4 (ckI v4_48b 40 (bd (fX11_within (snum (a).toNatClampNeg (v4_48b).toNatClampNeg) (0 : Int32) (9 : Int32)) fun r_13 => (if r_13 = 0 then some (.inr (.inr (v4_48b, errors_48, h_weight_48b))) else ckI a 4 (ckI a 4 (ckI v4_48b 40 (bnd (snum (a).toNatClampNeg (v4_48b).toNatClampNeg) fun y_19 => ckI v4_48b 12 (bnd (upd h_weight_48b (v4_48b).toNatClampNeg y_19) fun h_weight_21 => bnd (v4_48b + (1 : Int32)) fun y_22 => some (.inl (y_22, h_weight_21)))))))))))
def fX11_weights_48 (v3_48 : Int32) (v4_48 : Int32) (a : Int32) (errors_48 : Nat → Int32) (sbits : Nat → Int32) (slens : Nat → Int32) (snum : Nat → Nat → Int32) (h_weight_48 : Nat → Int32) : Option (Int32 × (Nat → Int32) × (Nat → Int32)) :=
  bd (lp (fun σ : Int32 × (Nat → Int32) => fX11_weights_48B v3_48 a errors_48 sbits slens snum (σ.1) (σ.2)) FU (v4_48, h_weight_48)) fun ρ => match ρ with | .inl (v4_48r, h_weight_48r) => some (v3_48, errors_48, h_weight_48r) | .inr q => some q
def fX11_weights (a : Int32) (errors : Nat → Int32) (sbits : Nat → Int32) (slens : Nat → Int32) (snum : Nat → Nat → Int32) (h_weight : Nat → Int32) : Option (Int32 × (Nat → Int32) × (Nat → Int32)) :=
  bd (fX11_isSheet a) fun r_1 => (if r_1 = 0 then bd (fX11_refused (-1000000001 : Int32) errors) fun (r_26, errors_27) => some (r_26, errors_27, h_weight) else ckI a 4 (ckI a 4 ((if (sbits (a).toNatClampNeg) = 0 then bd (fX11_refused (-1000000002 : Int32) errors) fun (r_23, errors_24) => some (r_23, errors_24, h_weight) else ckI a 4 (bnd (jmin (slens (a).toNatClampNeg) (12 : Int32)) fun y_8 => fX11_weights_48 y_8 (0 : Int32) a errors sbits slens snum h_weight)))))
set_option maxHeartbeats 4000000 in
set_option maxRecDepth 100000 in
theorem c_X11_weights (l : Launch) (G : Nat → Nat) (D : va_G) (cA : Nat → ClassId) (xd : Nat → Nat) (vd : Nat → Nat) (sd : Nat → Nat) (nd : Nat → Nat) (hd : Nat → Nat) (td : Nat → Nat) (ed : Nat → Nat) (kd : Nat → Nat) (sz : Nat) (images : Int32) (errors : Nat → Int32) (fewest : Nat → Int32) (vspoon : Int32) (vmark : Int32) (vcount : Int32) (vbodies : Nat → Int32) (sbits : Nat → Int32) (slens : Nat → Int32) (snum : Nat → Nat → Int32) (h_weight : Nat → Int32) (h_known : Int32) (h_hour : Int32) (h_swS : Nat → Int32) (h_swW : Nat → Int32) (h_waS : Nat → Int32) (h_spoons : Int32) (h_kind : Nat → Int32) (h_mark : Nat → Int32) (h_silver : Nat → Int32) (h_fresh : Nat → Int64) (h_texts : Nat → Option Nat) (h_tape : Nat → Int32) (h_tapeCount : Int32) (h_z : Int32) (h_waiting : Nat → Int32) (h_waitingCount : Int32) (t_weight : Nat → Int32) (t_known : Int32) (t_hour : Int32) (t_swS : Nat → Int32) (t_swW : Nat → Int32) (t_waS : Nat → Int32) (t_spoons : Int32) (t_kind : Nat → Int32) (t_mark : Nat → Int32) (t_silver : Nat → Int32) (t_fresh : Nat → Int64) (t_texts : Nat → Option Nat) (t_tape : Nat → Int32) (t_tapeCount : Int32) (t_z : Int32) (t_waiting : Nat → Int32) (t_waitingCount : Int32) (e_weight : Nat → Int32) (e_known : Int32) (e_hour : Int32) (e_swS : Nat → Int32) (e_swW : Nat → Int32) (e_waS : Nat → Int32) (e_spoons : Int32) (e_kind : Nat → Int32) (e_mark : Nat → Int32) (e_silver : Nat → Int32) (e_fresh : Nat → Int64) (e_texts : Nat → Option Nat) (e_tape : Nat → Int32) (e_tapeCount : Int32) (e_z : Int32) (e_waiting : Nat → Int32) (e_waitingCount : Int32) (L : List Nat) (tx : Nat → TXc) (tst : Nat → Nat → Int32) (a : Int32) (rR : Int32) (errorsR : Nat → Int32) (h_weightR : Nat → Int32) (h : fX11_weights a errors sbits slens snum h_weight = some (rR, errorsR, h_weightR)) : Met l yX11_weights wsX11_weights ({ frames := 2, cells := 0, slots := 0, locals := 42 } : Room) (PW G D (tyC cA) sz (wX cA xd vd sd nd hd td ed kd images errors fewest vspoon vmark vcount vbodies sbits slens snum h_weight h_known h_hour h_swS h_swW h_waS h_spoons h_kind h_mark h_silver h_fresh h_texts h_tape h_tapeCount h_z h_waiting h_waitingCount t_weight t_known t_hour t_swS t_swW t_waS t_spoons t_kind t_mark t_silver t_fresh t_texts t_tape t_tapeCount t_z t_waiting t_waitingCount e_weight e_known e_hour e_swS e_swW e_waS e_spoons e_kind e_mark e_silver e_fresh e_texts e_tape e_tapeCount e_z e_waiting e_waitingCount L tx tst) [.ref (xd 0), .int a]) (QI D (tyC cA) (va_A (wX cA xd vd sd nd hd td ed kd images errors fewest vspoon vmark vcount vbodies sbits slens snum h_weight h_known h_hour h_swS h_swW h_waS h_spoons h_kind h_mark h_silver h_fresh h_texts h_tape h_tapeCount h_z h_waiting h_waitingCount t_weight t_known t_hour t_swS t_swW t_waS t_spoons t_kind t_mark t_silver t_fresh t_texts t_tape t_tapeCount t_z t_waiting t_waitingCount e_weight e_known e_hour e_swS e_swW e_waS e_spoons e_kind e_mark e_silver e_fresh e_texts e_tape e_tapeCount e_z e_waiting e_waitingCount L tx tst) sz) rR (wX cA xd vd sd nd hd td ed kd images errorsR fewest vspoon vmark vcount vbodies sbits slens snum h_weightR h_known h_hour h_swS h_swW h_waS h_spoons h_kind h_mark h_silver h_fresh h_texts h_tape h_tapeCount h_z h_waiting h_waitingCount t_weight t_known t_hour t_swS t_swW t_waS t_spoons t_kind t_mark t_silver t_fresh t_texts t_tape t_tapeCount t_z t_waiting t_waitingCount e_weight e_known e_hour e_swS e_swW e_waS e_spoons e_kind e_mark e_silver e_fresh e_texts e_tape e_tapeCount e_z e_waiting e_waitingCount L tx tst)) 0 0 (va_A (wX cA xd vd sd nd hd td ed kd images errors fewest vspoon vmark vcount vbodies sbits slens snum h_weight h_known h_hour h_swS h_swW h_waS h_spoons h_kind h_mark h_silver h_fresh h_texts h_tape h_tapeCount h_z h_waiting h_waitingCount t_weight t_known t_hour t_swS t_swW t_waS t_spoons t_kind t_mark t_silver t_fresh t_texts t_tape t_tapeCount t_z t_waiting t_waitingCount e_weight e_known e_hour e_swS e_swW e_waS e_spoons e_kind e_mark e_silver e_fresh e_texts e_tape e_tapeCount e_z e_waiting e_waitingCount L tx tst) sz) := by
  refine ent (cc := cX11_weights) (maxL := 5) (ret := (some .int)) (fun A => QI D (tyC cA) A rR (wX cA xd vd sd nd hd td ed kd images errorsR fewest vspoon vmark vcount vbodies sbits slens snum h_weightR h_known h_hour h_swS h_swW h_waS h_spoons h_kind h_mark h_silver h_fresh h_texts h_tape h_tapeCount h_z h_waiting h_waitingCount t_weight t_known t_hour t_swS t_swW t_waS t_spoons t_kind t_mark t_silver t_fresh t_texts t_tape t_tapeCount t_z t_waiting t_waitingCount e_weight e_known e_hour e_swS e_swW e_waS e_spoons e_kind e_mark e_silver e_fresh e_texts e_tape e_tapeCount e_z e_waiting e_waitingCount L tx tst)) (by decide +kernel) rfl (Nat.le_of_ble_eq_true rfl) ?_
  intro p e s m args below meth c A ls H hx hb hml hr hlk hts hown hA hK hE hP hD hS hv hmm
  have hv : lv_has ls 5 [(0, .ref (xd 0)), (1, .int a)] := hv
  have in_3 : ∀ w ∈ u_ws RX3 TX3 18, w ∈ wsX11_weights := fun _ h => List.mem_cons_of_mem _ (List.mem_append_right _ h)
  have in_7 : ∀ w ∈ u_ws RX7 TX7 3, w ∈ wsX11_weights := fun _ h => List.mem_cons_of_mem _ (List.mem_append_left _ (List.mem_append_right _ h))
  have in_11 : ∀ w ∈ u_ws RX11 TX11 9, w ∈ wsX11_weights := fun _ h => List.mem_cons_of_mem _ (List.mem_append_left _ (List.mem_append_left _ (List.mem_append_right _ h)))
  have w_0 := hts (.fieldLink RX11 58 "SpoonsLast" "sheets" "[LSpoonsLast$Sheet;") (List.mem_of_getElem? (i := 2) rfl)
  have w_1 := hts (.fieldLink RX11 208 "SpoonsLast$Sheet" "bits" "I") (List.mem_of_getElem? (i := 3) rfl)
  have w_2 := hts (.fieldLink RX11 214 "SpoonsLast$Sheet" "length" "I") (List.mem_of_getElem? (i := 5) rfl)
  have w_3 := hts (.methodLink RX11 285 Lib.Math.min.name) (List.mem_of_getElem? (i := 6) rfl)
  have w_4 := hts (.static Lib.Math.min.name) (List.mem_of_getElem? (i := 7) rfl)
  have w_5 := hts (.initialized "java/lang/Math") (List.mem_of_getElem? (i := 8) rfl)
  have w_6 := hts (.code Lib.Math.min.name Lib.Math.min.code 2 (some .int)) (List.mem_of_getElem? (i := 9) rfl)
  have w_7 := hts (.fieldLink RX11 211 "SpoonsLast$Sheet" "numbers" "[I") (List.mem_of_getElem? (i := 10) rfl)
  have w_8 := hts (.fieldLink RX11 39 "SpoonsLast" "house" "LSpoonsLast$House;") (List.mem_of_getElem? (i := 11) rfl)
  have w_9 := hts (.fieldLink RX11 83 "SpoonsLast$House" "weight" "[I") (List.mem_of_getElem? (i := 12) rfl)
  have w_10 := hts (.constant RX11 204 (-1000000002)) (List.mem_of_getElem? (i := 4) rfl)
  have w_11 := hts (.constant RX11 78 (-1000000001)) (List.mem_of_getElem? (i := 1) rfl)
  generalize hQ : MQ below _ args s 0 0 A = Q
  have C_48 : ∀ (v3_48 : Int32) (v4_48 : Int32) (errors_48 : Nat → Int32) (h_weight_48 : Nat → Int32), fX11_weights_48 v3_48 v4_48 a errors_48 sbits slens snum h_weight_48 = some (rR, errorsR, h_weightR) → WW p l e ({ frames := 2, cells := 0, slots := 0, locals := 42 } : Room) s m args below meth c D A 0 0 Q (wX cA xd vd sd nd hd td ed kd images errors_48 fewest vspoon vmark vcount vbodies sbits slens snum h_weight_48 h_known h_hour h_swS h_swW h_waS h_spoons h_kind h_mark h_silver h_fresh h_texts h_tape h_tapeCount h_z h_waiting h_waitingCount t_weight t_known t_hour t_swS t_swW t_waS t_spoons t_kind t_mark t_silver t_fresh t_texts t_tape t_tapeCount t_z t_waiting t_waitingCount e_weight e_known e_hour e_swS e_swW e_waS e_spoons e_kind e_mark e_silver e_fresh e_texts e_tape e_tapeCount e_z e_waiting e_waitingCount L tx tst) 5 [(0, .ref (xd 0)), (2, .ref (sd (a).toNatClampNeg)), (3, .int v3_48), (4, .int v4_48)] 48 [] := by
    intro v3_48 v4_48 errors_48 h_weight_48 h
    unfold fX11_weights_48 at h
    obtain ⟨ρ, ho, h⟩ := bd_ex h
    have LR : ∀ q, ρ = .inr q → q = (rR, errorsR, h_weightR) := by intro q e; subst e; exact Option.some.inj h
    have LE : ∀ (v4_48r : Int32) (h_weight_48r : Nat → Int32), ρ = .inl (v4_48r, h_weight_48r) → WW p l e ({ frames := 2, cells := 0, slots := 0, locals := 42 } : Room) s m args below meth c D A 0 0 Q (wX cA xd vd sd nd hd td ed kd images errors_48 fewest vspoon vmark vcount vbodies sbits slens snum h_weight_48r h_known h_hour h_swS h_swW h_waS h_spoons h_kind h_mark h_silver h_fresh h_texts h_tape h_tapeCount h_z h_waiting h_waitingCount t_weight t_known t_hour t_swS t_swW t_waS t_spoons t_kind t_mark t_silver t_fresh t_texts t_tape t_tapeCount t_z t_waiting t_waitingCount e_weight e_known e_hour e_swS e_swW e_waS e_spoons e_kind e_mark e_silver e_fresh e_texts e_tape e_tapeCount e_z e_waiting e_waitingCount L tx tst) 5 [(3, .int v3_48)] 96 [] := by
      intro v4_48r h_weight_48r e
      subst e
      intro H locs ls hP hD hS hv
      refine lv_iload_n hx hb dX11_weights_96 rfl (lv_at hv 0 rfl) ?_
      have h := Option.some.inj h
      have ee0 : v3_48 = rR := congrArg (fun q => q.1) h
      have ee1 : errors_48 = errorsR := congrArg (fun q => q.2.1) h
      have ee2 : h_weight_48r = h_weightR := congrArg (fun q => q.2.2) h
      subst ee0
      subst ee1
      subst ee2
      rw [← hQ]
      exact retI hx hb hr hlk hK hP hD hS dX11_weights_97 ⟨Nat.le_of_ble_eq_true rfl, Nat.le_of_ble_eq_true rfl⟩
    have LB : ∀ (nf : Nat) (v4_48b : Int32) (h_weight_48b : Nat → Int32), lp (fun σ : Int32 × (Nat → Int32) => fX11_weights_48B v3_48 a errors_48 sbits slens snum (σ.1) (σ.2)) nf (v4_48b, h_weight_48b) = some ρ → WW p l e ({ frames := 2, cells := 0, slots := 0, locals := 42 } : Room) s m args below meth c D A 0 0 Q (wX cA xd vd sd nd hd td ed kd images errors_48 fewest vspoon vmark vcount vbodies sbits slens snum h_weight_48b h_known h_hour h_swS h_swW h_waS h_spoons h_kind h_mark h_silver h_fresh h_texts h_tape h_tapeCount h_z h_waiting h_waitingCount t_weight t_known t_hour t_swS t_swW t_waS t_spoons t_kind t_mark t_silver t_fresh t_texts t_tape t_tapeCount t_z t_waiting t_waitingCount e_weight e_known e_hour e_swS e_swW e_waS e_spoons e_kind e_mark e_silver e_fresh e_texts e_tape e_tapeCount e_z e_waiting e_waitingCount L tx tst) 5 [(0, .ref (xd 0)), (2, .ref (sd (a).toNatClampNeg)), (3, .int v3_48), (4, .int v4_48b)] 48 [] := by
      intro nf
      induction nf with
      | zero => intro v4_48b h_weight_48b hl; cases hl
      | succ nf ih =>
        intro v4_48b h_weight_48b hl
        obtain ⟨x, h, hl⟩ := lp_ex hl
        have h : fX11_weights_48B v3_48 a errors_48 sbits slens snum v4_48b h_weight_48b = some x := h
        unfold fX11_weights_48B at h
        intro H locs ls hP hD hS hv
        refine lv_iload hx hb dX11_weights_48 (lv_at hv 3 rfl) ?_
        refine lv_iload_n hx hb dX11_weights_50 rfl (lv_at hv 2 rfl) ?_
        refine lv_icmp_ge (tgt := 96) hx hb dX11_weights_51 (by decide) (fun c_9 => ?_) (fun c_9 => ?_)
        · have h := ite_t c_9 h
          cases h
          have hl : some (Sum.inl (v4_48b, h_weight_48b)) = some ρ := hl
          cases hl
          exact LE _ _ rfl _ _ _ hP hD hS (lv_sub hv [2] rfl)
        · have h := ite_f c_9 h
          refine lv_aload_n hx hb dX11_weights_54 rfl (lv_at hv 1 rfl) ?_
          obtain ⟨c_10, h⟩ := ckI_ex h
          refine va_get (D := D) (ci := 7) (v := .ref (nd (a).toNatClampNeg)) (C := RX7) (T := TX7) (N := 3) hx hb hts in_7 hown hK hP (6 + (a).toNatClampNeg) (wX_so (vlt c_10)) rfl 2 (by decide) w_7 (fun _ h9 => h9) rfl dX11_weights_55 ?_
          refine lv_iload hx hb dX11_weights_58 (lv_at hv 3 rfl) ?_
          obtain ⟨c_11, h⟩ := ckI_ex h
          obtain ⟨c_12, h⟩ := ckI_ex h
          refine va_iald (D := D) hx hb hK hP (10 + (a).toNatClampNeg) 0 (wX_sn (vlt c_11)) rfl c_12 dX11_weights_60 ?_
          refine lv_iconst (v := (0 : Int32)) hx hb dX11_weights_61 (by decide) ?_
          refine lv_bipush (v := (9 : Int32)) hx hb dX11_weights_62 (by decide) ?_
          obtain ⟨r_13, hf_14, h⟩ := bd_ex h
          have sb := Sb.nil hP hD hS hA
          refine calI (va_runS (As := [.int (snum (a).toNatClampNeg (v4_48b).toNatClampNeg), .int (0 : Int32), .int (9 : Int32)]) (rest := []) ⟨hx, hb, hml, hown, hts⟩ (c_X11_within l G D cA  _ (snum (a).toNatClampNeg (v4_48b).toNatClampNeg) (0 : Int32) (9 : Int32) r_13 hf_14) (va_cwS 3 hts gX11_weights_X11_within rfl rfl rfl (by decide +kernel) ⟨Nat.le_of_ble_eq_true rfl, Nat.le_of_ble_eq_true rfl⟩) (pvS hE hK hS sb) rfl rfl hv.1 rfl (lv_room (Nat.le_of_ble_eq_true rfl)) dX11_weights_64 ⟨Nat.le_of_ble_eq_true rfl, Nat.le_of_ble_eq_true rfl⟩) hS sb (Jn.nil hP hD) (fun H locs hP hD hS => ?_)
          have hP : va_P D vwCl (wX cA xd vd sd nd hd td ed kd images errors_48 fewest vspoon vmark vcount vbodies sbits slens snum h_weight_48b h_known h_hour h_swS h_swW h_waS h_spoons h_kind h_mark h_silver h_fresh h_texts h_tape h_tapeCount h_z h_waiting h_waitingCount t_weight t_known t_hour t_swS t_swW t_waS t_spoons t_kind t_mark t_silver t_fresh t_texts t_tape t_tapeCount t_z t_waiting t_waitingCount e_weight e_known e_hour e_swS e_swW e_waS e_spoons e_kind e_mark e_silver e_fresh e_texts e_tape e_tapeCount e_z e_waiting e_waitingCount L tx tst) H := hP
          have hD : va_D A (wX cA xd vd sd nd hd td ed kd images errors_48 fewest vspoon vmark vcount vbodies sbits slens snum h_weight_48b h_known h_hour h_swS h_swW h_waS h_spoons h_kind h_mark h_silver h_fresh h_texts h_tape h_tapeCount h_z h_waiting h_waitingCount t_weight t_known t_hour t_swS t_swW t_waS t_spoons t_kind t_mark t_silver t_fresh t_texts t_tape t_tapeCount t_z t_waiting t_waitingCount e_weight e_known e_hour e_swS e_swW e_waS e_spoons e_kind e_mark e_silver e_fresh e_texts e_tape e_tapeCount e_z e_waiting e_waitingCount L tx tst) := hD
          refine lv_if_ne (tgt := 73) hx hb dX11_weights_67 (by decide) (fun c_15 => ?_) (fun c_15 => ?_)
          · have h := ite_f c_15 h
            refine lv_aload_n hx hb dX11_weights_73 rfl (lv_at hv 0 rfl) ?_
            refine va_get (D := D) (ci := 11) (v := .ref (hd 0)) (C := RX11) (T := TX11) (N := 9) hx hb hts in_11 hown hK hP 0 rfl rfl 0 (by decide) w_8 (fun _ h9 => h9) rfl dX11_weights_74 ?_
            refine va_get (D := D) (ci := 3) (v := .ref (hd 2)) (C := RX3) (T := TX3) (N := 18) hx hb hts in_3 hown hK hP 14 rfl rfl 1 (by decide) w_9 (fun _ h9 => h9) rfl dX11_weights_77 ?_
            refine lv_iload hx hb dX11_weights_80 (lv_at hv 3 rfl) ?_
            refine lv_aload_n hx hb dX11_weights_82 rfl (lv_at hv 1 rfl) ?_
            obtain ⟨c_16, h⟩ := ckI_ex h
            refine va_get (D := D) (ci := 7) (v := .ref (nd (a).toNatClampNeg)) (C := RX7) (T := TX7) (N := 3) hx hb hts in_7 hown hK hP (6 + (a).toNatClampNeg) (wX_so (vlt c_16)) rfl 2 (by decide) w_7 (fun _ h9 => h9) rfl dX11_weights_83 ?_
            refine lv_iload hx hb dX11_weights_86 (lv_at hv 3 rfl) ?_
            obtain ⟨c_17, h⟩ := ckI_ex h
            obtain ⟨c_18, h⟩ := ckI_ex h
            refine va_iald (D := D) hx hb hK hP (10 + (a).toNatClampNeg) 0 (wX_sn (vlt c_17)) rfl c_18 dX11_weights_88 ?_
            obtain ⟨y_19, ey_19, h⟩ := bnd_ex h
            refine lv_nm ey_19 ?_
            obtain ⟨c_20, h⟩ := ckI_ex h
            obtain ⟨h_weight_21, eh_weight_21, h⟩ := bnd_ex h
            refine va_iast (D := D) hx hb hK hP hD hS 15 0 rfl rfl c_20 dX11_weights_89 (fun H locs hP hD hS => ?_)
            rw [← eh_weight_21] at hP hD
            have hP : va_P D vwCl (wX cA xd vd sd nd hd td ed kd images errors_48 fewest vspoon vmark vcount vbodies sbits slens snum h_weight_21 h_known h_hour h_swS h_swW h_waS h_spoons h_kind h_mark h_silver h_fresh h_texts h_tape h_tapeCount h_z h_waiting h_waitingCount t_weight t_known t_hour t_swS t_swW t_waS t_spoons t_kind t_mark t_silver t_fresh t_texts t_tape t_tapeCount t_z t_waiting t_waitingCount e_weight e_known e_hour e_swS e_swW e_waS e_spoons e_kind e_mark e_silver e_fresh e_texts e_tape e_tapeCount e_z e_waiting e_waitingCount L tx tst) H := hP
            have hD : va_D A (wX cA xd vd sd nd hd td ed kd images errors_48 fewest vspoon vmark vcount vbodies sbits slens snum h_weight_21 h_known h_hour h_swS h_swW h_waS h_spoons h_kind h_mark h_silver h_fresh h_texts h_tape h_tapeCount h_z h_waiting h_waitingCount t_weight t_known t_hour t_swS t_swW t_waS t_spoons t_kind t_mark t_silver t_fresh t_texts t_tape t_tapeCount t_z t_waiting t_waitingCount e_weight e_known e_hour e_swS e_swW e_waS e_spoons e_kind e_mark e_silver e_fresh e_texts e_tape e_tapeCount e_z e_waiting e_waitingCount L tx tst) := hD
            obtain ⟨y_22, ey_22, h⟩ := bnd_ex h
            refine lv_iinc (v := y_22) (lv' := [(4, .int y_22), (0, .ref (xd 0)), (2, .ref (sd (a).toNatClampNeg)), (3, .int v3_48)]) hx hb dX11_weights_90 hv (k := 3) rfl (by rw [ey_22]; rfl) (by decide) rfl (fun ls hv => ?_)
            refine lv_goto (tgt := 48) hx hb dX11_weights_93 (by decide) ?_
            cases h
            exact ih y_22 h_weight_21 hl _ _ _ hP hD hS (lv_sub hv [1, 2, 3, 0] rfl)
          · have h := ite_t c_15 h
            refine lv_iload hx hb dX11_weights_70 (lv_at hv 3 rfl) ?_
            cases h
            have hl : some (Sum.inr (v4_48b, errors_48, h_weight_48b)) = some ρ := hl
            cases hl
            have h := LR _ rfl
            have ee0 : v4_48b = rR := congrArg (fun q => q.1) h
            have ee1 : errors_48 = errorsR := congrArg (fun q => q.2.1) h
            have ee2 : h_weight_48b = h_weightR := congrArg (fun q => q.2.2) h
            subst ee0
            subst ee1
            subst ee2
            rw [← hQ]
            exact retI hx hb hr hlk hK hP hD hS dX11_weights_72 ⟨Nat.le_of_ble_eq_true rfl, Nat.le_of_ble_eq_true rfl⟩
    exact LB FU v4_48 h_weight_48 ho
  have hP : va_P D vwCl (wX cA xd vd sd nd hd td ed kd images errors fewest vspoon vmark vcount vbodies sbits slens snum h_weight h_known h_hour h_swS h_swW h_waS h_spoons h_kind h_mark h_silver h_fresh h_texts h_tape h_tapeCount h_z h_waiting h_waitingCount t_weight t_known t_hour t_swS t_swW t_waS t_spoons t_kind t_mark t_silver t_fresh t_texts t_tape t_tapeCount t_z t_waiting t_waitingCount e_weight e_known e_hour e_swS e_swW e_waS e_spoons e_kind e_mark e_silver e_fresh e_texts e_tape e_tapeCount e_z e_waiting e_waitingCount L tx tst) H := hP
  unfold fX11_weights at h
  refine lv_iload_n hx hb dX11_weights_0 rfl (lv_at hv 1 rfl) ?_
  obtain ⟨r_1, hf_2, h⟩ := bd_ex h
  have sb := Sb.nil hP hD hS hA
  refine calI (va_runS (As := [.int a]) (rest := []) ⟨hx, hb, hml, hown, hts⟩ (c_X11_isSheet l G D cA  _ a r_1 hf_2) (va_cwS 1 hts gX11_weights_X11_isSheet rfl rfl rfl (by decide +kernel) ⟨Nat.le_of_ble_eq_true rfl, Nat.le_of_ble_eq_true rfl⟩) (pvS hE hK hS sb) rfl rfl hv.1 rfl (lv_room (Nat.le_of_ble_eq_true rfl)) dX11_weights_1 ⟨Nat.le_of_ble_eq_true rfl, Nat.le_of_ble_eq_true rfl⟩) hS sb (Jn.nil hP hD) (fun H locs hP hD hS => ?_)
  have hP : va_P D vwCl (wX cA xd vd sd nd hd td ed kd images errors fewest vspoon vmark vcount vbodies sbits slens snum h_weight h_known h_hour h_swS h_swW h_waS h_spoons h_kind h_mark h_silver h_fresh h_texts h_tape h_tapeCount h_z h_waiting h_waitingCount t_weight t_known t_hour t_swS t_swW t_waS t_spoons t_kind t_mark t_silver t_fresh t_texts t_tape t_tapeCount t_z t_waiting t_waitingCount e_weight e_known e_hour e_swS e_swW e_waS e_spoons e_kind e_mark e_silver e_fresh e_texts e_tape e_tapeCount e_z e_waiting e_waitingCount L tx tst) H := hP
  have hD : va_D A (wX cA xd vd sd nd hd td ed kd images errors fewest vspoon vmark vcount vbodies sbits slens snum h_weight h_known h_hour h_swS h_swW h_waS h_spoons h_kind h_mark h_silver h_fresh h_texts h_tape h_tapeCount h_z h_waiting h_waitingCount t_weight t_known t_hour t_swS t_swW t_waS t_spoons t_kind t_mark t_silver t_fresh t_texts t_tape t_tapeCount t_z t_waiting t_waitingCount e_weight e_known e_hour e_swS e_swW e_waS e_spoons e_kind e_mark e_silver e_fresh e_texts e_tape e_tapeCount e_z e_waiting e_waitingCount L tx tst) := hD
  refine lv_if_ne (tgt := 14) hx hb dX11_weights_4 (by decide) (fun c_3 => ?_) (fun c_3 => ?_)
  · have h := ite_f c_3 h
    refine lv_aload_n hx hb dX11_weights_14 rfl (lv_at hv 0 rfl) ?_
    refine va_get (D := D) (ci := 11) (v := .ref (xd 1)) (C := RX11) (T := TX11) (N := 9) hx hb hts in_11 hown hK hP 0 rfl rfl 6 (by decide) w_0 (fun _ h9 => h9) rfl dX11_weights_15 ?_
    refine lv_iload_n hx hb dX11_weights_18 rfl (lv_at hv 1 rfl) ?_
    obtain ⟨c_4, h⟩ := ckI_ex h
    refine va_aldq (D := D) (f := fun j => some (sd j)) hx hb hK hP 1 4 rfl rfl c_4 dX11_weights_19 ?_
    refine W.eq (g2 := F0 m 20 ls [.ref (sd (a).toNatClampNeg)]) rfl ?_
    refine lv_astore_n (lv' := [(2, .ref (sd (a).toNatClampNeg)), (0, .ref (xd 0)), (1, .int a)]) hx hb dX11_weights_20 rfl hv (by decide) rfl (fun ls hv => ?_)
    refine lv_aload_n hx hb dX11_weights_21 rfl (lv_at hv 0 rfl) ?_
    obtain ⟨c_5, h⟩ := ckI_ex h
    refine va_get (D := D) (ci := 7) (v := .int (sbits (a).toNatClampNeg)) (C := RX7) (T := TX7) (N := 3) hx hb hts in_7 hown hK hP (6 + (a).toNatClampNeg) (wX_so (vlt c_5)) rfl 0 (by decide) w_1 (fun _ h9 => h9) rfl dX11_weights_22 ?_
    refine lv_if_ne (tgt := 35) hx hb dX11_weights_25 (by decide) (fun c_6 => ?_) (fun c_6 => ?_)
    · have h := ite_f c_6 h
      refine lv_aload_n hx hb dX11_weights_35 rfl (lv_at hv 0 rfl) ?_
      obtain ⟨c_7, h⟩ := ckI_ex h
      refine va_get (D := D) (ci := 7) (v := .int (slens (a).toNatClampNeg)) (C := RX7) (T := TX7) (N := 3) hx hb hts in_7 hown hK hP (6 + (a).toNatClampNeg) (wX_so (vlt c_7)) rfl 1 (by decide) w_2 (fun _ h9 => h9) rfl dX11_weights_36 ?_
      refine lv_bipush (v := (12 : Int32)) hx hb dX11_weights_39 (by decide) ?_
      refine va_mmin hx hb (hml.trans hv.1.symm) hown w_3 w_4 w_5 w_6 (Nat.le_of_ble_eq_true rfl) (Nat.le_of_ble_eq_true rfl) (Nat.le_of_ble_eq_true rfl) (Nat.le_of_ble_eq_true rfl) dX11_weights_41 ?_
      obtain ⟨y_8, ey_8, h⟩ := bnd_ex h
      refine lv_nm ey_8 ?_
      refine lv_istore_n (lv' := [(3, .int y_8), (2, .ref (sd (a).toNatClampNeg)), (0, .ref (xd 0)), (1, .int a)]) hx hb dX11_weights_44 rfl hv (by decide) rfl (fun ls hv => ?_)
      refine lv_iconst (v := (0 : Int32)) hx hb dX11_weights_45 (by decide) ?_
      refine lv_istore (lv' := [(4, .int (0 : Int32)), (3, .int y_8), (2, .ref (sd (a).toNatClampNeg)), (0, .ref (xd 0)), (1, .int a)]) hx hb dX11_weights_46 hv (by decide) rfl (fun ls hv => ?_)
      exact C_48 y_8 (0 : Int32) errors h_weight h _ _ _ hP hD hS (lv_sub hv [3, 2, 1, 0] rfl)
    · have h := ite_t c_6 h
      refine lv_aload_n hx hb dX11_weights_28 rfl (lv_at hv 1 rfl) ?_
      refine lv_ldc (v := (-1000000002 : Int32)) hx hb hown w_10 dX11_weights_29 ?_
      obtain ⟨⟨r_23, errors_24⟩, hf_25, h⟩ := bd_ex h
      have sb := Sb.same hP hD hS hA
      refine calI (va_runV (As := [.int (-1000000002 : Int32)]) (rest := []) ⟨hx, hb, hml, hown, hts⟩ (c_X11_refused l G D cA xd vd sd nd hd td ed kd _ images errors fewest vspoon vmark vcount vbodies sbits slens snum h_weight h_known h_hour h_swS h_swW h_waS h_spoons h_kind h_mark h_silver h_fresh h_texts h_tape h_tapeCount h_z h_waiting h_waitingCount t_weight t_known t_hour t_swS t_swW t_waS t_spoons t_kind t_mark t_silver t_fresh t_texts t_tape t_tapeCount t_z t_waiting t_waitingCount e_weight e_known e_hour e_swS e_swW e_waS e_spoons e_kind e_mark e_silver e_fresh e_texts e_tape e_tapeCount e_z e_waiting e_waitingCount L tx tst (-1000000002 : Int32) r_23 errors_24 hf_25) (cwV 1 hts gX11_weights_X11_refused rfl rfl rfl (by decide +kernel) ⟨Nat.le_of_ble_eq_true rfl, Nat.le_of_ble_eq_true rfl⟩) (pvV hE hK hS sb (va_recv hK hP (ci := 11) (q0 := 0) rfl rfl)) rfl rfl hv.1 rfl (lv_room (Nat.le_of_ble_eq_true rfl)) dX11_weights_31 ⟨Nat.le_of_ble_eq_true rfl, Nat.le_of_ble_eq_true rfl⟩) hS sb (Jn.same sb) (fun H locs hP hD hS => ?_)
      have hP : va_P D vwCl (wX cA xd vd sd nd hd td ed kd images errors_24 fewest vspoon vmark vcount vbodies sbits slens snum h_weight h_known h_hour h_swS h_swW h_waS h_spoons h_kind h_mark h_silver h_fresh h_texts h_tape h_tapeCount h_z h_waiting h_waitingCount t_weight t_known t_hour t_swS t_swW t_waS t_spoons t_kind t_mark t_silver t_fresh t_texts t_tape t_tapeCount t_z t_waiting t_waitingCount e_weight e_known e_hour e_swS e_swW e_waS e_spoons e_kind e_mark e_silver e_fresh e_texts e_tape e_tapeCount e_z e_waiting e_waitingCount L tx tst) H := hP
      have hD : va_D A (wX cA xd vd sd nd hd td ed kd images errors_24 fewest vspoon vmark vcount vbodies sbits slens snum h_weight h_known h_hour h_swS h_swW h_waS h_spoons h_kind h_mark h_silver h_fresh h_texts h_tape h_tapeCount h_z h_waiting h_waitingCount t_weight t_known t_hour t_swS t_swW t_waS t_spoons t_kind t_mark t_silver t_fresh t_texts t_tape t_tapeCount t_z t_waiting t_waitingCount e_weight e_known e_hour e_swS e_swW e_waS e_spoons e_kind e_mark e_silver e_fresh e_texts e_tape e_tapeCount e_z e_waiting e_waitingCount L tx tst) := hD
      have h := Option.some.inj h
      have ee0 : r_23 = rR := congrArg (fun q => q.1) h
      have ee1 : errors_24 = errorsR := congrArg (fun q => q.2.1) h
      have ee2 : h_weight = h_weightR := congrArg (fun q => q.2.2) h
      subst ee0
      subst ee1
      subst ee2
      rw [← hQ]
      exact retI hx hb hr hlk hK hP hD hS dX11_weights_34 ⟨Nat.le_of_ble_eq_true rfl, Nat.le_of_ble_eq_true rfl⟩
  · have h := ite_t c_3 h
    refine lv_aload_n hx hb dX11_weights_7 rfl (lv_at hv 0 rfl) ?_
    refine lv_ldc (v := (-1000000001 : Int32)) hx hb hown w_11 dX11_weights_8 ?_
    obtain ⟨⟨r_26, errors_27⟩, hf_28, h⟩ := bd_ex h
    have sb := Sb.same hP hD hS hA
    refine calI (va_runV (As := [.int (-1000000001 : Int32)]) (rest := []) ⟨hx, hb, hml, hown, hts⟩ (c_X11_refused l G D cA xd vd sd nd hd td ed kd _ images errors fewest vspoon vmark vcount vbodies sbits slens snum h_weight h_known h_hour h_swS h_swW h_waS h_spoons h_kind h_mark h_silver h_fresh h_texts h_tape h_tapeCount h_z h_waiting h_waitingCount t_weight t_known t_hour t_swS t_swW t_waS t_spoons t_kind t_mark t_silver t_fresh t_texts t_tape t_tapeCount t_z t_waiting t_waitingCount e_weight e_known e_hour e_swS e_swW e_waS e_spoons e_kind e_mark e_silver e_fresh e_texts e_tape e_tapeCount e_z e_waiting e_waitingCount L tx tst (-1000000001 : Int32) r_26 errors_27 hf_28) (cwV 1 hts gX11_weights_X11_refused rfl rfl rfl (by decide +kernel) ⟨Nat.le_of_ble_eq_true rfl, Nat.le_of_ble_eq_true rfl⟩) (pvV hE hK hS sb (va_recv hK hP (ci := 11) (q0 := 0) rfl rfl)) rfl rfl hv.1 rfl (lv_room (Nat.le_of_ble_eq_true rfl)) dX11_weights_10 ⟨Nat.le_of_ble_eq_true rfl, Nat.le_of_ble_eq_true rfl⟩) hS sb (Jn.same sb) (fun H locs hP hD hS => ?_)
    have hP : va_P D vwCl (wX cA xd vd sd nd hd td ed kd images errors_27 fewest vspoon vmark vcount vbodies sbits slens snum h_weight h_known h_hour h_swS h_swW h_waS h_spoons h_kind h_mark h_silver h_fresh h_texts h_tape h_tapeCount h_z h_waiting h_waitingCount t_weight t_known t_hour t_swS t_swW t_waS t_spoons t_kind t_mark t_silver t_fresh t_texts t_tape t_tapeCount t_z t_waiting t_waitingCount e_weight e_known e_hour e_swS e_swW e_waS e_spoons e_kind e_mark e_silver e_fresh e_texts e_tape e_tapeCount e_z e_waiting e_waitingCount L tx tst) H := hP
    have hD : va_D A (wX cA xd vd sd nd hd td ed kd images errors_27 fewest vspoon vmark vcount vbodies sbits slens snum h_weight h_known h_hour h_swS h_swW h_waS h_spoons h_kind h_mark h_silver h_fresh h_texts h_tape h_tapeCount h_z h_waiting h_waitingCount t_weight t_known t_hour t_swS t_swW t_waS t_spoons t_kind t_mark t_silver t_fresh t_texts t_tape t_tapeCount t_z t_waiting t_waitingCount e_weight e_known e_hour e_swS e_swW e_waS e_spoons e_kind e_mark e_silver e_fresh e_texts e_tape e_tapeCount e_z e_waiting e_waitingCount L tx tst) := hD
    have h := Option.some.inj h
    have ee0 : r_26 = rR := congrArg (fun q => q.1) h
    have ee1 : errors_27 = errorsR := congrArg (fun q => q.2.1) h
    have ee2 : h_weight = h_weightR := congrArg (fun q => q.2.2) h
    subst ee0
    subst ee1
    subst ee2
    rw [← hQ]
    exact retI hx hb hr hlk hK hP hD hS dX11_weights_13 ⟨Nat.le_of_ble_eq_true rfl, Nat.le_of_ble_eq_true rfl⟩

def fX11_judge_53B (v3_53 : Int32) (a : Int32) (errors_53 : Nat → Int32) (sbits : Nat → Int32) (slens : Nat → Int32) (snum : Nat → Nat → Int32) (h_spoons : Int32) (h_silver : Nat → Int32) (v4_53b : Int32) : Option ((Int32) ⊕ ((Int32) ⊕ (Int32 × (Nat → Int32)))) :=
  (if v3_53 ≤ v4_53b then some (.inr (.inl v4_53b)) else ckI a 4 (ckI a 4 (ckI v4_53b 40 (ckI v4_53b 8 ((if (snum (a).toNatClampNeg (v4_53b).toNatClampNeg) = (h_silver (v4_53b).toNatClampNeg) then bnd (v4_53b + (1 : Int32)) fun y_17 => some (.inl y_17) else some (.inr (.inr (v4_53b, errors_53)))))))))
def fX11_judge_53 (v3_53 : Int32) (v4_53 : Int32) (a : Int32) (errors_53 : Nat → Int32) (sbits : Nat → Int32) (slens : Nat → Int32) (snum : Nat → Nat → Int32) (h_spoons : Int32) (h_silver : Nat → Int32) : Option (Int32 × (Nat → Int32)) :=
  bd (lp (fun σ : Int32 => fX11_judge_53B v3_53 a errors_53 sbits slens snum h_spoons h_silver σ) FU v4_53) fun ρ => match ρ with | .inl v4_53r => ckI a 4 ((if (slens (a).toNatClampNeg) = h_spoons then some ((-1 : Int32), errors_53) else some (v3_53, errors_53))) | .inr q => some q
def fX11_judge (a : Int32) (errors : Nat → Int32) (sbits : Nat → Int32) (slens : Nat → Int32) (snum : Nat → Nat → Int32) (h_spoons : Int32) (h_silver : Nat → Int32) : Option (Int32 × (Nat → Int32)) :=
  bd (fX11_isSheet a) fun r_1 => (if r_1 = 0 then bd (fX11_refused (-1000000001 : Int32) errors) fun (r_21, errors_22) => some (r_21, errors_22) else ckI a 4 (ckI a 4 ((if (sbits (a).toNatClampNeg) = 0 then bd (fX11_refused (-1000000002 : Int32) errors) fun (r_18, errors_19) => some (r_18, errors_19) else ckI a 4 (bnd (jmin (slens (a).toNatClampNeg) h_spoons) fun y_8 => fX11_judge_53 y_8 (0 : Int32) a errors sbits slens snum h_spoons h_silver)))))
set_option maxHeartbeats 4000000 in
set_option maxRecDepth 100000 in
theorem c_X11_judge (l : Launch) (G : Nat → Nat) (D : va_G) (cA : Nat → ClassId) (xd : Nat → Nat) (vd : Nat → Nat) (sd : Nat → Nat) (nd : Nat → Nat) (hd : Nat → Nat) (td : Nat → Nat) (ed : Nat → Nat) (kd : Nat → Nat) (sz : Nat) (images : Int32) (errors : Nat → Int32) (fewest : Nat → Int32) (vspoon : Int32) (vmark : Int32) (vcount : Int32) (vbodies : Nat → Int32) (sbits : Nat → Int32) (slens : Nat → Int32) (snum : Nat → Nat → Int32) (h_weight : Nat → Int32) (h_known : Int32) (h_hour : Int32) (h_swS : Nat → Int32) (h_swW : Nat → Int32) (h_waS : Nat → Int32) (h_spoons : Int32) (h_kind : Nat → Int32) (h_mark : Nat → Int32) (h_silver : Nat → Int32) (h_fresh : Nat → Int64) (h_texts : Nat → Option Nat) (h_tape : Nat → Int32) (h_tapeCount : Int32) (h_z : Int32) (h_waiting : Nat → Int32) (h_waitingCount : Int32) (t_weight : Nat → Int32) (t_known : Int32) (t_hour : Int32) (t_swS : Nat → Int32) (t_swW : Nat → Int32) (t_waS : Nat → Int32) (t_spoons : Int32) (t_kind : Nat → Int32) (t_mark : Nat → Int32) (t_silver : Nat → Int32) (t_fresh : Nat → Int64) (t_texts : Nat → Option Nat) (t_tape : Nat → Int32) (t_tapeCount : Int32) (t_z : Int32) (t_waiting : Nat → Int32) (t_waitingCount : Int32) (e_weight : Nat → Int32) (e_known : Int32) (e_hour : Int32) (e_swS : Nat → Int32) (e_swW : Nat → Int32) (e_waS : Nat → Int32) (e_spoons : Int32) (e_kind : Nat → Int32) (e_mark : Nat → Int32) (e_silver : Nat → Int32) (e_fresh : Nat → Int64) (e_texts : Nat → Option Nat) (e_tape : Nat → Int32) (e_tapeCount : Int32) (e_z : Int32) (e_waiting : Nat → Int32) (e_waitingCount : Int32) (L : List Nat) (tx : Nat → TXc) (tst : Nat → Nat → Int32) (a : Int32) (rR : Int32) (errorsR : Nat → Int32) (h : fX11_judge a errors sbits slens snum h_spoons h_silver = some (rR, errorsR)) : Met l yX11_judge wsX11_judge ({ frames := 2, cells := 0, slots := 0, locals := 42 } : Room) (PW G D (tyC cA) sz (wX cA xd vd sd nd hd td ed kd images errors fewest vspoon vmark vcount vbodies sbits slens snum h_weight h_known h_hour h_swS h_swW h_waS h_spoons h_kind h_mark h_silver h_fresh h_texts h_tape h_tapeCount h_z h_waiting h_waitingCount t_weight t_known t_hour t_swS t_swW t_waS t_spoons t_kind t_mark t_silver t_fresh t_texts t_tape t_tapeCount t_z t_waiting t_waitingCount e_weight e_known e_hour e_swS e_swW e_waS e_spoons e_kind e_mark e_silver e_fresh e_texts e_tape e_tapeCount e_z e_waiting e_waitingCount L tx tst) [.ref (xd 0), .int a]) (QI D (tyC cA) (va_A (wX cA xd vd sd nd hd td ed kd images errors fewest vspoon vmark vcount vbodies sbits slens snum h_weight h_known h_hour h_swS h_swW h_waS h_spoons h_kind h_mark h_silver h_fresh h_texts h_tape h_tapeCount h_z h_waiting h_waitingCount t_weight t_known t_hour t_swS t_swW t_waS t_spoons t_kind t_mark t_silver t_fresh t_texts t_tape t_tapeCount t_z t_waiting t_waitingCount e_weight e_known e_hour e_swS e_swW e_waS e_spoons e_kind e_mark e_silver e_fresh e_texts e_tape e_tapeCount e_z e_waiting e_waitingCount L tx tst) sz) rR (wX cA xd vd sd nd hd td ed kd images errorsR fewest vspoon vmark vcount vbodies sbits slens snum h_weight h_known h_hour h_swS h_swW h_waS h_spoons h_kind h_mark h_silver h_fresh h_texts h_tape h_tapeCount h_z h_waiting h_waitingCount t_weight t_known t_hour t_swS t_swW t_waS t_spoons t_kind t_mark t_silver t_fresh t_texts t_tape t_tapeCount t_z t_waiting t_waitingCount e_weight e_known e_hour e_swS e_swW e_waS e_spoons e_kind e_mark e_silver e_fresh e_texts e_tape e_tapeCount e_z e_waiting e_waitingCount L tx tst)) 0 0 (va_A (wX cA xd vd sd nd hd td ed kd images errors fewest vspoon vmark vcount vbodies sbits slens snum h_weight h_known h_hour h_swS h_swW h_waS h_spoons h_kind h_mark h_silver h_fresh h_texts h_tape h_tapeCount h_z h_waiting h_waitingCount t_weight t_known t_hour t_swS t_swW t_waS t_spoons t_kind t_mark t_silver t_fresh t_texts t_tape t_tapeCount t_z t_waiting t_waitingCount e_weight e_known e_hour e_swS e_swW e_waS e_spoons e_kind e_mark e_silver e_fresh e_texts e_tape e_tapeCount e_z e_waiting e_waitingCount L tx tst) sz) := by
  refine ent (cc := cX11_judge) (maxL := 5) (ret := (some .int)) (fun A => QI D (tyC cA) A rR (wX cA xd vd sd nd hd td ed kd images errorsR fewest vspoon vmark vcount vbodies sbits slens snum h_weight h_known h_hour h_swS h_swW h_waS h_spoons h_kind h_mark h_silver h_fresh h_texts h_tape h_tapeCount h_z h_waiting h_waitingCount t_weight t_known t_hour t_swS t_swW t_waS t_spoons t_kind t_mark t_silver t_fresh t_texts t_tape t_tapeCount t_z t_waiting t_waitingCount e_weight e_known e_hour e_swS e_swW e_waS e_spoons e_kind e_mark e_silver e_fresh e_texts e_tape e_tapeCount e_z e_waiting e_waitingCount L tx tst)) (by decide +kernel) rfl (Nat.le_of_ble_eq_true rfl) ?_
  intro p e s m args below meth c A ls H hx hb hml hr hlk hts hown hA hK hE hP hD hS hv hmm
  have hv : lv_has ls 5 [(0, .ref (xd 0)), (1, .int a)] := hv
  have in_3 : ∀ w ∈ u_ws RX3 TX3 18, w ∈ wsX11_judge := fun _ h => List.mem_cons_of_mem _ (List.mem_append_right _ h)
  have in_7 : ∀ w ∈ u_ws RX7 TX7 3, w ∈ wsX11_judge := fun _ h => List.mem_cons_of_mem _ (List.mem_append_left _ (List.mem_append_right _ h))
  have in_11 : ∀ w ∈ u_ws RX11 TX11 9, w ∈ wsX11_judge := fun _ h => List.mem_cons_of_mem _ (List.mem_append_left _ (List.mem_append_left _ (List.mem_append_right _ h)))
  have w_0 := hts (.fieldLink RX11 58 "SpoonsLast" "sheets" "[LSpoonsLast$Sheet;") (List.mem_of_getElem? (i := 2) rfl)
  have w_1 := hts (.fieldLink RX11 208 "SpoonsLast$Sheet" "bits" "I") (List.mem_of_getElem? (i := 3) rfl)
  have w_2 := hts (.fieldLink RX11 214 "SpoonsLast$Sheet" "length" "I") (List.mem_of_getElem? (i := 5) rfl)
  have w_3 := hts (.fieldLink RX11 39 "SpoonsLast" "house" "LSpoonsLast$House;") (List.mem_of_getElem? (i := 6) rfl)
  have w_4 := hts (.fieldLink RX11 111 "SpoonsLast$House" "spoons" "I") (List.mem_of_getElem? (i := 7) rfl)
  have w_5 := hts (.methodLink RX11 285 Lib.Math.min.name) (List.mem_of_getElem? (i := 8) rfl)
  have w_6 := hts (.static Lib.Math.min.name) (List.mem_of_getElem? (i := 9) rfl)
  have w_7 := hts (.initialized "java/lang/Math") (List.mem_of_getElem? (i := 10) rfl)
  have w_8 := hts (.code Lib.Math.min.name Lib.Math.min.code 2 (some .int)) (List.mem_of_getElem? (i := 11) rfl)
  have w_9 := hts (.fieldLink RX11 211 "SpoonsLast$Sheet" "numbers" "[I") (List.mem_of_getElem? (i := 12) rfl)
  have w_10 := hts (.fieldLink RX11 121 "SpoonsLast$House" "silver" "[I") (List.mem_of_getElem? (i := 13) rfl)
  have w_11 := hts (.constant RX11 204 (-1000000002)) (List.mem_of_getElem? (i := 4) rfl)
  have w_12 := hts (.constant RX11 78 (-1000000001)) (List.mem_of_getElem? (i := 1) rfl)
  generalize hQ : MQ below _ args s 0 0 A = Q
  have C_53 : ∀ (v3_53 : Int32) (v4_53 : Int32) (errors_53 : Nat → Int32), fX11_judge_53 v3_53 v4_53 a errors_53 sbits slens snum h_spoons h_silver = some (rR, errorsR) → WW p l e ({ frames := 2, cells := 0, slots := 0, locals := 42 } : Room) s m args below meth c D A 0 0 Q (wX cA xd vd sd nd hd td ed kd images errors_53 fewest vspoon vmark vcount vbodies sbits slens snum h_weight h_known h_hour h_swS h_swW h_waS h_spoons h_kind h_mark h_silver h_fresh h_texts h_tape h_tapeCount h_z h_waiting h_waitingCount t_weight t_known t_hour t_swS t_swW t_waS t_spoons t_kind t_mark t_silver t_fresh t_texts t_tape t_tapeCount t_z t_waiting t_waitingCount e_weight e_known e_hour e_swS e_swW e_waS e_spoons e_kind e_mark e_silver e_fresh e_texts e_tape e_tapeCount e_z e_waiting e_waitingCount L tx tst) 5 [(0, .ref (xd 0)), (2, .ref (sd (a).toNatClampNeg)), (3, .int v3_53), (4, .int v4_53)] 53 [] := by
    intro v3_53 v4_53 errors_53 h
    unfold fX11_judge_53 at h
    obtain ⟨ρ, ho, h⟩ := bd_ex h
    have LR : ∀ q, ρ = .inr q → q = (rR, errorsR) := by intro q e; subst e; exact Option.some.inj h
    have LE : ∀ (v4_53r : Int32), ρ = .inl v4_53r → WW p l e ({ frames := 2, cells := 0, slots := 0, locals := 42 } : Room) s m args below meth c D A 0 0 Q (wX cA xd vd sd nd hd td ed kd images errors_53 fewest vspoon vmark vcount vbodies sbits slens snum h_weight h_known h_hour h_swS h_swW h_waS h_spoons h_kind h_mark h_silver h_fresh h_texts h_tape h_tapeCount h_z h_waiting h_waitingCount t_weight t_known t_hour t_swS t_swW t_waS t_spoons t_kind t_mark t_silver t_fresh t_texts t_tape t_tapeCount t_z t_waiting t_waitingCount e_weight e_known e_hour e_swS e_swW e_waS e_spoons e_kind e_mark e_silver e_fresh e_texts e_tape e_tapeCount e_z e_waiting e_waitingCount L tx tst) 5 [(0, .ref (xd 0)), (2, .ref (sd (a).toNatClampNeg)), (3, .int v3_53)] 88 [] := by
      intro v4_53r e
      subst e
      intro H locs ls hP hD hS hv
      refine lv_aload_n hx hb dX11_judge_88 rfl (lv_at hv 1 rfl) ?_
      obtain ⟨c_9, h⟩ := ckI_ex h
      refine va_get (D := D) (ci := 7) (v := .int (slens (a).toNatClampNeg)) (C := RX7) (T := TX7) (N := 3) hx hb hts in_7 hown hK hP (6 + (a).toNatClampNeg) (wX_so (vlt c_9)) rfl 1 (by decide) w_2 (fun _ h9 => h9) rfl dX11_judge_89 ?_
      refine lv_aload_n hx hb dX11_judge_92 rfl (lv_at hv 0 rfl) ?_
      refine va_get (D := D) (ci := 11) (v := .ref (hd 0)) (C := RX11) (T := TX11) (N := 9) hx hb hts in_11 hown hK hP 0 rfl rfl 0 (by decide) w_3 (fun _ h9 => h9) rfl dX11_judge_93 ?_
      refine va_get (D := D) (ci := 3) (v := .int h_spoons) (C := RX3) (T := TX3) (N := 18) hx hb hts in_3 hown hK hP 14 rfl rfl 7 (by decide) w_4 (fun _ h9 => h9) rfl dX11_judge_96 ?_
      refine lv_icmp_ne (tgt := 106) hx hb dX11_judge_99 (by decide) (fun c_10 => ?_) (fun c_10 => ?_)
      · have h := ite_f c_10 h
        refine lv_iload_n hx hb dX11_judge_106 rfl (lv_at hv 2 rfl) ?_
        have h := Option.some.inj h
        have ee0 : v3_53 = rR := congrArg (fun q => q.1) h
        have ee1 : errors_53 = errorsR := congrArg (fun q => q.2) h
        subst ee0
        subst ee1
        rw [← hQ]
        exact retI hx hb hr hlk hK hP hD hS dX11_judge_107 ⟨Nat.le_of_ble_eq_true rfl, Nat.le_of_ble_eq_true rfl⟩
      · have h := ite_t c_10 h
        refine lv_iconst (v := (-1 : Int32)) hx hb dX11_judge_102 (by decide) ?_
        refine lv_goto (tgt := 107) hx hb dX11_judge_103 (by decide) ?_
        have h := Option.some.inj h
        have ee0 : (-1 : Int32) = rR := congrArg (fun q => q.1) h
        have ee1 : errors_53 = errorsR := congrArg (fun q => q.2) h
        subst ee0
        subst ee1
        rw [← hQ]
        exact retI hx hb hr hlk hK hP hD hS dX11_judge_107 ⟨Nat.le_of_ble_eq_true rfl, Nat.le_of_ble_eq_true rfl⟩
    have LB : ∀ (nf : Nat) (v4_53b : Int32), lp (fun σ : Int32 => fX11_judge_53B v3_53 a errors_53 sbits slens snum h_spoons h_silver σ) nf v4_53b = some ρ → WW p l e ({ frames := 2, cells := 0, slots := 0, locals := 42 } : Room) s m args below meth c D A 0 0 Q (wX cA xd vd sd nd hd td ed kd images errors_53 fewest vspoon vmark vcount vbodies sbits slens snum h_weight h_known h_hour h_swS h_swW h_waS h_spoons h_kind h_mark h_silver h_fresh h_texts h_tape h_tapeCount h_z h_waiting h_waitingCount t_weight t_known t_hour t_swS t_swW t_waS t_spoons t_kind t_mark t_silver t_fresh t_texts t_tape t_tapeCount t_z t_waiting t_waitingCount e_weight e_known e_hour e_swS e_swW e_waS e_spoons e_kind e_mark e_silver e_fresh e_texts e_tape e_tapeCount e_z e_waiting e_waitingCount L tx tst) 5 [(0, .ref (xd 0)), (2, .ref (sd (a).toNatClampNeg)), (3, .int v3_53), (4, .int v4_53b)] 53 [] := by
      intro nf
      induction nf with
      | zero => intro v4_53b hl; cases hl
      | succ nf ih =>
        intro v4_53b hl
        obtain ⟨x, h, hl⟩ := lp_ex hl
        have h : fX11_judge_53B v3_53 a errors_53 sbits slens snum h_spoons h_silver v4_53b = some x := h
        unfold fX11_judge_53B at h
        intro H locs ls hP hD hS hv
        refine lv_iload hx hb dX11_judge_53 (lv_at hv 3 rfl) ?_
        refine lv_iload_n hx hb dX11_judge_55 rfl (lv_at hv 2 rfl) ?_
        refine lv_icmp_ge (tgt := 88) hx hb dX11_judge_56 (by decide) (fun c_11 => ?_) (fun c_11 => ?_)
        · have h := ite_t c_11 h
          cases h
          have hl : some (Sum.inl v4_53b) = some ρ := hl
          cases hl
          exact LE _ rfl _ _ _ hP hD hS (lv_sub hv [0, 1, 2] rfl)
        · have h := ite_f c_11 h
          refine lv_aload_n hx hb dX11_judge_59 rfl (lv_at hv 1 rfl) ?_
          obtain ⟨c_12, h⟩ := ckI_ex h
          refine va_get (D := D) (ci := 7) (v := .ref (nd (a).toNatClampNeg)) (C := RX7) (T := TX7) (N := 3) hx hb hts in_7 hown hK hP (6 + (a).toNatClampNeg) (wX_so (vlt c_12)) rfl 2 (by decide) w_9 (fun _ h9 => h9) rfl dX11_judge_60 ?_
          refine lv_iload hx hb dX11_judge_63 (lv_at hv 3 rfl) ?_
          obtain ⟨c_13, h⟩ := ckI_ex h
          obtain ⟨c_14, h⟩ := ckI_ex h
          refine va_iald (D := D) hx hb hK hP (10 + (a).toNatClampNeg) 0 (wX_sn (vlt c_13)) rfl c_14 dX11_judge_65 ?_
          refine lv_aload_n hx hb dX11_judge_66 rfl (lv_at hv 0 rfl) ?_
          refine va_get (D := D) (ci := 11) (v := .ref (hd 0)) (C := RX11) (T := TX11) (N := 9) hx hb hts in_11 hown hK hP 0 rfl rfl 0 (by decide) w_3 (fun _ h9 => h9) rfl dX11_judge_67 ?_
          refine va_get (D := D) (ci := 3) (v := .ref (hd 11)) (C := RX3) (T := TX3) (N := 18) hx hb hts in_3 hown hK hP 14 rfl rfl 10 (by decide) w_10 (fun _ h9 => h9) rfl dX11_judge_70 ?_
          refine lv_iload hx hb dX11_judge_73 (lv_at hv 3 rfl) ?_
          obtain ⟨c_15, h⟩ := ckI_ex h
          refine va_iald (D := D) hx hb hK hP 21 0 rfl rfl c_15 dX11_judge_75 ?_
          refine lv_icmp_eq (tgt := 82) hx hb dX11_judge_76 (by decide) (fun c_16 => ?_) (fun c_16 => ?_)
          · have h := ite_t c_16 h
            obtain ⟨y_17, ey_17, h⟩ := bnd_ex h
            refine lv_iinc (v := y_17) (lv' := [(4, .int y_17), (0, .ref (xd 0)), (2, .ref (sd (a).toNatClampNeg)), (3, .int v3_53)]) hx hb dX11_judge_82 hv (k := 3) rfl (by rw [ey_17]; rfl) (by decide) rfl (fun ls hv => ?_)
            refine lv_goto (tgt := 53) hx hb dX11_judge_85 (by decide) ?_
            cases h
            exact ih y_17 hl _ _ _ hP hD hS (lv_sub hv [1, 2, 3, 0] rfl)
          · have h := ite_f c_16 h
            refine lv_iload hx hb dX11_judge_79 (lv_at hv 3 rfl) ?_
            cases h
            have hl : some (Sum.inr (v4_53b, errors_53)) = some ρ := hl
            cases hl
            have h := LR _ rfl
            have ee0 : v4_53b = rR := congrArg (fun q => q.1) h
            have ee1 : errors_53 = errorsR := congrArg (fun q => q.2) h
            subst ee0
            subst ee1
            rw [← hQ]
            exact retI hx hb hr hlk hK hP hD hS dX11_judge_81 ⟨Nat.le_of_ble_eq_true rfl, Nat.le_of_ble_eq_true rfl⟩
    exact LB FU v4_53 ho
  have hP : va_P D vwCl (wX cA xd vd sd nd hd td ed kd images errors fewest vspoon vmark vcount vbodies sbits slens snum h_weight h_known h_hour h_swS h_swW h_waS h_spoons h_kind h_mark h_silver h_fresh h_texts h_tape h_tapeCount h_z h_waiting h_waitingCount t_weight t_known t_hour t_swS t_swW t_waS t_spoons t_kind t_mark t_silver t_fresh t_texts t_tape t_tapeCount t_z t_waiting t_waitingCount e_weight e_known e_hour e_swS e_swW e_waS e_spoons e_kind e_mark e_silver e_fresh e_texts e_tape e_tapeCount e_z e_waiting e_waitingCount L tx tst) H := hP
  unfold fX11_judge at h
  refine lv_iload_n hx hb dX11_judge_0 rfl (lv_at hv 1 rfl) ?_
  obtain ⟨r_1, hf_2, h⟩ := bd_ex h
  have sb := Sb.nil hP hD hS hA
  refine calI (va_runS (As := [.int a]) (rest := []) ⟨hx, hb, hml, hown, hts⟩ (c_X11_isSheet l G D cA  _ a r_1 hf_2) (va_cwS 1 hts gX11_judge_X11_isSheet rfl rfl rfl (by decide +kernel) ⟨Nat.le_of_ble_eq_true rfl, Nat.le_of_ble_eq_true rfl⟩) (pvS hE hK hS sb) rfl rfl hv.1 rfl (lv_room (Nat.le_of_ble_eq_true rfl)) dX11_judge_1 ⟨Nat.le_of_ble_eq_true rfl, Nat.le_of_ble_eq_true rfl⟩) hS sb (Jn.nil hP hD) (fun H locs hP hD hS => ?_)
  have hP : va_P D vwCl (wX cA xd vd sd nd hd td ed kd images errors fewest vspoon vmark vcount vbodies sbits slens snum h_weight h_known h_hour h_swS h_swW h_waS h_spoons h_kind h_mark h_silver h_fresh h_texts h_tape h_tapeCount h_z h_waiting h_waitingCount t_weight t_known t_hour t_swS t_swW t_waS t_spoons t_kind t_mark t_silver t_fresh t_texts t_tape t_tapeCount t_z t_waiting t_waitingCount e_weight e_known e_hour e_swS e_swW e_waS e_spoons e_kind e_mark e_silver e_fresh e_texts e_tape e_tapeCount e_z e_waiting e_waitingCount L tx tst) H := hP
  have hD : va_D A (wX cA xd vd sd nd hd td ed kd images errors fewest vspoon vmark vcount vbodies sbits slens snum h_weight h_known h_hour h_swS h_swW h_waS h_spoons h_kind h_mark h_silver h_fresh h_texts h_tape h_tapeCount h_z h_waiting h_waitingCount t_weight t_known t_hour t_swS t_swW t_waS t_spoons t_kind t_mark t_silver t_fresh t_texts t_tape t_tapeCount t_z t_waiting t_waitingCount e_weight e_known e_hour e_swS e_swW e_waS e_spoons e_kind e_mark e_silver e_fresh e_texts e_tape e_tapeCount e_z e_waiting e_waitingCount L tx tst) := hD
  refine lv_if_ne (tgt := 14) hx hb dX11_judge_4 (by decide) (fun c_3 => ?_) (fun c_3 => ?_)
  · have h := ite_f c_3 h
    refine lv_aload_n hx hb dX11_judge_14 rfl (lv_at hv 0 rfl) ?_
    refine va_get (D := D) (ci := 11) (v := .ref (xd 1)) (C := RX11) (T := TX11) (N := 9) hx hb hts in_11 hown hK hP 0 rfl rfl 6 (by decide) w_0 (fun _ h9 => h9) rfl dX11_judge_15 ?_
    refine lv_iload_n hx hb dX11_judge_18 rfl (lv_at hv 1 rfl) ?_
    obtain ⟨c_4, h⟩ := ckI_ex h
    refine va_aldq (D := D) (f := fun j => some (sd j)) hx hb hK hP 1 4 rfl rfl c_4 dX11_judge_19 ?_
    refine W.eq (g2 := F0 m 20 ls [.ref (sd (a).toNatClampNeg)]) rfl ?_
    refine lv_astore_n (lv' := [(2, .ref (sd (a).toNatClampNeg)), (0, .ref (xd 0)), (1, .int a)]) hx hb dX11_judge_20 rfl hv (by decide) rfl (fun ls hv => ?_)
    refine lv_aload_n hx hb dX11_judge_21 rfl (lv_at hv 0 rfl) ?_
    obtain ⟨c_5, h⟩ := ckI_ex h
    refine va_get (D := D) (ci := 7) (v := .int (sbits (a).toNatClampNeg)) (C := RX7) (T := TX7) (N := 3) hx hb hts in_7 hown hK hP (6 + (a).toNatClampNeg) (wX_so (vlt c_5)) rfl 0 (by decide) w_1 (fun _ h9 => h9) rfl dX11_judge_22 ?_
    refine lv_if_ne (tgt := 35) hx hb dX11_judge_25 (by decide) (fun c_6 => ?_) (fun c_6 => ?_)
    · have h := ite_f c_6 h
      refine lv_aload_n hx hb dX11_judge_35 rfl (lv_at hv 0 rfl) ?_
      obtain ⟨c_7, h⟩ := ckI_ex h
      refine va_get (D := D) (ci := 7) (v := .int (slens (a).toNatClampNeg)) (C := RX7) (T := TX7) (N := 3) hx hb hts in_7 hown hK hP (6 + (a).toNatClampNeg) (wX_so (vlt c_7)) rfl 1 (by decide) w_2 (fun _ h9 => h9) rfl dX11_judge_36 ?_
      refine lv_aload_n hx hb dX11_judge_39 rfl (lv_at hv 1 rfl) ?_
      refine va_get (D := D) (ci := 11) (v := .ref (hd 0)) (C := RX11) (T := TX11) (N := 9) hx hb hts in_11 hown hK hP 0 rfl rfl 0 (by decide) w_3 (fun _ h9 => h9) rfl dX11_judge_40 ?_
      refine va_get (D := D) (ci := 3) (v := .int h_spoons) (C := RX3) (T := TX3) (N := 18) hx hb hts in_3 hown hK hP 14 rfl rfl 7 (by decide) w_4 (fun _ h9 => h9) rfl dX11_judge_43 ?_
      refine va_mmin hx hb (hml.trans hv.1.symm) hown w_5 w_6 w_7 w_8 (Nat.le_of_ble_eq_true rfl) (Nat.le_of_ble_eq_true rfl) (Nat.le_of_ble_eq_true rfl) (Nat.le_of_ble_eq_true rfl) dX11_judge_46 ?_
      obtain ⟨y_8, ey_8, h⟩ := bnd_ex h
      refine lv_nm ey_8 ?_
      refine lv_istore_n (lv' := [(3, .int y_8), (2, .ref (sd (a).toNatClampNeg)), (0, .ref (xd 0)), (1, .int a)]) hx hb dX11_judge_49 rfl hv (by decide) rfl (fun ls hv => ?_)
      refine lv_iconst (v := (0 : Int32)) hx hb dX11_judge_50 (by decide) ?_
      refine lv_istore (lv' := [(4, .int (0 : Int32)), (3, .int y_8), (2, .ref (sd (a).toNatClampNeg)), (0, .ref (xd 0)), (1, .int a)]) hx hb dX11_judge_51 hv (by decide) rfl (fun ls hv => ?_)
      exact C_53 y_8 (0 : Int32) errors h _ _ _ hP hD hS (lv_sub hv [3, 2, 1, 0] rfl)
    · have h := ite_t c_6 h
      refine lv_aload_n hx hb dX11_judge_28 rfl (lv_at hv 1 rfl) ?_
      refine lv_ldc (v := (-1000000002 : Int32)) hx hb hown w_11 dX11_judge_29 ?_
      obtain ⟨⟨r_18, errors_19⟩, hf_20, h⟩ := bd_ex h
      have sb := Sb.same hP hD hS hA
      refine calI (va_runV (As := [.int (-1000000002 : Int32)]) (rest := []) ⟨hx, hb, hml, hown, hts⟩ (c_X11_refused l G D cA xd vd sd nd hd td ed kd _ images errors fewest vspoon vmark vcount vbodies sbits slens snum h_weight h_known h_hour h_swS h_swW h_waS h_spoons h_kind h_mark h_silver h_fresh h_texts h_tape h_tapeCount h_z h_waiting h_waitingCount t_weight t_known t_hour t_swS t_swW t_waS t_spoons t_kind t_mark t_silver t_fresh t_texts t_tape t_tapeCount t_z t_waiting t_waitingCount e_weight e_known e_hour e_swS e_swW e_waS e_spoons e_kind e_mark e_silver e_fresh e_texts e_tape e_tapeCount e_z e_waiting e_waitingCount L tx tst (-1000000002 : Int32) r_18 errors_19 hf_20) (cwV 1 hts gX11_judge_X11_refused rfl rfl rfl (by decide +kernel) ⟨Nat.le_of_ble_eq_true rfl, Nat.le_of_ble_eq_true rfl⟩) (pvV hE hK hS sb (va_recv hK hP (ci := 11) (q0 := 0) rfl rfl)) rfl rfl hv.1 rfl (lv_room (Nat.le_of_ble_eq_true rfl)) dX11_judge_31 ⟨Nat.le_of_ble_eq_true rfl, Nat.le_of_ble_eq_true rfl⟩) hS sb (Jn.same sb) (fun H locs hP hD hS => ?_)
      have hP : va_P D vwCl (wX cA xd vd sd nd hd td ed kd images errors_19 fewest vspoon vmark vcount vbodies sbits slens snum h_weight h_known h_hour h_swS h_swW h_waS h_spoons h_kind h_mark h_silver h_fresh h_texts h_tape h_tapeCount h_z h_waiting h_waitingCount t_weight t_known t_hour t_swS t_swW t_waS t_spoons t_kind t_mark t_silver t_fresh t_texts t_tape t_tapeCount t_z t_waiting t_waitingCount e_weight e_known e_hour e_swS e_swW e_waS e_spoons e_kind e_mark e_silver e_fresh e_texts e_tape e_tapeCount e_z e_waiting e_waitingCount L tx tst) H := hP
      have hD : va_D A (wX cA xd vd sd nd hd td ed kd images errors_19 fewest vspoon vmark vcount vbodies sbits slens snum h_weight h_known h_hour h_swS h_swW h_waS h_spoons h_kind h_mark h_silver h_fresh h_texts h_tape h_tapeCount h_z h_waiting h_waitingCount t_weight t_known t_hour t_swS t_swW t_waS t_spoons t_kind t_mark t_silver t_fresh t_texts t_tape t_tapeCount t_z t_waiting t_waitingCount e_weight e_known e_hour e_swS e_swW e_waS e_spoons e_kind e_mark e_silver e_fresh e_texts e_tape e_tapeCount e_z e_waiting e_waitingCount L tx tst) := hD
      have h := Option.some.inj h
      have ee0 : r_18 = rR := congrArg (fun q => q.1) h
      have ee1 : errors_19 = errorsR := congrArg (fun q => q.2) h
      subst ee0
      subst ee1
      rw [← hQ]
      exact retI hx hb hr hlk hK hP hD hS dX11_judge_34 ⟨Nat.le_of_ble_eq_true rfl, Nat.le_of_ble_eq_true rfl⟩
  · have h := ite_t c_3 h
    refine lv_aload_n hx hb dX11_judge_7 rfl (lv_at hv 0 rfl) ?_
    refine lv_ldc (v := (-1000000001 : Int32)) hx hb hown w_12 dX11_judge_8 ?_
    obtain ⟨⟨r_21, errors_22⟩, hf_23, h⟩ := bd_ex h
    have sb := Sb.same hP hD hS hA
    refine calI (va_runV (As := [.int (-1000000001 : Int32)]) (rest := []) ⟨hx, hb, hml, hown, hts⟩ (c_X11_refused l G D cA xd vd sd nd hd td ed kd _ images errors fewest vspoon vmark vcount vbodies sbits slens snum h_weight h_known h_hour h_swS h_swW h_waS h_spoons h_kind h_mark h_silver h_fresh h_texts h_tape h_tapeCount h_z h_waiting h_waitingCount t_weight t_known t_hour t_swS t_swW t_waS t_spoons t_kind t_mark t_silver t_fresh t_texts t_tape t_tapeCount t_z t_waiting t_waitingCount e_weight e_known e_hour e_swS e_swW e_waS e_spoons e_kind e_mark e_silver e_fresh e_texts e_tape e_tapeCount e_z e_waiting e_waitingCount L tx tst (-1000000001 : Int32) r_21 errors_22 hf_23) (cwV 1 hts gX11_judge_X11_refused rfl rfl rfl (by decide +kernel) ⟨Nat.le_of_ble_eq_true rfl, Nat.le_of_ble_eq_true rfl⟩) (pvV hE hK hS sb (va_recv hK hP (ci := 11) (q0 := 0) rfl rfl)) rfl rfl hv.1 rfl (lv_room (Nat.le_of_ble_eq_true rfl)) dX11_judge_10 ⟨Nat.le_of_ble_eq_true rfl, Nat.le_of_ble_eq_true rfl⟩) hS sb (Jn.same sb) (fun H locs hP hD hS => ?_)
    have hP : va_P D vwCl (wX cA xd vd sd nd hd td ed kd images errors_22 fewest vspoon vmark vcount vbodies sbits slens snum h_weight h_known h_hour h_swS h_swW h_waS h_spoons h_kind h_mark h_silver h_fresh h_texts h_tape h_tapeCount h_z h_waiting h_waitingCount t_weight t_known t_hour t_swS t_swW t_waS t_spoons t_kind t_mark t_silver t_fresh t_texts t_tape t_tapeCount t_z t_waiting t_waitingCount e_weight e_known e_hour e_swS e_swW e_waS e_spoons e_kind e_mark e_silver e_fresh e_texts e_tape e_tapeCount e_z e_waiting e_waitingCount L tx tst) H := hP
    have hD : va_D A (wX cA xd vd sd nd hd td ed kd images errors_22 fewest vspoon vmark vcount vbodies sbits slens snum h_weight h_known h_hour h_swS h_swW h_waS h_spoons h_kind h_mark h_silver h_fresh h_texts h_tape h_tapeCount h_z h_waiting h_waitingCount t_weight t_known t_hour t_swS t_swW t_waS t_spoons t_kind t_mark t_silver t_fresh t_texts t_tape t_tapeCount t_z t_waiting t_waitingCount e_weight e_known e_hour e_swS e_swW e_waS e_spoons e_kind e_mark e_silver e_fresh e_texts e_tape e_tapeCount e_z e_waiting e_waitingCount L tx tst) := hD
    have h := Option.some.inj h
    have ee0 : r_21 = rR := congrArg (fun q => q.1) h
    have ee1 : errors_22 = errorsR := congrArg (fun q => q.2) h
    subst ee0
    subst ee1
    rw [← hQ]
    exact retI hx hb hr hlk hK hP hD hS dX11_judge_13 ⟨Nat.le_of_ble_eq_true rfl, Nat.le_of_ble_eq_true rfl⟩

def fX11_image (images : Int32) (h_weight : Nat → Int32) (h_known : Int32) (h_hour : Int32) (h_swS : Nat → Int32) (h_swW : Nat → Int32) (h_waS : Nat → Int32) (h_spoons : Int32) (h_kind : Nat → Int32) (h_mark : Nat → Int32) (h_silver : Nat → Int32) (h_fresh : Nat → Int64) (h_texts : Nat → Option Nat) (h_tape : Nat → Int32) (h_tapeCount : Int32) (h_z : Int32) (h_waiting : Nat → Int32) (h_waitingCount : Int32) (e_weight : Nat → Int32) (e_known : Int32) (e_hour : Int32) (e_swS : Nat → Int32) (e_swW : Nat → Int32) (e_waS : Nat → Int32) (e_spoons : Int32) (e_kind : Nat → Int32) (e_mark : Nat → Int32) (e_silver : Nat → Int32) (e_fresh : Nat → Int64) (e_texts : Nat → Option Nat) (e_tape : Nat → Int32) (e_tapeCount : Int32) (e_z : Int32) (e_waiting : Nat → Int32) (e_waitingCount : Int32) (L : List Nat) : Option (Int32 × Int32 × (Nat → Int32) × Int32 × Int32 × (Nat → Int32) × (Nat → Int32) × (Nat → Int32) × Int32 × (Nat → Int32) × (Nat → Int32) × (Nat → Int32) × (Nat → Int64) × (Nat → Option Nat) × (Nat → Int32) × Int32 × Int32 × (Nat → Int32) × Int32) :=
  bd (fX3_keep e_weight e_known e_hour e_swS e_swW e_waS e_spoons e_kind e_mark e_silver e_fresh e_texts e_tape e_tapeCount e_z e_waiting e_waitingCount h_weight h_known h_hour h_swS h_swW h_waS h_spoons h_kind h_mark h_silver h_fresh h_texts h_tape h_tapeCount h_z h_waiting h_waitingCount L) fun (e_weight_1, e_known_2, e_hour_3, e_swS_4, e_swW_5, e_waS_6, e_spoons_7, e_kind_8, e_mark_9, e_silver_10, e_fresh_11, e_texts_12, e_tape_13, e_tapeCount_14, e_z_15, e_waiting_16, e_waitingCount_17) => bnd (images + (1 : Int32)) fun y_19 => some (y_19, y_19, e_weight_1, e_known_2, e_hour_3, e_swS_4, e_swW_5, e_waS_6, e_spoons_7, e_kind_8, e_mark_9, e_silver_10, e_fresh_11, e_texts_12, e_tape_13, e_tapeCount_14, e_z_15, e_waiting_16, e_waitingCount_17)
set_option maxHeartbeats 4000000 in
set_option maxRecDepth 100000 in
theorem c_X11_image (l : Launch) (G : Nat → Nat) (D : va_G) (cA : Nat → ClassId) (xd : Nat → Nat) (vd : Nat → Nat) (sd : Nat → Nat) (nd : Nat → Nat) (hd : Nat → Nat) (td : Nat → Nat) (ed : Nat → Nat) (kd : Nat → Nat) (sz : Nat) (images : Int32) (errors : Nat → Int32) (fewest : Nat → Int32) (vspoon : Int32) (vmark : Int32) (vcount : Int32) (vbodies : Nat → Int32) (sbits : Nat → Int32) (slens : Nat → Int32) (snum : Nat → Nat → Int32) (h_weight : Nat → Int32) (h_known : Int32) (h_hour : Int32) (h_swS : Nat → Int32) (h_swW : Nat → Int32) (h_waS : Nat → Int32) (h_spoons : Int32) (h_kind : Nat → Int32) (h_mark : Nat → Int32) (h_silver : Nat → Int32) (h_fresh : Nat → Int64) (h_texts : Nat → Option Nat) (h_tape : Nat → Int32) (h_tapeCount : Int32) (h_z : Int32) (h_waiting : Nat → Int32) (h_waitingCount : Int32) (t_weight : Nat → Int32) (t_known : Int32) (t_hour : Int32) (t_swS : Nat → Int32) (t_swW : Nat → Int32) (t_waS : Nat → Int32) (t_spoons : Int32) (t_kind : Nat → Int32) (t_mark : Nat → Int32) (t_silver : Nat → Int32) (t_fresh : Nat → Int64) (t_texts : Nat → Option Nat) (t_tape : Nat → Int32) (t_tapeCount : Int32) (t_z : Int32) (t_waiting : Nat → Int32) (t_waitingCount : Int32) (e_weight : Nat → Int32) (e_known : Int32) (e_hour : Int32) (e_swS : Nat → Int32) (e_swW : Nat → Int32) (e_waS : Nat → Int32) (e_spoons : Int32) (e_kind : Nat → Int32) (e_mark : Nat → Int32) (e_silver : Nat → Int32) (e_fresh : Nat → Int64) (e_texts : Nat → Option Nat) (e_tape : Nat → Int32) (e_tapeCount : Int32) (e_z : Int32) (e_waiting : Nat → Int32) (e_waitingCount : Int32) (L : List Nat) (tx : Nat → TXc) (tst : Nat → Nat → Int32) (rR : Int32) (imagesR : Int32) (e_weightR : Nat → Int32) (e_knownR : Int32) (e_hourR : Int32) (e_swSR : Nat → Int32) (e_swWR : Nat → Int32) (e_waSR : Nat → Int32) (e_spoonsR : Int32) (e_kindR : Nat → Int32) (e_markR : Nat → Int32) (e_silverR : Nat → Int32) (e_freshR : Nat → Int64) (e_textsR : Nat → Option Nat) (e_tapeR : Nat → Int32) (e_tapeCountR : Int32) (e_zR : Int32) (e_waitingR : Nat → Int32) (e_waitingCountR : Int32) (h : fX11_image images h_weight h_known h_hour h_swS h_swW h_waS h_spoons h_kind h_mark h_silver h_fresh h_texts h_tape h_tapeCount h_z h_waiting h_waitingCount e_weight e_known e_hour e_swS e_swW e_waS e_spoons e_kind e_mark e_silver e_fresh e_texts e_tape e_tapeCount e_z e_waiting e_waitingCount L = some (rR, imagesR, e_weightR, e_knownR, e_hourR, e_swSR, e_swWR, e_waSR, e_spoonsR, e_kindR, e_markR, e_silverR, e_freshR, e_textsR, e_tapeR, e_tapeCountR, e_zR, e_waitingR, e_waitingCountR)) : Met l yX11_image wsX11_image ({ frames := 3, cells := 0, slots := 0, locals := 82 } : Room) (PW G D (tyC cA) sz (wX cA xd vd sd nd hd td ed kd images errors fewest vspoon vmark vcount vbodies sbits slens snum h_weight h_known h_hour h_swS h_swW h_waS h_spoons h_kind h_mark h_silver h_fresh h_texts h_tape h_tapeCount h_z h_waiting h_waitingCount t_weight t_known t_hour t_swS t_swW t_waS t_spoons t_kind t_mark t_silver t_fresh t_texts t_tape t_tapeCount t_z t_waiting t_waitingCount e_weight e_known e_hour e_swS e_swW e_waS e_spoons e_kind e_mark e_silver e_fresh e_texts e_tape e_tapeCount e_z e_waiting e_waitingCount L tx tst) [.ref (xd 0)]) (QI D (tyC cA) (va_A (wX cA xd vd sd nd hd td ed kd images errors fewest vspoon vmark vcount vbodies sbits slens snum h_weight h_known h_hour h_swS h_swW h_waS h_spoons h_kind h_mark h_silver h_fresh h_texts h_tape h_tapeCount h_z h_waiting h_waitingCount t_weight t_known t_hour t_swS t_swW t_waS t_spoons t_kind t_mark t_silver t_fresh t_texts t_tape t_tapeCount t_z t_waiting t_waitingCount e_weight e_known e_hour e_swS e_swW e_waS e_spoons e_kind e_mark e_silver e_fresh e_texts e_tape e_tapeCount e_z e_waiting e_waitingCount L tx tst) sz) rR (wX cA xd vd sd nd hd td ed kd imagesR errors fewest vspoon vmark vcount vbodies sbits slens snum h_weight h_known h_hour h_swS h_swW h_waS h_spoons h_kind h_mark h_silver h_fresh h_texts h_tape h_tapeCount h_z h_waiting h_waitingCount t_weight t_known t_hour t_swS t_swW t_waS t_spoons t_kind t_mark t_silver t_fresh t_texts t_tape t_tapeCount t_z t_waiting t_waitingCount e_weightR e_knownR e_hourR e_swSR e_swWR e_waSR e_spoonsR e_kindR e_markR e_silverR e_freshR e_textsR e_tapeR e_tapeCountR e_zR e_waitingR e_waitingCountR L tx tst)) 0 0 (va_A (wX cA xd vd sd nd hd td ed kd images errors fewest vspoon vmark vcount vbodies sbits slens snum h_weight h_known h_hour h_swS h_swW h_waS h_spoons h_kind h_mark h_silver h_fresh h_texts h_tape h_tapeCount h_z h_waiting h_waitingCount t_weight t_known t_hour t_swS t_swW t_waS t_spoons t_kind t_mark t_silver t_fresh t_texts t_tape t_tapeCount t_z t_waiting t_waitingCount e_weight e_known e_hour e_swS e_swW e_waS e_spoons e_kind e_mark e_silver e_fresh e_texts e_tape e_tapeCount e_z e_waiting e_waitingCount L tx tst) sz) := by
  refine ent (cc := cX11_image) (maxL := 1) (ret := (some .int)) (fun A => QI D (tyC cA) A rR (wX cA xd vd sd nd hd td ed kd imagesR errors fewest vspoon vmark vcount vbodies sbits slens snum h_weight h_known h_hour h_swS h_swW h_waS h_spoons h_kind h_mark h_silver h_fresh h_texts h_tape h_tapeCount h_z h_waiting h_waitingCount t_weight t_known t_hour t_swS t_swW t_waS t_spoons t_kind t_mark t_silver t_fresh t_texts t_tape t_tapeCount t_z t_waiting t_waitingCount e_weightR e_knownR e_hourR e_swSR e_swWR e_waSR e_spoonsR e_kindR e_markR e_silverR e_freshR e_textsR e_tapeR e_tapeCountR e_zR e_waitingR e_waitingCountR L tx tst)) (by decide +kernel) rfl (Nat.le_of_ble_eq_true rfl) ?_
  intro p e s m args below meth c A ls H hx hb hml hr hlk hts hown hA hK hE hP hD hS hv hmm
  have hv : lv_has ls 1 [(0, .ref (xd 0))] := hv
  have in_11 : ∀ w ∈ u_ws RX11 TX11 9, w ∈ wsX11_image := fun _ h => List.mem_cons_of_mem _ (List.mem_append_left _ (List.mem_append_right _ h))
  have w_0 := hts (.fieldLink RX11 46 "SpoonsLast" "kept" "LSpoonsLast$House;") (List.mem_of_getElem? (i := 1) rfl)
  have w_1 := hts (.fieldLink RX11 39 "SpoonsLast" "house" "LSpoonsLast$House;") (List.mem_of_getElem? (i := 2) rfl)
  have w_2 := hts (.fieldLink RX11 291 "SpoonsLast" "images" "I") (List.mem_of_getElem? (i := 3) rfl)
  generalize hQ : MQ below _ args s 0 0 A = Q
  have hP : va_P D vwCl (wX cA xd vd sd nd hd td ed kd images errors fewest vspoon vmark vcount vbodies sbits slens snum h_weight h_known h_hour h_swS h_swW h_waS h_spoons h_kind h_mark h_silver h_fresh h_texts h_tape h_tapeCount h_z h_waiting h_waitingCount t_weight t_known t_hour t_swS t_swW t_waS t_spoons t_kind t_mark t_silver t_fresh t_texts t_tape t_tapeCount t_z t_waiting t_waitingCount e_weight e_known e_hour e_swS e_swW e_waS e_spoons e_kind e_mark e_silver e_fresh e_texts e_tape e_tapeCount e_z e_waiting e_waitingCount L tx tst) H := hP
  unfold fX11_image at h
  refine lv_aload_n hx hb dX11_image_0 rfl (lv_at hv 0 rfl) ?_
  refine va_get (D := D) (ci := 11) (v := .ref (ed 0)) (C := RX11) (T := TX11) (N := 9) hx hb hts in_11 hown hK hP 0 rfl rfl 2 (by decide) w_0 (fun _ h9 => h9) rfl dX11_image_1 ?_
  refine lv_aload_n hx hb dX11_image_4 rfl (lv_at hv 0 rfl) ?_
  refine va_get (D := D) (ci := 11) (v := .ref (hd 0)) (C := RX11) (T := TX11) (N := 9) hx hb hts in_11 hown hK hP 0 rfl rfl 0 (by decide) w_1 (fun _ h9 => h9) rfl dX11_image_5 ?_
  obtain ⟨⟨e_weight_1, e_known_2, e_hour_3, e_swS_4, e_swW_5, e_waS_6, e_spoons_7, e_kind_8, e_mark_9, e_silver_10, e_fresh_11, e_texts_12, e_tape_13, e_tapeCount_14, e_z_15, e_waiting_16, e_waitingCount_17⟩, hf_18, h⟩ := bd_ex h
  have sb : Sb D A H (wHH cA ed hd kd e_weight e_known e_hour e_swS e_swW e_waS e_spoons e_kind e_mark e_silver e_fresh e_texts e_tape e_tapeCount e_z e_waiting e_waitingCount h_weight h_known h_hour h_swS h_swW h_waS h_spoons h_kind h_mark h_silver h_fresh h_texts h_tape h_tapeCount h_z h_waiting h_waitingCount L tx tst) := sbXeh hP hD hS hA
  refine calV (va_runV (As := [.ref (hd 0)]) (rest := []) ⟨hx, hb, hml, hown, hts⟩ (c_X3_keep l G D cA ed hd kd _ e_weight e_known e_hour e_swS e_swW e_waS e_spoons e_kind e_mark e_silver e_fresh e_texts e_tape e_tapeCount e_z e_waiting e_waitingCount h_weight h_known h_hour h_swS h_swW h_waS h_spoons h_kind h_mark h_silver h_fresh h_texts h_tape h_tapeCount h_z h_waiting h_waitingCount L tx tst e_weight_1 e_known_2 e_hour_3 e_swS_4 e_swW_5 e_waS_6 e_spoons_7 e_kind_8 e_mark_9 e_silver_10 e_fresh_11 e_texts_12 e_tape_13 e_tapeCount_14 e_z_15 e_waiting_16 e_waitingCount_17 hf_18) (cwV 1 hts gX11_image_X3_keep rfl rfl rfl (by decide +kernel) ⟨Nat.le_of_ble_eq_true rfl, Nat.le_of_ble_eq_true rfl⟩) (pvV hE hK hS sb (va_recv hK hP (ci := 3) (q0 := 38) rfl rfl)) rfl rfl hv.1 rfl (lv_room (Nat.le_of_ble_eq_true rfl)) dX11_image_8 ⟨Nat.le_of_ble_eq_true rfl, Nat.le_of_ble_eq_true rfl⟩) hS sb (jnXeh hP hD) (fun H locs hP hD hS => ?_)
  have hP : va_P D vwCl (wX cA xd vd sd nd hd td ed kd images errors fewest vspoon vmark vcount vbodies sbits slens snum h_weight h_known h_hour h_swS h_swW h_waS h_spoons h_kind h_mark h_silver h_fresh h_texts h_tape h_tapeCount h_z h_waiting h_waitingCount t_weight t_known t_hour t_swS t_swW t_waS t_spoons t_kind t_mark t_silver t_fresh t_texts t_tape t_tapeCount t_z t_waiting t_waitingCount e_weight_1 e_known_2 e_hour_3 e_swS_4 e_swW_5 e_waS_6 e_spoons_7 e_kind_8 e_mark_9 e_silver_10 e_fresh_11 e_texts_12 e_tape_13 e_tapeCount_14 e_z_15 e_waiting_16 e_waitingCount_17 L tx tst) H := hP
  have hD : va_D A (wX cA xd vd sd nd hd td ed kd images errors fewest vspoon vmark vcount vbodies sbits slens snum h_weight h_known h_hour h_swS h_swW h_waS h_spoons h_kind h_mark h_silver h_fresh h_texts h_tape h_tapeCount h_z h_waiting h_waitingCount t_weight t_known t_hour t_swS t_swW t_waS t_spoons t_kind t_mark t_silver t_fresh t_texts t_tape t_tapeCount t_z t_waiting t_waitingCount e_weight_1 e_known_2 e_hour_3 e_swS_4 e_swW_5 e_waS_6 e_spoons_7 e_kind_8 e_mark_9 e_silver_10 e_fresh_11 e_texts_12 e_tape_13 e_tapeCount_14 e_z_15 e_waiting_16 e_waitingCount_17 L tx tst) := hD
  refine lv_aload_n hx hb dX11_image_11 rfl (lv_at hv 0 rfl) ?_
  refine lv_dup hx hb dX11_image_12 rfl ?_
  refine va_get (D := D) (ci := 11) (v := .int images) (C := RX11) (T := TX11) (N := 9) hx hb hts in_11 hown hK hP 0 rfl rfl 3 (by decide) w_2 (fun _ h9 => h9) rfl dX11_image_13 ?_
  refine lv_iconst (v := (1 : Int32)) hx hb dX11_image_16 (by decide) ?_
  refine lv_iadd hx hb dX11_image_17 ?_
  obtain ⟨y_19, ey_19, h⟩ := bnd_ex h
  refine lv_nm ey_19 ?_
  refine va_put (D := D) (ci := 11) (v := .int y_19) (ty := .int) (C := RX11) (T := TX11) (N := 9) hx hb hts in_11 tyX11 tyX11_ok nmX11 hown hK hP hD hS 0 rfl rfl 3 (by decide) w_2 (fun _ h9 => h9) rfl (by decide +kernel) rfl rfl (Nat.le_of_ble_eq_true rfl) dX11_image_18 (fun H locs hP hD hS => ?_)
  have hP : va_P D vwCl (wX cA xd vd sd nd hd td ed kd y_19 errors fewest vspoon vmark vcount vbodies sbits slens snum h_weight h_known h_hour h_swS h_swW h_waS h_spoons h_kind h_mark h_silver h_fresh h_texts h_tape h_tapeCount h_z h_waiting h_waitingCount t_weight t_known t_hour t_swS t_swW t_waS t_spoons t_kind t_mark t_silver t_fresh t_texts t_tape t_tapeCount t_z t_waiting t_waitingCount e_weight_1 e_known_2 e_hour_3 e_swS_4 e_swW_5 e_waS_6 e_spoons_7 e_kind_8 e_mark_9 e_silver_10 e_fresh_11 e_texts_12 e_tape_13 e_tapeCount_14 e_z_15 e_waiting_16 e_waitingCount_17 L tx tst) H := hP
  have hD : va_D A (wX cA xd vd sd nd hd td ed kd y_19 errors fewest vspoon vmark vcount vbodies sbits slens snum h_weight h_known h_hour h_swS h_swW h_waS h_spoons h_kind h_mark h_silver h_fresh h_texts h_tape h_tapeCount h_z h_waiting h_waitingCount t_weight t_known t_hour t_swS t_swW t_waS t_spoons t_kind t_mark t_silver t_fresh t_texts t_tape t_tapeCount t_z t_waiting t_waitingCount e_weight_1 e_known_2 e_hour_3 e_swS_4 e_swW_5 e_waS_6 e_spoons_7 e_kind_8 e_mark_9 e_silver_10 e_fresh_11 e_texts_12 e_tape_13 e_tapeCount_14 e_z_15 e_waiting_16 e_waitingCount_17 L tx tst) := hD
  refine lv_aload_n hx hb dX11_image_21 rfl (lv_at hv 0 rfl) ?_
  refine va_get (D := D) (ci := 11) (v := .int y_19) (C := RX11) (T := TX11) (N := 9) hx hb hts in_11 hown hK hP 0 rfl rfl 3 (by decide) w_2 (fun _ h9 => h9) rfl dX11_image_22 ?_
  have h := Option.some.inj h
  have ee0 : y_19 = rR := congrArg (fun q => q.1) h
  have ee1 : y_19 = imagesR := congrArg (fun q => q.2.1) h
  have ee2 : e_weight_1 = e_weightR := congrArg (fun q => q.2.2.1) h
  have ee3 : e_known_2 = e_knownR := congrArg (fun q => q.2.2.2.1) h
  have ee4 : e_hour_3 = e_hourR := congrArg (fun q => q.2.2.2.2.1) h
  have ee5 : e_swS_4 = e_swSR := congrArg (fun q => q.2.2.2.2.2.1) h
  have ee6 : e_swW_5 = e_swWR := congrArg (fun q => q.2.2.2.2.2.2.1) h
  have ee7 : e_waS_6 = e_waSR := congrArg (fun q => q.2.2.2.2.2.2.2.1) h
  have ee8 : e_spoons_7 = e_spoonsR := congrArg (fun q => q.2.2.2.2.2.2.2.2.1) h
  have ee9 : e_kind_8 = e_kindR := congrArg (fun q => q.2.2.2.2.2.2.2.2.2.1) h
  have ee10 : e_mark_9 = e_markR := congrArg (fun q => q.2.2.2.2.2.2.2.2.2.2.1) h
  have ee11 : e_silver_10 = e_silverR := congrArg (fun q => q.2.2.2.2.2.2.2.2.2.2.2.1) h
  have ee12 : e_fresh_11 = e_freshR := congrArg (fun q => q.2.2.2.2.2.2.2.2.2.2.2.2.1) h
  have ee13 : e_texts_12 = e_textsR := congrArg (fun q => q.2.2.2.2.2.2.2.2.2.2.2.2.2.1) h
  have ee14 : e_tape_13 = e_tapeR := congrArg (fun q => q.2.2.2.2.2.2.2.2.2.2.2.2.2.2.1) h
  have ee15 : e_tapeCount_14 = e_tapeCountR := congrArg (fun q => q.2.2.2.2.2.2.2.2.2.2.2.2.2.2.2.1) h
  have ee16 : e_z_15 = e_zR := congrArg (fun q => q.2.2.2.2.2.2.2.2.2.2.2.2.2.2.2.2.1) h
  have ee17 : e_waiting_16 = e_waitingR := congrArg (fun q => q.2.2.2.2.2.2.2.2.2.2.2.2.2.2.2.2.2.1) h
  have ee18 : e_waitingCount_17 = e_waitingCountR := congrArg (fun q => q.2.2.2.2.2.2.2.2.2.2.2.2.2.2.2.2.2.2) h
  subst ee0
  subst ee1
  subst ee2
  subst ee3
  subst ee4
  subst ee5
  subst ee6
  subst ee7
  subst ee8
  subst ee9
  subst ee10
  subst ee11
  subst ee12
  subst ee13
  subst ee14
  subst ee15
  subst ee16
  subst ee17
  subst ee18
  rw [← hQ]
  exact retI hx hb hr hlk hK hP hD hS dX11_image_25 ⟨Nat.le_of_ble_eq_true rfl, Nat.le_of_ble_eq_true rfl⟩

def fX11_restore (images : Int32) (errors : Nat → Int32) (h_weight : Nat → Int32) (h_known : Int32) (h_hour : Int32) (h_swS : Nat → Int32) (h_swW : Nat → Int32) (h_waS : Nat → Int32) (h_spoons : Int32) (h_kind : Nat → Int32) (h_mark : Nat → Int32) (h_silver : Nat → Int32) (h_fresh : Nat → Int64) (h_texts : Nat → Option Nat) (h_tape : Nat → Int32) (h_tapeCount : Int32) (h_z : Int32) (h_waiting : Nat → Int32) (h_waitingCount : Int32) (e_weight : Nat → Int32) (e_known : Int32) (e_hour : Int32) (e_swS : Nat → Int32) (e_swW : Nat → Int32) (e_waS : Nat → Int32) (e_spoons : Int32) (e_kind : Nat → Int32) (e_mark : Nat → Int32) (e_silver : Nat → Int32) (e_fresh : Nat → Int64) (e_texts : Nat → Option Nat) (e_tape : Nat → Int32) (e_tapeCount : Int32) (e_z : Int32) (e_waiting : Nat → Int32) (e_waitingCount : Int32) (L : List Nat) : Option (Int32 × (Nat → Int32) × (Nat → Int32) × Int32 × Int32 × (Nat → Int32) × (Nat → Int32) × (Nat → Int32) × Int32 × (Nat → Int32) × (Nat → Int32) × (Nat → Int32) × (Nat → Int64) × (Nat → Option Nat) × (Nat → Int32) × Int32 × Int32 × (Nat → Int32) × Int32) :=
  (if images = 0 then bd (fX11_refused (-1000000002 : Int32) errors) fun (r_20, errors_21) => some (r_20, errors_21, h_weight, h_known, h_hour, h_swS, h_swW, h_waS, h_spoons, h_kind, h_mark, h_silver, h_fresh, h_texts, h_tape, h_tapeCount, h_z, h_waiting, h_waitingCount) else bd (fX3_keep h_weight h_known h_hour h_swS h_swW h_waS h_spoons h_kind h_mark h_silver h_fresh h_texts h_tape h_tapeCount h_z h_waiting h_waitingCount e_weight e_known e_hour e_swS e_swW e_waS e_spoons e_kind e_mark e_silver e_fresh e_texts e_tape e_tapeCount e_z e_waiting e_waitingCount L) fun (h_weight_2, h_known_3, h_hour_4, h_swS_5, h_swW_6, h_waS_7, h_spoons_8, h_kind_9, h_mark_10, h_silver_11, h_fresh_12, h_texts_13, h_tape_14, h_tapeCount_15, h_z_16, h_waiting_17, h_waitingCount_18) => some (h_hour_4, errors, h_weight_2, h_known_3, h_hour_4, h_swS_5, h_swW_6, h_waS_7, h_spoons_8, h_kind_9, h_mark_10, h_silver_11, h_fresh_12, h_texts_13, h_tape_14, h_tapeCount_15, h_z_16, h_waiting_17, h_waitingCount_18))
set_option maxHeartbeats 4000000 in
set_option maxRecDepth 100000 in
theorem c_X11_restore (l : Launch) (G : Nat → Nat) (D : va_G) (cA : Nat → ClassId) (xd : Nat → Nat) (vd : Nat → Nat) (sd : Nat → Nat) (nd : Nat → Nat) (hd : Nat → Nat) (td : Nat → Nat) (ed : Nat → Nat) (kd : Nat → Nat) (sz : Nat) (images : Int32) (errors : Nat → Int32) (fewest : Nat → Int32) (vspoon : Int32) (vmark : Int32) (vcount : Int32) (vbodies : Nat → Int32) (sbits : Nat → Int32) (slens : Nat → Int32) (snum : Nat → Nat → Int32) (h_weight : Nat → Int32) (h_known : Int32) (h_hour : Int32) (h_swS : Nat → Int32) (h_swW : Nat → Int32) (h_waS : Nat → Int32) (h_spoons : Int32) (h_kind : Nat → Int32) (h_mark : Nat → Int32) (h_silver : Nat → Int32) (h_fresh : Nat → Int64) (h_texts : Nat → Option Nat) (h_tape : Nat → Int32) (h_tapeCount : Int32) (h_z : Int32) (h_waiting : Nat → Int32) (h_waitingCount : Int32) (t_weight : Nat → Int32) (t_known : Int32) (t_hour : Int32) (t_swS : Nat → Int32) (t_swW : Nat → Int32) (t_waS : Nat → Int32) (t_spoons : Int32) (t_kind : Nat → Int32) (t_mark : Nat → Int32) (t_silver : Nat → Int32) (t_fresh : Nat → Int64) (t_texts : Nat → Option Nat) (t_tape : Nat → Int32) (t_tapeCount : Int32) (t_z : Int32) (t_waiting : Nat → Int32) (t_waitingCount : Int32) (e_weight : Nat → Int32) (e_known : Int32) (e_hour : Int32) (e_swS : Nat → Int32) (e_swW : Nat → Int32) (e_waS : Nat → Int32) (e_spoons : Int32) (e_kind : Nat → Int32) (e_mark : Nat → Int32) (e_silver : Nat → Int32) (e_fresh : Nat → Int64) (e_texts : Nat → Option Nat) (e_tape : Nat → Int32) (e_tapeCount : Int32) (e_z : Int32) (e_waiting : Nat → Int32) (e_waitingCount : Int32) (L : List Nat) (tx : Nat → TXc) (tst : Nat → Nat → Int32) (rR : Int32) (errorsR : Nat → Int32) (h_weightR : Nat → Int32) (h_knownR : Int32) (h_hourR : Int32) (h_swSR : Nat → Int32) (h_swWR : Nat → Int32) (h_waSR : Nat → Int32) (h_spoonsR : Int32) (h_kindR : Nat → Int32) (h_markR : Nat → Int32) (h_silverR : Nat → Int32) (h_freshR : Nat → Int64) (h_textsR : Nat → Option Nat) (h_tapeR : Nat → Int32) (h_tapeCountR : Int32) (h_zR : Int32) (h_waitingR : Nat → Int32) (h_waitingCountR : Int32) (h : fX11_restore images errors h_weight h_known h_hour h_swS h_swW h_waS h_spoons h_kind h_mark h_silver h_fresh h_texts h_tape h_tapeCount h_z h_waiting h_waitingCount e_weight e_known e_hour e_swS e_swW e_waS e_spoons e_kind e_mark e_silver e_fresh e_texts e_tape e_tapeCount e_z e_waiting e_waitingCount L = some (rR, errorsR, h_weightR, h_knownR, h_hourR, h_swSR, h_swWR, h_waSR, h_spoonsR, h_kindR, h_markR, h_silverR, h_freshR, h_textsR, h_tapeR, h_tapeCountR, h_zR, h_waitingR, h_waitingCountR)) : Met l yX11_restore wsX11_restore ({ frames := 3, cells := 0, slots := 0, locals := 82 } : Room) (PW G D (tyC cA) sz (wX cA xd vd sd nd hd td ed kd images errors fewest vspoon vmark vcount vbodies sbits slens snum h_weight h_known h_hour h_swS h_swW h_waS h_spoons h_kind h_mark h_silver h_fresh h_texts h_tape h_tapeCount h_z h_waiting h_waitingCount t_weight t_known t_hour t_swS t_swW t_waS t_spoons t_kind t_mark t_silver t_fresh t_texts t_tape t_tapeCount t_z t_waiting t_waitingCount e_weight e_known e_hour e_swS e_swW e_waS e_spoons e_kind e_mark e_silver e_fresh e_texts e_tape e_tapeCount e_z e_waiting e_waitingCount L tx tst) [.ref (xd 0)]) (QI D (tyC cA) (va_A (wX cA xd vd sd nd hd td ed kd images errors fewest vspoon vmark vcount vbodies sbits slens snum h_weight h_known h_hour h_swS h_swW h_waS h_spoons h_kind h_mark h_silver h_fresh h_texts h_tape h_tapeCount h_z h_waiting h_waitingCount t_weight t_known t_hour t_swS t_swW t_waS t_spoons t_kind t_mark t_silver t_fresh t_texts t_tape t_tapeCount t_z t_waiting t_waitingCount e_weight e_known e_hour e_swS e_swW e_waS e_spoons e_kind e_mark e_silver e_fresh e_texts e_tape e_tapeCount e_z e_waiting e_waitingCount L tx tst) sz) rR (wX cA xd vd sd nd hd td ed kd images errorsR fewest vspoon vmark vcount vbodies sbits slens snum h_weightR h_knownR h_hourR h_swSR h_swWR h_waSR h_spoonsR h_kindR h_markR h_silverR h_freshR h_textsR h_tapeR h_tapeCountR h_zR h_waitingR h_waitingCountR t_weight t_known t_hour t_swS t_swW t_waS t_spoons t_kind t_mark t_silver t_fresh t_texts t_tape t_tapeCount t_z t_waiting t_waitingCount e_weight e_known e_hour e_swS e_swW e_waS e_spoons e_kind e_mark e_silver e_fresh e_texts e_tape e_tapeCount e_z e_waiting e_waitingCount L tx tst)) 0 0 (va_A (wX cA xd vd sd nd hd td ed kd images errors fewest vspoon vmark vcount vbodies sbits slens snum h_weight h_known h_hour h_swS h_swW h_waS h_spoons h_kind h_mark h_silver h_fresh h_texts h_tape h_tapeCount h_z h_waiting h_waitingCount t_weight t_known t_hour t_swS t_swW t_waS t_spoons t_kind t_mark t_silver t_fresh t_texts t_tape t_tapeCount t_z t_waiting t_waitingCount e_weight e_known e_hour e_swS e_swW e_waS e_spoons e_kind e_mark e_silver e_fresh e_texts e_tape e_tapeCount e_z e_waiting e_waitingCount L tx tst) sz) := by
  refine ent (cc := cX11_restore) (maxL := 1) (ret := (some .int)) (fun A => QI D (tyC cA) A rR (wX cA xd vd sd nd hd td ed kd images errorsR fewest vspoon vmark vcount vbodies sbits slens snum h_weightR h_knownR h_hourR h_swSR h_swWR h_waSR h_spoonsR h_kindR h_markR h_silverR h_freshR h_textsR h_tapeR h_tapeCountR h_zR h_waitingR h_waitingCountR t_weight t_known t_hour t_swS t_swW t_waS t_spoons t_kind t_mark t_silver t_fresh t_texts t_tape t_tapeCount t_z t_waiting t_waitingCount e_weight e_known e_hour e_swS e_swW e_waS e_spoons e_kind e_mark e_silver e_fresh e_texts e_tape e_tapeCount e_z e_waiting e_waitingCount L tx tst)) (by decide +kernel) rfl (Nat.le_of_ble_eq_true rfl) ?_
  intro p e s m args below meth c A ls H hx hb hml hr hlk hts hown hA hK hE hP hD hS hv hmm
  have hv : lv_has ls 1 [(0, .ref (xd 0))] := hv
  have in_3 : ∀ w ∈ u_ws RX3 TX3 18, w ∈ wsX11_restore := fun _ h => List.mem_cons_of_mem _ (List.mem_append_right _ h)
  have in_11 : ∀ w ∈ u_ws RX11 TX11 9, w ∈ wsX11_restore := fun _ h => List.mem_cons_of_mem _ (List.mem_append_left _ (List.mem_append_right _ h))
  have w_0 := hts (.fieldLink RX11 291 "SpoonsLast" "images" "I") (List.mem_of_getElem? (i := 1) rfl)
  have w_1 := hts (.fieldLink RX11 39 "SpoonsLast" "house" "LSpoonsLast$House;") (List.mem_of_getElem? (i := 3) rfl)
  have w_2 := hts (.fieldLink RX11 46 "SpoonsLast" "kept" "LSpoonsLast$House;") (List.mem_of_getElem? (i := 4) rfl)
  have w_3 := hts (.fieldLink RX11 178 "SpoonsLast$House" "hour" "I") (List.mem_of_getElem? (i := 5) rfl)
  have w_4 := hts (.constant RX11 204 (-1000000002)) (List.mem_of_getElem? (i := 2) rfl)
  generalize hQ : MQ below _ args s 0 0 A = Q
  have hP : va_P D vwCl (wX cA xd vd sd nd hd td ed kd images errors fewest vspoon vmark vcount vbodies sbits slens snum h_weight h_known h_hour h_swS h_swW h_waS h_spoons h_kind h_mark h_silver h_fresh h_texts h_tape h_tapeCount h_z h_waiting h_waitingCount t_weight t_known t_hour t_swS t_swW t_waS t_spoons t_kind t_mark t_silver t_fresh t_texts t_tape t_tapeCount t_z t_waiting t_waitingCount e_weight e_known e_hour e_swS e_swW e_waS e_spoons e_kind e_mark e_silver e_fresh e_texts e_tape e_tapeCount e_z e_waiting e_waitingCount L tx tst) H := hP
  unfold fX11_restore at h
  refine lv_aload_n hx hb dX11_restore_0 rfl (lv_at hv 0 rfl) ?_
  refine va_get (D := D) (ci := 11) (v := .int images) (C := RX11) (T := TX11) (N := 9) hx hb hts in_11 hown hK hP 0 rfl rfl 3 (by decide) w_0 (fun _ h9 => h9) rfl dX11_restore_1 ?_
  refine lv_if_ne (tgt := 14) hx hb dX11_restore_4 (by decide) (fun c_1 => ?_) (fun c_1 => ?_)
  · have h := ite_f c_1 h
    refine lv_aload_n hx hb dX11_restore_14 rfl (lv_at hv 0 rfl) ?_
    refine va_get (D := D) (ci := 11) (v := .ref (hd 0)) (C := RX11) (T := TX11) (N := 9) hx hb hts in_11 hown hK hP 0 rfl rfl 0 (by decide) w_1 (fun _ h9 => h9) rfl dX11_restore_15 ?_
    refine lv_aload_n hx hb dX11_restore_18 rfl (lv_at hv 0 rfl) ?_
    refine va_get (D := D) (ci := 11) (v := .ref (ed 0)) (C := RX11) (T := TX11) (N := 9) hx hb hts in_11 hown hK hP 0 rfl rfl 2 (by decide) w_2 (fun _ h9 => h9) rfl dX11_restore_19 ?_
    obtain ⟨⟨h_weight_2, h_known_3, h_hour_4, h_swS_5, h_swW_6, h_waS_7, h_spoons_8, h_kind_9, h_mark_10, h_silver_11, h_fresh_12, h_texts_13, h_tape_14, h_tapeCount_15, h_z_16, h_waiting_17, h_waitingCount_18⟩, hf_19, h⟩ := bd_ex h
    have sb : Sb D A H (wHH cA hd ed kd h_weight h_known h_hour h_swS h_swW h_waS h_spoons h_kind h_mark h_silver h_fresh h_texts h_tape h_tapeCount h_z h_waiting h_waitingCount e_weight e_known e_hour e_swS e_swW e_waS e_spoons e_kind e_mark e_silver e_fresh e_texts e_tape e_tapeCount e_z e_waiting e_waitingCount L tx tst) := sbXhe hP hD hS hA
    refine calV (va_runV (As := [.ref (ed 0)]) (rest := []) ⟨hx, hb, hml, hown, hts⟩ (c_X3_keep l G D cA hd ed kd _ h_weight h_known h_hour h_swS h_swW h_waS h_spoons h_kind h_mark h_silver h_fresh h_texts h_tape h_tapeCount h_z h_waiting h_waitingCount e_weight e_known e_hour e_swS e_swW e_waS e_spoons e_kind e_mark e_silver e_fresh e_texts e_tape e_tapeCount e_z e_waiting e_waitingCount L tx tst h_weight_2 h_known_3 h_hour_4 h_swS_5 h_swW_6 h_waS_7 h_spoons_8 h_kind_9 h_mark_10 h_silver_11 h_fresh_12 h_texts_13 h_tape_14 h_tapeCount_15 h_z_16 h_waiting_17 h_waitingCount_18 hf_19) (cwV 1 hts gX11_restore_X3_keep rfl rfl rfl (by decide +kernel) ⟨Nat.le_of_ble_eq_true rfl, Nat.le_of_ble_eq_true rfl⟩) (pvV hE hK hS sb (va_recv hK hP (ci := 3) (q0 := 14) rfl rfl)) rfl rfl hv.1 rfl (lv_room (Nat.le_of_ble_eq_true rfl)) dX11_restore_22 ⟨Nat.le_of_ble_eq_true rfl, Nat.le_of_ble_eq_true rfl⟩) hS sb (jnXhe hP hD) (fun H locs hP hD hS => ?_)
    have hP : va_P D vwCl (wX cA xd vd sd nd hd td ed kd images errors fewest vspoon vmark vcount vbodies sbits slens snum h_weight_2 h_known_3 h_hour_4 h_swS_5 h_swW_6 h_waS_7 h_spoons_8 h_kind_9 h_mark_10 h_silver_11 h_fresh_12 h_texts_13 h_tape_14 h_tapeCount_15 h_z_16 h_waiting_17 h_waitingCount_18 t_weight t_known t_hour t_swS t_swW t_waS t_spoons t_kind t_mark t_silver t_fresh t_texts t_tape t_tapeCount t_z t_waiting t_waitingCount e_weight e_known e_hour e_swS e_swW e_waS e_spoons e_kind e_mark e_silver e_fresh e_texts e_tape e_tapeCount e_z e_waiting e_waitingCount L tx tst) H := hP
    have hD : va_D A (wX cA xd vd sd nd hd td ed kd images errors fewest vspoon vmark vcount vbodies sbits slens snum h_weight_2 h_known_3 h_hour_4 h_swS_5 h_swW_6 h_waS_7 h_spoons_8 h_kind_9 h_mark_10 h_silver_11 h_fresh_12 h_texts_13 h_tape_14 h_tapeCount_15 h_z_16 h_waiting_17 h_waitingCount_18 t_weight t_known t_hour t_swS t_swW t_waS t_spoons t_kind t_mark t_silver t_fresh t_texts t_tape t_tapeCount t_z t_waiting t_waitingCount e_weight e_known e_hour e_swS e_swW e_waS e_spoons e_kind e_mark e_silver e_fresh e_texts e_tape e_tapeCount e_z e_waiting e_waitingCount L tx tst) := hD
    refine lv_aload_n hx hb dX11_restore_25 rfl (lv_at hv 0 rfl) ?_
    refine va_get (D := D) (ci := 11) (v := .ref (hd 0)) (C := RX11) (T := TX11) (N := 9) hx hb hts in_11 hown hK hP 0 rfl rfl 0 (by decide) w_1 (fun _ h9 => h9) rfl dX11_restore_26 ?_
    refine va_get (D := D) (ci := 3) (v := .int h_hour_4) (C := RX3) (T := TX3) (N := 18) hx hb hts in_3 hown hK hP 14 rfl rfl 3 (by decide) w_3 (fun _ h9 => h9) rfl dX11_restore_29 ?_
    have h := Option.some.inj h
    have ee0 : h_hour_4 = rR := congrArg (fun q => q.1) h
    have ee1 : errors = errorsR := congrArg (fun q => q.2.1) h
    have ee2 : h_weight_2 = h_weightR := congrArg (fun q => q.2.2.1) h
    have ee3 : h_known_3 = h_knownR := congrArg (fun q => q.2.2.2.1) h
    have ee4 : h_hour_4 = h_hourR := congrArg (fun q => q.2.2.2.2.1) h
    have ee5 : h_swS_5 = h_swSR := congrArg (fun q => q.2.2.2.2.2.1) h
    have ee6 : h_swW_6 = h_swWR := congrArg (fun q => q.2.2.2.2.2.2.1) h
    have ee7 : h_waS_7 = h_waSR := congrArg (fun q => q.2.2.2.2.2.2.2.1) h
    have ee8 : h_spoons_8 = h_spoonsR := congrArg (fun q => q.2.2.2.2.2.2.2.2.1) h
    have ee9 : h_kind_9 = h_kindR := congrArg (fun q => q.2.2.2.2.2.2.2.2.2.1) h
    have ee10 : h_mark_10 = h_markR := congrArg (fun q => q.2.2.2.2.2.2.2.2.2.2.1) h
    have ee11 : h_silver_11 = h_silverR := congrArg (fun q => q.2.2.2.2.2.2.2.2.2.2.2.1) h
    have ee12 : h_fresh_12 = h_freshR := congrArg (fun q => q.2.2.2.2.2.2.2.2.2.2.2.2.1) h
    have ee13 : h_texts_13 = h_textsR := congrArg (fun q => q.2.2.2.2.2.2.2.2.2.2.2.2.2.1) h
    have ee14 : h_tape_14 = h_tapeR := congrArg (fun q => q.2.2.2.2.2.2.2.2.2.2.2.2.2.2.1) h
    have ee15 : h_tapeCount_15 = h_tapeCountR := congrArg (fun q => q.2.2.2.2.2.2.2.2.2.2.2.2.2.2.2.1) h
    have ee16 : h_z_16 = h_zR := congrArg (fun q => q.2.2.2.2.2.2.2.2.2.2.2.2.2.2.2.2.1) h
    have ee17 : h_waiting_17 = h_waitingR := congrArg (fun q => q.2.2.2.2.2.2.2.2.2.2.2.2.2.2.2.2.2.1) h
    have ee18 : h_waitingCount_18 = h_waitingCountR := congrArg (fun q => q.2.2.2.2.2.2.2.2.2.2.2.2.2.2.2.2.2.2) h
    subst ee0
    subst ee1
    subst ee2
    subst ee3
    subst ee4
    subst ee5
    subst ee6
    subst ee7
    subst ee8
    subst ee9
    subst ee10
    subst ee11
    subst ee12
    subst ee13
    subst ee14
    subst ee15
    subst ee16
    subst ee17
    subst ee18
    rw [← hQ]
    exact retI hx hb hr hlk hK hP hD hS dX11_restore_32 ⟨Nat.le_of_ble_eq_true rfl, Nat.le_of_ble_eq_true rfl⟩
  · have h := ite_t c_1 h
    refine lv_aload_n hx hb dX11_restore_7 rfl (lv_at hv 0 rfl) ?_
    refine lv_ldc (v := (-1000000002 : Int32)) hx hb hown w_4 dX11_restore_8 ?_
    obtain ⟨⟨r_20, errors_21⟩, hf_22, h⟩ := bd_ex h
    have sb := Sb.same hP hD hS hA
    refine calI (va_runV (As := [.int (-1000000002 : Int32)]) (rest := []) ⟨hx, hb, hml, hown, hts⟩ (c_X11_refused l G D cA xd vd sd nd hd td ed kd _ images errors fewest vspoon vmark vcount vbodies sbits slens snum h_weight h_known h_hour h_swS h_swW h_waS h_spoons h_kind h_mark h_silver h_fresh h_texts h_tape h_tapeCount h_z h_waiting h_waitingCount t_weight t_known t_hour t_swS t_swW t_waS t_spoons t_kind t_mark t_silver t_fresh t_texts t_tape t_tapeCount t_z t_waiting t_waitingCount e_weight e_known e_hour e_swS e_swW e_waS e_spoons e_kind e_mark e_silver e_fresh e_texts e_tape e_tapeCount e_z e_waiting e_waitingCount L tx tst (-1000000002 : Int32) r_20 errors_21 hf_22) (cwV 1 hts gX11_restore_X11_refused rfl rfl rfl (by decide +kernel) ⟨Nat.le_of_ble_eq_true rfl, Nat.le_of_ble_eq_true rfl⟩) (pvV hE hK hS sb (va_recv hK hP (ci := 11) (q0 := 0) rfl rfl)) rfl rfl hv.1 rfl (lv_room (Nat.le_of_ble_eq_true rfl)) dX11_restore_10 ⟨Nat.le_of_ble_eq_true rfl, Nat.le_of_ble_eq_true rfl⟩) hS sb (Jn.same sb) (fun H locs hP hD hS => ?_)
    have hP : va_P D vwCl (wX cA xd vd sd nd hd td ed kd images errors_21 fewest vspoon vmark vcount vbodies sbits slens snum h_weight h_known h_hour h_swS h_swW h_waS h_spoons h_kind h_mark h_silver h_fresh h_texts h_tape h_tapeCount h_z h_waiting h_waitingCount t_weight t_known t_hour t_swS t_swW t_waS t_spoons t_kind t_mark t_silver t_fresh t_texts t_tape t_tapeCount t_z t_waiting t_waitingCount e_weight e_known e_hour e_swS e_swW e_waS e_spoons e_kind e_mark e_silver e_fresh e_texts e_tape e_tapeCount e_z e_waiting e_waitingCount L tx tst) H := hP
    have hD : va_D A (wX cA xd vd sd nd hd td ed kd images errors_21 fewest vspoon vmark vcount vbodies sbits slens snum h_weight h_known h_hour h_swS h_swW h_waS h_spoons h_kind h_mark h_silver h_fresh h_texts h_tape h_tapeCount h_z h_waiting h_waitingCount t_weight t_known t_hour t_swS t_swW t_waS t_spoons t_kind t_mark t_silver t_fresh t_texts t_tape t_tapeCount t_z t_waiting t_waitingCount e_weight e_known e_hour e_swS e_swW e_waS e_spoons e_kind e_mark e_silver e_fresh e_texts e_tape e_tapeCount e_z e_waiting e_waitingCount L tx tst) := hD
    have h := Option.some.inj h
    have ee0 : r_20 = rR := congrArg (fun q => q.1) h
    have ee1 : errors_21 = errorsR := congrArg (fun q => q.2.1) h
    have ee2 : h_weight = h_weightR := congrArg (fun q => q.2.2.1) h
    have ee3 : h_known = h_knownR := congrArg (fun q => q.2.2.2.1) h
    have ee4 : h_hour = h_hourR := congrArg (fun q => q.2.2.2.2.1) h
    have ee5 : h_swS = h_swSR := congrArg (fun q => q.2.2.2.2.2.1) h
    have ee6 : h_swW = h_swWR := congrArg (fun q => q.2.2.2.2.2.2.1) h
    have ee7 : h_waS = h_waSR := congrArg (fun q => q.2.2.2.2.2.2.2.1) h
    have ee8 : h_spoons = h_spoonsR := congrArg (fun q => q.2.2.2.2.2.2.2.2.1) h
    have ee9 : h_kind = h_kindR := congrArg (fun q => q.2.2.2.2.2.2.2.2.2.1) h
    have ee10 : h_mark = h_markR := congrArg (fun q => q.2.2.2.2.2.2.2.2.2.2.1) h
    have ee11 : h_silver = h_silverR := congrArg (fun q => q.2.2.2.2.2.2.2.2.2.2.2.1) h
    have ee12 : h_fresh = h_freshR := congrArg (fun q => q.2.2.2.2.2.2.2.2.2.2.2.2.1) h
    have ee13 : h_texts = h_textsR := congrArg (fun q => q.2.2.2.2.2.2.2.2.2.2.2.2.2.1) h
    have ee14 : h_tape = h_tapeR := congrArg (fun q => q.2.2.2.2.2.2.2.2.2.2.2.2.2.2.1) h
    have ee15 : h_tapeCount = h_tapeCountR := congrArg (fun q => q.2.2.2.2.2.2.2.2.2.2.2.2.2.2.2.1) h
    have ee16 : h_z = h_zR := congrArg (fun q => q.2.2.2.2.2.2.2.2.2.2.2.2.2.2.2.2.1) h
    have ee17 : h_waiting = h_waitingR := congrArg (fun q => q.2.2.2.2.2.2.2.2.2.2.2.2.2.2.2.2.2.1) h
    have ee18 : h_waitingCount = h_waitingCountR := congrArg (fun q => q.2.2.2.2.2.2.2.2.2.2.2.2.2.2.2.2.2.2) h
    subst ee0
    subst ee1
    subst ee2
    subst ee3
    subst ee4
    subst ee5
    subst ee6
    subst ee7
    subst ee8
    subst ee9
    subst ee10
    subst ee11
    subst ee12
    subst ee13
    subst ee14
    subst ee15
    subst ee16
    subst ee17
    subst ee18
    rw [← hQ]
    exact retI hx hb hr hlk hK hP hD hS dX11_restore_13 ⟨Nat.le_of_ble_eq_true rfl, Nat.le_of_ble_eq_true rfl⟩

def fX11_tell (v : Int32) (errors : Nat → Int32) (h_waiting : Nat → Int32) (h_waitingCount : Int32) : Option (Int32 × (Nat → Int32) × (Nat → Int32) × Int32) :=
  (if h_waitingCount = (20 : Int32) then bd (fX11_refused (-1000000004 : Int32) errors) fun (r_5, errors_6) => some (r_5, errors_6, h_waiting, h_waitingCount) else ckI h_waitingCount 20 (bnd (upd h_waiting (h_waitingCount).toNatClampNeg v) fun h_waiting_3 => bnd (h_waitingCount + (1 : Int32)) fun y_4 => some (y_4, errors, h_waiting_3, y_4)))
set_option maxHeartbeats 4000000 in
set_option maxRecDepth 100000 in
theorem c_X11_tell (l : Launch) (G : Nat → Nat) (D : va_G) (cA : Nat → ClassId) (xd : Nat → Nat) (vd : Nat → Nat) (sd : Nat → Nat) (nd : Nat → Nat) (hd : Nat → Nat) (td : Nat → Nat) (ed : Nat → Nat) (kd : Nat → Nat) (sz : Nat) (images : Int32) (errors : Nat → Int32) (fewest : Nat → Int32) (vspoon : Int32) (vmark : Int32) (vcount : Int32) (vbodies : Nat → Int32) (sbits : Nat → Int32) (slens : Nat → Int32) (snum : Nat → Nat → Int32) (h_weight : Nat → Int32) (h_known : Int32) (h_hour : Int32) (h_swS : Nat → Int32) (h_swW : Nat → Int32) (h_waS : Nat → Int32) (h_spoons : Int32) (h_kind : Nat → Int32) (h_mark : Nat → Int32) (h_silver : Nat → Int32) (h_fresh : Nat → Int64) (h_texts : Nat → Option Nat) (h_tape : Nat → Int32) (h_tapeCount : Int32) (h_z : Int32) (h_waiting : Nat → Int32) (h_waitingCount : Int32) (t_weight : Nat → Int32) (t_known : Int32) (t_hour : Int32) (t_swS : Nat → Int32) (t_swW : Nat → Int32) (t_waS : Nat → Int32) (t_spoons : Int32) (t_kind : Nat → Int32) (t_mark : Nat → Int32) (t_silver : Nat → Int32) (t_fresh : Nat → Int64) (t_texts : Nat → Option Nat) (t_tape : Nat → Int32) (t_tapeCount : Int32) (t_z : Int32) (t_waiting : Nat → Int32) (t_waitingCount : Int32) (e_weight : Nat → Int32) (e_known : Int32) (e_hour : Int32) (e_swS : Nat → Int32) (e_swW : Nat → Int32) (e_waS : Nat → Int32) (e_spoons : Int32) (e_kind : Nat → Int32) (e_mark : Nat → Int32) (e_silver : Nat → Int32) (e_fresh : Nat → Int64) (e_texts : Nat → Option Nat) (e_tape : Nat → Int32) (e_tapeCount : Int32) (e_z : Int32) (e_waiting : Nat → Int32) (e_waitingCount : Int32) (L : List Nat) (tx : Nat → TXc) (tst : Nat → Nat → Int32) (v : Int32) (rR : Int32) (errorsR : Nat → Int32) (h_waitingR : Nat → Int32) (h_waitingCountR : Int32) (h : fX11_tell v errors h_waiting h_waitingCount = some (rR, errorsR, h_waitingR, h_waitingCountR)) : Met l yX11_tell wsX11_tell ({ frames := 1, cells := 0, slots := 0, locals := 21 } : Room) (PW G D (tyC cA) sz (wX cA xd vd sd nd hd td ed kd images errors fewest vspoon vmark vcount vbodies sbits slens snum h_weight h_known h_hour h_swS h_swW h_waS h_spoons h_kind h_mark h_silver h_fresh h_texts h_tape h_tapeCount h_z h_waiting h_waitingCount t_weight t_known t_hour t_swS t_swW t_waS t_spoons t_kind t_mark t_silver t_fresh t_texts t_tape t_tapeCount t_z t_waiting t_waitingCount e_weight e_known e_hour e_swS e_swW e_waS e_spoons e_kind e_mark e_silver e_fresh e_texts e_tape e_tapeCount e_z e_waiting e_waitingCount L tx tst) [.ref (xd 0), .int v]) (QI D (tyC cA) (va_A (wX cA xd vd sd nd hd td ed kd images errors fewest vspoon vmark vcount vbodies sbits slens snum h_weight h_known h_hour h_swS h_swW h_waS h_spoons h_kind h_mark h_silver h_fresh h_texts h_tape h_tapeCount h_z h_waiting h_waitingCount t_weight t_known t_hour t_swS t_swW t_waS t_spoons t_kind t_mark t_silver t_fresh t_texts t_tape t_tapeCount t_z t_waiting t_waitingCount e_weight e_known e_hour e_swS e_swW e_waS e_spoons e_kind e_mark e_silver e_fresh e_texts e_tape e_tapeCount e_z e_waiting e_waitingCount L tx tst) sz) rR (wX cA xd vd sd nd hd td ed kd images errorsR fewest vspoon vmark vcount vbodies sbits slens snum h_weight h_known h_hour h_swS h_swW h_waS h_spoons h_kind h_mark h_silver h_fresh h_texts h_tape h_tapeCount h_z h_waitingR h_waitingCountR t_weight t_known t_hour t_swS t_swW t_waS t_spoons t_kind t_mark t_silver t_fresh t_texts t_tape t_tapeCount t_z t_waiting t_waitingCount e_weight e_known e_hour e_swS e_swW e_waS e_spoons e_kind e_mark e_silver e_fresh e_texts e_tape e_tapeCount e_z e_waiting e_waitingCount L tx tst)) 0 0 (va_A (wX cA xd vd sd nd hd td ed kd images errors fewest vspoon vmark vcount vbodies sbits slens snum h_weight h_known h_hour h_swS h_swW h_waS h_spoons h_kind h_mark h_silver h_fresh h_texts h_tape h_tapeCount h_z h_waiting h_waitingCount t_weight t_known t_hour t_swS t_swW t_waS t_spoons t_kind t_mark t_silver t_fresh t_texts t_tape t_tapeCount t_z t_waiting t_waitingCount e_weight e_known e_hour e_swS e_swW e_waS e_spoons e_kind e_mark e_silver e_fresh e_texts e_tape e_tapeCount e_z e_waiting e_waitingCount L tx tst) sz) := by
  refine ent (cc := cX11_tell) (maxL := 2) (ret := (some .int)) (fun A => QI D (tyC cA) A rR (wX cA xd vd sd nd hd td ed kd images errorsR fewest vspoon vmark vcount vbodies sbits slens snum h_weight h_known h_hour h_swS h_swW h_waS h_spoons h_kind h_mark h_silver h_fresh h_texts h_tape h_tapeCount h_z h_waitingR h_waitingCountR t_weight t_known t_hour t_swS t_swW t_waS t_spoons t_kind t_mark t_silver t_fresh t_texts t_tape t_tapeCount t_z t_waiting t_waitingCount e_weight e_known e_hour e_swS e_swW e_waS e_spoons e_kind e_mark e_silver e_fresh e_texts e_tape e_tapeCount e_z e_waiting e_waitingCount L tx tst)) (by decide +kernel) rfl (Nat.le_of_ble_eq_true rfl) ?_
  intro p e s m args below meth c A ls H hx hb hml hr hlk hts hown hA hK hE hP hD hS hv hmm
  have hv : lv_has ls 2 [(0, .ref (xd 0)), (1, .int v)] := hv
  have in_3 : ∀ w ∈ u_ws RX3 TX3 18, w ∈ wsX11_tell := fun _ h => List.mem_cons_of_mem _ (List.mem_append_right _ h)
  have in_11 : ∀ w ∈ u_ws RX11 TX11 9, w ∈ wsX11_tell := fun _ h => List.mem_cons_of_mem _ (List.mem_append_left _ (List.mem_append_right _ h))
  have w_0 := hts (.fieldLink RX11 39 "SpoonsLast" "house" "LSpoonsLast$House;") (List.mem_of_getElem? (i := 1) rfl)
  have w_1 := hts (.fieldLink RX11 294 "SpoonsLast$House" "waitingCount" "I") (List.mem_of_getElem? (i := 2) rfl)
  have w_2 := hts (.fieldLink RX11 297 "SpoonsLast$House" "waiting" "[I") (List.mem_of_getElem? (i := 4) rfl)
  have w_3 := hts (.constant RX11 114 (-1000000004)) (List.mem_of_getElem? (i := 3) rfl)
  generalize hQ : MQ below _ args s 0 0 A = Q
  have hP : va_P D vwCl (wX cA xd vd sd nd hd td ed kd images errors fewest vspoon vmark vcount vbodies sbits slens snum h_weight h_known h_hour h_swS h_swW h_waS h_spoons h_kind h_mark h_silver h_fresh h_texts h_tape h_tapeCount h_z h_waiting h_waitingCount t_weight t_known t_hour t_swS t_swW t_waS t_spoons t_kind t_mark t_silver t_fresh t_texts t_tape t_tapeCount t_z t_waiting t_waitingCount e_weight e_known e_hour e_swS e_swW e_waS e_spoons e_kind e_mark e_silver e_fresh e_texts e_tape e_tapeCount e_z e_waiting e_waitingCount L tx tst) H := hP
  unfold fX11_tell at h
  refine lv_aload_n hx hb dX11_tell_0 rfl (lv_at hv 0 rfl) ?_
  refine va_get (D := D) (ci := 11) (v := .ref (hd 0)) (C := RX11) (T := TX11) (N := 9) hx hb hts in_11 hown hK hP 0 rfl rfl 0 (by decide) w_0 (fun _ h9 => h9) rfl dX11_tell_1 ?_
  refine va_get (D := D) (ci := 3) (v := .int h_waitingCount) (C := RX3) (T := TX3) (N := 18) hx hb hts in_3 hown hK hP 14 rfl rfl 17 (by decide) w_1 (fun _ h9 => h9) rfl dX11_tell_4 ?_
  refine lv_bipush (v := (20 : Int32)) hx hb dX11_tell_7 (by decide) ?_
  refine lv_icmp_ne (tgt := 19) hx hb dX11_tell_9 (by decide) (fun c_1 => ?_) (fun c_1 => ?_)
  · have h := ite_f c_1 h
    refine lv_aload_n hx hb dX11_tell_19 rfl (lv_at hv 0 rfl) ?_
    refine va_get (D := D) (ci := 11) (v := .ref (hd 0)) (C := RX11) (T := TX11) (N := 9) hx hb hts in_11 hown hK hP 0 rfl rfl 0 (by decide) w_0 (fun _ h9 => h9) rfl dX11_tell_20 ?_
    refine va_get (D := D) (ci := 3) (v := .ref (hd 17)) (C := RX3) (T := TX3) (N := 18) hx hb hts in_3 hown hK hP 14 rfl rfl 16 (by decide) w_2 (fun _ h9 => h9) rfl dX11_tell_23 ?_
    refine lv_aload_n hx hb dX11_tell_26 rfl (lv_at hv 0 rfl) ?_
    refine va_get (D := D) (ci := 11) (v := .ref (hd 0)) (C := RX11) (T := TX11) (N := 9) hx hb hts in_11 hown hK hP 0 rfl rfl 0 (by decide) w_0 (fun _ h9 => h9) rfl dX11_tell_27 ?_
    refine va_get (D := D) (ci := 3) (v := .int h_waitingCount) (C := RX3) (T := TX3) (N := 18) hx hb hts in_3 hown hK hP 14 rfl rfl 17 (by decide) w_1 (fun _ h9 => h9) rfl dX11_tell_30 ?_
    refine lv_iload_n hx hb dX11_tell_33 rfl (lv_at hv 1 rfl) ?_
    obtain ⟨c_2, h⟩ := ckI_ex h
    obtain ⟨h_waiting_3, eh_waiting_3, h⟩ := bnd_ex h
    refine va_iast (D := D) hx hb hK hP hD hS 25 0 rfl rfl c_2 dX11_tell_34 (fun H locs hP hD hS => ?_)
    rw [← eh_waiting_3] at hP hD
    have hP : va_P D vwCl (wX cA xd vd sd nd hd td ed kd images errors fewest vspoon vmark vcount vbodies sbits slens snum h_weight h_known h_hour h_swS h_swW h_waS h_spoons h_kind h_mark h_silver h_fresh h_texts h_tape h_tapeCount h_z h_waiting_3 h_waitingCount t_weight t_known t_hour t_swS t_swW t_waS t_spoons t_kind t_mark t_silver t_fresh t_texts t_tape t_tapeCount t_z t_waiting t_waitingCount e_weight e_known e_hour e_swS e_swW e_waS e_spoons e_kind e_mark e_silver e_fresh e_texts e_tape e_tapeCount e_z e_waiting e_waitingCount L tx tst) H := hP
    have hD : va_D A (wX cA xd vd sd nd hd td ed kd images errors fewest vspoon vmark vcount vbodies sbits slens snum h_weight h_known h_hour h_swS h_swW h_waS h_spoons h_kind h_mark h_silver h_fresh h_texts h_tape h_tapeCount h_z h_waiting_3 h_waitingCount t_weight t_known t_hour t_swS t_swW t_waS t_spoons t_kind t_mark t_silver t_fresh t_texts t_tape t_tapeCount t_z t_waiting t_waitingCount e_weight e_known e_hour e_swS e_swW e_waS e_spoons e_kind e_mark e_silver e_fresh e_texts e_tape e_tapeCount e_z e_waiting e_waitingCount L tx tst) := hD
    refine lv_aload_n hx hb dX11_tell_35 rfl (lv_at hv 0 rfl) ?_
    refine va_get (D := D) (ci := 11) (v := .ref (hd 0)) (C := RX11) (T := TX11) (N := 9) hx hb hts in_11 hown hK hP 0 rfl rfl 0 (by decide) w_0 (fun _ h9 => h9) rfl dX11_tell_36 ?_
    refine lv_dup hx hb dX11_tell_39 rfl ?_
    refine va_get (D := D) (ci := 3) (v := .int h_waitingCount) (C := RX3) (T := TX3) (N := 18) hx hb hts in_3 hown hK hP 14 rfl rfl 17 (by decide) w_1 (fun _ h9 => h9) rfl dX11_tell_40 ?_
    refine lv_iconst (v := (1 : Int32)) hx hb dX11_tell_43 (by decide) ?_
    refine lv_iadd hx hb dX11_tell_44 ?_
    obtain ⟨y_4, ey_4, h⟩ := bnd_ex h
    refine lv_nm ey_4 ?_
    refine va_put (D := D) (ci := 3) (v := .int y_4) (ty := .int) (C := RX3) (T := TX3) (N := 18) hx hb hts in_3 tyX3 tyX3_ok nmX3 hown hK hP hD hS 14 rfl rfl 17 (by decide) w_1 (fun _ h9 => h9) rfl (by decide +kernel) rfl rfl (Nat.le_of_ble_eq_true rfl) dX11_tell_45 (fun H locs hP hD hS => ?_)
    have hP : va_P D vwCl (wX cA xd vd sd nd hd td ed kd images errors fewest vspoon vmark vcount vbodies sbits slens snum h_weight h_known h_hour h_swS h_swW h_waS h_spoons h_kind h_mark h_silver h_fresh h_texts h_tape h_tapeCount h_z h_waiting_3 y_4 t_weight t_known t_hour t_swS t_swW t_waS t_spoons t_kind t_mark t_silver t_fresh t_texts t_tape t_tapeCount t_z t_waiting t_waitingCount e_weight e_known e_hour e_swS e_swW e_waS e_spoons e_kind e_mark e_silver e_fresh e_texts e_tape e_tapeCount e_z e_waiting e_waitingCount L tx tst) H := hP
    have hD : va_D A (wX cA xd vd sd nd hd td ed kd images errors fewest vspoon vmark vcount vbodies sbits slens snum h_weight h_known h_hour h_swS h_swW h_waS h_spoons h_kind h_mark h_silver h_fresh h_texts h_tape h_tapeCount h_z h_waiting_3 y_4 t_weight t_known t_hour t_swS t_swW t_waS t_spoons t_kind t_mark t_silver t_fresh t_texts t_tape t_tapeCount t_z t_waiting t_waitingCount e_weight e_known e_hour e_swS e_swW e_waS e_spoons e_kind e_mark e_silver e_fresh e_texts e_tape e_tapeCount e_z e_waiting e_waitingCount L tx tst) := hD
    refine lv_aload_n hx hb dX11_tell_48 rfl (lv_at hv 0 rfl) ?_
    refine va_get (D := D) (ci := 11) (v := .ref (hd 0)) (C := RX11) (T := TX11) (N := 9) hx hb hts in_11 hown hK hP 0 rfl rfl 0 (by decide) w_0 (fun _ h9 => h9) rfl dX11_tell_49 ?_
    refine va_get (D := D) (ci := 3) (v := .int y_4) (C := RX3) (T := TX3) (N := 18) hx hb hts in_3 hown hK hP 14 rfl rfl 17 (by decide) w_1 (fun _ h9 => h9) rfl dX11_tell_52 ?_
    have h := Option.some.inj h
    have ee0 : y_4 = rR := congrArg (fun q => q.1) h
    have ee1 : errors = errorsR := congrArg (fun q => q.2.1) h
    have ee2 : h_waiting_3 = h_waitingR := congrArg (fun q => q.2.2.1) h
    have ee3 : y_4 = h_waitingCountR := congrArg (fun q => q.2.2.2) h
    subst ee0
    subst ee1
    subst ee2
    subst ee3
    rw [← hQ]
    exact retI hx hb hr hlk hK hP hD hS dX11_tell_55 ⟨Nat.le_of_ble_eq_true rfl, Nat.le_of_ble_eq_true rfl⟩
  · have h := ite_t c_1 h
    refine lv_aload_n hx hb dX11_tell_12 rfl (lv_at hv 0 rfl) ?_
    refine lv_ldc (v := (-1000000004 : Int32)) hx hb hown w_3 dX11_tell_13 ?_
    obtain ⟨⟨r_5, errors_6⟩, hf_7, h⟩ := bd_ex h
    have sb := Sb.same hP hD hS hA
    refine calI (va_runV (As := [.int (-1000000004 : Int32)]) (rest := []) ⟨hx, hb, hml, hown, hts⟩ (c_X11_refused l G D cA xd vd sd nd hd td ed kd _ images errors fewest vspoon vmark vcount vbodies sbits slens snum h_weight h_known h_hour h_swS h_swW h_waS h_spoons h_kind h_mark h_silver h_fresh h_texts h_tape h_tapeCount h_z h_waiting h_waitingCount t_weight t_known t_hour t_swS t_swW t_waS t_spoons t_kind t_mark t_silver t_fresh t_texts t_tape t_tapeCount t_z t_waiting t_waitingCount e_weight e_known e_hour e_swS e_swW e_waS e_spoons e_kind e_mark e_silver e_fresh e_texts e_tape e_tapeCount e_z e_waiting e_waitingCount L tx tst (-1000000004 : Int32) r_5 errors_6 hf_7) (cwV 1 hts gX11_tell_X11_refused rfl rfl rfl (by decide +kernel) ⟨Nat.le_of_ble_eq_true rfl, Nat.le_of_ble_eq_true rfl⟩) (pvV hE hK hS sb (va_recv hK hP (ci := 11) (q0 := 0) rfl rfl)) rfl rfl hv.1 rfl (lv_room (Nat.le_of_ble_eq_true rfl)) dX11_tell_15 ⟨Nat.le_of_ble_eq_true rfl, Nat.le_of_ble_eq_true rfl⟩) hS sb (Jn.same sb) (fun H locs hP hD hS => ?_)
    have hP : va_P D vwCl (wX cA xd vd sd nd hd td ed kd images errors_6 fewest vspoon vmark vcount vbodies sbits slens snum h_weight h_known h_hour h_swS h_swW h_waS h_spoons h_kind h_mark h_silver h_fresh h_texts h_tape h_tapeCount h_z h_waiting h_waitingCount t_weight t_known t_hour t_swS t_swW t_waS t_spoons t_kind t_mark t_silver t_fresh t_texts t_tape t_tapeCount t_z t_waiting t_waitingCount e_weight e_known e_hour e_swS e_swW e_waS e_spoons e_kind e_mark e_silver e_fresh e_texts e_tape e_tapeCount e_z e_waiting e_waitingCount L tx tst) H := hP
    have hD : va_D A (wX cA xd vd sd nd hd td ed kd images errors_6 fewest vspoon vmark vcount vbodies sbits slens snum h_weight h_known h_hour h_swS h_swW h_waS h_spoons h_kind h_mark h_silver h_fresh h_texts h_tape h_tapeCount h_z h_waiting h_waitingCount t_weight t_known t_hour t_swS t_swW t_waS t_spoons t_kind t_mark t_silver t_fresh t_texts t_tape t_tapeCount t_z t_waiting t_waitingCount e_weight e_known e_hour e_swS e_swW e_waS e_spoons e_kind e_mark e_silver e_fresh e_texts e_tape e_tapeCount e_z e_waiting e_waitingCount L tx tst) := hD
    have h := Option.some.inj h
    have ee0 : r_5 = rR := congrArg (fun q => q.1) h
    have ee1 : errors_6 = errorsR := congrArg (fun q => q.2.1) h
    have ee2 : h_waiting = h_waitingR := congrArg (fun q => q.2.2.1) h
    have ee3 : h_waitingCount = h_waitingCountR := congrArg (fun q => q.2.2.2) h
    subst ee0
    subst ee1
    subst ee2
    subst ee3
    rw [← hQ]
    exact retI hx hb hr hlk hK hP hD hS dX11_tell_18 ⟨Nat.le_of_ble_eq_true rfl, Nat.le_of_ble_eq_true rfl⟩

def fX11_check (h_weight : Nat → Int32) (h_known : Int32) (h_hour : Int32) (h_swS : Nat → Int32) (h_swW : Nat → Int32) (h_waS : Nat → Int32) (h_spoons : Int32) (h_kind : Nat → Int32) (h_mark : Nat → Int32) (h_silver : Nat → Int32) (h_fresh : Nat → Int64) (h_texts : Nat → Option Nat) (h_waiting : Nat → Int32) (h_waitingCount : Int32) (t_weight : Nat → Int32) (t_known : Int32) (t_hour : Int32) (t_swS : Nat → Int32) (t_swW : Nat → Int32) (t_waS : Nat → Int32) (t_spoons : Int32) (t_kind : Nat → Int32) (t_mark : Nat → Int32) (t_silver : Nat → Int32) (t_fresh : Nat → Int64) (t_texts : Nat → Option Nat) (L : List Nat) (tx : Nat → TXc) (tst : Nat → Nat → Int32) : Option (Int32 × Int32 × (Nat → Int32) × Int32 × Int32 × (Nat → Int32) × (Nat → Int32) × (Nat → Int32) × Int32 × (Nat → Int32) × (Nat → Int32) × (Nat → Int32) × (Nat → Int64) × (Nat → Option Nat) × (Nat → Nat → Int32)) :=
  bd (fX3_follow t_weight t_known t_hour t_swS t_swW t_waS t_spoons t_kind t_mark t_silver t_fresh t_texts h_weight h_known h_hour h_swS h_swW h_waS h_spoons h_kind h_mark h_silver h_fresh h_texts L) fun (t_weight_1, t_known_2, t_hour_3, t_swS_4, t_swW_5, t_waS_6, t_spoons_7, t_kind_8, t_mark_9, t_silver_10, t_fresh_11, t_texts_12) => bd (fX3_unlikeSpreads 20 h_waitingCount t_weight_1 t_known_2 t_hour_3 t_swS_4 t_swW_5 t_waS_6 t_spoons_7 t_kind_8 t_mark_9 t_silver_10 t_fresh_11 t_texts_12 h_waiting L tx tst) fun (r_14, t_known_15, t_hour_16, t_silver_17, t_fresh_18, tst_19) => some ((r_14 + (1 : Int32)), (0 : Int32), t_weight_1, t_known_15, t_hour_16, t_swS_4, t_swW_5, t_waS_6, t_spoons_7, t_kind_8, t_mark_9, t_silver_17, t_fresh_18, t_texts_12, tst_19)
set_option maxHeartbeats 4000000 in
set_option maxRecDepth 100000 in
theorem c_X11_check (l : Launch) (G : Nat → Nat) (D : va_G) (cA : Nat → ClassId) (xd : Nat → Nat) (vd : Nat → Nat) (sd : Nat → Nat) (nd : Nat → Nat) (hd : Nat → Nat) (td : Nat → Nat) (ed : Nat → Nat) (kd : Nat → Nat) (sz : Nat) (images : Int32) (errors : Nat → Int32) (fewest : Nat → Int32) (vspoon : Int32) (vmark : Int32) (vcount : Int32) (vbodies : Nat → Int32) (sbits : Nat → Int32) (slens : Nat → Int32) (snum : Nat → Nat → Int32) (h_weight : Nat → Int32) (h_known : Int32) (h_hour : Int32) (h_swS : Nat → Int32) (h_swW : Nat → Int32) (h_waS : Nat → Int32) (h_spoons : Int32) (h_kind : Nat → Int32) (h_mark : Nat → Int32) (h_silver : Nat → Int32) (h_fresh : Nat → Int64) (h_texts : Nat → Option Nat) (h_tape : Nat → Int32) (h_tapeCount : Int32) (h_z : Int32) (h_waiting : Nat → Int32) (h_waitingCount : Int32) (t_weight : Nat → Int32) (t_known : Int32) (t_hour : Int32) (t_swS : Nat → Int32) (t_swW : Nat → Int32) (t_waS : Nat → Int32) (t_spoons : Int32) (t_kind : Nat → Int32) (t_mark : Nat → Int32) (t_silver : Nat → Int32) (t_fresh : Nat → Int64) (t_texts : Nat → Option Nat) (t_tape : Nat → Int32) (t_tapeCount : Int32) (t_z : Int32) (t_waiting : Nat → Int32) (t_waitingCount : Int32) (e_weight : Nat → Int32) (e_known : Int32) (e_hour : Int32) (e_swS : Nat → Int32) (e_swW : Nat → Int32) (e_waS : Nat → Int32) (e_spoons : Int32) (e_kind : Nat → Int32) (e_mark : Nat → Int32) (e_silver : Nat → Int32) (e_fresh : Nat → Int64) (e_texts : Nat → Option Nat) (e_tape : Nat → Int32) (e_tapeCount : Int32) (e_z : Int32) (e_waiting : Nat → Int32) (e_waitingCount : Int32) (L : List Nat) (tx : Nat → TXc) (tst : Nat → Nat → Int32) (rR : Int32) (h_waitingCountR : Int32) (t_weightR : Nat → Int32) (t_knownR : Int32) (t_hourR : Int32) (t_swSR : Nat → Int32) (t_swWR : Nat → Int32) (t_waSR : Nat → Int32) (t_spoonsR : Int32) (t_kindR : Nat → Int32) (t_markR : Nat → Int32) (t_silverR : Nat → Int32) (t_freshR : Nat → Int64) (t_textsR : Nat → Option Nat) (tstR : Nat → Nat → Int32) (h : fX11_check h_weight h_known h_hour h_swS h_swW h_waS h_spoons h_kind h_mark h_silver h_fresh h_texts h_waiting h_waitingCount t_weight t_known t_hour t_swS t_swW t_waS t_spoons t_kind t_mark t_silver t_fresh t_texts L tx tst = some (rR, h_waitingCountR, t_weightR, t_knownR, t_hourR, t_swSR, t_swWR, t_waSR, t_spoonsR, t_kindR, t_markR, t_silverR, t_freshR, t_textsR, tstR)) : Met l yX11_check wsX11_check ({ frames := 7, cells := 0, slots := 0, locals := 164 } : Room) (PW G D (tyC cA) sz (wX cA xd vd sd nd hd td ed kd images errors fewest vspoon vmark vcount vbodies sbits slens snum h_weight h_known h_hour h_swS h_swW h_waS h_spoons h_kind h_mark h_silver h_fresh h_texts h_tape h_tapeCount h_z h_waiting h_waitingCount t_weight t_known t_hour t_swS t_swW t_waS t_spoons t_kind t_mark t_silver t_fresh t_texts t_tape t_tapeCount t_z t_waiting t_waitingCount e_weight e_known e_hour e_swS e_swW e_waS e_spoons e_kind e_mark e_silver e_fresh e_texts e_tape e_tapeCount e_z e_waiting e_waitingCount L tx tst) [.ref (xd 0)]) (QI D (tyC cA) (va_A (wX cA xd vd sd nd hd td ed kd images errors fewest vspoon vmark vcount vbodies sbits slens snum h_weight h_known h_hour h_swS h_swW h_waS h_spoons h_kind h_mark h_silver h_fresh h_texts h_tape h_tapeCount h_z h_waiting h_waitingCount t_weight t_known t_hour t_swS t_swW t_waS t_spoons t_kind t_mark t_silver t_fresh t_texts t_tape t_tapeCount t_z t_waiting t_waitingCount e_weight e_known e_hour e_swS e_swW e_waS e_spoons e_kind e_mark e_silver e_fresh e_texts e_tape e_tapeCount e_z e_waiting e_waitingCount L tx tst) sz) rR (wX cA xd vd sd nd hd td ed kd images errors fewest vspoon vmark vcount vbodies sbits slens snum h_weight h_known h_hour h_swS h_swW h_waS h_spoons h_kind h_mark h_silver h_fresh h_texts h_tape h_tapeCount h_z h_waiting h_waitingCountR t_weightR t_knownR t_hourR t_swSR t_swWR t_waSR t_spoonsR t_kindR t_markR t_silverR t_freshR t_textsR t_tape t_tapeCount t_z t_waiting t_waitingCount e_weight e_known e_hour e_swS e_swW e_waS e_spoons e_kind e_mark e_silver e_fresh e_texts e_tape e_tapeCount e_z e_waiting e_waitingCount L tx tstR)) 0 0 (va_A (wX cA xd vd sd nd hd td ed kd images errors fewest vspoon vmark vcount vbodies sbits slens snum h_weight h_known h_hour h_swS h_swW h_waS h_spoons h_kind h_mark h_silver h_fresh h_texts h_tape h_tapeCount h_z h_waiting h_waitingCount t_weight t_known t_hour t_swS t_swW t_waS t_spoons t_kind t_mark t_silver t_fresh t_texts t_tape t_tapeCount t_z t_waiting t_waitingCount e_weight e_known e_hour e_swS e_swW e_waS e_spoons e_kind e_mark e_silver e_fresh e_texts e_tape e_tapeCount e_z e_waiting e_waitingCount L tx tst) sz) := by
  refine ent (cc := cX11_check) (maxL := 2) (ret := (some .int)) (fun A => QI D (tyC cA) A rR (wX cA xd vd sd nd hd td ed kd images errors fewest vspoon vmark vcount vbodies sbits slens snum h_weight h_known h_hour h_swS h_swW h_waS h_spoons h_kind h_mark h_silver h_fresh h_texts h_tape h_tapeCount h_z h_waiting h_waitingCountR t_weightR t_knownR t_hourR t_swSR t_swWR t_waSR t_spoonsR t_kindR t_markR t_silverR t_freshR t_textsR t_tape t_tapeCount t_z t_waiting t_waitingCount e_weight e_known e_hour e_swS e_swW e_waS e_spoons e_kind e_mark e_silver e_fresh e_texts e_tape e_tapeCount e_z e_waiting e_waitingCount L tx tstR)) (by decide +kernel) rfl (Nat.le_of_ble_eq_true rfl) ?_
  intro p e s m args below meth c A ls H hx hb hml hr hlk hts hown hA hK hE hP hD hS hv hmm
  have hv : lv_has ls 2 [(0, .ref (xd 0))] := hv
  have in_3 : ∀ w ∈ u_ws RX3 TX3 18, w ∈ wsX11_check := fun _ h => List.mem_cons_of_mem _ (List.mem_append_left _ (List.mem_append_right _ h))
  have in_11 : ∀ w ∈ u_ws RX11 TX11 9, w ∈ wsX11_check := fun _ h => List.mem_cons_of_mem _ (List.mem_append_left _ (List.mem_append_left _ (List.mem_append_right _ h)))
  have w_0 := hts (.fieldLink RX11 43 "SpoonsLast" "thought" "LSpoonsLast$House;") (List.mem_of_getElem? (i := 1) rfl)
  have w_1 := hts (.fieldLink RX11 39 "SpoonsLast" "house" "LSpoonsLast$House;") (List.mem_of_getElem? (i := 2) rfl)
  have w_2 := hts (.fieldLink RX11 297 "SpoonsLast$House" "waiting" "[I") (List.mem_of_getElem? (i := 3) rfl)
  have w_3 := hts (.fieldLink RX11 294 "SpoonsLast$House" "waitingCount" "I") (List.mem_of_getElem? (i := 4) rfl)
  generalize hQ : MQ below _ args s 0 0 A = Q
  have hP : va_P D vwCl (wX cA xd vd sd nd hd td ed kd images errors fewest vspoon vmark vcount vbodies sbits slens snum h_weight h_known h_hour h_swS h_swW h_waS h_spoons h_kind h_mark h_silver h_fresh h_texts h_tape h_tapeCount h_z h_waiting h_waitingCount t_weight t_known t_hour t_swS t_swW t_waS t_spoons t_kind t_mark t_silver t_fresh t_texts t_tape t_tapeCount t_z t_waiting t_waitingCount e_weight e_known e_hour e_swS e_swW e_waS e_spoons e_kind e_mark e_silver e_fresh e_texts e_tape e_tapeCount e_z e_waiting e_waitingCount L tx tst) H := hP
  unfold fX11_check at h
  refine lv_aload_n hx hb dX11_check_0 rfl (lv_at hv 0 rfl) ?_
  refine va_get (D := D) (ci := 11) (v := .ref (td 0)) (C := RX11) (T := TX11) (N := 9) hx hb hts in_11 hown hK hP 0 rfl rfl 1 (by decide) w_0 (fun _ h9 => h9) rfl dX11_check_1 ?_
  refine lv_aload_n hx hb dX11_check_4 rfl (lv_at hv 0 rfl) ?_
  refine va_get (D := D) (ci := 11) (v := .ref (hd 0)) (C := RX11) (T := TX11) (N := 9) hx hb hts in_11 hown hK hP 0 rfl rfl 0 (by decide) w_1 (fun _ h9 => h9) rfl dX11_check_5 ?_
  obtain ⟨⟨t_weight_1, t_known_2, t_hour_3, t_swS_4, t_swW_5, t_waS_6, t_spoons_7, t_kind_8, t_mark_9, t_silver_10, t_fresh_11, t_texts_12⟩, hf_13, h⟩ := bd_ex h
  have sb : Sb D A H (wHH cA td hd kd t_weight t_known t_hour t_swS t_swW t_waS t_spoons t_kind t_mark t_silver t_fresh t_texts t_tape t_tapeCount t_z t_waiting t_waitingCount h_weight h_known h_hour h_swS h_swW h_waS h_spoons h_kind h_mark h_silver h_fresh h_texts h_tape h_tapeCount h_z h_waiting h_waitingCount L tx tst) := sbXth hP hD hS hA
  refine calV (va_runV (As := [.ref (hd 0)]) (rest := []) ⟨hx, hb, hml, hown, hts⟩ (c_X3_follow l G D cA td hd kd _ t_weight t_known t_hour t_swS t_swW t_waS t_spoons t_kind t_mark t_silver t_fresh t_texts t_tape t_tapeCount t_z t_waiting t_waitingCount h_weight h_known h_hour h_swS h_swW h_waS h_spoons h_kind h_mark h_silver h_fresh h_texts h_tape h_tapeCount h_z h_waiting h_waitingCount L tx tst t_weight_1 t_known_2 t_hour_3 t_swS_4 t_swW_5 t_waS_6 t_spoons_7 t_kind_8 t_mark_9 t_silver_10 t_fresh_11 t_texts_12 hf_13) (cwV 1 hts gX11_check_X3_follow rfl rfl rfl (by decide +kernel) ⟨Nat.le_of_ble_eq_true rfl, Nat.le_of_ble_eq_true rfl⟩) (pvV hE hK hS sb (va_recv hK hP (ci := 3) (q0 := 26) rfl rfl)) rfl rfl hv.1 rfl (lv_room (Nat.le_of_ble_eq_true rfl)) dX11_check_8 ⟨Nat.le_of_ble_eq_true rfl, Nat.le_of_ble_eq_true rfl⟩) hS sb (jnXth hP hD) (fun H locs hP hD hS => ?_)
  have hP : va_P D vwCl (wX cA xd vd sd nd hd td ed kd images errors fewest vspoon vmark vcount vbodies sbits slens snum h_weight h_known h_hour h_swS h_swW h_waS h_spoons h_kind h_mark h_silver h_fresh h_texts h_tape h_tapeCount h_z h_waiting h_waitingCount t_weight_1 t_known_2 t_hour_3 t_swS_4 t_swW_5 t_waS_6 t_spoons_7 t_kind_8 t_mark_9 t_silver_10 t_fresh_11 t_texts_12 t_tape t_tapeCount t_z t_waiting t_waitingCount e_weight e_known e_hour e_swS e_swW e_waS e_spoons e_kind e_mark e_silver e_fresh e_texts e_tape e_tapeCount e_z e_waiting e_waitingCount L tx tst) H := hP
  have hD : va_D A (wX cA xd vd sd nd hd td ed kd images errors fewest vspoon vmark vcount vbodies sbits slens snum h_weight h_known h_hour h_swS h_swW h_waS h_spoons h_kind h_mark h_silver h_fresh h_texts h_tape h_tapeCount h_z h_waiting h_waitingCount t_weight_1 t_known_2 t_hour_3 t_swS_4 t_swW_5 t_waS_6 t_spoons_7 t_kind_8 t_mark_9 t_silver_10 t_fresh_11 t_texts_12 t_tape t_tapeCount t_z t_waiting t_waitingCount e_weight e_known e_hour e_swS e_swW e_waS e_spoons e_kind e_mark e_silver e_fresh e_texts e_tape e_tapeCount e_z e_waiting e_waitingCount L tx tst) := hD
  refine lv_aload_n hx hb dX11_check_11 rfl (lv_at hv 0 rfl) ?_
  refine va_get (D := D) (ci := 11) (v := .ref (td 0)) (C := RX11) (T := TX11) (N := 9) hx hb hts in_11 hown hK hP 0 rfl rfl 1 (by decide) w_0 (fun _ h9 => h9) rfl dX11_check_12 ?_
  refine lv_aload_n hx hb dX11_check_15 rfl (lv_at hv 0 rfl) ?_
  refine va_get (D := D) (ci := 11) (v := .ref (hd 0)) (C := RX11) (T := TX11) (N := 9) hx hb hts in_11 hown hK hP 0 rfl rfl 0 (by decide) w_1 (fun _ h9 => h9) rfl dX11_check_16 ?_
  refine va_get (D := D) (ci := 3) (v := .ref (hd 17)) (C := RX3) (T := TX3) (N := 18) hx hb hts in_3 hown hK hP 14 rfl rfl 16 (by decide) w_2 (fun _ h9 => h9) rfl dX11_check_19 ?_
  refine lv_aload_n hx hb dX11_check_22 rfl (lv_at hv 0 rfl) ?_
  refine va_get (D := D) (ci := 11) (v := .ref (hd 0)) (C := RX11) (T := TX11) (N := 9) hx hb hts in_11 hown hK hP 0 rfl rfl 0 (by decide) w_1 (fun _ h9 => h9) rfl dX11_check_23 ?_
  refine va_get (D := D) (ci := 3) (v := .int h_waitingCount) (C := RX3) (T := TX3) (N := 18) hx hb hts in_3 hown hK hP 14 rfl rfl 17 (by decide) w_3 (fun _ h9 => h9) rfl dX11_check_26 ?_
  obtain ⟨⟨r_14, t_known_15, t_hour_16, t_silver_17, t_fresh_18, tst_19⟩, hf_20, h⟩ := bd_ex h
  have sb : Sb D A H (wHA cA td kd (hd 17) 20 t_weight_1 t_known_2 t_hour_3 t_swS_4 t_swW_5 t_waS_6 t_spoons_7 t_kind_8 t_mark_9 t_silver_10 t_fresh_11 t_texts_12 t_tape t_tapeCount t_z t_waiting t_waitingCount h_waiting L tx tst) := sbHAW hP hD hS hA
  refine calI (va_runV (As := [.ref (hd 17), .int h_waitingCount]) (rest := []) ⟨hx, hb, hml, hown, hts⟩ (c_X3_unlikeSpreads l G D cA td kd (hd 17) 20 _ t_weight_1 t_known_2 t_hour_3 t_swS_4 t_swW_5 t_waS_6 t_spoons_7 t_kind_8 t_mark_9 t_silver_10 t_fresh_11 t_texts_12 t_tape t_tapeCount t_z t_waiting t_waitingCount h_waiting L tx tst h_waitingCount r_14 t_known_15 t_hour_16 t_silver_17 t_fresh_18 tst_19 hf_20) (cwV 2 hts gX11_check_X3_unlikeSpreads rfl rfl rfl (by decide +kernel) ⟨Nat.le_of_ble_eq_true rfl, Nat.le_of_ble_eq_true rfl⟩) (pvV hE hK hS sb (va_recv hK hP (ci := 3) (q0 := 26) rfl rfl)) rfl rfl hv.1 rfl (lv_room (Nat.le_of_ble_eq_true rfl)) dX11_check_29 ⟨Nat.le_of_ble_eq_true rfl, Nat.le_of_ble_eq_true rfl⟩) hS sb (jnHAW hP hD) (fun H locs hP hD hS => ?_)
  have hP : va_P D vwCl (wX cA xd vd sd nd hd td ed kd images errors fewest vspoon vmark vcount vbodies sbits slens snum h_weight h_known h_hour h_swS h_swW h_waS h_spoons h_kind h_mark h_silver h_fresh h_texts h_tape h_tapeCount h_z h_waiting h_waitingCount t_weight_1 t_known_15 t_hour_16 t_swS_4 t_swW_5 t_waS_6 t_spoons_7 t_kind_8 t_mark_9 t_silver_17 t_fresh_18 t_texts_12 t_tape t_tapeCount t_z t_waiting t_waitingCount e_weight e_known e_hour e_swS e_swW e_waS e_spoons e_kind e_mark e_silver e_fresh e_texts e_tape e_tapeCount e_z e_waiting e_waitingCount L tx tst_19) H := hP
  have hD : va_D A (wX cA xd vd sd nd hd td ed kd images errors fewest vspoon vmark vcount vbodies sbits slens snum h_weight h_known h_hour h_swS h_swW h_waS h_spoons h_kind h_mark h_silver h_fresh h_texts h_tape h_tapeCount h_z h_waiting h_waitingCount t_weight_1 t_known_15 t_hour_16 t_swS_4 t_swW_5 t_waS_6 t_spoons_7 t_kind_8 t_mark_9 t_silver_17 t_fresh_18 t_texts_12 t_tape t_tapeCount t_z t_waiting t_waitingCount e_weight e_known e_hour e_swS e_swW e_waS e_spoons e_kind e_mark e_silver e_fresh e_texts e_tape e_tapeCount e_z e_waiting e_waitingCount L tx tst_19) := hD
  refine lv_istore_n (lv' := [(1, .int r_14), (0, .ref (xd 0))]) hx hb dX11_check_32 rfl hv (by decide) rfl (fun ls hv => ?_)
  refine lv_aload_n hx hb dX11_check_33 rfl (lv_at hv 1 rfl) ?_
  refine va_get (D := D) (ci := 11) (v := .ref (hd 0)) (C := RX11) (T := TX11) (N := 9) hx hb hts in_11 hown hK hP 0 rfl rfl 0 (by decide) w_1 (fun _ h9 => h9) rfl dX11_check_34 ?_
  refine lv_iconst (v := (0 : Int32)) hx hb dX11_check_37 (by decide) ?_
  refine va_put (D := D) (ci := 3) (v := .int (0 : Int32)) (ty := .int) (C := RX3) (T := TX3) (N := 18) hx hb hts in_3 tyX3 tyX3_ok nmX3 hown hK hP hD hS 14 rfl rfl 17 (by decide) w_3 (fun _ h9 => h9) rfl (by decide +kernel) rfl rfl (Nat.le_of_ble_eq_true rfl) dX11_check_38 (fun H locs hP hD hS => ?_)
  have hP : va_P D vwCl (wX cA xd vd sd nd hd td ed kd images errors fewest vspoon vmark vcount vbodies sbits slens snum h_weight h_known h_hour h_swS h_swW h_waS h_spoons h_kind h_mark h_silver h_fresh h_texts h_tape h_tapeCount h_z h_waiting (0 : Int32) t_weight_1 t_known_15 t_hour_16 t_swS_4 t_swW_5 t_waS_6 t_spoons_7 t_kind_8 t_mark_9 t_silver_17 t_fresh_18 t_texts_12 t_tape t_tapeCount t_z t_waiting t_waitingCount e_weight e_known e_hour e_swS e_swW e_waS e_spoons e_kind e_mark e_silver e_fresh e_texts e_tape e_tapeCount e_z e_waiting e_waitingCount L tx tst_19) H := hP
  have hD : va_D A (wX cA xd vd sd nd hd td ed kd images errors fewest vspoon vmark vcount vbodies sbits slens snum h_weight h_known h_hour h_swS h_swW h_waS h_spoons h_kind h_mark h_silver h_fresh h_texts h_tape h_tapeCount h_z h_waiting (0 : Int32) t_weight_1 t_known_15 t_hour_16 t_swS_4 t_swW_5 t_waS_6 t_spoons_7 t_kind_8 t_mark_9 t_silver_17 t_fresh_18 t_texts_12 t_tape t_tapeCount t_z t_waiting t_waitingCount e_weight e_known e_hour e_swS e_swW e_waS e_spoons e_kind e_mark e_silver e_fresh e_texts e_tape e_tapeCount e_z e_waiting e_waitingCount L tx tst_19) := hD
  refine lv_iload_n hx hb dX11_check_41 rfl (lv_at hv 0 rfl) ?_
  refine lv_iconst (v := (1 : Int32)) hx hb dX11_check_42 (by decide) ?_
  refine lv_iadd hx hb dX11_check_43 ?_
  have h := Option.some.inj h
  have ee0 : (r_14 + (1 : Int32)) = rR := congrArg (fun q => q.1) h
  have ee1 : (0 : Int32) = h_waitingCountR := congrArg (fun q => q.2.1) h
  have ee2 : t_weight_1 = t_weightR := congrArg (fun q => q.2.2.1) h
  have ee3 : t_known_15 = t_knownR := congrArg (fun q => q.2.2.2.1) h
  have ee4 : t_hour_16 = t_hourR := congrArg (fun q => q.2.2.2.2.1) h
  have ee5 : t_swS_4 = t_swSR := congrArg (fun q => q.2.2.2.2.2.1) h
  have ee6 : t_swW_5 = t_swWR := congrArg (fun q => q.2.2.2.2.2.2.1) h
  have ee7 : t_waS_6 = t_waSR := congrArg (fun q => q.2.2.2.2.2.2.2.1) h
  have ee8 : t_spoons_7 = t_spoonsR := congrArg (fun q => q.2.2.2.2.2.2.2.2.1) h
  have ee9 : t_kind_8 = t_kindR := congrArg (fun q => q.2.2.2.2.2.2.2.2.2.1) h
  have ee10 : t_mark_9 = t_markR := congrArg (fun q => q.2.2.2.2.2.2.2.2.2.2.1) h
  have ee11 : t_silver_17 = t_silverR := congrArg (fun q => q.2.2.2.2.2.2.2.2.2.2.2.1) h
  have ee12 : t_fresh_18 = t_freshR := congrArg (fun q => q.2.2.2.2.2.2.2.2.2.2.2.2.1) h
  have ee13 : t_texts_12 = t_textsR := congrArg (fun q => q.2.2.2.2.2.2.2.2.2.2.2.2.2.1) h
  have ee14 : tst_19 = tstR := congrArg (fun q => q.2.2.2.2.2.2.2.2.2.2.2.2.2.2) h
  subst ee0
  subst ee1
  subst ee2
  subst ee3
  subst ee4
  subst ee5
  subst ee6
  subst ee7
  subst ee8
  subst ee9
  subst ee10
  subst ee11
  subst ee12
  subst ee13
  subst ee14
  rw [← hQ]
  exact retI hx hb hr hlk hK hP hD hS dX11_check_44 ⟨Nat.le_of_ble_eq_true rfl, Nat.le_of_ble_eq_true rfl⟩

def fX11_count (what : Int32) (errors : Nat → Int32) (vcount : Int32) (h_weight : Nat → Int32) (h_known : Int32) (h_hour : Int32) (h_spoons : Int32) (h_silver : Nat → Int32) (h_fresh : Nat → Int64) (h_tapeCount : Int32) (h_z : Int32) (h_waitingCount : Int32) : Option (Int32 × (Nat → Int32)) :=
  (if what = (0 : Int32) then some (h_spoons, errors) else (if what = (1 : Int32) then some (h_hour, errors) else (if what = (2 : Int32) then bd (fJ6_bitCount_0f7a4 h_known) fun r_4 => some (r_4, errors) else (if what = (3 : Int32) then some (h_known, errors) else (if what = (4 : Int32) then bd (fX3_allSilver h_spoons h_silver) fun r_8 => some (r_8, errors) else (if what = (5 : Int32) then bd (fX3_weightOf (4095 : Int32) h_weight) fun r_11 => some (r_11, errors) else (if what = (6 : Int32) then bd (fX3_wordsOnAny (((1 : Int32) <<< (h_spoons &&& 31)) - (1 : Int32)) h_spoons h_fresh) fun r_14 => some (r_14, errors) else (if what = (7 : Int32) then some (h_tapeCount, errors) else (if what = (8 : Int32) then some (h_waitingCount, errors) else (if what = (9 : Int32) then some (vcount, errors) else (if what = (10 : Int32) then some (h_z, errors) else bd (fX11_refused (-1000000001 : Int32) errors) fun (r_20, errors_21) => some (r_20, errors_21))))))))))))
set_option maxHeartbeats 4000000 in
set_option maxRecDepth 100000 in
theorem c_X11_count (l : Launch) (G : Nat → Nat) (D : va_G) (cA : Nat → ClassId) (xd : Nat → Nat) (vd : Nat → Nat) (sd : Nat → Nat) (nd : Nat → Nat) (hd : Nat → Nat) (td : Nat → Nat) (ed : Nat → Nat) (kd : Nat → Nat) (sz : Nat) (images : Int32) (errors : Nat → Int32) (fewest : Nat → Int32) (vspoon : Int32) (vmark : Int32) (vcount : Int32) (vbodies : Nat → Int32) (sbits : Nat → Int32) (slens : Nat → Int32) (snum : Nat → Nat → Int32) (h_weight : Nat → Int32) (h_known : Int32) (h_hour : Int32) (h_swS : Nat → Int32) (h_swW : Nat → Int32) (h_waS : Nat → Int32) (h_spoons : Int32) (h_kind : Nat → Int32) (h_mark : Nat → Int32) (h_silver : Nat → Int32) (h_fresh : Nat → Int64) (h_texts : Nat → Option Nat) (h_tape : Nat → Int32) (h_tapeCount : Int32) (h_z : Int32) (h_waiting : Nat → Int32) (h_waitingCount : Int32) (t_weight : Nat → Int32) (t_known : Int32) (t_hour : Int32) (t_swS : Nat → Int32) (t_swW : Nat → Int32) (t_waS : Nat → Int32) (t_spoons : Int32) (t_kind : Nat → Int32) (t_mark : Nat → Int32) (t_silver : Nat → Int32) (t_fresh : Nat → Int64) (t_texts : Nat → Option Nat) (t_tape : Nat → Int32) (t_tapeCount : Int32) (t_z : Int32) (t_waiting : Nat → Int32) (t_waitingCount : Int32) (e_weight : Nat → Int32) (e_known : Int32) (e_hour : Int32) (e_swS : Nat → Int32) (e_swW : Nat → Int32) (e_waS : Nat → Int32) (e_spoons : Int32) (e_kind : Nat → Int32) (e_mark : Nat → Int32) (e_silver : Nat → Int32) (e_fresh : Nat → Int64) (e_texts : Nat → Option Nat) (e_tape : Nat → Int32) (e_tapeCount : Int32) (e_z : Int32) (e_waiting : Nat → Int32) (e_waitingCount : Int32) (L : List Nat) (tx : Nat → TXc) (tst : Nat → Nat → Int32) (what : Int32) (rR : Int32) (errorsR : Nat → Int32) (h : fX11_count what errors vcount h_weight h_known h_hour h_spoons h_silver h_fresh h_tapeCount h_z h_waitingCount = some (rR, errorsR)) : Met l yX11_count wsX11_count ({ frames := 4, cells := 0, slots := 0, locals := 90 } : Room) (PW G D (tyC cA) sz (wX cA xd vd sd nd hd td ed kd images errors fewest vspoon vmark vcount vbodies sbits slens snum h_weight h_known h_hour h_swS h_swW h_waS h_spoons h_kind h_mark h_silver h_fresh h_texts h_tape h_tapeCount h_z h_waiting h_waitingCount t_weight t_known t_hour t_swS t_swW t_waS t_spoons t_kind t_mark t_silver t_fresh t_texts t_tape t_tapeCount t_z t_waiting t_waitingCount e_weight e_known e_hour e_swS e_swW e_waS e_spoons e_kind e_mark e_silver e_fresh e_texts e_tape e_tapeCount e_z e_waiting e_waitingCount L tx tst) [.ref (xd 0), .int what]) (QI D (tyC cA) (va_A (wX cA xd vd sd nd hd td ed kd images errors fewest vspoon vmark vcount vbodies sbits slens snum h_weight h_known h_hour h_swS h_swW h_waS h_spoons h_kind h_mark h_silver h_fresh h_texts h_tape h_tapeCount h_z h_waiting h_waitingCount t_weight t_known t_hour t_swS t_swW t_waS t_spoons t_kind t_mark t_silver t_fresh t_texts t_tape t_tapeCount t_z t_waiting t_waitingCount e_weight e_known e_hour e_swS e_swW e_waS e_spoons e_kind e_mark e_silver e_fresh e_texts e_tape e_tapeCount e_z e_waiting e_waitingCount L tx tst) sz) rR (wX cA xd vd sd nd hd td ed kd images errorsR fewest vspoon vmark vcount vbodies sbits slens snum h_weight h_known h_hour h_swS h_swW h_waS h_spoons h_kind h_mark h_silver h_fresh h_texts h_tape h_tapeCount h_z h_waiting h_waitingCount t_weight t_known t_hour t_swS t_swW t_waS t_spoons t_kind t_mark t_silver t_fresh t_texts t_tape t_tapeCount t_z t_waiting t_waitingCount e_weight e_known e_hour e_swS e_swW e_waS e_spoons e_kind e_mark e_silver e_fresh e_texts e_tape e_tapeCount e_z e_waiting e_waitingCount L tx tst)) 0 0 (va_A (wX cA xd vd sd nd hd td ed kd images errors fewest vspoon vmark vcount vbodies sbits slens snum h_weight h_known h_hour h_swS h_swW h_waS h_spoons h_kind h_mark h_silver h_fresh h_texts h_tape h_tapeCount h_z h_waiting h_waitingCount t_weight t_known t_hour t_swS t_swW t_waS t_spoons t_kind t_mark t_silver t_fresh t_texts t_tape t_tapeCount t_z t_waiting t_waitingCount e_weight e_known e_hour e_swS e_swW e_waS e_spoons e_kind e_mark e_silver e_fresh e_texts e_tape e_tapeCount e_z e_waiting e_waitingCount L tx tst) sz) := by
  refine ent (cc := cX11_count) (maxL := 2) (ret := (some .int)) (fun A => QI D (tyC cA) A rR (wX cA xd vd sd nd hd td ed kd images errorsR fewest vspoon vmark vcount vbodies sbits slens snum h_weight h_known h_hour h_swS h_swW h_waS h_spoons h_kind h_mark h_silver h_fresh h_texts h_tape h_tapeCount h_z h_waiting h_waitingCount t_weight t_known t_hour t_swS t_swW t_waS t_spoons t_kind t_mark t_silver t_fresh t_texts t_tape t_tapeCount t_z t_waiting t_waitingCount e_weight e_known e_hour e_swS e_swW e_waS e_spoons e_kind e_mark e_silver e_fresh e_texts e_tape e_tapeCount e_z e_waiting e_waitingCount L tx tst)) (by decide +kernel) rfl (Nat.le_of_ble_eq_true rfl) ?_
  intro p e s m args below meth c A ls H hx hb hml hr hlk hts hown hA hK hE hP hD hS hv hmm
  have hv : lv_has ls 2 [(0, .ref (xd 0)), (1, .int what)] := hv
  have in_3 : ∀ w ∈ u_ws RX3 TX3 18, w ∈ wsX11_count := fun _ h => List.mem_cons_of_mem _ (List.mem_append_left _ (List.mem_append_right _ h))
  have in_10 : ∀ w ∈ u_ws RX10 TX10 4, w ∈ wsX11_count := fun _ h => List.mem_cons_of_mem _ (List.mem_append_right _ h)
  have in_11 : ∀ w ∈ u_ws RX11 TX11 9, w ∈ wsX11_count := fun _ h => List.mem_cons_of_mem _ (List.mem_append_left _ (List.mem_append_left _ (List.mem_append_right _ h)))
  have w_0 := hts (.fieldLink RX11 39 "SpoonsLast" "house" "LSpoonsLast$House;") (List.mem_of_getElem? (i := 1) rfl)
  have w_1 := hts (.fieldLink RX11 111 "SpoonsLast$House" "spoons" "I") (List.mem_of_getElem? (i := 2) rfl)
  have w_2 := hts (.fieldLink RX11 178 "SpoonsLast$House" "hour" "I") (List.mem_of_getElem? (i := 3) rfl)
  have w_3 := hts (.fieldLink RX11 86 "SpoonsLast$House" "known" "I") (List.mem_of_getElem? (i := 4) rfl)
  have w_4 := hts (.fieldLink RX11 149 "SpoonsLast$House" "tapeCount" "I") (List.mem_of_getElem? (i := 5) rfl)
  have w_5 := hts (.fieldLink RX11 294 "SpoonsLast$House" "waitingCount" "I") (List.mem_of_getElem? (i := 6) rfl)
  have w_6 := hts (.fieldLink RX11 52 "SpoonsLast" "voice" "LSpoonsLast$Voice;") (List.mem_of_getElem? (i := 7) rfl)
  have w_7 := hts (.fieldLink RX11 263 "SpoonsLast$Voice" "count" "I") (List.mem_of_getElem? (i := 8) rfl)
  have w_8 := hts (.fieldLink RX11 243 "SpoonsLast$House" "z" "I") (List.mem_of_getElem? (i := 9) rfl)
  have w_9 := hts (.constant RX11 78 (-1000000001)) (List.mem_of_getElem? (i := 10) rfl)
  generalize hQ : MQ below _ args s 0 0 A = Q
  have hP : va_P D vwCl (wX cA xd vd sd nd hd td ed kd images errors fewest vspoon vmark vcount vbodies sbits slens snum h_weight h_known h_hour h_swS h_swW h_waS h_spoons h_kind h_mark h_silver h_fresh h_texts h_tape h_tapeCount h_z h_waiting h_waitingCount t_weight t_known t_hour t_swS t_swW t_waS t_spoons t_kind t_mark t_silver t_fresh t_texts t_tape t_tapeCount t_z t_waiting t_waitingCount e_weight e_known e_hour e_swS e_swW e_waS e_spoons e_kind e_mark e_silver e_fresh e_texts e_tape e_tapeCount e_z e_waiting e_waitingCount L tx tst) H := hP
  unfold fX11_count at h
  refine lv_iload_n hx hb dX11_count_0 rfl (lv_at hv 1 rfl) ?_
  by_cases c_1 : what = (0 : Int32)
  · refine lv_tableIn (tgt := 60) (off := 59) hx hb dX11_count_1 (by rw [c_1]; decide) (by rw [c_1]; decide) (by rw [c_1]; rfl) (by decide) ?_
    have h := ite_t c_1 h
    refine lv_aload_n hx hb dX11_count_60 rfl (lv_at hv 0 rfl) ?_
    refine va_get (D := D) (ci := 11) (v := .ref (hd 0)) (C := RX11) (T := TX11) (N := 9) hx hb hts in_11 hown hK hP 0 rfl rfl 0 (by decide) w_0 (fun _ h9 => h9) rfl dX11_count_61 ?_
    refine va_get (D := D) (ci := 3) (v := .int h_spoons) (C := RX3) (T := TX3) (N := 18) hx hb hts in_3 hown hK hP 14 rfl rfl 7 (by decide) w_1 (fun _ h9 => h9) rfl dX11_count_64 ?_
    have h := Option.some.inj h
    have ee0 : h_spoons = rR := congrArg (fun q => q.1) h
    have ee1 : errors = errorsR := congrArg (fun q => q.2) h
    subst ee0
    subst ee1
    rw [← hQ]
    exact retI hx hb hr hlk hK hP hD hS dX11_count_67 ⟨Nat.le_of_ble_eq_true rfl, Nat.le_of_ble_eq_true rfl⟩
  have h := ite_f c_1 h
  by_cases c_2 : what = (1 : Int32)
  · refine lv_tableIn (tgt := 68) (off := 67) hx hb dX11_count_1 (by rw [c_2]; decide) (by rw [c_2]; decide) (by rw [c_2]; rfl) (by decide) ?_
    have h := ite_t c_2 h
    refine lv_aload_n hx hb dX11_count_68 rfl (lv_at hv 0 rfl) ?_
    refine va_get (D := D) (ci := 11) (v := .ref (hd 0)) (C := RX11) (T := TX11) (N := 9) hx hb hts in_11 hown hK hP 0 rfl rfl 0 (by decide) w_0 (fun _ h9 => h9) rfl dX11_count_69 ?_
    refine va_get (D := D) (ci := 3) (v := .int h_hour) (C := RX3) (T := TX3) (N := 18) hx hb hts in_3 hown hK hP 14 rfl rfl 3 (by decide) w_2 (fun _ h9 => h9) rfl dX11_count_72 ?_
    have h := Option.some.inj h
    have ee0 : h_hour = rR := congrArg (fun q => q.1) h
    have ee1 : errors = errorsR := congrArg (fun q => q.2) h
    subst ee0
    subst ee1
    rw [← hQ]
    exact retI hx hb hr hlk hK hP hD hS dX11_count_75 ⟨Nat.le_of_ble_eq_true rfl, Nat.le_of_ble_eq_true rfl⟩
  have h := ite_f c_2 h
  by_cases c_3 : what = (2 : Int32)
  · refine lv_tableIn (tgt := 76) (off := 75) hx hb dX11_count_1 (by rw [c_3]; decide) (by rw [c_3]; decide) (by rw [c_3]; rfl) (by decide) ?_
    have h := ite_t c_3 h
    refine lv_aload_n hx hb dX11_count_76 rfl (lv_at hv 0 rfl) ?_
    refine va_get (D := D) (ci := 11) (v := .ref (hd 0)) (C := RX11) (T := TX11) (N := 9) hx hb hts in_11 hown hK hP 0 rfl rfl 0 (by decide) w_0 (fun _ h9 => h9) rfl dX11_count_77 ?_
    refine va_get (D := D) (ci := 3) (v := .int h_known) (C := RX3) (T := TX3) (N := 18) hx hb hts in_3 hown hK hP 14 rfl rfl 2 (by decide) w_3 (fun _ h9 => h9) rfl dX11_count_80 ?_
    obtain ⟨r_4, hf_5, h⟩ := bd_ex h
    have sb := Sb.nil hP hD hS hA
    refine calI (va_runS (As := [.int h_known]) (rest := []) ⟨hx, hb, hml, hown, hts⟩ (c_J6_bitCount_0f7a4 l G D cA  _ h_known r_4 hf_5) (va_cwS 1 hts gX11_count_J6_bitCount_0f7a4 rfl rfl rfl (by decide +kernel) ⟨Nat.le_of_ble_eq_true rfl, Nat.le_of_ble_eq_true rfl⟩) (pvS hE hK hS sb) rfl rfl hv.1 rfl (lv_room (Nat.le_of_ble_eq_true rfl)) dX11_count_83 ⟨Nat.le_of_ble_eq_true rfl, Nat.le_of_ble_eq_true rfl⟩) hS sb (Jn.nil hP hD) (fun H locs hP hD hS => ?_)
    have hP : va_P D vwCl (wX cA xd vd sd nd hd td ed kd images errors fewest vspoon vmark vcount vbodies sbits slens snum h_weight h_known h_hour h_swS h_swW h_waS h_spoons h_kind h_mark h_silver h_fresh h_texts h_tape h_tapeCount h_z h_waiting h_waitingCount t_weight t_known t_hour t_swS t_swW t_waS t_spoons t_kind t_mark t_silver t_fresh t_texts t_tape t_tapeCount t_z t_waiting t_waitingCount e_weight e_known e_hour e_swS e_swW e_waS e_spoons e_kind e_mark e_silver e_fresh e_texts e_tape e_tapeCount e_z e_waiting e_waitingCount L tx tst) H := hP
    have hD : va_D A (wX cA xd vd sd nd hd td ed kd images errors fewest vspoon vmark vcount vbodies sbits slens snum h_weight h_known h_hour h_swS h_swW h_waS h_spoons h_kind h_mark h_silver h_fresh h_texts h_tape h_tapeCount h_z h_waiting h_waitingCount t_weight t_known t_hour t_swS t_swW t_waS t_spoons t_kind t_mark t_silver t_fresh t_texts t_tape t_tapeCount t_z t_waiting t_waitingCount e_weight e_known e_hour e_swS e_swW e_waS e_spoons e_kind e_mark e_silver e_fresh e_texts e_tape e_tapeCount e_z e_waiting e_waitingCount L tx tst) := hD
    have h := Option.some.inj h
    have ee0 : r_4 = rR := congrArg (fun q => q.1) h
    have ee1 : errors = errorsR := congrArg (fun q => q.2) h
    subst ee0
    subst ee1
    rw [← hQ]
    exact retI hx hb hr hlk hK hP hD hS dX11_count_86 ⟨Nat.le_of_ble_eq_true rfl, Nat.le_of_ble_eq_true rfl⟩
  have h := ite_f c_3 h
  by_cases c_6 : what = (3 : Int32)
  · refine lv_tableIn (tgt := 87) (off := 86) hx hb dX11_count_1 (by rw [c_6]; decide) (by rw [c_6]; decide) (by rw [c_6]; rfl) (by decide) ?_
    have h := ite_t c_6 h
    refine lv_aload_n hx hb dX11_count_87 rfl (lv_at hv 0 rfl) ?_
    refine va_get (D := D) (ci := 11) (v := .ref (hd 0)) (C := RX11) (T := TX11) (N := 9) hx hb hts in_11 hown hK hP 0 rfl rfl 0 (by decide) w_0 (fun _ h9 => h9) rfl dX11_count_88 ?_
    refine va_get (D := D) (ci := 3) (v := .int h_known) (C := RX3) (T := TX3) (N := 18) hx hb hts in_3 hown hK hP 14 rfl rfl 2 (by decide) w_3 (fun _ h9 => h9) rfl dX11_count_91 ?_
    have h := Option.some.inj h
    have ee0 : h_known = rR := congrArg (fun q => q.1) h
    have ee1 : errors = errorsR := congrArg (fun q => q.2) h
    subst ee0
    subst ee1
    rw [← hQ]
    exact retI hx hb hr hlk hK hP hD hS dX11_count_94 ⟨Nat.le_of_ble_eq_true rfl, Nat.le_of_ble_eq_true rfl⟩
  have h := ite_f c_6 h
  by_cases c_7 : what = (4 : Int32)
  · refine lv_tableIn (tgt := 95) (off := 94) hx hb dX11_count_1 (by rw [c_7]; decide) (by rw [c_7]; decide) (by rw [c_7]; rfl) (by decide) ?_
    have h := ite_t c_7 h
    refine lv_aload_n hx hb dX11_count_95 rfl (lv_at hv 0 rfl) ?_
    refine va_get (D := D) (ci := 11) (v := .ref (hd 0)) (C := RX11) (T := TX11) (N := 9) hx hb hts in_11 hown hK hP 0 rfl rfl 0 (by decide) w_0 (fun _ h9 => h9) rfl dX11_count_96 ?_
    obtain ⟨r_8, hf_9, h⟩ := bd_ex h
    have sb : Sb D A H (wH cA hd kd h_weight h_known h_hour h_swS h_swW h_waS h_spoons h_kind h_mark h_silver h_fresh h_texts h_tape h_tapeCount h_z h_waiting h_waitingCount L tx tst) := sbXh hP hD hS hA
    refine calI (va_runV (As := []) (rest := []) ⟨hx, hb, hml, hown, hts⟩ (c_X3_allSilver l G D cA hd kd _ h_weight h_known h_hour h_swS h_swW h_waS h_spoons h_kind h_mark h_silver h_fresh h_texts h_tape h_tapeCount h_z h_waiting h_waitingCount L tx tst r_8 hf_9) (cwV 0 hts gX11_count_X3_allSilver rfl rfl rfl (by decide +kernel) ⟨Nat.le_of_ble_eq_true rfl, Nat.le_of_ble_eq_true rfl⟩) (pvV hE hK hS sb (va_recv hK hP (ci := 3) (q0 := 14) rfl rfl)) rfl rfl hv.1 rfl (lv_room (Nat.le_of_ble_eq_true rfl)) dX11_count_99 ⟨Nat.le_of_ble_eq_true rfl, Nat.le_of_ble_eq_true rfl⟩) hS sb (jnXh hP hD) (fun H locs hP hD hS => ?_)
    have hP : va_P D vwCl (wX cA xd vd sd nd hd td ed kd images errors fewest vspoon vmark vcount vbodies sbits slens snum h_weight h_known h_hour h_swS h_swW h_waS h_spoons h_kind h_mark h_silver h_fresh h_texts h_tape h_tapeCount h_z h_waiting h_waitingCount t_weight t_known t_hour t_swS t_swW t_waS t_spoons t_kind t_mark t_silver t_fresh t_texts t_tape t_tapeCount t_z t_waiting t_waitingCount e_weight e_known e_hour e_swS e_swW e_waS e_spoons e_kind e_mark e_silver e_fresh e_texts e_tape e_tapeCount e_z e_waiting e_waitingCount L tx tst) H := hP
    have hD : va_D A (wX cA xd vd sd nd hd td ed kd images errors fewest vspoon vmark vcount vbodies sbits slens snum h_weight h_known h_hour h_swS h_swW h_waS h_spoons h_kind h_mark h_silver h_fresh h_texts h_tape h_tapeCount h_z h_waiting h_waitingCount t_weight t_known t_hour t_swS t_swW t_waS t_spoons t_kind t_mark t_silver t_fresh t_texts t_tape t_tapeCount t_z t_waiting t_waitingCount e_weight e_known e_hour e_swS e_swW e_waS e_spoons e_kind e_mark e_silver e_fresh e_texts e_tape e_tapeCount e_z e_waiting e_waitingCount L tx tst) := hD
    have h := Option.some.inj h
    have ee0 : r_8 = rR := congrArg (fun q => q.1) h
    have ee1 : errors = errorsR := congrArg (fun q => q.2) h
    subst ee0
    subst ee1
    rw [← hQ]
    exact retI hx hb hr hlk hK hP hD hS dX11_count_102 ⟨Nat.le_of_ble_eq_true rfl, Nat.le_of_ble_eq_true rfl⟩
  have h := ite_f c_7 h
  by_cases c_10 : what = (5 : Int32)
  · refine lv_tableIn (tgt := 103) (off := 102) hx hb dX11_count_1 (by rw [c_10]; decide) (by rw [c_10]; decide) (by rw [c_10]; rfl) (by decide) ?_
    have h := ite_t c_10 h
    refine lv_aload_n hx hb dX11_count_103 rfl (lv_at hv 0 rfl) ?_
    refine va_get (D := D) (ci := 11) (v := .ref (hd 0)) (C := RX11) (T := TX11) (N := 9) hx hb hts in_11 hown hK hP 0 rfl rfl 0 (by decide) w_0 (fun _ h9 => h9) rfl dX11_count_104 ?_
    refine lv_sipush (v := (4095 : Int32)) hx hb dX11_count_107 (by decide) ?_
    obtain ⟨r_11, hf_12, h⟩ := bd_ex h
    have sb : Sb D A H (wH cA hd kd h_weight h_known h_hour h_swS h_swW h_waS h_spoons h_kind h_mark h_silver h_fresh h_texts h_tape h_tapeCount h_z h_waiting h_waitingCount L tx tst) := sbXh hP hD hS hA
    refine calI (va_runV (As := [.int (4095 : Int32)]) (rest := []) ⟨hx, hb, hml, hown, hts⟩ (c_X3_weightOf l G D cA hd kd _ h_weight h_known h_hour h_swS h_swW h_waS h_spoons h_kind h_mark h_silver h_fresh h_texts h_tape h_tapeCount h_z h_waiting h_waitingCount L tx tst (4095 : Int32) r_11 hf_12) (cwV 1 hts gX11_count_X3_weightOf rfl rfl rfl (by decide +kernel) ⟨Nat.le_of_ble_eq_true rfl, Nat.le_of_ble_eq_true rfl⟩) (pvV hE hK hS sb (va_recv hK hP (ci := 3) (q0 := 14) rfl rfl)) rfl rfl hv.1 rfl (lv_room (Nat.le_of_ble_eq_true rfl)) dX11_count_110 ⟨Nat.le_of_ble_eq_true rfl, Nat.le_of_ble_eq_true rfl⟩) hS sb (jnXh hP hD) (fun H locs hP hD hS => ?_)
    have hP : va_P D vwCl (wX cA xd vd sd nd hd td ed kd images errors fewest vspoon vmark vcount vbodies sbits slens snum h_weight h_known h_hour h_swS h_swW h_waS h_spoons h_kind h_mark h_silver h_fresh h_texts h_tape h_tapeCount h_z h_waiting h_waitingCount t_weight t_known t_hour t_swS t_swW t_waS t_spoons t_kind t_mark t_silver t_fresh t_texts t_tape t_tapeCount t_z t_waiting t_waitingCount e_weight e_known e_hour e_swS e_swW e_waS e_spoons e_kind e_mark e_silver e_fresh e_texts e_tape e_tapeCount e_z e_waiting e_waitingCount L tx tst) H := hP
    have hD : va_D A (wX cA xd vd sd nd hd td ed kd images errors fewest vspoon vmark vcount vbodies sbits slens snum h_weight h_known h_hour h_swS h_swW h_waS h_spoons h_kind h_mark h_silver h_fresh h_texts h_tape h_tapeCount h_z h_waiting h_waitingCount t_weight t_known t_hour t_swS t_swW t_waS t_spoons t_kind t_mark t_silver t_fresh t_texts t_tape t_tapeCount t_z t_waiting t_waitingCount e_weight e_known e_hour e_swS e_swW e_waS e_spoons e_kind e_mark e_silver e_fresh e_texts e_tape e_tapeCount e_z e_waiting e_waitingCount L tx tst) := hD
    have h := Option.some.inj h
    have ee0 : r_11 = rR := congrArg (fun q => q.1) h
    have ee1 : errors = errorsR := congrArg (fun q => q.2) h
    subst ee0
    subst ee1
    rw [← hQ]
    exact retI hx hb hr hlk hK hP hD hS dX11_count_113 ⟨Nat.le_of_ble_eq_true rfl, Nat.le_of_ble_eq_true rfl⟩
  have h := ite_f c_10 h
  by_cases c_13 : what = (6 : Int32)
  · refine lv_tableIn (tgt := 114) (off := 113) hx hb dX11_count_1 (by rw [c_13]; decide) (by rw [c_13]; decide) (by rw [c_13]; rfl) (by decide) ?_
    have h := ite_t c_13 h
    refine lv_aload_n hx hb dX11_count_114 rfl (lv_at hv 0 rfl) ?_
    refine va_get (D := D) (ci := 11) (v := .ref (hd 0)) (C := RX11) (T := TX11) (N := 9) hx hb hts in_11 hown hK hP 0 rfl rfl 0 (by decide) w_0 (fun _ h9 => h9) rfl dX11_count_115 ?_
    refine lv_iconst (v := (1 : Int32)) hx hb dX11_count_118 (by decide) ?_
    refine lv_aload_n hx hb dX11_count_119 rfl (lv_at hv 0 rfl) ?_
    refine va_get (D := D) (ci := 11) (v := .ref (hd 0)) (C := RX11) (T := TX11) (N := 9) hx hb hts in_11 hown hK hP 0 rfl rfl 0 (by decide) w_0 (fun _ h9 => h9) rfl dX11_count_120 ?_
    refine va_get (D := D) (ci := 3) (v := .int h_spoons) (C := RX3) (T := TX3) (N := 18) hx hb hts in_3 hown hK hP 14 rfl rfl 7 (by decide) w_1 (fun _ h9 => h9) rfl dX11_count_123 ?_
    refine lv_ishl hx hb dX11_count_126 ?_
    refine lv_iconst (v := (1 : Int32)) hx hb dX11_count_127 (by decide) ?_
    refine lv_isub hx hb dX11_count_128 ?_
    obtain ⟨r_14, hf_15, h⟩ := bd_ex h
    have sb : Sb D A H (wH cA hd kd h_weight h_known h_hour h_swS h_swW h_waS h_spoons h_kind h_mark h_silver h_fresh h_texts h_tape h_tapeCount h_z h_waiting h_waitingCount L tx tst) := sbXh hP hD hS hA
    refine calI (va_runV (As := [.int (((1 : Int32) <<< (h_spoons &&& 31)) - (1 : Int32))]) (rest := []) ⟨hx, hb, hml, hown, hts⟩ (c_X3_wordsOnAny l G D cA hd kd _ h_weight h_known h_hour h_swS h_swW h_waS h_spoons h_kind h_mark h_silver h_fresh h_texts h_tape h_tapeCount h_z h_waiting h_waitingCount L tx tst (((1 : Int32) <<< (h_spoons &&& 31)) - (1 : Int32)) r_14 hf_15) (cwV 1 hts gX11_count_X3_wordsOnAny rfl rfl rfl (by decide +kernel) ⟨Nat.le_of_ble_eq_true rfl, Nat.le_of_ble_eq_true rfl⟩) (pvV hE hK hS sb (va_recv hK hP (ci := 3) (q0 := 14) rfl rfl)) rfl rfl hv.1 rfl (lv_room (Nat.le_of_ble_eq_true rfl)) dX11_count_129 ⟨Nat.le_of_ble_eq_true rfl, Nat.le_of_ble_eq_true rfl⟩) hS sb (jnXh hP hD) (fun H locs hP hD hS => ?_)
    have hP : va_P D vwCl (wX cA xd vd sd nd hd td ed kd images errors fewest vspoon vmark vcount vbodies sbits slens snum h_weight h_known h_hour h_swS h_swW h_waS h_spoons h_kind h_mark h_silver h_fresh h_texts h_tape h_tapeCount h_z h_waiting h_waitingCount t_weight t_known t_hour t_swS t_swW t_waS t_spoons t_kind t_mark t_silver t_fresh t_texts t_tape t_tapeCount t_z t_waiting t_waitingCount e_weight e_known e_hour e_swS e_swW e_waS e_spoons e_kind e_mark e_silver e_fresh e_texts e_tape e_tapeCount e_z e_waiting e_waitingCount L tx tst) H := hP
    have hD : va_D A (wX cA xd vd sd nd hd td ed kd images errors fewest vspoon vmark vcount vbodies sbits slens snum h_weight h_known h_hour h_swS h_swW h_waS h_spoons h_kind h_mark h_silver h_fresh h_texts h_tape h_tapeCount h_z h_waiting h_waitingCount t_weight t_known t_hour t_swS t_swW t_waS t_spoons t_kind t_mark t_silver t_fresh t_texts t_tape t_tapeCount t_z t_waiting t_waitingCount e_weight e_known e_hour e_swS e_swW e_waS e_spoons e_kind e_mark e_silver e_fresh e_texts e_tape e_tapeCount e_z e_waiting e_waitingCount L tx tst) := hD
    have h := Option.some.inj h
    have ee0 : r_14 = rR := congrArg (fun q => q.1) h
    have ee1 : errors = errorsR := congrArg (fun q => q.2) h
    subst ee0
    subst ee1
    rw [← hQ]
    exact retI hx hb hr hlk hK hP hD hS dX11_count_132 ⟨Nat.le_of_ble_eq_true rfl, Nat.le_of_ble_eq_true rfl⟩
  have h := ite_f c_13 h
  by_cases c_16 : what = (7 : Int32)
  · refine lv_tableIn (tgt := 133) (off := 132) hx hb dX11_count_1 (by rw [c_16]; decide) (by rw [c_16]; decide) (by rw [c_16]; rfl) (by decide) ?_
    have h := ite_t c_16 h
    refine lv_aload_n hx hb dX11_count_133 rfl (lv_at hv 0 rfl) ?_
    refine va_get (D := D) (ci := 11) (v := .ref (hd 0)) (C := RX11) (T := TX11) (N := 9) hx hb hts in_11 hown hK hP 0 rfl rfl 0 (by decide) w_0 (fun _ h9 => h9) rfl dX11_count_134 ?_
    refine va_get (D := D) (ci := 3) (v := .int h_tapeCount) (C := RX3) (T := TX3) (N := 18) hx hb hts in_3 hown hK hP 14 rfl rfl 14 (by decide) w_4 (fun _ h9 => h9) rfl dX11_count_137 ?_
    have h := Option.some.inj h
    have ee0 : h_tapeCount = rR := congrArg (fun q => q.1) h
    have ee1 : errors = errorsR := congrArg (fun q => q.2) h
    subst ee0
    subst ee1
    rw [← hQ]
    exact retI hx hb hr hlk hK hP hD hS dX11_count_140 ⟨Nat.le_of_ble_eq_true rfl, Nat.le_of_ble_eq_true rfl⟩
  have h := ite_f c_16 h
  by_cases c_17 : what = (8 : Int32)
  · refine lv_tableIn (tgt := 141) (off := 140) hx hb dX11_count_1 (by rw [c_17]; decide) (by rw [c_17]; decide) (by rw [c_17]; rfl) (by decide) ?_
    have h := ite_t c_17 h
    refine lv_aload_n hx hb dX11_count_141 rfl (lv_at hv 0 rfl) ?_
    refine va_get (D := D) (ci := 11) (v := .ref (hd 0)) (C := RX11) (T := TX11) (N := 9) hx hb hts in_11 hown hK hP 0 rfl rfl 0 (by decide) w_0 (fun _ h9 => h9) rfl dX11_count_142 ?_
    refine va_get (D := D) (ci := 3) (v := .int h_waitingCount) (C := RX3) (T := TX3) (N := 18) hx hb hts in_3 hown hK hP 14 rfl rfl 17 (by decide) w_5 (fun _ h9 => h9) rfl dX11_count_145 ?_
    have h := Option.some.inj h
    have ee0 : h_waitingCount = rR := congrArg (fun q => q.1) h
    have ee1 : errors = errorsR := congrArg (fun q => q.2) h
    subst ee0
    subst ee1
    rw [← hQ]
    exact retI hx hb hr hlk hK hP hD hS dX11_count_148 ⟨Nat.le_of_ble_eq_true rfl, Nat.le_of_ble_eq_true rfl⟩
  have h := ite_f c_17 h
  by_cases c_18 : what = (9 : Int32)
  · refine lv_tableIn (tgt := 149) (off := 148) hx hb dX11_count_1 (by rw [c_18]; decide) (by rw [c_18]; decide) (by rw [c_18]; rfl) (by decide) ?_
    have h := ite_t c_18 h
    refine lv_aload_n hx hb dX11_count_149 rfl (lv_at hv 0 rfl) ?_
    refine va_get (D := D) (ci := 11) (v := .ref (vd 0)) (C := RX11) (T := TX11) (N := 9) hx hb hts in_11 hown hK hP 0 rfl rfl 5 (by decide) w_6 (fun _ h9 => h9) rfl dX11_count_150 ?_
    refine va_get (D := D) (ci := 10) (v := .int vcount) (C := RX10) (T := TX10) (N := 4) hx hb hts in_10 hown hK hP 4 rfl rfl 2 (by decide) w_7 (fun _ h9 => h9) rfl dX11_count_153 ?_
    have h := Option.some.inj h
    have ee0 : vcount = rR := congrArg (fun q => q.1) h
    have ee1 : errors = errorsR := congrArg (fun q => q.2) h
    subst ee0
    subst ee1
    rw [← hQ]
    exact retI hx hb hr hlk hK hP hD hS dX11_count_156 ⟨Nat.le_of_ble_eq_true rfl, Nat.le_of_ble_eq_true rfl⟩
  have h := ite_f c_18 h
  by_cases c_19 : what = (10 : Int32)
  · refine lv_tableIn (tgt := 157) (off := 156) hx hb dX11_count_1 (by rw [c_19]; decide) (by rw [c_19]; decide) (by rw [c_19]; rfl) (by decide) ?_
    have h := ite_t c_19 h
    refine lv_aload_n hx hb dX11_count_157 rfl (lv_at hv 0 rfl) ?_
    refine va_get (D := D) (ci := 11) (v := .ref (hd 0)) (C := RX11) (T := TX11) (N := 9) hx hb hts in_11 hown hK hP 0 rfl rfl 0 (by decide) w_0 (fun _ h9 => h9) rfl dX11_count_158 ?_
    refine va_get (D := D) (ci := 3) (v := .int h_z) (C := RX3) (T := TX3) (N := 18) hx hb hts in_3 hown hK hP 14 rfl rfl 15 (by decide) w_8 (fun _ h9 => h9) rfl dX11_count_161 ?_
    have h := Option.some.inj h
    have ee0 : h_z = rR := congrArg (fun q => q.1) h
    have ee1 : errors = errorsR := congrArg (fun q => q.2) h
    subst ee0
    subst ee1
    rw [← hQ]
    exact retI hx hb hr hlk hK hP hD hS dX11_count_164 ⟨Nat.le_of_ble_eq_true rfl, Nat.le_of_ble_eq_true rfl⟩
  have h := ite_f c_19 h
  have nc_1 := lv_neT c_1 (show ((0 : Int32)).toInt = 0 from rfl)
  have nc_2 := lv_neT c_2 (show ((1 : Int32)).toInt = 1 from rfl)
  have nc_3 := lv_neT c_3 (show ((2 : Int32)).toInt = 2 from rfl)
  have nc_6 := lv_neT c_6 (show ((3 : Int32)).toInt = 3 from rfl)
  have nc_7 := lv_neT c_7 (show ((4 : Int32)).toInt = 4 from rfl)
  have nc_10 := lv_neT c_10 (show ((5 : Int32)).toInt = 5 from rfl)
  have nc_13 := lv_neT c_13 (show ((6 : Int32)).toInt = 6 from rfl)
  have nc_16 := lv_neT c_16 (show ((7 : Int32)).toInt = 7 from rfl)
  have nc_17 := lv_neT c_17 (show ((8 : Int32)).toInt = 8 from rfl)
  have nc_18 := lv_neT c_18 (show ((9 : Int32)).toInt = 9 from rfl)
  have nc_19 := lv_neT c_19 (show ((10 : Int32)).toInt = 10 from rfl)
  refine lv_tableOut (tgt := 165) hx hb dX11_count_1 (by omega) (by decide) ?_
  refine lv_aload_n hx hb dX11_count_165 rfl (lv_at hv 0 rfl) ?_
  refine lv_ldc (v := (-1000000001 : Int32)) hx hb hown w_9 dX11_count_166 ?_
  obtain ⟨⟨r_20, errors_21⟩, hf_22, h⟩ := bd_ex h
  have sb := Sb.same hP hD hS hA
  refine calI (va_runV (As := [.int (-1000000001 : Int32)]) (rest := []) ⟨hx, hb, hml, hown, hts⟩ (c_X11_refused l G D cA xd vd sd nd hd td ed kd _ images errors fewest vspoon vmark vcount vbodies sbits slens snum h_weight h_known h_hour h_swS h_swW h_waS h_spoons h_kind h_mark h_silver h_fresh h_texts h_tape h_tapeCount h_z h_waiting h_waitingCount t_weight t_known t_hour t_swS t_swW t_waS t_spoons t_kind t_mark t_silver t_fresh t_texts t_tape t_tapeCount t_z t_waiting t_waitingCount e_weight e_known e_hour e_swS e_swW e_waS e_spoons e_kind e_mark e_silver e_fresh e_texts e_tape e_tapeCount e_z e_waiting e_waitingCount L tx tst (-1000000001 : Int32) r_20 errors_21 hf_22) (cwV 1 hts gX11_count_X11_refused rfl rfl rfl (by decide +kernel) ⟨Nat.le_of_ble_eq_true rfl, Nat.le_of_ble_eq_true rfl⟩) (pvV hE hK hS sb (va_recv hK hP (ci := 11) (q0 := 0) rfl rfl)) rfl rfl hv.1 rfl (lv_room (Nat.le_of_ble_eq_true rfl)) dX11_count_168 ⟨Nat.le_of_ble_eq_true rfl, Nat.le_of_ble_eq_true rfl⟩) hS sb (Jn.same sb) (fun H locs hP hD hS => ?_)
  have hP : va_P D vwCl (wX cA xd vd sd nd hd td ed kd images errors_21 fewest vspoon vmark vcount vbodies sbits slens snum h_weight h_known h_hour h_swS h_swW h_waS h_spoons h_kind h_mark h_silver h_fresh h_texts h_tape h_tapeCount h_z h_waiting h_waitingCount t_weight t_known t_hour t_swS t_swW t_waS t_spoons t_kind t_mark t_silver t_fresh t_texts t_tape t_tapeCount t_z t_waiting t_waitingCount e_weight e_known e_hour e_swS e_swW e_waS e_spoons e_kind e_mark e_silver e_fresh e_texts e_tape e_tapeCount e_z e_waiting e_waitingCount L tx tst) H := hP
  have hD : va_D A (wX cA xd vd sd nd hd td ed kd images errors_21 fewest vspoon vmark vcount vbodies sbits slens snum h_weight h_known h_hour h_swS h_swW h_waS h_spoons h_kind h_mark h_silver h_fresh h_texts h_tape h_tapeCount h_z h_waiting h_waitingCount t_weight t_known t_hour t_swS t_swW t_waS t_spoons t_kind t_mark t_silver t_fresh t_texts t_tape t_tapeCount t_z t_waiting t_waitingCount e_weight e_known e_hour e_swS e_swW e_waS e_spoons e_kind e_mark e_silver e_fresh e_texts e_tape e_tapeCount e_z e_waiting e_waitingCount L tx tst) := hD
  have h := Option.some.inj h
  have ee0 : r_20 = rR := congrArg (fun q => q.1) h
  have ee1 : errors_21 = errorsR := congrArg (fun q => q.2) h
  subst ee0
  subst ee1
  rw [← hQ]
  exact retI hx hb hr hlk hK hP hD hS dX11_count_171 ⟨Nat.le_of_ble_eq_true rfl, Nat.le_of_ble_eq_true rfl⟩

def fX11_told (k : Int32) (errors : Nat → Int32) : Option (Int32 × (Nat → Int32)) :=
  bd (fX11_within k (1 : Int32) (5 : Int32)) fun r_1 => (if r_1 = 0 then bd (fX11_refused (-1000000001 : Int32) errors) fun (r_4, errors_5) => some (r_4, errors_5) else ckI k 6 (some ((errors (k).toNatClampNeg), errors)))
set_option maxHeartbeats 4000000 in
set_option maxRecDepth 100000 in
theorem c_X11_told (l : Launch) (G : Nat → Nat) (D : va_G) (cA : Nat → ClassId) (xd : Nat → Nat) (vd : Nat → Nat) (sd : Nat → Nat) (nd : Nat → Nat) (hd : Nat → Nat) (td : Nat → Nat) (ed : Nat → Nat) (kd : Nat → Nat) (sz : Nat) (images : Int32) (errors : Nat → Int32) (fewest : Nat → Int32) (vspoon : Int32) (vmark : Int32) (vcount : Int32) (vbodies : Nat → Int32) (sbits : Nat → Int32) (slens : Nat → Int32) (snum : Nat → Nat → Int32) (h_weight : Nat → Int32) (h_known : Int32) (h_hour : Int32) (h_swS : Nat → Int32) (h_swW : Nat → Int32) (h_waS : Nat → Int32) (h_spoons : Int32) (h_kind : Nat → Int32) (h_mark : Nat → Int32) (h_silver : Nat → Int32) (h_fresh : Nat → Int64) (h_texts : Nat → Option Nat) (h_tape : Nat → Int32) (h_tapeCount : Int32) (h_z : Int32) (h_waiting : Nat → Int32) (h_waitingCount : Int32) (t_weight : Nat → Int32) (t_known : Int32) (t_hour : Int32) (t_swS : Nat → Int32) (t_swW : Nat → Int32) (t_waS : Nat → Int32) (t_spoons : Int32) (t_kind : Nat → Int32) (t_mark : Nat → Int32) (t_silver : Nat → Int32) (t_fresh : Nat → Int64) (t_texts : Nat → Option Nat) (t_tape : Nat → Int32) (t_tapeCount : Int32) (t_z : Int32) (t_waiting : Nat → Int32) (t_waitingCount : Int32) (e_weight : Nat → Int32) (e_known : Int32) (e_hour : Int32) (e_swS : Nat → Int32) (e_swW : Nat → Int32) (e_waS : Nat → Int32) (e_spoons : Int32) (e_kind : Nat → Int32) (e_mark : Nat → Int32) (e_silver : Nat → Int32) (e_fresh : Nat → Int64) (e_texts : Nat → Option Nat) (e_tape : Nat → Int32) (e_tapeCount : Int32) (e_z : Int32) (e_waiting : Nat → Int32) (e_waitingCount : Int32) (L : List Nat) (tx : Nat → TXc) (tst : Nat → Nat → Int32) (k : Int32) (rR : Int32) (errorsR : Nat → Int32) (h : fX11_told k errors = some (rR, errorsR)) : Met l yX11_told wsX11_told ({ frames := 1, cells := 0, slots := 0, locals := 22 } : Room) (PW G D (tyC cA) sz (wX cA xd vd sd nd hd td ed kd images errors fewest vspoon vmark vcount vbodies sbits slens snum h_weight h_known h_hour h_swS h_swW h_waS h_spoons h_kind h_mark h_silver h_fresh h_texts h_tape h_tapeCount h_z h_waiting h_waitingCount t_weight t_known t_hour t_swS t_swW t_waS t_spoons t_kind t_mark t_silver t_fresh t_texts t_tape t_tapeCount t_z t_waiting t_waitingCount e_weight e_known e_hour e_swS e_swW e_waS e_spoons e_kind e_mark e_silver e_fresh e_texts e_tape e_tapeCount e_z e_waiting e_waitingCount L tx tst) [.ref (xd 0), .int k]) (QI D (tyC cA) (va_A (wX cA xd vd sd nd hd td ed kd images errors fewest vspoon vmark vcount vbodies sbits slens snum h_weight h_known h_hour h_swS h_swW h_waS h_spoons h_kind h_mark h_silver h_fresh h_texts h_tape h_tapeCount h_z h_waiting h_waitingCount t_weight t_known t_hour t_swS t_swW t_waS t_spoons t_kind t_mark t_silver t_fresh t_texts t_tape t_tapeCount t_z t_waiting t_waitingCount e_weight e_known e_hour e_swS e_swW e_waS e_spoons e_kind e_mark e_silver e_fresh e_texts e_tape e_tapeCount e_z e_waiting e_waitingCount L tx tst) sz) rR (wX cA xd vd sd nd hd td ed kd images errorsR fewest vspoon vmark vcount vbodies sbits slens snum h_weight h_known h_hour h_swS h_swW h_waS h_spoons h_kind h_mark h_silver h_fresh h_texts h_tape h_tapeCount h_z h_waiting h_waitingCount t_weight t_known t_hour t_swS t_swW t_waS t_spoons t_kind t_mark t_silver t_fresh t_texts t_tape t_tapeCount t_z t_waiting t_waitingCount e_weight e_known e_hour e_swS e_swW e_waS e_spoons e_kind e_mark e_silver e_fresh e_texts e_tape e_tapeCount e_z e_waiting e_waitingCount L tx tst)) 0 0 (va_A (wX cA xd vd sd nd hd td ed kd images errors fewest vspoon vmark vcount vbodies sbits slens snum h_weight h_known h_hour h_swS h_swW h_waS h_spoons h_kind h_mark h_silver h_fresh h_texts h_tape h_tapeCount h_z h_waiting h_waitingCount t_weight t_known t_hour t_swS t_swW t_waS t_spoons t_kind t_mark t_silver t_fresh t_texts t_tape t_tapeCount t_z t_waiting t_waitingCount e_weight e_known e_hour e_swS e_swW e_waS e_spoons e_kind e_mark e_silver e_fresh e_texts e_tape e_tapeCount e_z e_waiting e_waitingCount L tx tst) sz) := by
  refine ent (cc := cX11_told) (maxL := 2) (ret := (some .int)) (fun A => QI D (tyC cA) A rR (wX cA xd vd sd nd hd td ed kd images errorsR fewest vspoon vmark vcount vbodies sbits slens snum h_weight h_known h_hour h_swS h_swW h_waS h_spoons h_kind h_mark h_silver h_fresh h_texts h_tape h_tapeCount h_z h_waiting h_waitingCount t_weight t_known t_hour t_swS t_swW t_waS t_spoons t_kind t_mark t_silver t_fresh t_texts t_tape t_tapeCount t_z t_waiting t_waitingCount e_weight e_known e_hour e_swS e_swW e_waS e_spoons e_kind e_mark e_silver e_fresh e_texts e_tape e_tapeCount e_z e_waiting e_waitingCount L tx tst)) (by decide +kernel) rfl (Nat.le_of_ble_eq_true rfl) ?_
  intro p e s m args below meth c A ls H hx hb hml hr hlk hts hown hA hK hE hP hD hS hv hmm
  have hv : lv_has ls 2 [(0, .ref (xd 0)), (1, .int k)] := hv
  have in_11 : ∀ w ∈ u_ws RX11 TX11 9, w ∈ wsX11_told := fun _ h => List.mem_cons_of_mem _ (List.mem_append_right _ h)
  have w_0 := hts (.constant RX11 78 (-1000000001)) (List.mem_of_getElem? (i := 2) rfl)
  have w_1 := hts (.fieldLink RX11 63 "SpoonsLast" "errors" "[I") (List.mem_of_getElem? (i := 1) rfl)
  generalize hQ : MQ below _ args s 0 0 A = Q
  have hP : va_P D vwCl (wX cA xd vd sd nd hd td ed kd images errors fewest vspoon vmark vcount vbodies sbits slens snum h_weight h_known h_hour h_swS h_swW h_waS h_spoons h_kind h_mark h_silver h_fresh h_texts h_tape h_tapeCount h_z h_waiting h_waitingCount t_weight t_known t_hour t_swS t_swW t_waS t_spoons t_kind t_mark t_silver t_fresh t_texts t_tape t_tapeCount t_z t_waiting t_waitingCount e_weight e_known e_hour e_swS e_swW e_waS e_spoons e_kind e_mark e_silver e_fresh e_texts e_tape e_tapeCount e_z e_waiting e_waitingCount L tx tst) H := hP
  unfold fX11_told at h
  refine lv_iload_n hx hb dX11_told_0 rfl (lv_at hv 1 rfl) ?_
  refine lv_iconst (v := (1 : Int32)) hx hb dX11_told_1 (by decide) ?_
  refine lv_iconst (v := (5 : Int32)) hx hb dX11_told_2 (by decide) ?_
  obtain ⟨r_1, hf_2, h⟩ := bd_ex h
  have sb := Sb.nil hP hD hS hA
  refine calI (va_runS (As := [.int k, .int (1 : Int32), .int (5 : Int32)]) (rest := []) ⟨hx, hb, hml, hown, hts⟩ (c_X11_within l G D cA  _ k (1 : Int32) (5 : Int32) r_1 hf_2) (va_cwS 3 hts gX11_told_X11_within rfl rfl rfl (by decide +kernel) ⟨Nat.le_of_ble_eq_true rfl, Nat.le_of_ble_eq_true rfl⟩) (pvS hE hK hS sb) rfl rfl hv.1 rfl (lv_room (Nat.le_of_ble_eq_true rfl)) dX11_told_3 ⟨Nat.le_of_ble_eq_true rfl, Nat.le_of_ble_eq_true rfl⟩) hS sb (Jn.nil hP hD) (fun H locs hP hD hS => ?_)
  have hP : va_P D vwCl (wX cA xd vd sd nd hd td ed kd images errors fewest vspoon vmark vcount vbodies sbits slens snum h_weight h_known h_hour h_swS h_swW h_waS h_spoons h_kind h_mark h_silver h_fresh h_texts h_tape h_tapeCount h_z h_waiting h_waitingCount t_weight t_known t_hour t_swS t_swW t_waS t_spoons t_kind t_mark t_silver t_fresh t_texts t_tape t_tapeCount t_z t_waiting t_waitingCount e_weight e_known e_hour e_swS e_swW e_waS e_spoons e_kind e_mark e_silver e_fresh e_texts e_tape e_tapeCount e_z e_waiting e_waitingCount L tx tst) H := hP
  have hD : va_D A (wX cA xd vd sd nd hd td ed kd images errors fewest vspoon vmark vcount vbodies sbits slens snum h_weight h_known h_hour h_swS h_swW h_waS h_spoons h_kind h_mark h_silver h_fresh h_texts h_tape h_tapeCount h_z h_waiting h_waitingCount t_weight t_known t_hour t_swS t_swW t_waS t_spoons t_kind t_mark t_silver t_fresh t_texts t_tape t_tapeCount t_z t_waiting t_waitingCount e_weight e_known e_hour e_swS e_swW e_waS e_spoons e_kind e_mark e_silver e_fresh e_texts e_tape e_tapeCount e_z e_waiting e_waitingCount L tx tst) := hD
  refine lv_if_eq (tgt := 18) hx hb dX11_told_6 (by decide) (fun c_3 => ?_) (fun c_3 => ?_)
  · have h := ite_t c_3 h
    refine lv_aload_n hx hb dX11_told_18 rfl (lv_at hv 0 rfl) ?_
    refine lv_ldc (v := (-1000000001 : Int32)) hx hb hown w_0 dX11_told_19 ?_
    obtain ⟨⟨r_4, errors_5⟩, hf_6, h⟩ := bd_ex h
    have sb := Sb.same hP hD hS hA
    refine calI (va_runV (As := [.int (-1000000001 : Int32)]) (rest := []) ⟨hx, hb, hml, hown, hts⟩ (c_X11_refused l G D cA xd vd sd nd hd td ed kd _ images errors fewest vspoon vmark vcount vbodies sbits slens snum h_weight h_known h_hour h_swS h_swW h_waS h_spoons h_kind h_mark h_silver h_fresh h_texts h_tape h_tapeCount h_z h_waiting h_waitingCount t_weight t_known t_hour t_swS t_swW t_waS t_spoons t_kind t_mark t_silver t_fresh t_texts t_tape t_tapeCount t_z t_waiting t_waitingCount e_weight e_known e_hour e_swS e_swW e_waS e_spoons e_kind e_mark e_silver e_fresh e_texts e_tape e_tapeCount e_z e_waiting e_waitingCount L tx tst (-1000000001 : Int32) r_4 errors_5 hf_6) (cwV 1 hts gX11_told_X11_refused rfl rfl rfl (by decide +kernel) ⟨Nat.le_of_ble_eq_true rfl, Nat.le_of_ble_eq_true rfl⟩) (pvV hE hK hS sb (va_recv hK hP (ci := 11) (q0 := 0) rfl rfl)) rfl rfl hv.1 rfl (lv_room (Nat.le_of_ble_eq_true rfl)) dX11_told_21 ⟨Nat.le_of_ble_eq_true rfl, Nat.le_of_ble_eq_true rfl⟩) hS sb (Jn.same sb) (fun H locs hP hD hS => ?_)
    have hP : va_P D vwCl (wX cA xd vd sd nd hd td ed kd images errors_5 fewest vspoon vmark vcount vbodies sbits slens snum h_weight h_known h_hour h_swS h_swW h_waS h_spoons h_kind h_mark h_silver h_fresh h_texts h_tape h_tapeCount h_z h_waiting h_waitingCount t_weight t_known t_hour t_swS t_swW t_waS t_spoons t_kind t_mark t_silver t_fresh t_texts t_tape t_tapeCount t_z t_waiting t_waitingCount e_weight e_known e_hour e_swS e_swW e_waS e_spoons e_kind e_mark e_silver e_fresh e_texts e_tape e_tapeCount e_z e_waiting e_waitingCount L tx tst) H := hP
    have hD : va_D A (wX cA xd vd sd nd hd td ed kd images errors_5 fewest vspoon vmark vcount vbodies sbits slens snum h_weight h_known h_hour h_swS h_swW h_waS h_spoons h_kind h_mark h_silver h_fresh h_texts h_tape h_tapeCount h_z h_waiting h_waitingCount t_weight t_known t_hour t_swS t_swW t_waS t_spoons t_kind t_mark t_silver t_fresh t_texts t_tape t_tapeCount t_z t_waiting t_waitingCount e_weight e_known e_hour e_swS e_swW e_waS e_spoons e_kind e_mark e_silver e_fresh e_texts e_tape e_tapeCount e_z e_waiting e_waitingCount L tx tst) := hD
    have h := Option.some.inj h
    have ee0 : r_4 = rR := congrArg (fun q => q.1) h
    have ee1 : errors_5 = errorsR := congrArg (fun q => q.2) h
    subst ee0
    subst ee1
    rw [← hQ]
    exact retI hx hb hr hlk hK hP hD hS dX11_told_24 ⟨Nat.le_of_ble_eq_true rfl, Nat.le_of_ble_eq_true rfl⟩
  · have h := ite_f c_3 h
    refine lv_aload_n hx hb dX11_told_9 rfl (lv_at hv 0 rfl) ?_
    refine va_get (D := D) (ci := 11) (v := .ref (xd 2)) (C := RX11) (T := TX11) (N := 9) hx hb hts in_11 hown hK hP 0 rfl rfl 7 (by decide) w_1 (fun _ h9 => h9) rfl dX11_told_10 ?_
    refine lv_iload_n hx hb dX11_told_13 rfl (lv_at hv 1 rfl) ?_
    obtain ⟨c_7, h⟩ := ckI_ex h
    refine va_iald (D := D) hx hb hK hP 2 0 rfl rfl c_7 dX11_told_14 ?_
    refine lv_goto (tgt := 24) hx hb dX11_told_15 (by decide) ?_
    have h := Option.some.inj h
    have ee0 : (errors (k).toNatClampNeg) = rR := congrArg (fun q => q.1) h
    have ee1 : errors = errorsR := congrArg (fun q => q.2) h
    subst ee0
    subst ee1
    rw [← hQ]
    exact retI hx hb hr hlk hK hP hD hS dX11_told_24 ⟨Nat.le_of_ble_eq_true rfl, Nat.le_of_ble_eq_true rfl⟩

