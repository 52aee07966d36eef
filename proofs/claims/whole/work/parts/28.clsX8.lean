def fX11_then_24 (errors_24 : Nat → Int32) (h_weight : Nat → Int32) (h_known : Int32) (h_hour : Int32) (h_swS : Nat → Int32) (h_swW : Nat → Int32) (h_waS : Nat → Int32) (h_spoons : Int32) (h_kind : Nat → Int32) (h_mark : Nat → Int32) (h_silver : Nat → Int32) (h_fresh : Nat → Int64) (h_texts : Nat → Option Nat) (t_weight_24 : Nat → Int32) (t_known_24 : Int32) (t_hour_24 : Int32) (t_swS_24 : Nat → Int32) (t_swW_24 : Nat → Int32) (t_waS_24 : Nat → Int32) (t_spoons_24 : Int32) (t_kind_24 : Nat → Int32) (t_mark_24 : Nat → Int32) (t_silver_24 : Nat → Int32) (t_fresh_24 : Nat → Int64) (t_texts_24 : Nat → Option Nat) (L : List Nat) (tx : Nat → TXc) (tst_24 : Nat → Nat → Int32) : Option (Int32 × (Nat → Int32) × (Nat → Int32) × Int32 × Int32 × (Nat → Int32) × (Nat → Int32) × (Nat → Int32) × Int32 × (Nat → Int32) × (Nat → Int32) × (Nat → Int32) × (Nat → Int64) × (Nat → Option Nat) × (Nat → Nat → Int32)) :=
  bd (fX11_refused (-1000000001 : Int32) errors_24) fun (r_4, errors_5) => some (r_4, errors_5, t_weight_24, t_known_24, t_hour_24, t_swS_24, t_swW_24, t_waS_24, t_spoons_24, t_kind_24, t_mark_24, t_silver_24, t_fresh_24, t_texts_24, tst_24)
def fX11_then (n : Int32) (a : Int32) (what : Int32) (errors : Nat → Int32) (h_weight : Nat → Int32) (h_known : Int32) (h_hour : Int32) (h_swS : Nat → Int32) (h_swW : Nat → Int32) (h_waS : Nat → Int32) (h_spoons : Int32) (h_kind : Nat → Int32) (h_mark : Nat → Int32) (h_silver : Nat → Int32) (h_fresh : Nat → Int64) (h_texts : Nat → Option Nat) (t_weight : Nat → Int32) (t_known : Int32) (t_hour : Int32) (t_swS : Nat → Int32) (t_swW : Nat → Int32) (t_waS : Nat → Int32) (t_spoons : Int32) (t_kind : Nat → Int32) (t_mark : Nat → Int32) (t_silver : Nat → Int32) (t_fresh : Nat → Int64) (t_texts : Nat → Option Nat) (L : List Nat) (tx : Nat → TXc) (tst : Nat → Nat → Int32) : Option (Int32 × (Nat → Int32) × (Nat → Int32) × Int32 × Int32 × (Nat → Int32) × (Nat → Int32) × (Nat → Int32) × Int32 × (Nat → Int32) × (Nat → Int32) × (Nat → Int32) × (Nat → Int64) × (Nat → Option Nat) × (Nat → Nat → Int32)) :=
  bd (fX11_isBehind n) fun r_1 => (if r_1 = 0 then fX11_then_24 errors h_weight h_known h_hour h_swS h_swW h_waS h_spoons h_kind h_mark h_silver h_fresh h_texts t_weight t_known t_hour t_swS t_swW t_waS t_spoons t_kind t_mark t_silver t_fresh t_texts L tx tst else bd (fX11_isSpoon a h_spoons) fun r_7 => (if r_7 = 0 then fX11_then_24 errors h_weight h_known h_hour h_swS h_swW h_waS h_spoons h_kind h_mark h_silver h_fresh h_texts t_weight t_known t_hour t_swS t_swW t_waS t_spoons t_kind t_mark t_silver t_fresh t_texts L tx tst else bd (fX11_within what (0 : Int32) (1 : Int32)) fun r_10 => (if r_10 = 0 then fX11_then_24 errors h_weight h_known h_hour h_swS h_swW h_waS h_spoons h_kind h_mark h_silver h_fresh h_texts t_weight t_known t_hour t_swS t_swW t_waS t_spoons t_kind t_mark t_silver t_fresh t_texts L tx tst else bd (fX3_follow t_weight t_known t_hour t_swS t_swW t_waS t_spoons t_kind t_mark t_silver t_fresh t_texts h_weight h_known h_hour h_swS h_swW h_waS h_spoons h_kind h_mark h_silver h_fresh h_texts L) fun (t_weight_13, t_known_14, t_hour_15, t_swS_16, t_swW_17, t_waS_18, t_spoons_19, t_kind_20, t_mark_21, t_silver_22, t_fresh_23, t_texts_24) => bd (fX3_passHours n t_weight_13 t_known_14 t_hour_15 t_swS_16 t_swW_17 t_waS_18 t_spoons_19 t_kind_20 t_mark_21 t_silver_22 t_fresh_23 t_texts_24 L tx tst) fun (t_known_26, t_hour_27, t_silver_28, t_fresh_29, tst_30) => (if what = 0 then ckI a 8 (some ((t_silver_28 (a).toNatClampNeg), errors, t_weight_13, t_known_26, t_hour_27, t_swS_16, t_swW_17, t_waS_18, t_spoons_19, t_kind_20, t_mark_21, t_silver_28, t_fresh_29, t_texts_24, tst_30)) else bd (fX3_wordsOn a t_fresh_29) fun r_33 => some (r_33, errors, t_weight_13, t_known_26, t_hour_27, t_swS_16, t_swW_17, t_waS_18, t_spoons_19, t_kind_20, t_mark_21, t_silver_28, t_fresh_29, t_texts_24, tst_30)))))
set_option maxHeartbeats 4000000 in
set_option maxRecDepth 100000 in
theorem c_X11_then (l : Launch) (G : Nat → Nat) (D : va_G) (cA : Nat → ClassId) (xd : Nat → Nat) (vd : Nat → Nat) (sd : Nat → Nat) (nd : Nat → Nat) (hd : Nat → Nat) (td : Nat → Nat) (ed : Nat → Nat) (kd : Nat → Nat) (sz : Nat) (images : Int32) (errors : Nat → Int32) (fewest : Nat → Int32) (vspoon : Int32) (vmark : Int32) (vcount : Int32) (vbodies : Nat → Int32) (sbits : Nat → Int32) (slens : Nat → Int32) (snum : Nat → Nat → Int32) (h_weight : Nat → Int32) (h_known : Int32) (h_hour : Int32) (h_swS : Nat → Int32) (h_swW : Nat → Int32) (h_waS : Nat → Int32) (h_spoons : Int32) (h_kind : Nat → Int32) (h_mark : Nat → Int32) (h_silver : Nat → Int32) (h_fresh : Nat → Int64) (h_texts : Nat → Option Nat) (h_tape : Nat → Int32) (h_tapeCount : Int32) (h_z : Int32) (h_waiting : Nat → Int32) (h_waitingCount : Int32) (t_weight : Nat → Int32) (t_known : Int32) (t_hour : Int32) (t_swS : Nat → Int32) (t_swW : Nat → Int32) (t_waS : Nat → Int32) (t_spoons : Int32) (t_kind : Nat → Int32) (t_mark : Nat → Int32) (t_silver : Nat → Int32) (t_fresh : Nat → Int64) (t_texts : Nat → Option Nat) (t_tape : Nat → Int32) (t_tapeCount : Int32) (t_z : Int32) (t_waiting : Nat → Int32) (t_waitingCount : Int32) (e_weight : Nat → Int32) (e_known : Int32) (e_hour : Int32) (e_swS : Nat → Int32) (e_swW : Nat → Int32) (e_waS : Nat → Int32) (e_spoons : Int32) (e_kind : Nat → Int32) (e_mark : Nat → Int32) (e_silver : Nat → Int32) (e_fresh : Nat → Int64) (e_texts : Nat → Option Nat) (e_tape : Nat → Int32) (e_tapeCount : Int32) (e_z : Int32) (e_waiting : Nat → Int32) (e_waitingCount : Int32) (L : List Nat) (tx : Nat → TXc) (tst : Nat → Nat → Int32) (n : Int32) (a : Int32) (what : Int32) (rR : Int32) (errorsR : Nat → Int32) (t_weightR : Nat → Int32) (t_knownR : Int32) (t_hourR : Int32) (t_swSR : Nat → Int32) (t_swWR : Nat → Int32) (t_waSR : Nat → Int32) (t_spoonsR : Int32) (t_kindR : Nat → Int32) (t_markR : Nat → Int32) (t_silverR : Nat → Int32) (t_freshR : Nat → Int64) (t_textsR : Nat → Option Nat) (tstR : Nat → Nat → Int32) (h : fX11_then n a what errors h_weight h_known h_hour h_swS h_swW h_waS h_spoons h_kind h_mark h_silver h_fresh h_texts t_weight t_known t_hour t_swS t_swW t_waS t_spoons t_kind t_mark t_silver t_fresh t_texts L tx tst = some (rR, errorsR, t_weightR, t_knownR, t_hourR, t_swSR, t_swWR, t_waSR, t_spoonsR, t_kindR, t_markR, t_silverR, t_freshR, t_textsR, tstR)) : Met l yX11_then wsX11_then ({ frames := 6, cells := 0, slots := 0, locals := 141 } : Room) (PW G D (tyC cA) sz (wX cA xd vd sd nd hd td ed kd images errors fewest vspoon vmark vcount vbodies sbits slens snum h_weight h_known h_hour h_swS h_swW h_waS h_spoons h_kind h_mark h_silver h_fresh h_texts h_tape h_tapeCount h_z h_waiting h_waitingCount t_weight t_known t_hour t_swS t_swW t_waS t_spoons t_kind t_mark t_silver t_fresh t_texts t_tape t_tapeCount t_z t_waiting t_waitingCount e_weight e_known e_hour e_swS e_swW e_waS e_spoons e_kind e_mark e_silver e_fresh e_texts e_tape e_tapeCount e_z e_waiting e_waitingCount L tx tst) [.ref (xd 0), .int n, .int a, .int what]) (QI D (tyC cA) (va_A (wX cA xd vd sd nd hd td ed kd images errors fewest vspoon vmark vcount vbodies sbits slens snum h_weight h_known h_hour h_swS h_swW h_waS h_spoons h_kind h_mark h_silver h_fresh h_texts h_tape h_tapeCount h_z h_waiting h_waitingCount t_weight t_known t_hour t_swS t_swW t_waS t_spoons t_kind t_mark t_silver t_fresh t_texts t_tape t_tapeCount t_z t_waiting t_waitingCount e_weight e_known e_hour e_swS e_swW e_waS e_spoons e_kind e_mark e_silver e_fresh e_texts e_tape e_tapeCount e_z e_waiting e_waitingCount L tx tst) sz) rR (wX cA xd vd sd nd hd td ed kd images errorsR fewest vspoon vmark vcount vbodies sbits slens snum h_weight h_known h_hour h_swS h_swW h_waS h_spoons h_kind h_mark h_silver h_fresh h_texts h_tape h_tapeCount h_z h_waiting h_waitingCount t_weightR t_knownR t_hourR t_swSR t_swWR t_waSR t_spoonsR t_kindR t_markR t_silverR t_freshR t_textsR t_tape t_tapeCount t_z t_waiting t_waitingCount e_weight e_known e_hour e_swS e_swW e_waS e_spoons e_kind e_mark e_silver e_fresh e_texts e_tape e_tapeCount e_z e_waiting e_waitingCount L tx tstR)) 0 0 (va_A (wX cA xd vd sd nd hd td ed kd images errors fewest vspoon vmark vcount vbodies sbits slens snum h_weight h_known h_hour h_swS h_swW h_waS h_spoons h_kind h_mark h_silver h_fresh h_texts h_tape h_tapeCount h_z h_waiting h_waitingCount t_weight t_known t_hour t_swS t_swW t_waS t_spoons t_kind t_mark t_silver t_fresh t_texts t_tape t_tapeCount t_z t_waiting t_waitingCount e_weight e_known e_hour e_swS e_swW e_waS e_spoons e_kind e_mark e_silver e_fresh e_texts e_tape e_tapeCount e_z e_waiting e_waitingCount L tx tst) sz) := by
  refine ent (cc := cX11_then) (maxL := 4) (ret := (some .int)) (fun A => QI D (tyC cA) A rR (wX cA xd vd sd nd hd td ed kd images errorsR fewest vspoon vmark vcount vbodies sbits slens snum h_weight h_known h_hour h_swS h_swW h_waS h_spoons h_kind h_mark h_silver h_fresh h_texts h_tape h_tapeCount h_z h_waiting h_waitingCount t_weightR t_knownR t_hourR t_swSR t_swWR t_waSR t_spoonsR t_kindR t_markR t_silverR t_freshR t_textsR t_tape t_tapeCount t_z t_waiting t_waitingCount e_weight e_known e_hour e_swS e_swW e_waS e_spoons e_kind e_mark e_silver e_fresh e_texts e_tape e_tapeCount e_z e_waiting e_waitingCount L tx tstR)) (by decide +kernel) rfl (Nat.le_of_ble_eq_true rfl) ?_
  intro p e s m args below meth c A ls H hx hb hml hr hlk hts hown hA hK hE hP hD hS hv hmm
  have hv : lv_has ls 4 [(0, .ref (xd 0)), (1, .int n), (2, .int a), (3, .int what)] := hv
  have in_3 : ∀ w ∈ u_ws RX3 TX3 18, w ∈ wsX11_then := fun _ h => List.mem_cons_of_mem _ (List.mem_append_left _ (List.mem_append_right _ h))
  have in_11 : ∀ w ∈ u_ws RX11 TX11 9, w ∈ wsX11_then := fun _ h => List.mem_cons_of_mem _ (List.mem_append_left _ (List.mem_append_left _ (List.mem_append_right _ h)))
  have w_0 := hts (.constant RX11 78 (-1000000001)) (List.mem_of_getElem? (i := 1) rfl)
  have w_1 := hts (.fieldLink RX11 43 "SpoonsLast" "thought" "LSpoonsLast$House;") (List.mem_of_getElem? (i := 2) rfl)
  have w_2 := hts (.fieldLink RX11 39 "SpoonsLast" "house" "LSpoonsLast$House;") (List.mem_of_getElem? (i := 3) rfl)
  have w_3 := hts (.fieldLink RX11 121 "SpoonsLast$House" "silver" "[I") (List.mem_of_getElem? (i := 4) rfl)
  generalize hQ : MQ below _ args s 0 0 A = Q
  have C_24 : ∀ (errors_24 : Nat → Int32) (t_weight_24 : Nat → Int32) (t_known_24 : Int32) (t_hour_24 : Int32) (t_swS_24 : Nat → Int32) (t_swW_24 : Nat → Int32) (t_waS_24 : Nat → Int32) (t_spoons_24 : Int32) (t_kind_24 : Nat → Int32) (t_mark_24 : Nat → Int32) (t_silver_24 : Nat → Int32) (t_fresh_24 : Nat → Int64) (t_texts_24 : Nat → Option Nat) (tst_24 : Nat → Nat → Int32), fX11_then_24 errors_24 h_weight h_known h_hour h_swS h_swW h_waS h_spoons h_kind h_mark h_silver h_fresh h_texts t_weight_24 t_known_24 t_hour_24 t_swS_24 t_swW_24 t_waS_24 t_spoons_24 t_kind_24 t_mark_24 t_silver_24 t_fresh_24 t_texts_24 L tx tst_24 = some (rR, errorsR, t_weightR, t_knownR, t_hourR, t_swSR, t_swWR, t_waSR, t_spoonsR, t_kindR, t_markR, t_silverR, t_freshR, t_textsR, tstR) → WW p l e ({ frames := 6, cells := 0, slots := 0, locals := 141 } : Room) s m args below meth c D A 0 0 Q (wX cA xd vd sd nd hd td ed kd images errors_24 fewest vspoon vmark vcount vbodies sbits slens snum h_weight h_known h_hour h_swS h_swW h_waS h_spoons h_kind h_mark h_silver h_fresh h_texts h_tape h_tapeCount h_z h_waiting h_waitingCount t_weight_24 t_known_24 t_hour_24 t_swS_24 t_swW_24 t_waS_24 t_spoons_24 t_kind_24 t_mark_24 t_silver_24 t_fresh_24 t_texts_24 t_tape t_tapeCount t_z t_waiting t_waitingCount e_weight e_known e_hour e_swS e_swW e_waS e_spoons e_kind e_mark e_silver e_fresh e_texts e_tape e_tapeCount e_z e_waiting e_waitingCount L tx tst_24) 4 [(0, .ref (xd 0))] 24 [] := by
    intro errors_24 t_weight_24 t_known_24 t_hour_24 t_swS_24 t_swW_24 t_waS_24 t_spoons_24 t_kind_24 t_mark_24 t_silver_24 t_fresh_24 t_texts_24 tst_24 h
    unfold fX11_then_24 at h
    intro H locs ls hP hD hS hv
    refine lv_aload_n hx hb dX11_then_24 rfl (lv_at hv 0 rfl) ?_
    refine lv_ldc (v := (-1000000001 : Int32)) hx hb hown w_0 dX11_then_25 ?_
    obtain ⟨⟨r_4, errors_5⟩, hf_6, h⟩ := bd_ex h
    have sb := Sb.same hP hD hS hA
    refine calI (va_runV (As := [.int (-1000000001 : Int32)]) (rest := []) ⟨hx, hb, hml, hown, hts⟩ (c_X11_refused l G D cA xd vd sd nd hd td ed kd _ images errors_24 fewest vspoon vmark vcount vbodies sbits slens snum h_weight h_known h_hour h_swS h_swW h_waS h_spoons h_kind h_mark h_silver h_fresh h_texts h_tape h_tapeCount h_z h_waiting h_waitingCount t_weight_24 t_known_24 t_hour_24 t_swS_24 t_swW_24 t_waS_24 t_spoons_24 t_kind_24 t_mark_24 t_silver_24 t_fresh_24 t_texts_24 t_tape t_tapeCount t_z t_waiting t_waitingCount e_weight e_known e_hour e_swS e_swW e_waS e_spoons e_kind e_mark e_silver e_fresh e_texts e_tape e_tapeCount e_z e_waiting e_waitingCount L tx tst_24 (-1000000001 : Int32) r_4 errors_5 hf_6) (cwV 1 hts gX11_then_X11_refused rfl rfl rfl (by decide +kernel) ⟨Nat.le_of_ble_eq_true rfl, Nat.le_of_ble_eq_true rfl⟩) (pvV hE hK hS sb (va_recv hK hP (ci := 11) (q0 := 0) rfl rfl)) rfl rfl hv.1 rfl (lv_room (Nat.le_of_ble_eq_true rfl)) dX11_then_27 ⟨Nat.le_of_ble_eq_true rfl, Nat.le_of_ble_eq_true rfl⟩) hS sb (Jn.same sb) (fun H locs hP hD hS => ?_)
    have hP : va_P D vwCl (wX cA xd vd sd nd hd td ed kd images errors_5 fewest vspoon vmark vcount vbodies sbits slens snum h_weight h_known h_hour h_swS h_swW h_waS h_spoons h_kind h_mark h_silver h_fresh h_texts h_tape h_tapeCount h_z h_waiting h_waitingCount t_weight_24 t_known_24 t_hour_24 t_swS_24 t_swW_24 t_waS_24 t_spoons_24 t_kind_24 t_mark_24 t_silver_24 t_fresh_24 t_texts_24 t_tape t_tapeCount t_z t_waiting t_waitingCount e_weight e_known e_hour e_swS e_swW e_waS e_spoons e_kind e_mark e_silver e_fresh e_texts e_tape e_tapeCount e_z e_waiting e_waitingCount L tx tst_24) H := hP
    have hD : va_D A (wX cA xd vd sd nd hd td ed kd images errors_5 fewest vspoon vmark vcount vbodies sbits slens snum h_weight h_known h_hour h_swS h_swW h_waS h_spoons h_kind h_mark h_silver h_fresh h_texts h_tape h_tapeCount h_z h_waiting h_waitingCount t_weight_24 t_known_24 t_hour_24 t_swS_24 t_swW_24 t_waS_24 t_spoons_24 t_kind_24 t_mark_24 t_silver_24 t_fresh_24 t_texts_24 t_tape t_tapeCount t_z t_waiting t_waitingCount e_weight e_known e_hour e_swS e_swW e_waS e_spoons e_kind e_mark e_silver e_fresh e_texts e_tape e_tapeCount e_z e_waiting e_waitingCount L tx tst_24) := hD
    have h := Option.some.inj h
    have ee0 : r_4 = rR := congrArg (fun q => q.1) h
    have ee1 : errors_5 = errorsR := congrArg (fun q => q.2.1) h
    have ee2 : t_weight_24 = t_weightR := congrArg (fun q => q.2.2.1) h
    have ee3 : t_known_24 = t_knownR := congrArg (fun q => q.2.2.2.1) h
    have ee4 : t_hour_24 = t_hourR := congrArg (fun q => q.2.2.2.2.1) h
    have ee5 : t_swS_24 = t_swSR := congrArg (fun q => q.2.2.2.2.2.1) h
    have ee6 : t_swW_24 = t_swWR := congrArg (fun q => q.2.2.2.2.2.2.1) h
    have ee7 : t_waS_24 = t_waSR := congrArg (fun q => q.2.2.2.2.2.2.2.1) h
    have ee8 : t_spoons_24 = t_spoonsR := congrArg (fun q => q.2.2.2.2.2.2.2.2.1) h
    have ee9 : t_kind_24 = t_kindR := congrArg (fun q => q.2.2.2.2.2.2.2.2.2.1) h
    have ee10 : t_mark_24 = t_markR := congrArg (fun q => q.2.2.2.2.2.2.2.2.2.2.1) h
    have ee11 : t_silver_24 = t_silverR := congrArg (fun q => q.2.2.2.2.2.2.2.2.2.2.2.1) h
    have ee12 : t_fresh_24 = t_freshR := congrArg (fun q => q.2.2.2.2.2.2.2.2.2.2.2.2.1) h
    have ee13 : t_texts_24 = t_textsR := congrArg (fun q => q.2.2.2.2.2.2.2.2.2.2.2.2.2.1) h
    have ee14 : tst_24 = tstR := congrArg (fun q => q.2.2.2.2.2.2.2.2.2.2.2.2.2.2) h
    subst ee0
    subst ee1
    subst ee2
    subst ee3
    subst ee4
    subst ee5
    subst ee6
    subst ee7
    subst ee8
    subst ee9
    subst ee10
    subst ee11
    subst ee12
    subst ee13
    subst ee14
    rw [← hQ]
    exact retI hx hb hr hlk hK hP hD hS dX11_then_30 ⟨Nat.le_of_ble_eq_true rfl, Nat.le_of_ble_eq_true rfl⟩
  have hP : va_P D vwCl (wX cA xd vd sd nd hd td ed kd images errors fewest vspoon vmark vcount vbodies sbits slens snum h_weight h_known h_hour h_swS h_swW h_waS h_spoons h_kind h_mark h_silver h_fresh h_texts h_tape h_tapeCount h_z h_waiting h_waitingCount t_weight t_known t_hour t_swS t_swW t_waS t_spoons t_kind t_mark t_silver t_fresh t_texts t_tape t_tapeCount t_z t_waiting t_waitingCount e_weight e_known e_hour e_swS e_swW e_waS e_spoons e_kind e_mark e_silver e_fresh e_texts e_tape e_tapeCount e_z e_waiting e_waitingCount L tx tst) H := hP
  unfold fX11_then at h
  refine lv_iload_n hx hb dX11_then_0 rfl (lv_at hv 1 rfl) ?_
  obtain ⟨r_1, hf_2, h⟩ := bd_ex h
  have sb := Sb.nil hP hD hS hA
  refine calI (va_runS (As := [.int n]) (rest := []) ⟨hx, hb, hml, hown, hts⟩ (c_X11_isBehind l G D cA  _ n r_1 hf_2) (va_cwS 1 hts gX11_then_X11_isBehind rfl rfl rfl (by decide +kernel) ⟨Nat.le_of_ble_eq_true rfl, Nat.le_of_ble_eq_true rfl⟩) (pvS hE hK hS sb) rfl rfl hv.1 rfl (lv_room (Nat.le_of_ble_eq_true rfl)) dX11_then_1 ⟨Nat.le_of_ble_eq_true rfl, Nat.le_of_ble_eq_true rfl⟩) hS sb (Jn.nil hP hD) (fun H locs hP hD hS => ?_)
  have hP : va_P D vwCl (wX cA xd vd sd nd hd td ed kd images errors fewest vspoon vmark vcount vbodies sbits slens snum h_weight h_known h_hour h_swS h_swW h_waS h_spoons h_kind h_mark h_silver h_fresh h_texts h_tape h_tapeCount h_z h_waiting h_waitingCount t_weight t_known t_hour t_swS t_swW t_waS t_spoons t_kind t_mark t_silver t_fresh t_texts t_tape t_tapeCount t_z t_waiting t_waitingCount e_weight e_known e_hour e_swS e_swW e_waS e_spoons e_kind e_mark e_silver e_fresh e_texts e_tape e_tapeCount e_z e_waiting e_waitingCount L tx tst) H := hP
  have hD : va_D A (wX cA xd vd sd nd hd td ed kd images errors fewest vspoon vmark vcount vbodies sbits slens snum h_weight h_known h_hour h_swS h_swW h_waS h_spoons h_kind h_mark h_silver h_fresh h_texts h_tape h_tapeCount h_z h_waiting h_waitingCount t_weight t_known t_hour t_swS t_swW t_waS t_spoons t_kind t_mark t_silver t_fresh t_texts t_tape t_tapeCount t_z t_waiting t_waitingCount e_weight e_known e_hour e_swS e_swW e_waS e_spoons e_kind e_mark e_silver e_fresh e_texts e_tape e_tapeCount e_z e_waiting e_waitingCount L tx tst) := hD
  refine lv_if_eq (tgt := 24) hx hb dX11_then_4 (by decide) (fun c_3 => ?_) (fun c_3 => ?_)
  · have h := ite_t c_3 h
    exact C_24 errors t_weight t_known t_hour t_swS t_swW t_waS t_spoons t_kind t_mark t_silver t_fresh t_texts tst h _ _ _ hP hD hS (lv_sub hv [0] rfl)
  · have h := ite_f c_3 h
    refine lv_aload_n hx hb dX11_then_7 rfl (lv_at hv 0 rfl) ?_
    refine lv_iload_n hx hb dX11_then_8 rfl (lv_at hv 2 rfl) ?_
    obtain ⟨r_7, hf_8, h⟩ := bd_ex h
    have sb := Sb.same hP hD hS hA
    refine calI (va_runV (As := [.int a]) (rest := []) ⟨hx, hb, hml, hown, hts⟩ (c_X11_isSpoon l G D cA xd vd sd nd hd td ed kd _ images errors fewest vspoon vmark vcount vbodies sbits slens snum h_weight h_known h_hour h_swS h_swW h_waS h_spoons h_kind h_mark h_silver h_fresh h_texts h_tape h_tapeCount h_z h_waiting h_waitingCount t_weight t_known t_hour t_swS t_swW t_waS t_spoons t_kind t_mark t_silver t_fresh t_texts t_tape t_tapeCount t_z t_waiting t_waitingCount e_weight e_known e_hour e_swS e_swW e_waS e_spoons e_kind e_mark e_silver e_fresh e_texts e_tape e_tapeCount e_z e_waiting e_waitingCount L tx tst a r_7 hf_8) (cwV 1 hts gX11_then_X11_isSpoon rfl rfl rfl (by decide +kernel) ⟨Nat.le_of_ble_eq_true rfl, Nat.le_of_ble_eq_true rfl⟩) (pvV hE hK hS sb (va_recv hK hP (ci := 11) (q0 := 0) rfl rfl)) rfl rfl hv.1 rfl (lv_room (Nat.le_of_ble_eq_true rfl)) dX11_then_9 ⟨Nat.le_of_ble_eq_true rfl, Nat.le_of_ble_eq_true rfl⟩) hS sb (Jn.same sb) (fun H locs hP hD hS => ?_)
    have hP : va_P D vwCl (wX cA xd vd sd nd hd td ed kd images errors fewest vspoon vmark vcount vbodies sbits slens snum h_weight h_known h_hour h_swS h_swW h_waS h_spoons h_kind h_mark h_silver h_fresh h_texts h_tape h_tapeCount h_z h_waiting h_waitingCount t_weight t_known t_hour t_swS t_swW t_waS t_spoons t_kind t_mark t_silver t_fresh t_texts t_tape t_tapeCount t_z t_waiting t_waitingCount e_weight e_known e_hour e_swS e_swW e_waS e_spoons e_kind e_mark e_silver e_fresh e_texts e_tape e_tapeCount e_z e_waiting e_waitingCount L tx tst) H := hP
    have hD : va_D A (wX cA xd vd sd nd hd td ed kd images errors fewest vspoon vmark vcount vbodies sbits slens snum h_weight h_known h_hour h_swS h_swW h_waS h_spoons h_kind h_mark h_silver h_fresh h_texts h_tape h_tapeCount h_z h_waiting h_waitingCount t_weight t_known t_hour t_swS t_swW t_waS t_spoons t_kind t_mark t_silver t_fresh t_texts t_tape t_tapeCount t_z t_waiting t_waitingCount e_weight e_known e_hour e_swS e_swW e_waS e_spoons e_kind e_mark e_silver e_fresh e_texts e_tape e_tapeCount e_z e_waiting e_waitingCount L tx tst) := hD
    refine lv_if_eq (tgt := 24) hx hb dX11_then_12 (by decide) (fun c_9 => ?_) (fun c_9 => ?_)
    · have h := ite_t c_9 h
      exact C_24 errors t_weight t_known t_hour t_swS t_swW t_waS t_spoons t_kind t_mark t_silver t_fresh t_texts tst h _ _ _ hP hD hS (lv_sub hv [0] rfl)
    · have h := ite_f c_9 h
      refine lv_iload_n hx hb dX11_then_15 rfl (lv_at hv 3 rfl) ?_
      refine lv_iconst (v := (0 : Int32)) hx hb dX11_then_16 (by decide) ?_
      refine lv_iconst (v := (1 : Int32)) hx hb dX11_then_17 (by decide) ?_
      obtain ⟨r_10, hf_11, h⟩ := bd_ex h
      have sb := Sb.nil hP hD hS hA
      refine calI (va_runS (As := [.int what, .int (0 : Int32), .int (1 : Int32)]) (rest := []) ⟨hx, hb, hml, hown, hts⟩ (c_X11_within l G D cA  _ what (0 : Int32) (1 : Int32) r_10 hf_11) (va_cwS 3 hts gX11_then_X11_within rfl rfl rfl (by decide +kernel) ⟨Nat.le_of_ble_eq_true rfl, Nat.le_of_ble_eq_true rfl⟩) (pvS hE hK hS sb) rfl rfl hv.1 rfl (lv_room (Nat.le_of_ble_eq_true rfl)) dX11_then_18 ⟨Nat.le_of_ble_eq_true rfl, Nat.le_of_ble_eq_true rfl⟩) hS sb (Jn.nil hP hD) (fun H locs hP hD hS => ?_)
      have hP : va_P D vwCl (wX cA xd vd sd nd hd td ed kd images errors fewest vspoon vmark vcount vbodies sbits slens snum h_weight h_known h_hour h_swS h_swW h_waS h_spoons h_kind h_mark h_silver h_fresh h_texts h_tape h_tapeCount h_z h_waiting h_waitingCount t_weight t_known t_hour t_swS t_swW t_waS t_spoons t_kind t_mark t_silver t_fresh t_texts t_tape t_tapeCount t_z t_waiting t_waitingCount e_weight e_known e_hour e_swS e_swW e_waS e_spoons e_kind e_mark e_silver e_fresh e_texts e_tape e_tapeCount e_z e_waiting e_waitingCount L tx tst) H := hP
      have hD : va_D A (wX cA xd vd sd nd hd td ed kd images errors fewest vspoon vmark vcount vbodies sbits slens snum h_weight h_known h_hour h_swS h_swW h_waS h_spoons h_kind h_mark h_silver h_fresh h_texts h_tape h_tapeCount h_z h_waiting h_waitingCount t_weight t_known t_hour t_swS t_swW t_waS t_spoons t_kind t_mark t_silver t_fresh t_texts t_tape t_tapeCount t_z t_waiting t_waitingCount e_weight e_known e_hour e_swS e_swW e_waS e_spoons e_kind e_mark e_silver e_fresh e_texts e_tape e_tapeCount e_z e_waiting e_waitingCount L tx tst) := hD
      refine lv_if_ne (tgt := 31) hx hb dX11_then_21 (by decide) (fun c_12 => ?_) (fun c_12 => ?_)
      · have h := ite_f c_12 h
        refine lv_aload_n hx hb dX11_then_31 rfl (lv_at hv 0 rfl) ?_
        refine va_get (D := D) (ci := 11) (v := .ref (td 0)) (C := RX11) (T := TX11) (N := 9) hx hb hts in_11 hown hK hP 0 rfl rfl 1 (by decide) w_1 (fun _ h9 => h9) rfl dX11_then_32 ?_
        refine lv_aload_n hx hb dX11_then_35 rfl (lv_at hv 0 rfl) ?_
        refine va_get (D := D) (ci := 11) (v := .ref (hd 0)) (C := RX11) (T := TX11) (N := 9) hx hb hts in_11 hown hK hP 0 rfl rfl 0 (by decide) w_2 (fun _ h9 => h9) rfl dX11_then_36 ?_
        obtain ⟨⟨t_weight_13, t_known_14, t_hour_15, t_swS_16, t_swW_17, t_waS_18, t_spoons_19, t_kind_20, t_mark_21, t_silver_22, t_fresh_23, t_texts_24⟩, hf_25, h⟩ := bd_ex h
        have sb : Sb D A H (wHH cA td hd kd t_weight t_known t_hour t_swS t_swW t_waS t_spoons t_kind t_mark t_silver t_fresh t_texts t_tape t_tapeCount t_z t_waiting t_waitingCount h_weight h_known h_hour h_swS h_swW h_waS h_spoons h_kind h_mark h_silver h_fresh h_texts h_tape h_tapeCount h_z h_waiting h_waitingCount L tx tst) := sbXth hP hD hS hA
        refine calV (va_runV (As := [.ref (hd 0)]) (rest := []) ⟨hx, hb, hml, hown, hts⟩ (c_X3_follow l G D cA td hd kd _ t_weight t_known t_hour t_swS t_swW t_waS t_spoons t_kind t_mark t_silver t_fresh t_texts t_tape t_tapeCount t_z t_waiting t_waitingCount h_weight h_known h_hour h_swS h_swW h_waS h_spoons h_kind h_mark h_silver h_fresh h_texts h_tape h_tapeCount h_z h_waiting h_waitingCount L tx tst t_weight_13 t_known_14 t_hour_15 t_swS_16 t_swW_17 t_waS_18 t_spoons_19 t_kind_20 t_mark_21 t_silver_22 t_fresh_23 t_texts_24 hf_25) (cwV 1 hts gX11_then_X3_follow rfl rfl rfl (by decide +kernel) ⟨Nat.le_of_ble_eq_true rfl, Nat.le_of_ble_eq_true rfl⟩) (pvV hE hK hS sb (va_recv hK hP (ci := 3) (q0 := 26) rfl rfl)) rfl rfl hv.1 rfl (lv_room (Nat.le_of_ble_eq_true rfl)) dX11_then_39 ⟨Nat.le_of_ble_eq_true rfl, Nat.le_of_ble_eq_true rfl⟩) hS sb (jnXth hP hD) (fun H locs hP hD hS => ?_)
        have hP : va_P D vwCl (wX cA xd vd sd nd hd td ed kd images errors fewest vspoon vmark vcount vbodies sbits slens snum h_weight h_known h_hour h_swS h_swW h_waS h_spoons h_kind h_mark h_silver h_fresh h_texts h_tape h_tapeCount h_z h_waiting h_waitingCount t_weight_13 t_known_14 t_hour_15 t_swS_16 t_swW_17 t_waS_18 t_spoons_19 t_kind_20 t_mark_21 t_silver_22 t_fresh_23 t_texts_24 t_tape t_tapeCount t_z t_waiting t_waitingCount e_weight e_known e_hour e_swS e_swW e_waS e_spoons e_kind e_mark e_silver e_fresh e_texts e_tape e_tapeCount e_z e_waiting e_waitingCount L tx tst) H := hP
        have hD : va_D A (wX cA xd vd sd nd hd td ed kd images errors fewest vspoon vmark vcount vbodies sbits slens snum h_weight h_known h_hour h_swS h_swW h_waS h_spoons h_kind h_mark h_silver h_fresh h_texts h_tape h_tapeCount h_z h_waiting h_waitingCount t_weight_13 t_known_14 t_hour_15 t_swS_16 t_swW_17 t_waS_18 t_spoons_19 t_kind_20 t_mark_21 t_silver_22 t_fresh_23 t_texts_24 t_tape t_tapeCount t_z t_waiting t_waitingCount e_weight e_known e_hour e_swS e_swW e_waS e_spoons e_kind e_mark e_silver e_fresh e_texts e_tape e_tapeCount e_z e_waiting e_waitingCount L tx tst) := hD
        refine lv_aload_n hx hb dX11_then_42 rfl (lv_at hv 0 rfl) ?_
        refine va_get (D := D) (ci := 11) (v := .ref (td 0)) (C := RX11) (T := TX11) (N := 9) hx hb hts in_11 hown hK hP 0 rfl rfl 1 (by decide) w_1 (fun _ h9 => h9) rfl dX11_then_43 ?_
        refine lv_iload_n hx hb dX11_then_46 rfl (lv_at hv 1 rfl) ?_
        obtain ⟨⟨t_known_26, t_hour_27, t_silver_28, t_fresh_29, tst_30⟩, hf_31, h⟩ := bd_ex h
        have sb : Sb D A H (wH cA td kd t_weight_13 t_known_14 t_hour_15 t_swS_16 t_swW_17 t_waS_18 t_spoons_19 t_kind_20 t_mark_21 t_silver_22 t_fresh_23 t_texts_24 t_tape t_tapeCount t_z t_waiting t_waitingCount L tx tst) := sbXt hP hD hS hA
        refine calV (va_runV (As := [.int n]) (rest := []) ⟨hx, hb, hml, hown, hts⟩ (c_X3_passHours l G D cA td kd _ t_weight_13 t_known_14 t_hour_15 t_swS_16 t_swW_17 t_waS_18 t_spoons_19 t_kind_20 t_mark_21 t_silver_22 t_fresh_23 t_texts_24 t_tape t_tapeCount t_z t_waiting t_waitingCount L tx tst n t_known_26 t_hour_27 t_silver_28 t_fresh_29 tst_30 hf_31) (cwV 1 hts gX11_then_X3_passHours rfl rfl rfl (by decide +kernel) ⟨Nat.le_of_ble_eq_true rfl, Nat.le_of_ble_eq_true rfl⟩) (pvV hE hK hS sb (va_recv hK hP (ci := 3) (q0 := 26) rfl rfl)) rfl rfl hv.1 rfl (lv_room (Nat.le_of_ble_eq_true rfl)) dX11_then_47 ⟨Nat.le_of_ble_eq_true rfl, Nat.le_of_ble_eq_true rfl⟩) hS sb (jnXt hP hD) (fun H locs hP hD hS => ?_)
        have hP : va_P D vwCl (wX cA xd vd sd nd hd td ed kd images errors fewest vspoon vmark vcount vbodies sbits slens snum h_weight h_known h_hour h_swS h_swW h_waS h_spoons h_kind h_mark h_silver h_fresh h_texts h_tape h_tapeCount h_z h_waiting h_waitingCount t_weight_13 t_known_26 t_hour_27 t_swS_16 t_swW_17 t_waS_18 t_spoons_19 t_kind_20 t_mark_21 t_silver_28 t_fresh_29 t_texts_24 t_tape t_tapeCount t_z t_waiting t_waitingCount e_weight e_known e_hour e_swS e_swW e_waS e_spoons e_kind e_mark e_silver e_fresh e_texts e_tape e_tapeCount e_z e_waiting e_waitingCount L tx tst_30) H := hP
        have hD : va_D A (wX cA xd vd sd nd hd td ed kd images errors fewest vspoon vmark vcount vbodies sbits slens snum h_weight h_known h_hour h_swS h_swW h_waS h_spoons h_kind h_mark h_silver h_fresh h_texts h_tape h_tapeCount h_z h_waiting h_waitingCount t_weight_13 t_known_26 t_hour_27 t_swS_16 t_swW_17 t_waS_18 t_spoons_19 t_kind_20 t_mark_21 t_silver_28 t_fresh_29 t_texts_24 t_tape t_tapeCount t_z t_waiting t_waitingCount e_weight e_known e_hour e_swS e_swW e_waS e_spoons e_kind e_mark e_silver e_fresh e_texts e_tape e_tapeCount e_z e_waiting e_waitingCount L tx tst_30) := hD
        refine lv_iload_n hx hb dX11_then_50 rfl (lv_at hv 3 rfl) ?_
        refine lv_if_ne (tgt := 66) hx hb dX11_then_51 (by decide) (fun c_32 => ?_) (fun c_32 => ?_)
        · have h := ite_f c_32 h
          refine lv_aload_n hx hb dX11_then_66 rfl (lv_at hv 0 rfl) ?_
          refine va_get (D := D) (ci := 11) (v := .ref (td 0)) (C := RX11) (T := TX11) (N := 9) hx hb hts in_11 hown hK hP 0 rfl rfl 1 (by decide) w_1 (fun _ h9 => h9) rfl dX11_then_67 ?_
          refine lv_iload_n hx hb dX11_then_70 rfl (lv_at hv 2 rfl) ?_
          obtain ⟨r_33, hf_34, h⟩ := bd_ex h
          have sb : Sb D A H (wH cA td kd t_weight_13 t_known_26 t_hour_27 t_swS_16 t_swW_17 t_waS_18 t_spoons_19 t_kind_20 t_mark_21 t_silver_28 t_fresh_29 t_texts_24 t_tape t_tapeCount t_z t_waiting t_waitingCount L tx tst_30) := sbXt hP hD hS hA
          refine calI (va_runV (As := [.int a]) (rest := []) ⟨hx, hb, hml, hown, hts⟩ (c_X3_wordsOn l G D cA td kd _ t_weight_13 t_known_26 t_hour_27 t_swS_16 t_swW_17 t_waS_18 t_spoons_19 t_kind_20 t_mark_21 t_silver_28 t_fresh_29 t_texts_24 t_tape t_tapeCount t_z t_waiting t_waitingCount L tx tst_30 a r_33 hf_34) (cwV 1 hts gX11_then_X3_wordsOn rfl rfl rfl (by decide +kernel) ⟨Nat.le_of_ble_eq_true rfl, Nat.le_of_ble_eq_true rfl⟩) (pvV hE hK hS sb (va_recv hK hP (ci := 3) (q0 := 26) rfl rfl)) rfl rfl hv.1 rfl (lv_room (Nat.le_of_ble_eq_true rfl)) dX11_then_71 ⟨Nat.le_of_ble_eq_true rfl, Nat.le_of_ble_eq_true rfl⟩) hS sb (jnXt hP hD) (fun H locs hP hD hS => ?_)
          have hP : va_P D vwCl (wX cA xd vd sd nd hd td ed kd images errors fewest vspoon vmark vcount vbodies sbits slens snum h_weight h_known h_hour h_swS h_swW h_waS h_spoons h_kind h_mark h_silver h_fresh h_texts h_tape h_tapeCount h_z h_waiting h_waitingCount t_weight_13 t_known_26 t_hour_27 t_swS_16 t_swW_17 t_waS_18 t_spoons_19 t_kind_20 t_mark_21 t_silver_28 t_fresh_29 t_texts_24 t_tape t_tapeCount t_z t_waiting t_waitingCount e_weight e_known e_hour e_swS e_swW e_waS e_spoons e_kind e_mark e_silver e_fresh e_texts e_tape e_tapeCount e_z e_waiting e_waitingCount L tx tst_30) H := hP
          have hD : va_D A (wX cA xd vd sd nd hd td ed kd images errors fewest vspoon vmark vcount vbodies sbits slens snum h_weight h_known h_hour h_swS h_swW h_waS h_spoons h_kind h_mark h_silver h_fresh h_texts h_tape h_tapeCount h_z h_waiting h_waitingCount t_weight_13 t_known_26 t_hour_27 t_swS_16 t_swW_17 t_waS_18 t_spoons_19 t_kind_20 t_mark_21 t_silver_28 t_fresh_29 t_texts_24 t_tape t_tapeCount t_z t_waiting t_waitingCount e_weight e_known e_hour e_swS e_swW e_waS e_spoons e_kind e_mark e_silver e_fresh e_texts e_tape e_tapeCount e_z e_waiting e_waitingCount L tx tst_30) := hD
          have h := Option.some.inj h
          have ee0 : r_33 = rR := congrArg (fun q => q.1) h
          have ee1 : errors = errorsR := congrArg (fun q => q.2.1) h
          have ee2 : t_weight_13 = t_weightR := congrArg (fun q => q.2.2.1) h
          have ee3 : t_known_26 = t_knownR := congrArg (fun q => q.2.2.2.1) h
          have ee4 : t_hour_27 = t_hourR := congrArg (fun q => q.2.2.2.2.1) h
          have ee5 : t_swS_16 = t_swSR := congrArg (fun q => q.2.2.2.2.2.1) h
          have ee6 : t_swW_17 = t_swWR := congrArg (fun q => q.2.2.2.2.2.2.1) h
          have ee7 : t_waS_18 = t_waSR := congrArg (fun q => q.2.2.2.2.2.2.2.1) h
          have ee8 : t_spoons_19 = t_spoonsR := congrArg (fun q => q.2.2.2.2.2.2.2.2.1) h
          have ee9 : t_kind_20 = t_kindR := congrArg (fun q => q.2.2.2.2.2.2.2.2.2.1) h
          have ee10 : t_mark_21 = t_markR := congrArg (fun q => q.2.2.2.2.2.2.2.2.2.2.1) h
          have ee11 : t_silver_28 = t_silverR := congrArg (fun q => q.2.2.2.2.2.2.2.2.2.2.2.1) h
          have ee12 : t_fresh_29 = t_freshR := congrArg (fun q => q.2.2.2.2.2.2.2.2.2.2.2.2.1) h
          have ee13 : t_texts_24 = t_textsR := congrArg (fun q => q.2.2.2.2.2.2.2.2.2.2.2.2.2.1) h
          have ee14 : tst_30 = tstR := congrArg (fun q => q.2.2.2.2.2.2.2.2.2.2.2.2.2.2) h
          subst ee0
          subst ee1
          subst ee2
          subst ee3
          subst ee4
          subst ee5
          subst ee6
          subst ee7
          subst ee8
          subst ee9
          subst ee10
          subst ee11
          subst ee12
          subst ee13
          subst ee14
          rw [← hQ]
          exact retI hx hb hr hlk hK hP hD hS dX11_then_74 ⟨Nat.le_of_ble_eq_true rfl, Nat.le_of_ble_eq_true rfl⟩
        · have h := ite_t c_32 h
          refine lv_aload_n hx hb dX11_then_54 rfl (lv_at hv 0 rfl) ?_
          refine va_get (D := D) (ci := 11) (v := .ref (td 0)) (C := RX11) (T := TX11) (N := 9) hx hb hts in_11 hown hK hP 0 rfl rfl 1 (by decide) w_1 (fun _ h9 => h9) rfl dX11_then_55 ?_
          refine va_get (D := D) (ci := 3) (v := .ref (td 11)) (C := RX3) (T := TX3) (N := 18) hx hb hts in_3 hown hK hP 26 rfl rfl 10 (by decide) w_3 (fun _ h9 => h9) rfl dX11_then_58 ?_
          refine lv_iload_n hx hb dX11_then_61 rfl (lv_at hv 2 rfl) ?_
          obtain ⟨c_35, h⟩ := ckI_ex h
          refine va_iald (D := D) hx hb hK hP 33 0 rfl rfl c_35 dX11_then_62 ?_
          refine lv_goto (tgt := 74) hx hb dX11_then_63 (by decide) ?_
          have h := Option.some.inj h
          have ee0 : (t_silver_28 (a).toNatClampNeg) = rR := congrArg (fun q => q.1) h
          have ee1 : errors = errorsR := congrArg (fun q => q.2.1) h
          have ee2 : t_weight_13 = t_weightR := congrArg (fun q => q.2.2.1) h
          have ee3 : t_known_26 = t_knownR := congrArg (fun q => q.2.2.2.1) h
          have ee4 : t_hour_27 = t_hourR := congrArg (fun q => q.2.2.2.2.1) h
          have ee5 : t_swS_16 = t_swSR := congrArg (fun q => q.2.2.2.2.2.1) h
          have ee6 : t_swW_17 = t_swWR := congrArg (fun q => q.2.2.2.2.2.2.1) h
          have ee7 : t_waS_18 = t_waSR := congrArg (fun q => q.2.2.2.2.2.2.2.1) h
          have ee8 : t_spoons_19 = t_spoonsR := congrArg (fun q => q.2.2.2.2.2.2.2.2.1) h
          have ee9 : t_kind_20 = t_kindR := congrArg (fun q => q.2.2.2.2.2.2.2.2.2.1) h
          have ee10 : t_mark_21 = t_markR := congrArg (fun q => q.2.2.2.2.2.2.2.2.2.2.1) h
          have ee11 : t_silver_28 = t_silverR := congrArg (fun q => q.2.2.2.2.2.2.2.2.2.2.2.1) h
          have ee12 : t_fresh_29 = t_freshR := congrArg (fun q => q.2.2.2.2.2.2.2.2.2.2.2.2.1) h
          have ee13 : t_texts_24 = t_textsR := congrArg (fun q => q.2.2.2.2.2.2.2.2.2.2.2.2.2.1) h
          have ee14 : tst_30 = tstR := congrArg (fun q => q.2.2.2.2.2.2.2.2.2.2.2.2.2.2) h
          subst ee0
          subst ee1
          subst ee2
          subst ee3
          subst ee4
          subst ee5
          subst ee6
          subst ee7
          subst ee8
          subst ee9
          subst ee10
          subst ee11
          subst ee12
          subst ee13
          subst ee14
          rw [← hQ]
          exact retI hx hb hr hlk hK hP hD hS dX11_then_74 ⟨Nat.le_of_ble_eq_true rfl, Nat.le_of_ble_eq_true rfl⟩
      · have h := ite_t c_12 h
        exact C_24 errors t_weight t_known t_hour t_swS t_swW t_waS t_spoons t_kind t_mark t_silver t_fresh t_texts tst h _ _ _ hP hD hS (lv_sub hv [0] rfl)

def fX11_spreads (n : Int32) (errors : Nat → Int32) (h_weight : Nat → Int32) (h_known : Int32) (h_hour : Int32) (h_swS : Nat → Int32) (h_swW : Nat → Int32) (h_waS : Nat → Int32) (h_spoons : Int32) (h_kind : Nat → Int32) (h_mark : Nat → Int32) (h_silver : Nat → Int32) (h_fresh : Nat → Int64) (h_texts : Nat → Option Nat) (t_weight : Nat → Int32) (t_known : Int32) (t_hour : Int32) (t_swS : Nat → Int32) (t_swW : Nat → Int32) (t_waS : Nat → Int32) (t_spoons : Int32) (t_kind : Nat → Int32) (t_mark : Nat → Int32) (t_silver : Nat → Int32) (t_fresh : Nat → Int64) (t_texts : Nat → Option Nat) (L : List Nat) (tx : Nat → TXc) (tst : Nat → Nat → Int32) : Option (Int32 × (Nat → Int32) × (Nat → Int32) × Int32 × Int32 × (Nat → Int32) × (Nat → Int32) × (Nat → Int32) × Int32 × (Nat → Int32) × (Nat → Int32) × (Nat → Int32) × (Nat → Int64) × (Nat → Option Nat) × (Nat → Nat → Int32)) :=
  bd (fX11_isBehind n) fun r_1 => (if r_1 = 0 then bd (fX11_refused (-1000000001 : Int32) errors) fun (r_25, errors_26) => some (r_25, errors_26, t_weight, t_known, t_hour, t_swS, t_swW, t_waS, t_spoons, t_kind, t_mark, t_silver, t_fresh, t_texts, tst) else bd (fX3_follow t_weight t_known t_hour t_swS t_swW t_waS t_spoons t_kind t_mark t_silver t_fresh t_texts h_weight h_known h_hour h_swS h_swW h_waS h_spoons h_kind h_mark h_silver h_fresh h_texts L) fun (t_weight_4, t_known_5, t_hour_6, t_swS_7, t_swW_8, t_waS_9, t_spoons_10, t_kind_11, t_mark_12, t_silver_13, t_fresh_14, t_texts_15) => bd (fX3_passHours n t_weight_4 t_known_5 t_hour_6 t_swS_7 t_swW_8 t_waS_9 t_spoons_10 t_kind_11 t_mark_12 t_silver_13 t_fresh_14 t_texts_15 L tx tst) fun (t_known_17, t_hour_18, t_silver_19, t_fresh_20, tst_21) => bd (fJ6_bitCount_0f7a4 t_known_17) fun r_23 => some (r_23, errors, t_weight_4, t_known_17, t_hour_18, t_swS_7, t_swW_8, t_waS_9, t_spoons_10, t_kind_11, t_mark_12, t_silver_19, t_fresh_20, t_texts_15, tst_21))
set_option maxHeartbeats 4000000 in
set_option maxRecDepth 100000 in
theorem c_X11_spreads (l : Launch) (G : Nat → Nat) (D : va_G) (cA : Nat → ClassId) (xd : Nat → Nat) (vd : Nat → Nat) (sd : Nat → Nat) (nd : Nat → Nat) (hd : Nat → Nat) (td : Nat → Nat) (ed : Nat → Nat) (kd : Nat → Nat) (sz : Nat) (images : Int32) (errors : Nat → Int32) (fewest : Nat → Int32) (vspoon : Int32) (vmark : Int32) (vcount : Int32) (vbodies : Nat → Int32) (sbits : Nat → Int32) (slens : Nat → Int32) (snum : Nat → Nat → Int32) (h_weight : Nat → Int32) (h_known : Int32) (h_hour : Int32) (h_swS : Nat → Int32) (h_swW : Nat → Int32) (h_waS : Nat → Int32) (h_spoons : Int32) (h_kind : Nat → Int32) (h_mark : Nat → Int32) (h_silver : Nat → Int32) (h_fresh : Nat → Int64) (h_texts : Nat → Option Nat) (h_tape : Nat → Int32) (h_tapeCount : Int32) (h_z : Int32) (h_waiting : Nat → Int32) (h_waitingCount : Int32) (t_weight : Nat → Int32) (t_known : Int32) (t_hour : Int32) (t_swS : Nat → Int32) (t_swW : Nat → Int32) (t_waS : Nat → Int32) (t_spoons : Int32) (t_kind : Nat → Int32) (t_mark : Nat → Int32) (t_silver : Nat → Int32) (t_fresh : Nat → Int64) (t_texts : Nat → Option Nat) (t_tape : Nat → Int32) (t_tapeCount : Int32) (t_z : Int32) (t_waiting : Nat → Int32) (t_waitingCount : Int32) (e_weight : Nat → Int32) (e_known : Int32) (e_hour : Int32) (e_swS : Nat → Int32) (e_swW : Nat → Int32) (e_waS : Nat → Int32) (e_spoons : Int32) (e_kind : Nat → Int32) (e_mark : Nat → Int32) (e_silver : Nat → Int32) (e_fresh : Nat → Int64) (e_texts : Nat → Option Nat) (e_tape : Nat → Int32) (e_tapeCount : Int32) (e_z : Int32) (e_waiting : Nat → Int32) (e_waitingCount : Int32) (L : List Nat) (tx : Nat → TXc) (tst : Nat → Nat → Int32) (n : Int32) (rR : Int32) (errorsR : Nat → Int32) (t_weightR : Nat → Int32) (t_knownR : Int32) (t_hourR : Int32) (t_swSR : Nat → Int32) (t_swWR : Nat → Int32) (t_waSR : Nat → Int32) (t_spoonsR : Int32) (t_kindR : Nat → Int32) (t_markR : Nat → Int32) (t_silverR : Nat → Int32) (t_freshR : Nat → Int64) (t_textsR : Nat → Option Nat) (tstR : Nat → Nat → Int32) (h : fX11_spreads n errors h_weight h_known h_hour h_swS h_swW h_waS h_spoons h_kind h_mark h_silver h_fresh h_texts t_weight t_known t_hour t_swS t_swW t_waS t_spoons t_kind t_mark t_silver t_fresh t_texts L tx tst = some (rR, errorsR, t_weightR, t_knownR, t_hourR, t_swSR, t_swWR, t_waSR, t_spoonsR, t_kindR, t_markR, t_silverR, t_freshR, t_textsR, tstR)) : Met l yX11_spreads wsX11_spreads ({ frames := 6, cells := 0, slots := 0, locals := 141 } : Room) (PW G D (tyC cA) sz (wX cA xd vd sd nd hd td ed kd images errors fewest vspoon vmark vcount vbodies sbits slens snum h_weight h_known h_hour h_swS h_swW h_waS h_spoons h_kind h_mark h_silver h_fresh h_texts h_tape h_tapeCount h_z h_waiting h_waitingCount t_weight t_known t_hour t_swS t_swW t_waS t_spoons t_kind t_mark t_silver t_fresh t_texts t_tape t_tapeCount t_z t_waiting t_waitingCount e_weight e_known e_hour e_swS e_swW e_waS e_spoons e_kind e_mark e_silver e_fresh e_texts e_tape e_tapeCount e_z e_waiting e_waitingCount L tx tst) [.ref (xd 0), .int n]) (QI D (tyC cA) (va_A (wX cA xd vd sd nd hd td ed kd images errors fewest vspoon vmark vcount vbodies sbits slens snum h_weight h_known h_hour h_swS h_swW h_waS h_spoons h_kind h_mark h_silver h_fresh h_texts h_tape h_tapeCount h_z h_waiting h_waitingCount t_weight t_known t_hour t_swS t_swW t_waS t_spoons t_kind t_mark t_silver t_fresh t_texts t_tape t_tapeCount t_z t_waiting t_waitingCount e_weight e_known e_hour e_swS e_swW e_waS e_spoons e_kind e_mark e_silver e_fresh e_texts e_tape e_tapeCount e_z e_waiting e_waitingCount L tx tst) sz) rR (wX cA xd vd sd nd hd td ed kd images errorsR fewest vspoon vmark vcount vbodies sbits slens snum h_weight h_known h_hour h_swS h_swW h_waS h_spoons h_kind h_mark h_silver h_fresh h_texts h_tape h_tapeCount h_z h_waiting h_waitingCount t_weightR t_knownR t_hourR t_swSR t_swWR t_waSR t_spoonsR t_kindR t_markR t_silverR t_freshR t_textsR t_tape t_tapeCount t_z t_waiting t_waitingCount e_weight e_known e_hour e_swS e_swW e_waS e_spoons e_kind e_mark e_silver e_fresh e_texts e_tape e_tapeCount e_z e_waiting e_waitingCount L tx tstR)) 0 0 (va_A (wX cA xd vd sd nd hd td ed kd images errors fewest vspoon vmark vcount vbodies sbits slens snum h_weight h_known h_hour h_swS h_swW h_waS h_spoons h_kind h_mark h_silver h_fresh h_texts h_tape h_tapeCount h_z h_waiting h_waitingCount t_weight t_known t_hour t_swS t_swW t_waS t_spoons t_kind t_mark t_silver t_fresh t_texts t_tape t_tapeCount t_z t_waiting t_waitingCount e_weight e_known e_hour e_swS e_swW e_waS e_spoons e_kind e_mark e_silver e_fresh e_texts e_tape e_tapeCount e_z e_waiting e_waitingCount L tx tst) sz) := by
  refine ent (cc := cX11_spreads) (maxL := 2) (ret := (some .int)) (fun A => QI D (tyC cA) A rR (wX cA xd vd sd nd hd td ed kd images errorsR fewest vspoon vmark vcount vbodies sbits slens snum h_weight h_known h_hour h_swS h_swW h_waS h_spoons h_kind h_mark h_silver h_fresh h_texts h_tape h_tapeCount h_z h_waiting h_waitingCount t_weightR t_knownR t_hourR t_swSR t_swWR t_waSR t_spoonsR t_kindR t_markR t_silverR t_freshR t_textsR t_tape t_tapeCount t_z t_waiting t_waitingCount e_weight e_known e_hour e_swS e_swW e_waS e_spoons e_kind e_mark e_silver e_fresh e_texts e_tape e_tapeCount e_z e_waiting e_waitingCount L tx tstR)) (by decide +kernel) rfl (Nat.le_of_ble_eq_true rfl) ?_
  intro p e s m args below meth c A ls H hx hb hml hr hlk hts hown hA hK hE hP hD hS hv hmm
  have hv : lv_has ls 2 [(0, .ref (xd 0)), (1, .int n)] := hv
  have in_3 : ∀ w ∈ u_ws RX3 TX3 18, w ∈ wsX11_spreads := fun _ h => List.mem_cons_of_mem _ (List.mem_append_left _ (List.mem_append_right _ h))
  have in_11 : ∀ w ∈ u_ws RX11 TX11 9, w ∈ wsX11_spreads := fun _ h => List.mem_cons_of_mem _ (List.mem_append_left _ (List.mem_append_left _ (List.mem_append_right _ h)))
  have w_0 := hts (.fieldLink RX11 43 "SpoonsLast" "thought" "LSpoonsLast$House;") (List.mem_of_getElem? (i := 2) rfl)
  have w_1 := hts (.fieldLink RX11 39 "SpoonsLast" "house" "LSpoonsLast$House;") (List.mem_of_getElem? (i := 3) rfl)
  have w_2 := hts (.fieldLink RX11 86 "SpoonsLast$House" "known" "I") (List.mem_of_getElem? (i := 4) rfl)
  have w_3 := hts (.constant RX11 78 (-1000000001)) (List.mem_of_getElem? (i := 1) rfl)
  generalize hQ : MQ below _ args s 0 0 A = Q
  have hP : va_P D vwCl (wX cA xd vd sd nd hd td ed kd images errors fewest vspoon vmark vcount vbodies sbits slens snum h_weight h_known h_hour h_swS h_swW h_waS h_spoons h_kind h_mark h_silver h_fresh h_texts h_tape h_tapeCount h_z h_waiting h_waitingCount t_weight t_known t_hour t_swS t_swW t_waS t_spoons t_kind t_mark t_silver t_fresh t_texts t_tape t_tapeCount t_z t_waiting t_waitingCount e_weight e_known e_hour e_swS e_swW e_waS e_spoons e_kind e_mark e_silver e_fresh e_texts e_tape e_tapeCount e_z e_waiting e_waitingCount L tx tst) H := hP
  unfold fX11_spreads at h
  refine lv_iload_n hx hb dX11_spreads_0 rfl (lv_at hv 1 rfl) ?_
  obtain ⟨r_1, hf_2, h⟩ := bd_ex h
  have sb := Sb.nil hP hD hS hA
  refine calI (va_runS (As := [.int n]) (rest := []) ⟨hx, hb, hml, hown, hts⟩ (c_X11_isBehind l G D cA  _ n r_1 hf_2) (va_cwS 1 hts gX11_spreads_X11_isBehind rfl rfl rfl (by decide +kernel) ⟨Nat.le_of_ble_eq_true rfl, Nat.le_of_ble_eq_true rfl⟩) (pvS hE hK hS sb) rfl rfl hv.1 rfl (lv_room (Nat.le_of_ble_eq_true rfl)) dX11_spreads_1 ⟨Nat.le_of_ble_eq_true rfl, Nat.le_of_ble_eq_true rfl⟩) hS sb (Jn.nil hP hD) (fun H locs hP hD hS => ?_)
  have hP : va_P D vwCl (wX cA xd vd sd nd hd td ed kd images errors fewest vspoon vmark vcount vbodies sbits slens snum h_weight h_known h_hour h_swS h_swW h_waS h_spoons h_kind h_mark h_silver h_fresh h_texts h_tape h_tapeCount h_z h_waiting h_waitingCount t_weight t_known t_hour t_swS t_swW t_waS t_spoons t_kind t_mark t_silver t_fresh t_texts t_tape t_tapeCount t_z t_waiting t_waitingCount e_weight e_known e_hour e_swS e_swW e_waS e_spoons e_kind e_mark e_silver e_fresh e_texts e_tape e_tapeCount e_z e_waiting e_waitingCount L tx tst) H := hP
  have hD : va_D A (wX cA xd vd sd nd hd td ed kd images errors fewest vspoon vmark vcount vbodies sbits slens snum h_weight h_known h_hour h_swS h_swW h_waS h_spoons h_kind h_mark h_silver h_fresh h_texts h_tape h_tapeCount h_z h_waiting h_waitingCount t_weight t_known t_hour t_swS t_swW t_waS t_spoons t_kind t_mark t_silver t_fresh t_texts t_tape t_tapeCount t_z t_waiting t_waitingCount e_weight e_known e_hour e_swS e_swW e_waS e_spoons e_kind e_mark e_silver e_fresh e_texts e_tape e_tapeCount e_z e_waiting e_waitingCount L tx tst) := hD
  refine lv_if_ne (tgt := 14) hx hb dX11_spreads_4 (by decide) (fun c_3 => ?_) (fun c_3 => ?_)
  · have h := ite_f c_3 h
    refine lv_aload_n hx hb dX11_spreads_14 rfl (lv_at hv 0 rfl) ?_
    refine va_get (D := D) (ci := 11) (v := .ref (td 0)) (C := RX11) (T := TX11) (N := 9) hx hb hts in_11 hown hK hP 0 rfl rfl 1 (by decide) w_0 (fun _ h9 => h9) rfl dX11_spreads_15 ?_
    refine lv_aload_n hx hb dX11_spreads_18 rfl (lv_at hv 0 rfl) ?_
    refine va_get (D := D) (ci := 11) (v := .ref (hd 0)) (C := RX11) (T := TX11) (N := 9) hx hb hts in_11 hown hK hP 0 rfl rfl 0 (by decide) w_1 (fun _ h9 => h9) rfl dX11_spreads_19 ?_
    obtain ⟨⟨t_weight_4, t_known_5, t_hour_6, t_swS_7, t_swW_8, t_waS_9, t_spoons_10, t_kind_11, t_mark_12, t_silver_13, t_fresh_14, t_texts_15⟩, hf_16, h⟩ := bd_ex h
    have sb : Sb D A H (wHH cA td hd kd t_weight t_known t_hour t_swS t_swW t_waS t_spoons t_kind t_mark t_silver t_fresh t_texts t_tape t_tapeCount t_z t_waiting t_waitingCount h_weight h_known h_hour h_swS h_swW h_waS h_spoons h_kind h_mark h_silver h_fresh h_texts h_tape h_tapeCount h_z h_waiting h_waitingCount L tx tst) := sbXth hP hD hS hA
    refine calV (va_runV (As := [.ref (hd 0)]) (rest := []) ⟨hx, hb, hml, hown, hts⟩ (c_X3_follow l G D cA td hd kd _ t_weight t_known t_hour t_swS t_swW t_waS t_spoons t_kind t_mark t_silver t_fresh t_texts t_tape t_tapeCount t_z t_waiting t_waitingCount h_weight h_known h_hour h_swS h_swW h_waS h_spoons h_kind h_mark h_silver h_fresh h_texts h_tape h_tapeCount h_z h_waiting h_waitingCount L tx tst t_weight_4 t_known_5 t_hour_6 t_swS_7 t_swW_8 t_waS_9 t_spoons_10 t_kind_11 t_mark_12 t_silver_13 t_fresh_14 t_texts_15 hf_16) (cwV 1 hts gX11_spreads_X3_follow rfl rfl rfl (by decide +kernel) ⟨Nat.le_of_ble_eq_true rfl, Nat.le_of_ble_eq_true rfl⟩) (pvV hE hK hS sb (va_recv hK hP (ci := 3) (q0 := 26) rfl rfl)) rfl rfl hv.1 rfl (lv_room (Nat.le_of_ble_eq_true rfl)) dX11_spreads_22 ⟨Nat.le_of_ble_eq_true rfl, Nat.le_of_ble_eq_true rfl⟩) hS sb (jnXth hP hD) (fun H locs hP hD hS => ?_)
    have hP : va_P D vwCl (wX cA xd vd sd nd hd td ed kd images errors fewest vspoon vmark vcount vbodies sbits slens snum h_weight h_known h_hour h_swS h_swW h_waS h_spoons h_kind h_mark h_silver h_fresh h_texts h_tape h_tapeCount h_z h_waiting h_waitingCount t_weight_4 t_known_5 t_hour_6 t_swS_7 t_swW_8 t_waS_9 t_spoons_10 t_kind_11 t_mark_12 t_silver_13 t_fresh_14 t_texts_15 t_tape t_tapeCount t_z t_waiting t_waitingCount e_weight e_known e_hour e_swS e_swW e_waS e_spoons e_kind e_mark e_silver e_fresh e_texts e_tape e_tapeCount e_z e_waiting e_waitingCount L tx tst) H := hP
    have hD : va_D A (wX cA xd vd sd nd hd td ed kd images errors fewest vspoon vmark vcount vbodies sbits slens snum h_weight h_known h_hour h_swS h_swW h_waS h_spoons h_kind h_mark h_silver h_fresh h_texts h_tape h_tapeCount h_z h_waiting h_waitingCount t_weight_4 t_known_5 t_hour_6 t_swS_7 t_swW_8 t_waS_9 t_spoons_10 t_kind_11 t_mark_12 t_silver_13 t_fresh_14 t_texts_15 t_tape t_tapeCount t_z t_waiting t_waitingCount e_weight e_known e_hour e_swS e_swW e_waS e_spoons e_kind e_mark e_silver e_fresh e_texts e_tape e_tapeCount e_z e_waiting e_waitingCount L tx tst) := hD
    refine lv_aload_n hx hb dX11_spreads_25 rfl (lv_at hv 0 rfl) ?_
    refine va_get (D := D) (ci := 11) (v := .ref (td 0)) (C := RX11) (T := TX11) (N := 9) hx hb hts in_11 hown hK hP 0 rfl rfl 1 (by decide) w_0 (fun _ h9 => h9) rfl dX11_spreads_26 ?_
    refine lv_iload_n hx hb dX11_spreads_29 rfl (lv_at hv 1 rfl) ?_
    obtain ⟨⟨t_known_17, t_hour_18, t_silver_19, t_fresh_20, tst_21⟩, hf_22, h⟩ := bd_ex h
    have sb : Sb D A H (wH cA td kd t_weight_4 t_known_5 t_hour_6 t_swS_7 t_swW_8 t_waS_9 t_spoons_10 t_kind_11 t_mark_12 t_silver_13 t_fresh_14 t_texts_15 t_tape t_tapeCount t_z t_waiting t_waitingCount L tx tst) := sbXt hP hD hS hA
    refine calV (va_runV (As := [.int n]) (rest := []) ⟨hx, hb, hml, hown, hts⟩ (c_X3_passHours l G D cA td kd _ t_weight_4 t_known_5 t_hour_6 t_swS_7 t_swW_8 t_waS_9 t_spoons_10 t_kind_11 t_mark_12 t_silver_13 t_fresh_14 t_texts_15 t_tape t_tapeCount t_z t_waiting t_waitingCount L tx tst n t_known_17 t_hour_18 t_silver_19 t_fresh_20 tst_21 hf_22) (cwV 1 hts gX11_spreads_X3_passHours rfl rfl rfl (by decide +kernel) ⟨Nat.le_of_ble_eq_true rfl, Nat.le_of_ble_eq_true rfl⟩) (pvV hE hK hS sb (va_recv hK hP (ci := 3) (q0 := 26) rfl rfl)) rfl rfl hv.1 rfl (lv_room (Nat.le_of_ble_eq_true rfl)) dX11_spreads_30 ⟨Nat.le_of_ble_eq_true rfl, Nat.le_of_ble_eq_true rfl⟩) hS sb (jnXt hP hD) (fun H locs hP hD hS => ?_)
    have hP : va_P D vwCl (wX cA xd vd sd nd hd td ed kd images errors fewest vspoon vmark vcount vbodies sbits slens snum h_weight h_known h_hour h_swS h_swW h_waS h_spoons h_kind h_mark h_silver h_fresh h_texts h_tape h_tapeCount h_z h_waiting h_waitingCount t_weight_4 t_known_17 t_hour_18 t_swS_7 t_swW_8 t_waS_9 t_spoons_10 t_kind_11 t_mark_12 t_silver_19 t_fresh_20 t_texts_15 t_tape t_tapeCount t_z t_waiting t_waitingCount e_weight e_known e_hour e_swS e_swW e_waS e_spoons e_kind e_mark e_silver e_fresh e_texts e_tape e_tapeCount e_z e_waiting e_waitingCount L tx tst_21) H := hP
    have hD : va_D A (wX cA xd vd sd nd hd td ed kd images errors fewest vspoon vmark vcount vbodies sbits slens snum h_weight h_known h_hour h_swS h_swW h_waS h_spoons h_kind h_mark h_silver h_fresh h_texts h_tape h_tapeCount h_z h_waiting h_waitingCount t_weight_4 t_known_17 t_hour_18 t_swS_7 t_swW_8 t_waS_9 t_spoons_10 t_kind_11 t_mark_12 t_silver_19 t_fresh_20 t_texts_15 t_tape t_tapeCount t_z t_waiting t_waitingCount e_weight e_known e_hour e_swS e_swW e_waS e_spoons e_kind e_mark e_silver e_fresh e_texts e_tape e_tapeCount e_z e_waiting e_waitingCount L tx tst_21) := hD
    refine lv_aload_n hx hb dX11_spreads_33 rfl (lv_at hv 0 rfl) ?_
    refine va_get (D := D) (ci := 11) (v := .ref (td 0)) (C := RX11) (T := TX11) (N := 9) hx hb hts in_11 hown hK hP 0 rfl rfl 1 (by decide) w_0 (fun _ h9 => h9) rfl dX11_spreads_34 ?_
    refine va_get (D := D) (ci := 3) (v := .int t_known_17) (C := RX3) (T := TX3) (N := 18) hx hb hts in_3 hown hK hP 26 rfl rfl 2 (by decide) w_2 (fun _ h9 => h9) rfl dX11_spreads_37 ?_
    obtain ⟨r_23, hf_24, h⟩ := bd_ex h
    have sb := Sb.nil hP hD hS hA
    refine calI (va_runS (As := [.int t_known_17]) (rest := []) ⟨hx, hb, hml, hown, hts⟩ (c_J6_bitCount_0f7a4 l G D cA  _ t_known_17 r_23 hf_24) (va_cwS 1 hts gX11_spreads_J6_bitCount_0f7a4 rfl rfl rfl (by decide +kernel) ⟨Nat.le_of_ble_eq_true rfl, Nat.le_of_ble_eq_true rfl⟩) (pvS hE hK hS sb) rfl rfl hv.1 rfl (lv_room (Nat.le_of_ble_eq_true rfl)) dX11_spreads_40 ⟨Nat.le_of_ble_eq_true rfl, Nat.le_of_ble_eq_true rfl⟩) hS sb (Jn.nil hP hD) (fun H locs hP hD hS => ?_)
    have hP : va_P D vwCl (wX cA xd vd sd nd hd td ed kd images errors fewest vspoon vmark vcount vbodies sbits slens snum h_weight h_known h_hour h_swS h_swW h_waS h_spoons h_kind h_mark h_silver h_fresh h_texts h_tape h_tapeCount h_z h_waiting h_waitingCount t_weight_4 t_known_17 t_hour_18 t_swS_7 t_swW_8 t_waS_9 t_spoons_10 t_kind_11 t_mark_12 t_silver_19 t_fresh_20 t_texts_15 t_tape t_tapeCount t_z t_waiting t_waitingCount e_weight e_known e_hour e_swS e_swW e_waS e_spoons e_kind e_mark e_silver e_fresh e_texts e_tape e_tapeCount e_z e_waiting e_waitingCount L tx tst_21) H := hP
    have hD : va_D A (wX cA xd vd sd nd hd td ed kd images errors fewest vspoon vmark vcount vbodies sbits slens snum h_weight h_known h_hour h_swS h_swW h_waS h_spoons h_kind h_mark h_silver h_fresh h_texts h_tape h_tapeCount h_z h_waiting h_waitingCount t_weight_4 t_known_17 t_hour_18 t_swS_7 t_swW_8 t_waS_9 t_spoons_10 t_kind_11 t_mark_12 t_silver_19 t_fresh_20 t_texts_15 t_tape t_tapeCount t_z t_waiting t_waitingCount e_weight e_known e_hour e_swS e_swW e_waS e_spoons e_kind e_mark e_silver e_fresh e_texts e_tape e_tapeCount e_z e_waiting e_waitingCount L tx tst_21) := hD
    have h := Option.some.inj h
    have ee0 : r_23 = rR := congrArg (fun q => q.1) h
    have ee1 : errors = errorsR := congrArg (fun q => q.2.1) h
    have ee2 : t_weight_4 = t_weightR := congrArg (fun q => q.2.2.1) h
    have ee3 : t_known_17 = t_knownR := congrArg (fun q => q.2.2.2.1) h
    have ee4 : t_hour_18 = t_hourR := congrArg (fun q => q.2.2.2.2.1) h
    have ee5 : t_swS_7 = t_swSR := congrArg (fun q => q.2.2.2.2.2.1) h
    have ee6 : t_swW_8 = t_swWR := congrArg (fun q => q.2.2.2.2.2.2.1) h
    have ee7 : t_waS_9 = t_waSR := congrArg (fun q => q.2.2.2.2.2.2.2.1) h
    have ee8 : t_spoons_10 = t_spoonsR := congrArg (fun q => q.2.2.2.2.2.2.2.2.1) h
    have ee9 : t_kind_11 = t_kindR := congrArg (fun q => q.2.2.2.2.2.2.2.2.2.1) h
    have ee10 : t_mark_12 = t_markR := congrArg (fun q => q.2.2.2.2.2.2.2.2.2.2.1) h
    have ee11 : t_silver_19 = t_silverR := congrArg (fun q => q.2.2.2.2.2.2.2.2.2.2.2.1) h
    have ee12 : t_fresh_20 = t_freshR := congrArg (fun q => q.2.2.2.2.2.2.2.2.2.2.2.2.1) h
    have ee13 : t_texts_15 = t_textsR := congrArg (fun q => q.2.2.2.2.2.2.2.2.2.2.2.2.2.1) h
    have ee14 : tst_21 = tstR := congrArg (fun q => q.2.2.2.2.2.2.2.2.2.2.2.2.2.2) h
    subst ee0
    subst ee1
    subst ee2
    subst ee3
    subst ee4
    subst ee5
    subst ee6
    subst ee7
    subst ee8
    subst ee9
    subst ee10
    subst ee11
    subst ee12
    subst ee13
    subst ee14
    rw [← hQ]
    exact retI hx hb hr hlk hK hP hD hS dX11_spreads_43 ⟨Nat.le_of_ble_eq_true rfl, Nat.le_of_ble_eq_true rfl⟩
  · have h := ite_t c_3 h
    refine lv_aload_n hx hb dX11_spreads_7 rfl (lv_at hv 0 rfl) ?_
    refine lv_ldc (v := (-1000000001 : Int32)) hx hb hown w_3 dX11_spreads_8 ?_
    obtain ⟨⟨r_25, errors_26⟩, hf_27, h⟩ := bd_ex h
    have sb := Sb.same hP hD hS hA
    refine calI (va_runV (As := [.int (-1000000001 : Int32)]) (rest := []) ⟨hx, hb, hml, hown, hts⟩ (c_X11_refused l G D cA xd vd sd nd hd td ed kd _ images errors fewest vspoon vmark vcount vbodies sbits slens snum h_weight h_known h_hour h_swS h_swW h_waS h_spoons h_kind h_mark h_silver h_fresh h_texts h_tape h_tapeCount h_z h_waiting h_waitingCount t_weight t_known t_hour t_swS t_swW t_waS t_spoons t_kind t_mark t_silver t_fresh t_texts t_tape t_tapeCount t_z t_waiting t_waitingCount e_weight e_known e_hour e_swS e_swW e_waS e_spoons e_kind e_mark e_silver e_fresh e_texts e_tape e_tapeCount e_z e_waiting e_waitingCount L tx tst (-1000000001 : Int32) r_25 errors_26 hf_27) (cwV 1 hts gX11_spreads_X11_refused rfl rfl rfl (by decide +kernel) ⟨Nat.le_of_ble_eq_true rfl, Nat.le_of_ble_eq_true rfl⟩) (pvV hE hK hS sb (va_recv hK hP (ci := 11) (q0 := 0) rfl rfl)) rfl rfl hv.1 rfl (lv_room (Nat.le_of_ble_eq_true rfl)) dX11_spreads_10 ⟨Nat.le_of_ble_eq_true rfl, Nat.le_of_ble_eq_true rfl⟩) hS sb (Jn.same sb) (fun H locs hP hD hS => ?_)
    have hP : va_P D vwCl (wX cA xd vd sd nd hd td ed kd images errors_26 fewest vspoon vmark vcount vbodies sbits slens snum h_weight h_known h_hour h_swS h_swW h_waS h_spoons h_kind h_mark h_silver h_fresh h_texts h_tape h_tapeCount h_z h_waiting h_waitingCount t_weight t_known t_hour t_swS t_swW t_waS t_spoons t_kind t_mark t_silver t_fresh t_texts t_tape t_tapeCount t_z t_waiting t_waitingCount e_weight e_known e_hour e_swS e_swW e_waS e_spoons e_kind e_mark e_silver e_fresh e_texts e_tape e_tapeCount e_z e_waiting e_waitingCount L tx tst) H := hP
    have hD : va_D A (wX cA xd vd sd nd hd td ed kd images errors_26 fewest vspoon vmark vcount vbodies sbits slens snum h_weight h_known h_hour h_swS h_swW h_waS h_spoons h_kind h_mark h_silver h_fresh h_texts h_tape h_tapeCount h_z h_waiting h_waitingCount t_weight t_known t_hour t_swS t_swW t_waS t_spoons t_kind t_mark t_silver t_fresh t_texts t_tape t_tapeCount t_z t_waiting t_waitingCount e_weight e_known e_hour e_swS e_swW e_waS e_spoons e_kind e_mark e_silver e_fresh e_texts e_tape e_tapeCount e_z e_waiting e_waitingCount L tx tst) := hD
    have h := Option.some.inj h
    have ee0 : r_25 = rR := congrArg (fun q => q.1) h
    have ee1 : errors_26 = errorsR := congrArg (fun q => q.2.1) h
    have ee2 : t_weight = t_weightR := congrArg (fun q => q.2.2.1) h
    have ee3 : t_known = t_knownR := congrArg (fun q => q.2.2.2.1) h
    have ee4 : t_hour = t_hourR := congrArg (fun q => q.2.2.2.2.1) h
    have ee5 : t_swS = t_swSR := congrArg (fun q => q.2.2.2.2.2.1) h
    have ee6 : t_swW = t_swWR := congrArg (fun q => q.2.2.2.2.2.2.1) h
    have ee7 : t_waS = t_waSR := congrArg (fun q => q.2.2.2.2.2.2.2.1) h
    have ee8 : t_spoons = t_spoonsR := congrArg (fun q => q.2.2.2.2.2.2.2.2.1) h
    have ee9 : t_kind = t_kindR := congrArg (fun q => q.2.2.2.2.2.2.2.2.2.1) h
    have ee10 : t_mark = t_markR := congrArg (fun q => q.2.2.2.2.2.2.2.2.2.2.1) h
    have ee11 : t_silver = t_silverR := congrArg (fun q => q.2.2.2.2.2.2.2.2.2.2.2.1) h
    have ee12 : t_fresh = t_freshR := congrArg (fun q => q.2.2.2.2.2.2.2.2.2.2.2.2.1) h
    have ee13 : t_texts = t_textsR := congrArg (fun q => q.2.2.2.2.2.2.2.2.2.2.2.2.2.1) h
    have ee14 : tst = tstR := congrArg (fun q => q.2.2.2.2.2.2.2.2.2.2.2.2.2.2) h
    subst ee0
    subst ee1
    subst ee2
    subst ee3
    subst ee4
    subst ee5
    subst ee6
    subst ee7
    subst ee8
    subst ee9
    subst ee10
    subst ee11
    subst ee12
    subst ee13
    subst ee14
    rw [← hQ]
    exact retI hx hb hr hlk hK hP hD hS dX11_spreads_13 ⟨Nat.le_of_ble_eq_true rfl, Nat.le_of_ble_eq_true rfl⟩

def fX11_when_27B (v1_27 : Int32) (errors_27 : Nat → Int32) (h_weight : Nat → Int32) (h_known : Int32) (h_hour : Int32) (h_swS : Nat → Int32) (h_swW : Nat → Int32) (h_waS : Nat → Int32) (h_spoons : Int32) (h_kind : Nat → Int32) (h_mark : Nat → Int32) (h_silver : Nat → Int32) (h_fresh : Nat → Int64) (h_texts : Nat → Option Nat) (t_weight_27 : Nat → Int32) (t_swS_27 : Nat → Int32) (t_swW_27 : Nat → Int32) (t_waS_27 : Nat → Int32) (t_spoons_27 : Int32) (t_kind_27 : Nat → Int32) (t_mark_27 : Nat → Int32) (t_texts_27 : Nat → Option Nat) (L : List Nat) (tx : Nat → TXc) (v2_27b : Int32) (t_known_27b : Int32) (t_hour_27b : Int32) (t_silver_27b : Nat → Int32) (t_fresh_27b : Nat → Int64) (tst_27b : Nat → Nat → Int32) : Option ((Int32 × Int32 × Int32 × (Nat → Int32) × (Nat → Int64) × (Nat → Nat → Int32)) ⊕ ((Int32 × Int32 × Int32 × (Nat → Int32) × (Nat → Int64) × (Nat → Nat → Int32)) ⊕ (Int32 × (Nat → Int32) × (Nat → Int32) × Int32 × Int32 × (Nat → Int32) × (Nat → Int32) × (Nat → Int32) × Int32 × (Nat → Int32) × (Nat → Int32) × (Nat → Int32) × (Nat → Int64) × (Nat → Option Nat) × (Nat → Nat → Int32)))) :=
  (if (60 : Int32) < v2_27b then some (.inr (.inl (v2_27b, t_known_27b, t_hour_27b, t_silver_27b, t_fresh_27b, tst_27b))) else bd (fX3_knows v1_27 t_known_27b) fun r_21 => (if r_21 = 0 then bd (fX3_passHours (1 : Int32) t_weight_27 t_known_27b t_hour_27b t_swS_27 t_swW_27 t_waS_27 t_spoons_27 t_kind_27 t_mark_27 t_silver_27b t_fresh_27b t_texts_27 L tx tst_27b) fun (t_known_24, t_hour_25, t_silver_26, t_fresh_27, tst_28) => bnd (v2_27b + (1 : Int32)) fun y_30 => some (.inl (y_30, t_known_24, t_hour_25, t_silver_26, t_fresh_27, tst_28)) else some (.inr (.inr (v2_27b, errors_27, t_weight_27, t_known_27b, t_hour_27b, t_swS_27, t_swW_27, t_waS_27, t_spoons_27, t_kind_27, t_mark_27, t_silver_27b, t_fresh_27b, t_texts_27, tst_27b)))))
def fX11_when_27 (v1_27 : Int32) (v2_27 : Int32) (errors_27 : Nat → Int32) (h_weight : Nat → Int32) (h_known : Int32) (h_hour : Int32) (h_swS : Nat → Int32) (h_swW : Nat → Int32) (h_waS : Nat → Int32) (h_spoons : Int32) (h_kind : Nat → Int32) (h_mark : Nat → Int32) (h_silver : Nat → Int32) (h_fresh : Nat → Int64) (h_texts : Nat → Option Nat) (t_weight_27 : Nat → Int32) (t_known_27 : Int32) (t_hour_27 : Int32) (t_swS_27 : Nat → Int32) (t_swW_27 : Nat → Int32) (t_waS_27 : Nat → Int32) (t_spoons_27 : Int32) (t_kind_27 : Nat → Int32) (t_mark_27 : Nat → Int32) (t_silver_27 : Nat → Int32) (t_fresh_27 : Nat → Int64) (t_texts_27 : Nat → Option Nat) (L : List Nat) (tx : Nat → TXc) (tst_27 : Nat → Nat → Int32) : Option (Int32 × (Nat → Int32) × (Nat → Int32) × Int32 × Int32 × (Nat → Int32) × (Nat → Int32) × (Nat → Int32) × Int32 × (Nat → Int32) × (Nat → Int32) × (Nat → Int32) × (Nat → Int64) × (Nat → Option Nat) × (Nat → Nat → Int32)) :=
  bd (lp (fun σ : Int32 × Int32 × Int32 × (Nat → Int32) × (Nat → Int64) × (Nat → Nat → Int32) => fX11_when_27B v1_27 errors_27 h_weight h_known h_hour h_swS h_swW h_waS h_spoons h_kind h_mark h_silver h_fresh h_texts t_weight_27 t_swS_27 t_swW_27 t_waS_27 t_spoons_27 t_kind_27 t_mark_27 t_texts_27 L tx (σ.1) (σ.2.1) (σ.2.2.1) (σ.2.2.2.1) (σ.2.2.2.2.1) (σ.2.2.2.2.2)) FU (v2_27, t_known_27, t_hour_27, t_silver_27, t_fresh_27, tst_27)) fun ρ => match ρ with | .inl (v2_27r, t_known_27r, t_hour_27r, t_silver_27r, t_fresh_27r, tst_27r) => bd (fX11_refused (-1000000002 : Int32) errors_27) fun (r_17, errors_18) => some (r_17, errors_18, t_weight_27, t_known_27r, t_hour_27r, t_swS_27, t_swW_27, t_waS_27, t_spoons_27, t_kind_27, t_mark_27, t_silver_27r, t_fresh_27r, t_texts_27, tst_27r) | .inr q => some q
def fX11_when (a : Int32) (errors : Nat → Int32) (h_weight : Nat → Int32) (h_known : Int32) (h_hour : Int32) (h_swS : Nat → Int32) (h_swW : Nat → Int32) (h_waS : Nat → Int32) (h_spoons : Int32) (h_kind : Nat → Int32) (h_mark : Nat → Int32) (h_silver : Nat → Int32) (h_fresh : Nat → Int64) (h_texts : Nat → Option Nat) (t_weight : Nat → Int32) (t_known : Int32) (t_hour : Int32) (t_swS : Nat → Int32) (t_swW : Nat → Int32) (t_waS : Nat → Int32) (t_spoons : Int32) (t_kind : Nat → Int32) (t_mark : Nat → Int32) (t_silver : Nat → Int32) (t_fresh : Nat → Int64) (t_texts : Nat → Option Nat) (L : List Nat) (tx : Nat → TXc) (tst : Nat → Nat → Int32) : Option (Int32 × (Nat → Int32) × (Nat → Int32) × Int32 × Int32 × (Nat → Int32) × (Nat → Int32) × (Nat → Int32) × Int32 × (Nat → Int32) × (Nat → Int32) × (Nat → Int32) × (Nat → Int64) × (Nat → Option Nat) × (Nat → Nat → Int32)) :=
  bd (fX11_isWord a) fun r_1 => (if r_1 = 0 then bd (fX11_refused (-1000000001 : Int32) errors) fun (r_31, errors_32) => some (r_31, errors_32, t_weight, t_known, t_hour, t_swS, t_swW, t_waS, t_spoons, t_kind, t_mark, t_silver, t_fresh, t_texts, tst) else bd (fX3_follow t_weight t_known t_hour t_swS t_swW t_waS t_spoons t_kind t_mark t_silver t_fresh t_texts h_weight h_known h_hour h_swS h_swW h_waS h_spoons h_kind h_mark h_silver h_fresh h_texts L) fun (t_weight_4, t_known_5, t_hour_6, t_swS_7, t_swW_8, t_waS_9, t_spoons_10, t_kind_11, t_mark_12, t_silver_13, t_fresh_14, t_texts_15) => fX11_when_27 a (0 : Int32) errors h_weight h_known h_hour h_swS h_swW h_waS h_spoons h_kind h_mark h_silver h_fresh h_texts t_weight_4 t_known_5 t_hour_6 t_swS_7 t_swW_8 t_waS_9 t_spoons_10 t_kind_11 t_mark_12 t_silver_13 t_fresh_14 t_texts_15 L tx tst)
set_option maxHeartbeats 4000000 in
set_option maxRecDepth 100000 in
theorem c_X11_when (l : Launch) (G : Nat → Nat) (D : va_G) (cA : Nat → ClassId) (xd : Nat → Nat) (vd : Nat → Nat) (sd : Nat → Nat) (nd : Nat → Nat) (hd : Nat → Nat) (td : Nat → Nat) (ed : Nat → Nat) (kd : Nat → Nat) (sz : Nat) (images : Int32) (errors : Nat → Int32) (fewest : Nat → Int32) (vspoon : Int32) (vmark : Int32) (vcount : Int32) (vbodies : Nat → Int32) (sbits : Nat → Int32) (slens : Nat → Int32) (snum : Nat → Nat → Int32) (h_weight : Nat → Int32) (h_known : Int32) (h_hour : Int32) (h_swS : Nat → Int32) (h_swW : Nat → Int32) (h_waS : Nat → Int32) (h_spoons : Int32) (h_kind : Nat → Int32) (h_mark : Nat → Int32) (h_silver : Nat → Int32) (h_fresh : Nat → Int64) (h_texts : Nat → Option Nat) (h_tape : Nat → Int32) (h_tapeCount : Int32) (h_z : Int32) (h_waiting : Nat → Int32) (h_waitingCount : Int32) (t_weight : Nat → Int32) (t_known : Int32) (t_hour : Int32) (t_swS : Nat → Int32) (t_swW : Nat → Int32) (t_waS : Nat → Int32) (t_spoons : Int32) (t_kind : Nat → Int32) (t_mark : Nat → Int32) (t_silver : Nat → Int32) (t_fresh : Nat → Int64) (t_texts : Nat → Option Nat) (t_tape : Nat → Int32) (t_tapeCount : Int32) (t_z : Int32) (t_waiting : Nat → Int32) (t_waitingCount : Int32) (e_weight : Nat → Int32) (e_known : Int32) (e_hour : Int32) (e_swS : Nat → Int32) (e_swW : Nat → Int32) (e_waS : Nat → Int32) (e_spoons : Int32) (e_kind : Nat → Int32) (e_mark : Nat → Int32) (e_silver : Nat → Int32) (e_fresh : Nat → Int64) (e_texts : Nat → Option Nat) (e_tape : Nat → Int32) (e_tapeCount : Int32) (e_z : Int32) (e_waiting : Nat → Int32) (e_waitingCount : Int32) (L : List Nat) (tx : Nat → TXc) (tst : Nat → Nat → Int32) (a : Int32) (rR : Int32) (errorsR : Nat → Int32) (t_weightR : Nat → Int32) (t_knownR : Int32) (t_hourR : Int32) (t_swSR : Nat → Int32) (t_swWR : Nat → Int32) (t_waSR : Nat → Int32) (t_spoonsR : Int32) (t_kindR : Nat → Int32) (t_markR : Nat → Int32) (t_silverR : Nat → Int32) (t_freshR : Nat → Int64) (t_textsR : Nat → Option Nat) (tstR : Nat → Nat → Int32) (h : fX11_when a errors h_weight h_known h_hour h_swS h_swW h_waS h_spoons h_kind h_mark h_silver h_fresh h_texts t_weight t_known t_hour t_swS t_swW t_waS t_spoons t_kind t_mark t_silver t_fresh t_texts L tx tst = some (rR, errorsR, t_weightR, t_knownR, t_hourR, t_swSR, t_swWR, t_waSR, t_spoonsR, t_kindR, t_markR, t_silverR, t_freshR, t_textsR, tstR)) : Met l yX11_when wsX11_when ({ frames := 6, cells := 0, slots := 0, locals := 141 } : Room) (PW G D (tyC cA) sz (wX cA xd vd sd nd hd td ed kd images errors fewest vspoon vmark vcount vbodies sbits slens snum h_weight h_known h_hour h_swS h_swW h_waS h_spoons h_kind h_mark h_silver h_fresh h_texts h_tape h_tapeCount h_z h_waiting h_waitingCount t_weight t_known t_hour t_swS t_swW t_waS t_spoons t_kind t_mark t_silver t_fresh t_texts t_tape t_tapeCount t_z t_waiting t_waitingCount e_weight e_known e_hour e_swS e_swW e_waS e_spoons e_kind e_mark e_silver e_fresh e_texts e_tape e_tapeCount e_z e_waiting e_waitingCount L tx tst) [.ref (xd 0), .int a]) (QI D (tyC cA) (va_A (wX cA xd vd sd nd hd td ed kd images errors fewest vspoon vmark vcount vbodies sbits slens snum h_weight h_known h_hour h_swS h_swW h_waS h_spoons h_kind h_mark h_silver h_fresh h_texts h_tape h_tapeCount h_z h_waiting h_waitingCount t_weight t_known t_hour t_swS t_swW t_waS t_spoons t_kind t_mark t_silver t_fresh t_texts t_tape t_tapeCount t_z t_waiting t_waitingCount e_weight e_known e_hour e_swS e_swW e_waS e_spoons e_kind e_mark e_silver e_fresh e_texts e_tape e_tapeCount e_z e_waiting e_waitingCount L tx tst) sz) rR (wX cA xd vd sd nd hd td ed kd images errorsR fewest vspoon vmark vcount vbodies sbits slens snum h_weight h_known h_hour h_swS h_swW h_waS h_spoons h_kind h_mark h_silver h_fresh h_texts h_tape h_tapeCount h_z h_waiting h_waitingCount t_weightR t_knownR t_hourR t_swSR t_swWR t_waSR t_spoonsR t_kindR t_markR t_silverR t_freshR t_textsR t_tape t_tapeCount t_z t_waiting t_waitingCount e_weight e_known e_hour e_swS e_swW e_waS e_spoons e_kind e_mark e_silver e_fresh e_texts e_tape e_tapeCount e_z e_waiting e_waitingCount L tx tstR)) 0 0 (va_A (wX cA xd vd sd nd hd td ed kd images errors fewest vspoon vmark vcount vbodies sbits slens snum h_weight h_known h_hour h_swS h_swW h_waS h_spoons h_kind h_mark h_silver h_fresh h_texts h_tape h_tapeCount h_z h_waiting h_waitingCount t_weight t_known t_hour t_swS t_swW t_waS t_spoons t_kind t_mark t_silver t_fresh t_texts t_tape t_tapeCount t_z t_waiting t_waitingCount e_weight e_known e_hour e_swS e_swW e_waS e_spoons e_kind e_mark e_silver e_fresh e_texts e_tape e_tapeCount e_z e_waiting e_waitingCount L tx tst) sz) := by
  refine ent (cc := cX11_when) (maxL := 3) (ret := (some .int)) (fun A => QI D (tyC cA) A rR (wX cA xd vd sd nd hd td ed kd images errorsR fewest vspoon vmark vcount vbodies sbits slens snum h_weight h_known h_hour h_swS h_swW h_waS h_spoons h_kind h_mark h_silver h_fresh h_texts h_tape h_tapeCount h_z h_waiting h_waitingCount t_weightR t_knownR t_hourR t_swSR t_swWR t_waSR t_spoonsR t_kindR t_markR t_silverR t_freshR t_textsR t_tape t_tapeCount t_z t_waiting t_waitingCount e_weight e_known e_hour e_swS e_swW e_waS e_spoons e_kind e_mark e_silver e_fresh e_texts e_tape e_tapeCount e_z e_waiting e_waitingCount L tx tstR)) (by decide +kernel) rfl (Nat.le_of_ble_eq_true rfl) ?_
  intro p e s m args below meth c A ls H hx hb hml hr hlk hts hown hA hK hE hP hD hS hv hmm
  have hv : lv_has ls 3 [(0, .ref (xd 0)), (1, .int a)] := hv
  have in_11 : ∀ w ∈ u_ws RX11 TX11 9, w ∈ wsX11_when := fun _ h => List.mem_cons_of_mem _ (List.mem_append_left _ (List.mem_append_left _ (List.mem_append_right _ h)))
  have w_0 := hts (.fieldLink RX11 43 "SpoonsLast" "thought" "LSpoonsLast$House;") (List.mem_of_getElem? (i := 2) rfl)
  have w_1 := hts (.fieldLink RX11 39 "SpoonsLast" "house" "LSpoonsLast$House;") (List.mem_of_getElem? (i := 3) rfl)
  have w_2 := hts (.constant RX11 204 (-1000000002)) (List.mem_of_getElem? (i := 4) rfl)
  have w_3 := hts (.constant RX11 78 (-1000000001)) (List.mem_of_getElem? (i := 1) rfl)
  generalize hQ : MQ below _ args s 0 0 A = Q
  have C_27 : ∀ (v1_27 : Int32) (v2_27 : Int32) (errors_27 : Nat → Int32) (t_weight_27 : Nat → Int32) (t_known_27 : Int32) (t_hour_27 : Int32) (t_swS_27 : Nat → Int32) (t_swW_27 : Nat → Int32) (t_waS_27 : Nat → Int32) (t_spoons_27 : Int32) (t_kind_27 : Nat → Int32) (t_mark_27 : Nat → Int32) (t_silver_27 : Nat → Int32) (t_fresh_27 : Nat → Int64) (t_texts_27 : Nat → Option Nat) (tst_27 : Nat → Nat → Int32), fX11_when_27 v1_27 v2_27 errors_27 h_weight h_known h_hour h_swS h_swW h_waS h_spoons h_kind h_mark h_silver h_fresh h_texts t_weight_27 t_known_27 t_hour_27 t_swS_27 t_swW_27 t_waS_27 t_spoons_27 t_kind_27 t_mark_27 t_silver_27 t_fresh_27 t_texts_27 L tx tst_27 = some (rR, errorsR, t_weightR, t_knownR, t_hourR, t_swSR, t_swWR, t_waSR, t_spoonsR, t_kindR, t_markR, t_silverR, t_freshR, t_textsR, tstR) → WW p l e ({ frames := 6, cells := 0, slots := 0, locals := 141 } : Room) s m args below meth c D A 0 0 Q (wX cA xd vd sd nd hd td ed kd images errors_27 fewest vspoon vmark vcount vbodies sbits slens snum h_weight h_known h_hour h_swS h_swW h_waS h_spoons h_kind h_mark h_silver h_fresh h_texts h_tape h_tapeCount h_z h_waiting h_waitingCount t_weight_27 t_known_27 t_hour_27 t_swS_27 t_swW_27 t_waS_27 t_spoons_27 t_kind_27 t_mark_27 t_silver_27 t_fresh_27 t_texts_27 t_tape t_tapeCount t_z t_waiting t_waitingCount e_weight e_known e_hour e_swS e_swW e_waS e_spoons e_kind e_mark e_silver e_fresh e_texts e_tape e_tapeCount e_z e_waiting e_waitingCount L tx tst_27) 3 [(0, .ref (xd 0)), (1, .int v1_27), (2, .int v2_27)] 27 [] := by
    intro v1_27 v2_27 errors_27 t_weight_27 t_known_27 t_hour_27 t_swS_27 t_swW_27 t_waS_27 t_spoons_27 t_kind_27 t_mark_27 t_silver_27 t_fresh_27 t_texts_27 tst_27 h
    unfold fX11_when_27 at h
    obtain ⟨ρ, ho, h⟩ := bd_ex h
    have LR : ∀ q, ρ = .inr q → q = (rR, errorsR, t_weightR, t_knownR, t_hourR, t_swSR, t_swWR, t_waSR, t_spoonsR, t_kindR, t_markR, t_silverR, t_freshR, t_textsR, tstR) := by intro q e; subst e; exact Option.some.inj h
    have LE : ∀ (v2_27r : Int32) (t_known_27r : Int32) (t_hour_27r : Int32) (t_silver_27r : Nat → Int32) (t_fresh_27r : Nat → Int64) (tst_27r : Nat → Nat → Int32), ρ = .inl (v2_27r, t_known_27r, t_hour_27r, t_silver_27r, t_fresh_27r, tst_27r) → WW p l e ({ frames := 6, cells := 0, slots := 0, locals := 141 } : Room) s m args below meth c D A 0 0 Q (wX cA xd vd sd nd hd td ed kd images errors_27 fewest vspoon vmark vcount vbodies sbits slens snum h_weight h_known h_hour h_swS h_swW h_waS h_spoons h_kind h_mark h_silver h_fresh h_texts h_tape h_tapeCount h_z h_waiting h_waitingCount t_weight_27 t_known_27r t_hour_27r t_swS_27 t_swW_27 t_waS_27 t_spoons_27 t_kind_27 t_mark_27 t_silver_27r t_fresh_27r t_texts_27 t_tape t_tapeCount t_z t_waiting t_waitingCount e_weight e_known e_hour e_swS e_swW e_waS e_spoons e_kind e_mark e_silver e_fresh e_texts e_tape e_tapeCount e_z e_waiting e_waitingCount L tx tst_27r) 3 [(0, .ref (xd 0))] 60 [] := by
      intro v2_27r t_known_27r t_hour_27r t_silver_27r t_fresh_27r tst_27r e
      subst e
      intro H locs ls hP hD hS hv
      refine lv_aload_n hx hb dX11_when_60 rfl (lv_at hv 0 rfl) ?_
      refine lv_ldc (v := (-1000000002 : Int32)) hx hb hown w_2 dX11_when_61 ?_
      obtain ⟨⟨r_17, errors_18⟩, hf_19, h⟩ := bd_ex h
      have sb := Sb.same hP hD hS hA
      refine calI (va_runV (As := [.int (-1000000002 : Int32)]) (rest := []) ⟨hx, hb, hml, hown, hts⟩ (c_X11_refused l G D cA xd vd sd nd hd td ed kd _ images errors_27 fewest vspoon vmark vcount vbodies sbits slens snum h_weight h_known h_hour h_swS h_swW h_waS h_spoons h_kind h_mark h_silver h_fresh h_texts h_tape h_tapeCount h_z h_waiting h_waitingCount t_weight_27 t_known_27r t_hour_27r t_swS_27 t_swW_27 t_waS_27 t_spoons_27 t_kind_27 t_mark_27 t_silver_27r t_fresh_27r t_texts_27 t_tape t_tapeCount t_z t_waiting t_waitingCount e_weight e_known e_hour e_swS e_swW e_waS e_spoons e_kind e_mark e_silver e_fresh e_texts e_tape e_tapeCount e_z e_waiting e_waitingCount L tx tst_27r (-1000000002 : Int32) r_17 errors_18 hf_19) (cwV 1 hts gX11_when_X11_refused rfl rfl rfl (by decide +kernel) ⟨Nat.le_of_ble_eq_true rfl, Nat.le_of_ble_eq_true rfl⟩) (pvV hE hK hS sb (va_recv hK hP (ci := 11) (q0 := 0) rfl rfl)) rfl rfl hv.1 rfl (lv_room (Nat.le_of_ble_eq_true rfl)) dX11_when_63 ⟨Nat.le_of_ble_eq_true rfl, Nat.le_of_ble_eq_true rfl⟩) hS sb (Jn.same sb) (fun H locs hP hD hS => ?_)
      have hP : va_P D vwCl (wX cA xd vd sd nd hd td ed kd images errors_18 fewest vspoon vmark vcount vbodies sbits slens snum h_weight h_known h_hour h_swS h_swW h_waS h_spoons h_kind h_mark h_silver h_fresh h_texts h_tape h_tapeCount h_z h_waiting h_waitingCount t_weight_27 t_known_27r t_hour_27r t_swS_27 t_swW_27 t_waS_27 t_spoons_27 t_kind_27 t_mark_27 t_silver_27r t_fresh_27r t_texts_27 t_tape t_tapeCount t_z t_waiting t_waitingCount e_weight e_known e_hour e_swS e_swW e_waS e_spoons e_kind e_mark e_silver e_fresh e_texts e_tape e_tapeCount e_z e_waiting e_waitingCount L tx tst_27r) H := hP
      have hD : va_D A (wX cA xd vd sd nd hd td ed kd images errors_18 fewest vspoon vmark vcount vbodies sbits slens snum h_weight h_known h_hour h_swS h_swW h_waS h_spoons h_kind h_mark h_silver h_fresh h_texts h_tape h_tapeCount h_z h_waiting h_waitingCount t_weight_27 t_known_27r t_hour_27r t_swS_27 t_swW_27 t_waS_27 t_spoons_27 t_kind_27 t_mark_27 t_silver_27r t_fresh_27r t_texts_27 t_tape t_tapeCount t_z t_waiting t_waitingCount e_weight e_known e_hour e_swS e_swW e_waS e_spoons e_kind e_mark e_silver e_fresh e_texts e_tape e_tapeCount e_z e_waiting e_waitingCount L tx tst_27r) := hD
      have h := Option.some.inj h
      have ee0 : r_17 = rR := congrArg (fun q => q.1) h
      have ee1 : errors_18 = errorsR := congrArg (fun q => q.2.1) h
      have ee2 : t_weight_27 = t_weightR := congrArg (fun q => q.2.2.1) h
      have ee3 : t_known_27r = t_knownR := congrArg (fun q => q.2.2.2.1) h
      have ee4 : t_hour_27r = t_hourR := congrArg (fun q => q.2.2.2.2.1) h
      have ee5 : t_swS_27 = t_swSR := congrArg (fun q => q.2.2.2.2.2.1) h
      have ee6 : t_swW_27 = t_swWR := congrArg (fun q => q.2.2.2.2.2.2.1) h
      have ee7 : t_waS_27 = t_waSR := congrArg (fun q => q.2.2.2.2.2.2.2.1) h
      have ee8 : t_spoons_27 = t_spoonsR := congrArg (fun q => q.2.2.2.2.2.2.2.2.1) h
      have ee9 : t_kind_27 = t_kindR := congrArg (fun q => q.2.2.2.2.2.2.2.2.2.1) h
      have ee10 : t_mark_27 = t_markR := congrArg (fun q => q.2.2.2.2.2.2.2.2.2.2.1) h
      have ee11 : t_silver_27r = t_silverR := congrArg (fun q => q.2.2.2.2.2.2.2.2.2.2.2.1) h
      have ee12 : t_fresh_27r = t_freshR := congrArg (fun q => q.2.2.2.2.2.2.2.2.2.2.2.2.1) h
      have ee13 : t_texts_27 = t_textsR := congrArg (fun q => q.2.2.2.2.2.2.2.2.2.2.2.2.2.1) h
      have ee14 : tst_27r = tstR := congrArg (fun q => q.2.2.2.2.2.2.2.2.2.2.2.2.2.2) h
      subst ee0
      subst ee1
      subst ee2
      subst ee3
      subst ee4
      subst ee5
      subst ee6
      subst ee7
      subst ee8
      subst ee9
      subst ee10
      subst ee11
      subst ee12
      subst ee13
      subst ee14
      rw [← hQ]
      exact retI hx hb hr hlk hK hP hD hS dX11_when_66 ⟨Nat.le_of_ble_eq_true rfl, Nat.le_of_ble_eq_true rfl⟩
    have LB : ∀ (nf : Nat) (v2_27b : Int32) (t_known_27b : Int32) (t_hour_27b : Int32) (t_silver_27b : Nat → Int32) (t_fresh_27b : Nat → Int64) (tst_27b : Nat → Nat → Int32), lp (fun σ : Int32 × Int32 × Int32 × (Nat → Int32) × (Nat → Int64) × (Nat → Nat → Int32) => fX11_when_27B v1_27 errors_27 h_weight h_known h_hour h_swS h_swW h_waS h_spoons h_kind h_mark h_silver h_fresh h_texts t_weight_27 t_swS_27 t_swW_27 t_waS_27 t_spoons_27 t_kind_27 t_mark_27 t_texts_27 L tx (σ.1) (σ.2.1) (σ.2.2.1) (σ.2.2.2.1) (σ.2.2.2.2.1) (σ.2.2.2.2.2)) nf (v2_27b, t_known_27b, t_hour_27b, t_silver_27b, t_fresh_27b, tst_27b) = some ρ → WW p l e ({ frames := 6, cells := 0, slots := 0, locals := 141 } : Room) s m args below meth c D A 0 0 Q (wX cA xd vd sd nd hd td ed kd images errors_27 fewest vspoon vmark vcount vbodies sbits slens snum h_weight h_known h_hour h_swS h_swW h_waS h_spoons h_kind h_mark h_silver h_fresh h_texts h_tape h_tapeCount h_z h_waiting h_waitingCount t_weight_27 t_known_27b t_hour_27b t_swS_27 t_swW_27 t_waS_27 t_spoons_27 t_kind_27 t_mark_27 t_silver_27b t_fresh_27b t_texts_27 t_tape t_tapeCount t_z t_waiting t_waitingCount e_weight e_known e_hour e_swS e_swW e_waS e_spoons e_kind e_mark e_silver e_fresh e_texts e_tape e_tapeCount e_z e_waiting e_waitingCount L tx tst_27b) 3 [(0, .ref (xd 0)), (1, .int v1_27), (2, .int v2_27b)] 27 [] := by
      intro nf
      induction nf with
      | zero => intro v2_27b t_known_27b t_hour_27b t_silver_27b t_fresh_27b tst_27b hl; cases hl
      | succ nf ih =>
        intro v2_27b t_known_27b t_hour_27b t_silver_27b t_fresh_27b tst_27b hl
        obtain ⟨x, h, hl⟩ := lp_ex hl
        have h : fX11_when_27B v1_27 errors_27 h_weight h_known h_hour h_swS h_swW h_waS h_spoons h_kind h_mark h_silver h_fresh h_texts t_weight_27 t_swS_27 t_swW_27 t_waS_27 t_spoons_27 t_kind_27 t_mark_27 t_texts_27 L tx v2_27b t_known_27b t_hour_27b t_silver_27b t_fresh_27b tst_27b = some x := h
        unfold fX11_when_27B at h
        intro H locs ls hP hD hS hv
        refine lv_iload_n hx hb dX11_when_27 rfl (lv_at hv 2 rfl) ?_
        refine lv_bipush (v := (60 : Int32)) hx hb dX11_when_28 (by decide) ?_
        refine lv_icmp_gt (tgt := 60) hx hb dX11_when_30 (by decide) (fun c_20 => ?_) (fun c_20 => ?_)
        · have h := ite_t c_20 h
          cases h
          have hl : some (Sum.inl (v2_27b, t_known_27b, t_hour_27b, t_silver_27b, t_fresh_27b, tst_27b)) = some ρ := hl
          cases hl
          exact LE _ _ _ _ _ _ rfl _ _ _ hP hD hS (lv_sub hv [0] rfl)
        · have h := ite_f c_20 h
          refine lv_aload_n hx hb dX11_when_33 rfl (lv_at hv 0 rfl) ?_
          refine va_get (D := D) (ci := 11) (v := .ref (td 0)) (C := RX11) (T := TX11) (N := 9) hx hb hts in_11 hown hK hP 0 rfl rfl 1 (by decide) w_0 (fun _ h9 => h9) rfl dX11_when_34 ?_
          refine lv_iload_n hx hb dX11_when_37 rfl (lv_at hv 1 rfl) ?_
          obtain ⟨r_21, hf_22, h⟩ := bd_ex h
          have sb : Sb D A H (wH cA td kd t_weight_27 t_known_27b t_hour_27b t_swS_27 t_swW_27 t_waS_27 t_spoons_27 t_kind_27 t_mark_27 t_silver_27b t_fresh_27b t_texts_27 t_tape t_tapeCount t_z t_waiting t_waitingCount L tx tst_27b) := sbXt hP hD hS hA
          refine calI (va_runV (As := [.int v1_27]) (rest := []) ⟨hx, hb, hml, hown, hts⟩ (c_X3_knows l G D cA td kd _ t_weight_27 t_known_27b t_hour_27b t_swS_27 t_swW_27 t_waS_27 t_spoons_27 t_kind_27 t_mark_27 t_silver_27b t_fresh_27b t_texts_27 t_tape t_tapeCount t_z t_waiting t_waitingCount L tx tst_27b v1_27 r_21 hf_22) (cwV 1 hts gX11_when_X3_knows rfl rfl rfl (by decide +kernel) ⟨Nat.le_of_ble_eq_true rfl, Nat.le_of_ble_eq_true rfl⟩) (pvV hE hK hS sb (va_recv hK hP (ci := 3) (q0 := 26) rfl rfl)) rfl rfl hv.1 rfl (lv_room (Nat.le_of_ble_eq_true rfl)) dX11_when_38 ⟨Nat.le_of_ble_eq_true rfl, Nat.le_of_ble_eq_true rfl⟩) hS sb (jnXt hP hD) (fun H locs hP hD hS => ?_)
          have hP : va_P D vwCl (wX cA xd vd sd nd hd td ed kd images errors_27 fewest vspoon vmark vcount vbodies sbits slens snum h_weight h_known h_hour h_swS h_swW h_waS h_spoons h_kind h_mark h_silver h_fresh h_texts h_tape h_tapeCount h_z h_waiting h_waitingCount t_weight_27 t_known_27b t_hour_27b t_swS_27 t_swW_27 t_waS_27 t_spoons_27 t_kind_27 t_mark_27 t_silver_27b t_fresh_27b t_texts_27 t_tape t_tapeCount t_z t_waiting t_waitingCount e_weight e_known e_hour e_swS e_swW e_waS e_spoons e_kind e_mark e_silver e_fresh e_texts e_tape e_tapeCount e_z e_waiting e_waitingCount L tx tst_27b) H := hP
          have hD : va_D A (wX cA xd vd sd nd hd td ed kd images errors_27 fewest vspoon vmark vcount vbodies sbits slens snum h_weight h_known h_hour h_swS h_swW h_waS h_spoons h_kind h_mark h_silver h_fresh h_texts h_tape h_tapeCount h_z h_waiting h_waitingCount t_weight_27 t_known_27b t_hour_27b t_swS_27 t_swW_27 t_waS_27 t_spoons_27 t_kind_27 t_mark_27 t_silver_27b t_fresh_27b t_texts_27 t_tape t_tapeCount t_z t_waiting t_waitingCount e_weight e_known e_hour e_swS e_swW e_waS e_spoons e_kind e_mark e_silver e_fresh e_texts e_tape e_tapeCount e_z e_waiting e_waitingCount L tx tst_27b) := hD
          refine lv_if_eq (tgt := 46) hx hb dX11_when_41 (by decide) (fun c_23 => ?_) (fun c_23 => ?_)
          · have h := ite_t c_23 h
            refine lv_aload_n hx hb dX11_when_46 rfl (lv_at hv 0 rfl) ?_
            refine va_get (D := D) (ci := 11) (v := .ref (td 0)) (C := RX11) (T := TX11) (N := 9) hx hb hts in_11 hown hK hP 0 rfl rfl 1 (by decide) w_0 (fun _ h9 => h9) rfl dX11_when_47 ?_
            refine lv_iconst (v := (1 : Int32)) hx hb dX11_when_50 (by decide) ?_
            obtain ⟨⟨t_known_24, t_hour_25, t_silver_26, t_fresh_27, tst_28⟩, hf_29, h⟩ := bd_ex h
            have sb : Sb D A H (wH cA td kd t_weight_27 t_known_27b t_hour_27b t_swS_27 t_swW_27 t_waS_27 t_spoons_27 t_kind_27 t_mark_27 t_silver_27b t_fresh_27b t_texts_27 t_tape t_tapeCount t_z t_waiting t_waitingCount L tx tst_27b) := sbXt hP hD hS hA
            refine calV (va_runV (As := [.int (1 : Int32)]) (rest := []) ⟨hx, hb, hml, hown, hts⟩ (c_X3_passHours l G D cA td kd _ t_weight_27 t_known_27b t_hour_27b t_swS_27 t_swW_27 t_waS_27 t_spoons_27 t_kind_27 t_mark_27 t_silver_27b t_fresh_27b t_texts_27 t_tape t_tapeCount t_z t_waiting t_waitingCount L tx tst_27b (1 : Int32) t_known_24 t_hour_25 t_silver_26 t_fresh_27 tst_28 hf_29) (cwV 1 hts gX11_when_X3_passHours rfl rfl rfl (by decide +kernel) ⟨Nat.le_of_ble_eq_true rfl, Nat.le_of_ble_eq_true rfl⟩) (pvV hE hK hS sb (va_recv hK hP (ci := 3) (q0 := 26) rfl rfl)) rfl rfl hv.1 rfl (lv_room (Nat.le_of_ble_eq_true rfl)) dX11_when_51 ⟨Nat.le_of_ble_eq_true rfl, Nat.le_of_ble_eq_true rfl⟩) hS sb (jnXt hP hD) (fun H locs hP hD hS => ?_)
            have hP : va_P D vwCl (wX cA xd vd sd nd hd td ed kd images errors_27 fewest vspoon vmark vcount vbodies sbits slens snum h_weight h_known h_hour h_swS h_swW h_waS h_spoons h_kind h_mark h_silver h_fresh h_texts h_tape h_tapeCount h_z h_waiting h_waitingCount t_weight_27 t_known_24 t_hour_25 t_swS_27 t_swW_27 t_waS_27 t_spoons_27 t_kind_27 t_mark_27 t_silver_26 t_fresh_27 t_texts_27 t_tape t_tapeCount t_z t_waiting t_waitingCount e_weight e_known e_hour e_swS e_swW e_waS e_spoons e_kind e_mark e_silver e_fresh e_texts e_tape e_tapeCount e_z e_waiting e_waitingCount L tx tst_28) H := hP
            have hD : va_D A (wX cA xd vd sd nd hd td ed kd images errors_27 fewest vspoon vmark vcount vbodies sbits slens snum h_weight h_known h_hour h_swS h_swW h_waS h_spoons h_kind h_mark h_silver h_fresh h_texts h_tape h_tapeCount h_z h_waiting h_waitingCount t_weight_27 t_known_24 t_hour_25 t_swS_27 t_swW_27 t_waS_27 t_spoons_27 t_kind_27 t_mark_27 t_silver_26 t_fresh_27 t_texts_27 t_tape t_tapeCount t_z t_waiting t_waitingCount e_weight e_known e_hour e_swS e_swW e_waS e_spoons e_kind e_mark e_silver e_fresh e_texts e_tape e_tapeCount e_z e_waiting e_waitingCount L tx tst_28) := hD
            obtain ⟨y_30, ey_30, h⟩ := bnd_ex h
            refine lv_iinc (v := y_30) (lv' := [(2, .int y_30), (0, .ref (xd 0)), (1, .int v1_27)]) hx hb dX11_when_54 hv (k := 2) rfl (by rw [ey_30]; rfl) (by decide) rfl (fun ls hv => ?_)
            refine lv_goto (tgt := 27) hx hb dX11_when_57 (by decide) ?_
            cases h
            exact ih y_30 t_known_24 t_hour_25 t_silver_26 t_fresh_27 tst_28 hl _ _ _ hP hD hS (lv_sub hv [1, 2, 0] rfl)
          · have h := ite_f c_23 h
            refine lv_iload_n hx hb dX11_when_44 rfl (lv_at hv 2 rfl) ?_
            cases h
            have hl : some (Sum.inr (v2_27b, errors_27, t_weight_27, t_known_27b, t_hour_27b, t_swS_27, t_swW_27, t_waS_27, t_spoons_27, t_kind_27, t_mark_27, t_silver_27b, t_fresh_27b, t_texts_27, tst_27b)) = some ρ := hl
            cases hl
            have h := LR _ rfl
            have ee0 : v2_27b = rR := congrArg (fun q => q.1) h
            have ee1 : errors_27 = errorsR := congrArg (fun q => q.2.1) h
            have ee2 : t_weight_27 = t_weightR := congrArg (fun q => q.2.2.1) h
            have ee3 : t_known_27b = t_knownR := congrArg (fun q => q.2.2.2.1) h
            have ee4 : t_hour_27b = t_hourR := congrArg (fun q => q.2.2.2.2.1) h
            have ee5 : t_swS_27 = t_swSR := congrArg (fun q => q.2.2.2.2.2.1) h
            have ee6 : t_swW_27 = t_swWR := congrArg (fun q => q.2.2.2.2.2.2.1) h
            have ee7 : t_waS_27 = t_waSR := congrArg (fun q => q.2.2.2.2.2.2.2.1) h
            have ee8 : t_spoons_27 = t_spoonsR := congrArg (fun q => q.2.2.2.2.2.2.2.2.1) h
            have ee9 : t_kind_27 = t_kindR := congrArg (fun q => q.2.2.2.2.2.2.2.2.2.1) h
            have ee10 : t_mark_27 = t_markR := congrArg (fun q => q.2.2.2.2.2.2.2.2.2.2.1) h
            have ee11 : t_silver_27b = t_silverR := congrArg (fun q => q.2.2.2.2.2.2.2.2.2.2.2.1) h
            have ee12 : t_fresh_27b = t_freshR := congrArg (fun q => q.2.2.2.2.2.2.2.2.2.2.2.2.1) h
            have ee13 : t_texts_27 = t_textsR := congrArg (fun q => q.2.2.2.2.2.2.2.2.2.2.2.2.2.1) h
            have ee14 : tst_27b = tstR := congrArg (fun q => q.2.2.2.2.2.2.2.2.2.2.2.2.2.2) h
            subst ee0
            subst ee1
            subst ee2
            subst ee3
            subst ee4
            subst ee5
            subst ee6
            subst ee7
            subst ee8
            subst ee9
            subst ee10
            subst ee11
            subst ee12
            subst ee13
            subst ee14
            rw [← hQ]
            exact retI hx hb hr hlk hK hP hD hS dX11_when_45 ⟨Nat.le_of_ble_eq_true rfl, Nat.le_of_ble_eq_true rfl⟩
    exact LB FU v2_27 t_known_27 t_hour_27 t_silver_27 t_fresh_27 tst_27 ho
  have hP : va_P D vwCl (wX cA xd vd sd nd hd td ed kd images errors fewest vspoon vmark vcount vbodies sbits slens snum h_weight h_known h_hour h_swS h_swW h_waS h_spoons h_kind h_mark h_silver h_fresh h_texts h_tape h_tapeCount h_z h_waiting h_waitingCount t_weight t_known t_hour t_swS t_swW t_waS t_spoons t_kind t_mark t_silver t_fresh t_texts t_tape t_tapeCount t_z t_waiting t_waitingCount e_weight e_known e_hour e_swS e_swW e_waS e_spoons e_kind e_mark e_silver e_fresh e_texts e_tape e_tapeCount e_z e_waiting e_waitingCount L tx tst) H := hP
  unfold fX11_when at h
  refine lv_iload_n hx hb dX11_when_0 rfl (lv_at hv 1 rfl) ?_
  obtain ⟨r_1, hf_2, h⟩ := bd_ex h
  have sb := Sb.nil hP hD hS hA
  refine calI (va_runS (As := [.int a]) (rest := []) ⟨hx, hb, hml, hown, hts⟩ (c_X11_isWord l G D cA  _ a r_1 hf_2) (va_cwS 1 hts gX11_when_X11_isWord rfl rfl rfl (by decide +kernel) ⟨Nat.le_of_ble_eq_true rfl, Nat.le_of_ble_eq_true rfl⟩) (pvS hE hK hS sb) rfl rfl hv.1 rfl (lv_room (Nat.le_of_ble_eq_true rfl)) dX11_when_1 ⟨Nat.le_of_ble_eq_true rfl, Nat.le_of_ble_eq_true rfl⟩) hS sb (Jn.nil hP hD) (fun H locs hP hD hS => ?_)
  have hP : va_P D vwCl (wX cA xd vd sd nd hd td ed kd images errors fewest vspoon vmark vcount vbodies sbits slens snum h_weight h_known h_hour h_swS h_swW h_waS h_spoons h_kind h_mark h_silver h_fresh h_texts h_tape h_tapeCount h_z h_waiting h_waitingCount t_weight t_known t_hour t_swS t_swW t_waS t_spoons t_kind t_mark t_silver t_fresh t_texts t_tape t_tapeCount t_z t_waiting t_waitingCount e_weight e_known e_hour e_swS e_swW e_waS e_spoons e_kind e_mark e_silver e_fresh e_texts e_tape e_tapeCount e_z e_waiting e_waitingCount L tx tst) H := hP
  have hD : va_D A (wX cA xd vd sd nd hd td ed kd images errors fewest vspoon vmark vcount vbodies sbits slens snum h_weight h_known h_hour h_swS h_swW h_waS h_spoons h_kind h_mark h_silver h_fresh h_texts h_tape h_tapeCount h_z h_waiting h_waitingCount t_weight t_known t_hour t_swS t_swW t_waS t_spoons t_kind t_mark t_silver t_fresh t_texts t_tape t_tapeCount t_z t_waiting t_waitingCount e_weight e_known e_hour e_swS e_swW e_waS e_spoons e_kind e_mark e_silver e_fresh e_texts e_tape e_tapeCount e_z e_waiting e_waitingCount L tx tst) := hD
  refine lv_if_ne (tgt := 14) hx hb dX11_when_4 (by decide) (fun c_3 => ?_) (fun c_3 => ?_)
  · have h := ite_f c_3 h
    refine lv_aload_n hx hb dX11_when_14 rfl (lv_at hv 0 rfl) ?_
    refine va_get (D := D) (ci := 11) (v := .ref (td 0)) (C := RX11) (T := TX11) (N := 9) hx hb hts in_11 hown hK hP 0 rfl rfl 1 (by decide) w_0 (fun _ h9 => h9) rfl dX11_when_15 ?_
    refine lv_aload_n hx hb dX11_when_18 rfl (lv_at hv 0 rfl) ?_
    refine va_get (D := D) (ci := 11) (v := .ref (hd 0)) (C := RX11) (T := TX11) (N := 9) hx hb hts in_11 hown hK hP 0 rfl rfl 0 (by decide) w_1 (fun _ h9 => h9) rfl dX11_when_19 ?_
    obtain ⟨⟨t_weight_4, t_known_5, t_hour_6, t_swS_7, t_swW_8, t_waS_9, t_spoons_10, t_kind_11, t_mark_12, t_silver_13, t_fresh_14, t_texts_15⟩, hf_16, h⟩ := bd_ex h
    have sb : Sb D A H (wHH cA td hd kd t_weight t_known t_hour t_swS t_swW t_waS t_spoons t_kind t_mark t_silver t_fresh t_texts t_tape t_tapeCount t_z t_waiting t_waitingCount h_weight h_known h_hour h_swS h_swW h_waS h_spoons h_kind h_mark h_silver h_fresh h_texts h_tape h_tapeCount h_z h_waiting h_waitingCount L tx tst) := sbXth hP hD hS hA
    refine calV (va_runV (As := [.ref (hd 0)]) (rest := []) ⟨hx, hb, hml, hown, hts⟩ (c_X3_follow l G D cA td hd kd _ t_weight t_known t_hour t_swS t_swW t_waS t_spoons t_kind t_mark t_silver t_fresh t_texts t_tape t_tapeCount t_z t_waiting t_waitingCount h_weight h_known h_hour h_swS h_swW h_waS h_spoons h_kind h_mark h_silver h_fresh h_texts h_tape h_tapeCount h_z h_waiting h_waitingCount L tx tst t_weight_4 t_known_5 t_hour_6 t_swS_7 t_swW_8 t_waS_9 t_spoons_10 t_kind_11 t_mark_12 t_silver_13 t_fresh_14 t_texts_15 hf_16) (cwV 1 hts gX11_when_X3_follow rfl rfl rfl (by decide +kernel) ⟨Nat.le_of_ble_eq_true rfl, Nat.le_of_ble_eq_true rfl⟩) (pvV hE hK hS sb (va_recv hK hP (ci := 3) (q0 := 26) rfl rfl)) rfl rfl hv.1 rfl (lv_room (Nat.le_of_ble_eq_true rfl)) dX11_when_22 ⟨Nat.le_of_ble_eq_true rfl, Nat.le_of_ble_eq_true rfl⟩) hS sb (jnXth hP hD) (fun H locs hP hD hS => ?_)
    have hP : va_P D vwCl (wX cA xd vd sd nd hd td ed kd images errors fewest vspoon vmark vcount vbodies sbits slens snum h_weight h_known h_hour h_swS h_swW h_waS h_spoons h_kind h_mark h_silver h_fresh h_texts h_tape h_tapeCount h_z h_waiting h_waitingCount t_weight_4 t_known_5 t_hour_6 t_swS_7 t_swW_8 t_waS_9 t_spoons_10 t_kind_11 t_mark_12 t_silver_13 t_fresh_14 t_texts_15 t_tape t_tapeCount t_z t_waiting t_waitingCount e_weight e_known e_hour e_swS e_swW e_waS e_spoons e_kind e_mark e_silver e_fresh e_texts e_tape e_tapeCount e_z e_waiting e_waitingCount L tx tst) H := hP
    have hD : va_D A (wX cA xd vd sd nd hd td ed kd images errors fewest vspoon vmark vcount vbodies sbits slens snum h_weight h_known h_hour h_swS h_swW h_waS h_spoons h_kind h_mark h_silver h_fresh h_texts h_tape h_tapeCount h_z h_waiting h_waitingCount t_weight_4 t_known_5 t_hour_6 t_swS_7 t_swW_8 t_waS_9 t_spoons_10 t_kind_11 t_mark_12 t_silver_13 t_fresh_14 t_texts_15 t_tape t_tapeCount t_z t_waiting t_waitingCount e_weight e_known e_hour e_swS e_swW e_waS e_spoons e_kind e_mark e_silver e_fresh e_texts e_tape e_tapeCount e_z e_waiting e_waitingCount L tx tst) := hD
    refine lv_iconst (v := (0 : Int32)) hx hb dX11_when_25 (by decide) ?_
    refine lv_istore_n (lv' := [(2, .int (0 : Int32)), (0, .ref (xd 0)), (1, .int a)]) hx hb dX11_when_26 rfl hv (by decide) rfl (fun ls hv => ?_)
    exact C_27 a (0 : Int32) errors t_weight_4 t_known_5 t_hour_6 t_swS_7 t_swW_8 t_waS_9 t_spoons_10 t_kind_11 t_mark_12 t_silver_13 t_fresh_14 t_texts_15 tst h _ _ _ hP hD hS (lv_sub hv [1, 2, 0] rfl)
  · have h := ite_t c_3 h
    refine lv_aload_n hx hb dX11_when_7 rfl (lv_at hv 0 rfl) ?_
    refine lv_ldc (v := (-1000000001 : Int32)) hx hb hown w_3 dX11_when_8 ?_
    obtain ⟨⟨r_31, errors_32⟩, hf_33, h⟩ := bd_ex h
    have sb := Sb.same hP hD hS hA
    refine calI (va_runV (As := [.int (-1000000001 : Int32)]) (rest := []) ⟨hx, hb, hml, hown, hts⟩ (c_X11_refused l G D cA xd vd sd nd hd td ed kd _ images errors fewest vspoon vmark vcount vbodies sbits slens snum h_weight h_known h_hour h_swS h_swW h_waS h_spoons h_kind h_mark h_silver h_fresh h_texts h_tape h_tapeCount h_z h_waiting h_waitingCount t_weight t_known t_hour t_swS t_swW t_waS t_spoons t_kind t_mark t_silver t_fresh t_texts t_tape t_tapeCount t_z t_waiting t_waitingCount e_weight e_known e_hour e_swS e_swW e_waS e_spoons e_kind e_mark e_silver e_fresh e_texts e_tape e_tapeCount e_z e_waiting e_waitingCount L tx tst (-1000000001 : Int32) r_31 errors_32 hf_33) (cwV 1 hts gX11_when_X11_refused rfl rfl rfl (by decide +kernel) ⟨Nat.le_of_ble_eq_true rfl, Nat.le_of_ble_eq_true rfl⟩) (pvV hE hK hS sb (va_recv hK hP (ci := 11) (q0 := 0) rfl rfl)) rfl rfl hv.1 rfl (lv_room (Nat.le_of_ble_eq_true rfl)) dX11_when_10 ⟨Nat.le_of_ble_eq_true rfl, Nat.le_of_ble_eq_true rfl⟩) hS sb (Jn.same sb) (fun H locs hP hD hS => ?_)
    have hP : va_P D vwCl (wX cA xd vd sd nd hd td ed kd images errors_32 fewest vspoon vmark vcount vbodies sbits slens snum h_weight h_known h_hour h_swS h_swW h_waS h_spoons h_kind h_mark h_silver h_fresh h_texts h_tape h_tapeCount h_z h_waiting h_waitingCount t_weight t_known t_hour t_swS t_swW t_waS t_spoons t_kind t_mark t_silver t_fresh t_texts t_tape t_tapeCount t_z t_waiting t_waitingCount e_weight e_known e_hour e_swS e_swW e_waS e_spoons e_kind e_mark e_silver e_fresh e_texts e_tape e_tapeCount e_z e_waiting e_waitingCount L tx tst) H := hP
    have hD : va_D A (wX cA xd vd sd nd hd td ed kd images errors_32 fewest vspoon vmark vcount vbodies sbits slens snum h_weight h_known h_hour h_swS h_swW h_waS h_spoons h_kind h_mark h_silver h_fresh h_texts h_tape h_tapeCount h_z h_waiting h_waitingCount t_weight t_known t_hour t_swS t_swW t_waS t_spoons t_kind t_mark t_silver t_fresh t_texts t_tape t_tapeCount t_z t_waiting t_waitingCount e_weight e_known e_hour e_swS e_swW e_waS e_spoons e_kind e_mark e_silver e_fresh e_texts e_tape e_tapeCount e_z e_waiting e_waitingCount L tx tst) := hD
    have h := Option.some.inj h
    have ee0 : r_31 = rR := congrArg (fun q => q.1) h
    have ee1 : errors_32 = errorsR := congrArg (fun q => q.2.1) h
    have ee2 : t_weight = t_weightR := congrArg (fun q => q.2.2.1) h
    have ee3 : t_known = t_knownR := congrArg (fun q => q.2.2.2.1) h
    have ee4 : t_hour = t_hourR := congrArg (fun q => q.2.2.2.2.1) h
    have ee5 : t_swS = t_swSR := congrArg (fun q => q.2.2.2.2.2.1) h
    have ee6 : t_swW = t_swWR := congrArg (fun q => q.2.2.2.2.2.2.1) h
    have ee7 : t_waS = t_waSR := congrArg (fun q => q.2.2.2.2.2.2.2.1) h
    have ee8 : t_spoons = t_spoonsR := congrArg (fun q => q.2.2.2.2.2.2.2.2.1) h
    have ee9 : t_kind = t_kindR := congrArg (fun q => q.2.2.2.2.2.2.2.2.2.1) h
    have ee10 : t_mark = t_markR := congrArg (fun q => q.2.2.2.2.2.2.2.2.2.2.1) h
    have ee11 : t_silver = t_silverR := congrArg (fun q => q.2.2.2.2.2.2.2.2.2.2.2.1) h
    have ee12 : t_fresh = t_freshR := congrArg (fun q => q.2.2.2.2.2.2.2.2.2.2.2.2.1) h
    have ee13 : t_texts = t_textsR := congrArg (fun q => q.2.2.2.2.2.2.2.2.2.2.2.2.2.1) h
    have ee14 : tst = tstR := congrArg (fun q => q.2.2.2.2.2.2.2.2.2.2.2.2.2.2) h
    subst ee0
    subst ee1
    subst ee2
    subst ee3
    subst ee4
    subst ee5
    subst ee6
    subst ee7
    subst ee8
    subst ee9
    subst ee10
    subst ee11
    subst ee12
    subst ee13
    subst ee14
    rw [← hQ]
    exact retI hx hb hr hlk hK hP hD hS dX11_when_13 ⟨Nat.le_of_ble_eq_true rfl, Nat.le_of_ble_eq_true rfl⟩

def fX11_lasts_28B (v1_28 : Int32) (errors_28 : Nat → Int32) (h_weight : Nat → Int32) (h_known : Int32) (h_hour : Int32) (h_swS : Nat → Int32) (h_swW : Nat → Int32) (h_waS : Nat → Int32) (h_spoons : Int32) (h_kind : Nat → Int32) (h_mark : Nat → Int32) (h_silver : Nat → Int32) (h_fresh : Nat → Int64) (h_texts : Nat → Option Nat) (t_weight_28 : Nat → Int32) (t_swS_28 : Nat → Int32) (t_swW_28 : Nat → Int32) (t_waS_28 : Nat → Int32) (t_spoons_28 : Int32) (t_kind_28 : Nat → Int32) (t_mark_28 : Nat → Int32) (t_texts_28 : Nat → Option Nat) (L : List Nat) (tx : Nat → TXc) (v2_28b : Int32) (t_known_28b : Int32) (t_hour_28b : Int32) (t_silver_28b : Nat → Int32) (t_fresh_28b : Nat → Int64) (tst_28b : Nat → Nat → Int32) : Option ((Int32 × Int32 × Int32 × (Nat → Int32) × (Nat → Int64) × (Nat → Nat → Int32)) ⊕ ((Int32 × Int32 × Int32 × (Nat → Int32) × (Nat → Int64) × (Nat → Nat → Int32)) ⊕ (Int32 × (Nat → Int32) × (Nat → Int32) × Int32 × Int32 × (Nat → Int32) × (Nat → Int32) × (Nat → Int32) × Int32 × (Nat → Int32) × (Nat → Int32) × (Nat → Int32) × (Nat → Int64) × (Nat → Option Nat) × (Nat → Nat → Int32)))) :=
  (if (60 : Int32) < v2_28b then some (.inr (.inl (v2_28b, t_known_28b, t_hour_28b, t_silver_28b, t_fresh_28b, tst_28b))) else ckI v1_28 8 ((if (t_silver_28b (v1_28).toNatClampNeg) = 0 then some (.inr (.inr (v2_28b, errors_28, t_weight_28, t_known_28b, t_hour_28b, t_swS_28, t_swW_28, t_waS_28, t_spoons_28, t_kind_28, t_mark_28, t_silver_28b, t_fresh_28b, t_texts_28, tst_28b))) else bd (fX3_passHours (1 : Int32) t_weight_28 t_known_28b t_hour_28b t_swS_28 t_swW_28 t_waS_28 t_spoons_28 t_kind_28 t_mark_28 t_silver_28b t_fresh_28b t_texts_28 L tx tst_28b) fun (t_known_23, t_hour_24, t_silver_25, t_fresh_26, tst_27) => bnd (v2_28b + (1 : Int32)) fun y_29 => some (.inl (y_29, t_known_23, t_hour_24, t_silver_25, t_fresh_26, tst_27)))))
def fX11_lasts_28 (v1_28 : Int32) (v2_28 : Int32) (errors_28 : Nat → Int32) (h_weight : Nat → Int32) (h_known : Int32) (h_hour : Int32) (h_swS : Nat → Int32) (h_swW : Nat → Int32) (h_waS : Nat → Int32) (h_spoons : Int32) (h_kind : Nat → Int32) (h_mark : Nat → Int32) (h_silver : Nat → Int32) (h_fresh : Nat → Int64) (h_texts : Nat → Option Nat) (t_weight_28 : Nat → Int32) (t_known_28 : Int32) (t_hour_28 : Int32) (t_swS_28 : Nat → Int32) (t_swW_28 : Nat → Int32) (t_waS_28 : Nat → Int32) (t_spoons_28 : Int32) (t_kind_28 : Nat → Int32) (t_mark_28 : Nat → Int32) (t_silver_28 : Nat → Int32) (t_fresh_28 : Nat → Int64) (t_texts_28 : Nat → Option Nat) (L : List Nat) (tx : Nat → TXc) (tst_28 : Nat → Nat → Int32) : Option (Int32 × (Nat → Int32) × (Nat → Int32) × Int32 × Int32 × (Nat → Int32) × (Nat → Int32) × (Nat → Int32) × Int32 × (Nat → Int32) × (Nat → Int32) × (Nat → Int32) × (Nat → Int64) × (Nat → Option Nat) × (Nat → Nat → Int32)) :=
  bd (lp (fun σ : Int32 × Int32 × Int32 × (Nat → Int32) × (Nat → Int64) × (Nat → Nat → Int32) => fX11_lasts_28B v1_28 errors_28 h_weight h_known h_hour h_swS h_swW h_waS h_spoons h_kind h_mark h_silver h_fresh h_texts t_weight_28 t_swS_28 t_swW_28 t_waS_28 t_spoons_28 t_kind_28 t_mark_28 t_texts_28 L tx (σ.1) (σ.2.1) (σ.2.2.1) (σ.2.2.2.1) (σ.2.2.2.2.1) (σ.2.2.2.2.2)) FU (v2_28, t_known_28, t_hour_28, t_silver_28, t_fresh_28, tst_28)) fun ρ => match ρ with | .inl (v2_28r, t_known_28r, t_hour_28r, t_silver_28r, t_fresh_28r, tst_28r) => bd (fX11_refused (-1000000002 : Int32) errors_28) fun (r_17, errors_18) => some (r_17, errors_18, t_weight_28, t_known_28r, t_hour_28r, t_swS_28, t_swW_28, t_waS_28, t_spoons_28, t_kind_28, t_mark_28, t_silver_28r, t_fresh_28r, t_texts_28, tst_28r) | .inr q => some q
def fX11_lasts (a : Int32) (errors : Nat → Int32) (h_weight : Nat → Int32) (h_known : Int32) (h_hour : Int32) (h_swS : Nat → Int32) (h_swW : Nat → Int32) (h_waS : Nat → Int32) (h_spoons : Int32) (h_kind : Nat → Int32) (h_mark : Nat → Int32) (h_silver : Nat → Int32) (h_fresh : Nat → Int64) (h_texts : Nat → Option Nat) (t_weight : Nat → Int32) (t_known : Int32) (t_hour : Int32) (t_swS : Nat → Int32) (t_swW : Nat → Int32) (t_waS : Nat → Int32) (t_spoons : Int32) (t_kind : Nat → Int32) (t_mark : Nat → Int32) (t_silver : Nat → Int32) (t_fresh : Nat → Int64) (t_texts : Nat → Option Nat) (L : List Nat) (tx : Nat → TXc) (tst : Nat → Nat → Int32) : Option (Int32 × (Nat → Int32) × (Nat → Int32) × Int32 × Int32 × (Nat → Int32) × (Nat → Int32) × (Nat → Int32) × Int32 × (Nat → Int32) × (Nat → Int32) × (Nat → Int32) × (Nat → Int64) × (Nat → Option Nat) × (Nat → Nat → Int32)) :=
  bd (fX11_isSpoon a h_spoons) fun r_1 => (if r_1 = 0 then bd (fX11_refused (-1000000001 : Int32) errors) fun (r_30, errors_31) => some (r_30, errors_31, t_weight, t_known, t_hour, t_swS, t_swW, t_waS, t_spoons, t_kind, t_mark, t_silver, t_fresh, t_texts, tst) else bd (fX3_follow t_weight t_known t_hour t_swS t_swW t_waS t_spoons t_kind t_mark t_silver t_fresh t_texts h_weight h_known h_hour h_swS h_swW h_waS h_spoons h_kind h_mark h_silver h_fresh h_texts L) fun (t_weight_4, t_known_5, t_hour_6, t_swS_7, t_swW_8, t_waS_9, t_spoons_10, t_kind_11, t_mark_12, t_silver_13, t_fresh_14, t_texts_15) => fX11_lasts_28 a (0 : Int32) errors h_weight h_known h_hour h_swS h_swW h_waS h_spoons h_kind h_mark h_silver h_fresh h_texts t_weight_4 t_known_5 t_hour_6 t_swS_7 t_swW_8 t_waS_9 t_spoons_10 t_kind_11 t_mark_12 t_silver_13 t_fresh_14 t_texts_15 L tx tst)
set_option maxHeartbeats 4000000 in
set_option maxRecDepth 100000 in
theorem c_X11_lasts (l : Launch) (G : Nat → Nat) (D : va_G) (cA : Nat → ClassId) (xd : Nat → Nat) (vd : Nat → Nat) (sd : Nat → Nat) (nd : Nat → Nat) (hd : Nat → Nat) (td : Nat → Nat) (ed : Nat → Nat) (kd : Nat → Nat) (sz : Nat) (images : Int32) (errors : Nat → Int32) (fewest : Nat → Int32) (vspoon : Int32) (vmark : Int32) (vcount : Int32) (vbodies : Nat → Int32) (sbits : Nat → Int32) (slens : Nat → Int32) (snum : Nat → Nat → Int32) (h_weight : Nat → Int32) (h_known : Int32) (h_hour : Int32) (h_swS : Nat → Int32) (h_swW : Nat → Int32) (h_waS : Nat → Int32) (h_spoons : Int32) (h_kind : Nat → Int32) (h_mark : Nat → Int32) (h_silver : Nat → Int32) (h_fresh : Nat → Int64) (h_texts : Nat → Option Nat) (h_tape : Nat → Int32) (h_tapeCount : Int32) (h_z : Int32) (h_waiting : Nat → Int32) (h_waitingCount : Int32) (t_weight : Nat → Int32) (t_known : Int32) (t_hour : Int32) (t_swS : Nat → Int32) (t_swW : Nat → Int32) (t_waS : Nat → Int32) (t_spoons : Int32) (t_kind : Nat → Int32) (t_mark : Nat → Int32) (t_silver : Nat → Int32) (t_fresh : Nat → Int64) (t_texts : Nat → Option Nat) (t_tape : Nat → Int32) (t_tapeCount : Int32) (t_z : Int32) (t_waiting : Nat → Int32) (t_waitingCount : Int32) (e_weight : Nat → Int32) (e_known : Int32) (e_hour : Int32) (e_swS : Nat → Int32) (e_swW : Nat → Int32) (e_waS : Nat → Int32) (e_spoons : Int32) (e_kind : Nat → Int32) (e_mark : Nat → Int32) (e_silver : Nat → Int32) (e_fresh : Nat → Int64) (e_texts : Nat → Option Nat) (e_tape : Nat → Int32) (e_tapeCount : Int32) (e_z : Int32) (e_waiting : Nat → Int32) (e_waitingCount : Int32) (L : List Nat) (tx : Nat → TXc) (tst : Nat → Nat → Int32) (a : Int32) (rR : Int32) (errorsR : Nat → Int32) (t_weightR : Nat → Int32) (t_knownR : Int32) (t_hourR : Int32) (t_swSR : Nat → Int32) (t_swWR : Nat → Int32) (t_waSR : Nat → Int32) (t_spoonsR : Int32) (t_kindR : Nat → Int32) (t_markR : Nat → Int32) (t_silverR : Nat → Int32) (t_freshR : Nat → Int64) (t_textsR : Nat → Option Nat) (tstR : Nat → Nat → Int32) (h : fX11_lasts a errors h_weight h_known h_hour h_swS h_swW h_waS h_spoons h_kind h_mark h_silver h_fresh h_texts t_weight t_known t_hour t_swS t_swW t_waS t_spoons t_kind t_mark t_silver t_fresh t_texts L tx tst = some (rR, errorsR, t_weightR, t_knownR, t_hourR, t_swSR, t_swWR, t_waSR, t_spoonsR, t_kindR, t_markR, t_silverR, t_freshR, t_textsR, tstR)) : Met l yX11_lasts wsX11_lasts ({ frames := 6, cells := 0, slots := 0, locals := 141 } : Room) (PW G D (tyC cA) sz (wX cA xd vd sd nd hd td ed kd images errors fewest vspoon vmark vcount vbodies sbits slens snum h_weight h_known h_hour h_swS h_swW h_waS h_spoons h_kind h_mark h_silver h_fresh h_texts h_tape h_tapeCount h_z h_waiting h_waitingCount t_weight t_known t_hour t_swS t_swW t_waS t_spoons t_kind t_mark t_silver t_fresh t_texts t_tape t_tapeCount t_z t_waiting t_waitingCount e_weight e_known e_hour e_swS e_swW e_waS e_spoons e_kind e_mark e_silver e_fresh e_texts e_tape e_tapeCount e_z e_waiting e_waitingCount L tx tst) [.ref (xd 0), .int a]) (QI D (tyC cA) (va_A (wX cA xd vd sd nd hd td ed kd images errors fewest vspoon vmark vcount vbodies sbits slens snum h_weight h_known h_hour h_swS h_swW h_waS h_spoons h_kind h_mark h_silver h_fresh h_texts h_tape h_tapeCount h_z h_waiting h_waitingCount t_weight t_known t_hour t_swS t_swW t_waS t_spoons t_kind t_mark t_silver t_fresh t_texts t_tape t_tapeCount t_z t_waiting t_waitingCount e_weight e_known e_hour e_swS e_swW e_waS e_spoons e_kind e_mark e_silver e_fresh e_texts e_tape e_tapeCount e_z e_waiting e_waitingCount L tx tst) sz) rR (wX cA xd vd sd nd hd td ed kd images errorsR fewest vspoon vmark vcount vbodies sbits slens snum h_weight h_known h_hour h_swS h_swW h_waS h_spoons h_kind h_mark h_silver h_fresh h_texts h_tape h_tapeCount h_z h_waiting h_waitingCount t_weightR t_knownR t_hourR t_swSR t_swWR t_waSR t_spoonsR t_kindR t_markR t_silverR t_freshR t_textsR t_tape t_tapeCount t_z t_waiting t_waitingCount e_weight e_known e_hour e_swS e_swW e_waS e_spoons e_kind e_mark e_silver e_fresh e_texts e_tape e_tapeCount e_z e_waiting e_waitingCount L tx tstR)) 0 0 (va_A (wX cA xd vd sd nd hd td ed kd images errors fewest vspoon vmark vcount vbodies sbits slens snum h_weight h_known h_hour h_swS h_swW h_waS h_spoons h_kind h_mark h_silver h_fresh h_texts h_tape h_tapeCount h_z h_waiting h_waitingCount t_weight t_known t_hour t_swS t_swW t_waS t_spoons t_kind t_mark t_silver t_fresh t_texts t_tape t_tapeCount t_z t_waiting t_waitingCount e_weight e_known e_hour e_swS e_swW e_waS e_spoons e_kind e_mark e_silver e_fresh e_texts e_tape e_tapeCount e_z e_waiting e_waitingCount L tx tst) sz) := by
  refine ent (cc := cX11_lasts) (maxL := 3) (ret := (some .int)) (fun A => QI D (tyC cA) A rR (wX cA xd vd sd nd hd td ed kd images errorsR fewest vspoon vmark vcount vbodies sbits slens snum h_weight h_known h_hour h_swS h_swW h_waS h_spoons h_kind h_mark h_silver h_fresh h_texts h_tape h_tapeCount h_z h_waiting h_waitingCount t_weightR t_knownR t_hourR t_swSR t_swWR t_waSR t_spoonsR t_kindR t_markR t_silverR t_freshR t_textsR t_tape t_tapeCount t_z t_waiting t_waitingCount e_weight e_known e_hour e_swS e_swW e_waS e_spoons e_kind e_mark e_silver e_fresh e_texts e_tape e_tapeCount e_z e_waiting e_waitingCount L tx tstR)) (by decide +kernel) rfl (Nat.le_of_ble_eq_true rfl) ?_
  intro p e s m args below meth c A ls H hx hb hml hr hlk hts hown hA hK hE hP hD hS hv hmm
  have hv : lv_has ls 3 [(0, .ref (xd 0)), (1, .int a)] := hv
  have in_3 : ∀ w ∈ u_ws RX3 TX3 18, w ∈ wsX11_lasts := fun _ h => List.mem_cons_of_mem _ (List.mem_append_left _ (List.mem_append_right _ h))
  have in_11 : ∀ w ∈ u_ws RX11 TX11 9, w ∈ wsX11_lasts := fun _ h => List.mem_cons_of_mem _ (List.mem_append_left _ (List.mem_append_left _ (List.mem_append_right _ h)))
  have w_0 := hts (.fieldLink RX11 43 "SpoonsLast" "thought" "LSpoonsLast$House;") (List.mem_of_getElem? (i := 2) rfl)
  have w_1 := hts (.fieldLink RX11 39 "SpoonsLast" "house" "LSpoonsLast$House;") (List.mem_of_getElem? (i := 3) rfl)
  have w_2 := hts (.constant RX11 204 (-1000000002)) (List.mem_of_getElem? (i := 5) rfl)
  have w_3 := hts (.fieldLink RX11 121 "SpoonsLast$House" "silver" "[I") (List.mem_of_getElem? (i := 4) rfl)
  have w_4 := hts (.constant RX11 78 (-1000000001)) (List.mem_of_getElem? (i := 1) rfl)
  generalize hQ : MQ below _ args s 0 0 A = Q
  have C_28 : ∀ (v1_28 : Int32) (v2_28 : Int32) (errors_28 : Nat → Int32) (t_weight_28 : Nat → Int32) (t_known_28 : Int32) (t_hour_28 : Int32) (t_swS_28 : Nat → Int32) (t_swW_28 : Nat → Int32) (t_waS_28 : Nat → Int32) (t_spoons_28 : Int32) (t_kind_28 : Nat → Int32) (t_mark_28 : Nat → Int32) (t_silver_28 : Nat → Int32) (t_fresh_28 : Nat → Int64) (t_texts_28 : Nat → Option Nat) (tst_28 : Nat → Nat → Int32), fX11_lasts_28 v1_28 v2_28 errors_28 h_weight h_known h_hour h_swS h_swW h_waS h_spoons h_kind h_mark h_silver h_fresh h_texts t_weight_28 t_known_28 t_hour_28 t_swS_28 t_swW_28 t_waS_28 t_spoons_28 t_kind_28 t_mark_28 t_silver_28 t_fresh_28 t_texts_28 L tx tst_28 = some (rR, errorsR, t_weightR, t_knownR, t_hourR, t_swSR, t_swWR, t_waSR, t_spoonsR, t_kindR, t_markR, t_silverR, t_freshR, t_textsR, tstR) → WW p l e ({ frames := 6, cells := 0, slots := 0, locals := 141 } : Room) s m args below meth c D A 0 0 Q (wX cA xd vd sd nd hd td ed kd images errors_28 fewest vspoon vmark vcount vbodies sbits slens snum h_weight h_known h_hour h_swS h_swW h_waS h_spoons h_kind h_mark h_silver h_fresh h_texts h_tape h_tapeCount h_z h_waiting h_waitingCount t_weight_28 t_known_28 t_hour_28 t_swS_28 t_swW_28 t_waS_28 t_spoons_28 t_kind_28 t_mark_28 t_silver_28 t_fresh_28 t_texts_28 t_tape t_tapeCount t_z t_waiting t_waitingCount e_weight e_known e_hour e_swS e_swW e_waS e_spoons e_kind e_mark e_silver e_fresh e_texts e_tape e_tapeCount e_z e_waiting e_waitingCount L tx tst_28) 3 [(0, .ref (xd 0)), (1, .int v1_28), (2, .int v2_28)] 28 [] := by
    intro v1_28 v2_28 errors_28 t_weight_28 t_known_28 t_hour_28 t_swS_28 t_swW_28 t_waS_28 t_spoons_28 t_kind_28 t_mark_28 t_silver_28 t_fresh_28 t_texts_28 tst_28 h
    unfold fX11_lasts_28 at h
    obtain ⟨ρ, ho, h⟩ := bd_ex h
    have LR : ∀ q, ρ = .inr q → q = (rR, errorsR, t_weightR, t_knownR, t_hourR, t_swSR, t_swWR, t_waSR, t_spoonsR, t_kindR, t_markR, t_silverR, t_freshR, t_textsR, tstR) := by intro q e; subst e; exact Option.some.inj h
    have LE : ∀ (v2_28r : Int32) (t_known_28r : Int32) (t_hour_28r : Int32) (t_silver_28r : Nat → Int32) (t_fresh_28r : Nat → Int64) (tst_28r : Nat → Nat → Int32), ρ = .inl (v2_28r, t_known_28r, t_hour_28r, t_silver_28r, t_fresh_28r, tst_28r) → WW p l e ({ frames := 6, cells := 0, slots := 0, locals := 141 } : Room) s m args below meth c D A 0 0 Q (wX cA xd vd sd nd hd td ed kd images errors_28 fewest vspoon vmark vcount vbodies sbits slens snum h_weight h_known h_hour h_swS h_swW h_waS h_spoons h_kind h_mark h_silver h_fresh h_texts h_tape h_tapeCount h_z h_waiting h_waitingCount t_weight_28 t_known_28r t_hour_28r t_swS_28 t_swW_28 t_waS_28 t_spoons_28 t_kind_28 t_mark_28 t_silver_28r t_fresh_28r t_texts_28 t_tape t_tapeCount t_z t_waiting t_waitingCount e_weight e_known e_hour e_swS e_swW e_waS e_spoons e_kind e_mark e_silver e_fresh e_texts e_tape e_tapeCount e_z e_waiting e_waitingCount L tx tst_28r) 3 [(0, .ref (xd 0))] 62 [] := by
      intro v2_28r t_known_28r t_hour_28r t_silver_28r t_fresh_28r tst_28r e
      subst e
      intro H locs ls hP hD hS hv
      refine lv_aload_n hx hb dX11_lasts_62 rfl (lv_at hv 0 rfl) ?_
      refine lv_ldc (v := (-1000000002 : Int32)) hx hb hown w_2 dX11_lasts_63 ?_
      obtain ⟨⟨r_17, errors_18⟩, hf_19, h⟩ := bd_ex h
      have sb := Sb.same hP hD hS hA
      refine calI (va_runV (As := [.int (-1000000002 : Int32)]) (rest := []) ⟨hx, hb, hml, hown, hts⟩ (c_X11_refused l G D cA xd vd sd nd hd td ed kd _ images errors_28 fewest vspoon vmark vcount vbodies sbits slens snum h_weight h_known h_hour h_swS h_swW h_waS h_spoons h_kind h_mark h_silver h_fresh h_texts h_tape h_tapeCount h_z h_waiting h_waitingCount t_weight_28 t_known_28r t_hour_28r t_swS_28 t_swW_28 t_waS_28 t_spoons_28 t_kind_28 t_mark_28 t_silver_28r t_fresh_28r t_texts_28 t_tape t_tapeCount t_z t_waiting t_waitingCount e_weight e_known e_hour e_swS e_swW e_waS e_spoons e_kind e_mark e_silver e_fresh e_texts e_tape e_tapeCount e_z e_waiting e_waitingCount L tx tst_28r (-1000000002 : Int32) r_17 errors_18 hf_19) (cwV 1 hts gX11_lasts_X11_refused rfl rfl rfl (by decide +kernel) ⟨Nat.le_of_ble_eq_true rfl, Nat.le_of_ble_eq_true rfl⟩) (pvV hE hK hS sb (va_recv hK hP (ci := 11) (q0 := 0) rfl rfl)) rfl rfl hv.1 rfl (lv_room (Nat.le_of_ble_eq_true rfl)) dX11_lasts_65 ⟨Nat.le_of_ble_eq_true rfl, Nat.le_of_ble_eq_true rfl⟩) hS sb (Jn.same sb) (fun H locs hP hD hS => ?_)
      have hP : va_P D vwCl (wX cA xd vd sd nd hd td ed kd images errors_18 fewest vspoon vmark vcount vbodies sbits slens snum h_weight h_known h_hour h_swS h_swW h_waS h_spoons h_kind h_mark h_silver h_fresh h_texts h_tape h_tapeCount h_z h_waiting h_waitingCount t_weight_28 t_known_28r t_hour_28r t_swS_28 t_swW_28 t_waS_28 t_spoons_28 t_kind_28 t_mark_28 t_silver_28r t_fresh_28r t_texts_28 t_tape t_tapeCount t_z t_waiting t_waitingCount e_weight e_known e_hour e_swS e_swW e_waS e_spoons e_kind e_mark e_silver e_fresh e_texts e_tape e_tapeCount e_z e_waiting e_waitingCount L tx tst_28r) H := hP
      have hD : va_D A (wX cA xd vd sd nd hd td ed kd images errors_18 fewest vspoon vmark vcount vbodies sbits slens snum h_weight h_known h_hour h_swS h_swW h_waS h_spoons h_kind h_mark h_silver h_fresh h_texts h_tape h_tapeCount h_z h_waiting h_waitingCount t_weight_28 t_known_28r t_hour_28r t_swS_28 t_swW_28 t_waS_28 t_spoons_28 t_kind_28 t_mark_28 t_silver_28r t_fresh_28r t_texts_28 t_tape t_tapeCount t_z t_waiting t_waitingCount e_weight e_known e_hour e_swS e_swW e_waS e_spoons e_kind e_mark e_silver e_fresh e_texts e_tape e_tapeCount e_z e_waiting e_waitingCount L tx tst_28r) := hD
      have h := Option.some.inj h
      have ee0 : r_17 = rR := congrArg (fun q => q.1) h
      have ee1 : errors_18 = errorsR := congrArg (fun q => q.2.1) h
      have ee2 : t_weight_28 = t_weightR := congrArg (fun q => q.2.2.1) h
      have ee3 : t_known_28r = t_knownR := congrArg (fun q => q.2.2.2.1) h
      have ee4 : t_hour_28r = t_hourR := congrArg (fun q => q.2.2.2.2.1) h
      have ee5 : t_swS_28 = t_swSR := congrArg (fun q => q.2.2.2.2.2.1) h
      have ee6 : t_swW_28 = t_swWR := congrArg (fun q => q.2.2.2.2.2.2.1) h
      have ee7 : t_waS_28 = t_waSR := congrArg (fun q => q.2.2.2.2.2.2.2.1) h
      have ee8 : t_spoons_28 = t_spoonsR := congrArg (fun q => q.2.2.2.2.2.2.2.2.1) h
      have ee9 : t_kind_28 = t_kindR := congrArg (fun q => q.2.2.2.2.2.2.2.2.2.1) h
      have ee10 : t_mark_28 = t_markR := congrArg (fun q => q.2.2.2.2.2.2.2.2.2.2.1) h
      have ee11 : t_silver_28r = t_silverR := congrArg (fun q => q.2.2.2.2.2.2.2.2.2.2.2.1) h
      have ee12 : t_fresh_28r = t_freshR := congrArg (fun q => q.2.2.2.2.2.2.2.2.2.2.2.2.1) h
      have ee13 : t_texts_28 = t_textsR := congrArg (fun q => q.2.2.2.2.2.2.2.2.2.2.2.2.2.1) h
      have ee14 : tst_28r = tstR := congrArg (fun q => q.2.2.2.2.2.2.2.2.2.2.2.2.2.2) h
      subst ee0
      subst ee1
      subst ee2
      subst ee3
      subst ee4
      subst ee5
      subst ee6
      subst ee7
      subst ee8
      subst ee9
      subst ee10
      subst ee11
      subst ee12
      subst ee13
      subst ee14
      rw [← hQ]
      exact retI hx hb hr hlk hK hP hD hS dX11_lasts_68 ⟨Nat.le_of_ble_eq_true rfl, Nat.le_of_ble_eq_true rfl⟩
    have LB : ∀ (nf : Nat) (v2_28b : Int32) (t_known_28b : Int32) (t_hour_28b : Int32) (t_silver_28b : Nat → Int32) (t_fresh_28b : Nat → Int64) (tst_28b : Nat → Nat → Int32), lp (fun σ : Int32 × Int32 × Int32 × (Nat → Int32) × (Nat → Int64) × (Nat → Nat → Int32) => fX11_lasts_28B v1_28 errors_28 h_weight h_known h_hour h_swS h_swW h_waS h_spoons h_kind h_mark h_silver h_fresh h_texts t_weight_28 t_swS_28 t_swW_28 t_waS_28 t_spoons_28 t_kind_28 t_mark_28 t_texts_28 L tx (σ.1) (σ.2.1) (σ.2.2.1) (σ.2.2.2.1) (σ.2.2.2.2.1) (σ.2.2.2.2.2)) nf (v2_28b, t_known_28b, t_hour_28b, t_silver_28b, t_fresh_28b, tst_28b) = some ρ → WW p l e ({ frames := 6, cells := 0, slots := 0, locals := 141 } : Room) s m args below meth c D A 0 0 Q (wX cA xd vd sd nd hd td ed kd images errors_28 fewest vspoon vmark vcount vbodies sbits slens snum h_weight h_known h_hour h_swS h_swW h_waS h_spoons h_kind h_mark h_silver h_fresh h_texts h_tape h_tapeCount h_z h_waiting h_waitingCount t_weight_28 t_known_28b t_hour_28b t_swS_28 t_swW_28 t_waS_28 t_spoons_28 t_kind_28 t_mark_28 t_silver_28b t_fresh_28b t_texts_28 t_tape t_tapeCount t_z t_waiting t_waitingCount e_weight e_known e_hour e_swS e_swW e_waS e_spoons e_kind e_mark e_silver e_fresh e_texts e_tape e_tapeCount e_z e_waiting e_waitingCount L tx tst_28b) 3 [(0, .ref (xd 0)), (1, .int v1_28), (2, .int v2_28b)] 28 [] := by
      intro nf
      induction nf with
      | zero => intro v2_28b t_known_28b t_hour_28b t_silver_28b t_fresh_28b tst_28b hl; cases hl
      | succ nf ih =>
        intro v2_28b t_known_28b t_hour_28b t_silver_28b t_fresh_28b tst_28b hl
        obtain ⟨x, h, hl⟩ := lp_ex hl
        have h : fX11_lasts_28B v1_28 errors_28 h_weight h_known h_hour h_swS h_swW h_waS h_spoons h_kind h_mark h_silver h_fresh h_texts t_weight_28 t_swS_28 t_swW_28 t_waS_28 t_spoons_28 t_kind_28 t_mark_28 t_texts_28 L tx v2_28b t_known_28b t_hour_28b t_silver_28b t_fresh_28b tst_28b = some x := h
        unfold fX11_lasts_28B at h
        intro H locs ls hP hD hS hv
        refine lv_iload_n hx hb dX11_lasts_28 rfl (lv_at hv 2 rfl) ?_
        refine lv_bipush (v := (60 : Int32)) hx hb dX11_lasts_29 (by decide) ?_
        refine lv_icmp_gt (tgt := 62) hx hb dX11_lasts_31 (by decide) (fun c_20 => ?_) (fun c_20 => ?_)
        · have h := ite_t c_20 h
          cases h
          have hl : some (Sum.inl (v2_28b, t_known_28b, t_hour_28b, t_silver_28b, t_fresh_28b, tst_28b)) = some ρ := hl
          cases hl
          exact LE _ _ _ _ _ _ rfl _ _ _ hP hD hS (lv_sub hv [0] rfl)
        · have h := ite_f c_20 h
          refine lv_aload_n hx hb dX11_lasts_34 rfl (lv_at hv 0 rfl) ?_
          refine va_get (D := D) (ci := 11) (v := .ref (td 0)) (C := RX11) (T := TX11) (N := 9) hx hb hts in_11 hown hK hP 0 rfl rfl 1 (by decide) w_0 (fun _ h9 => h9) rfl dX11_lasts_35 ?_
          refine va_get (D := D) (ci := 3) (v := .ref (td 11)) (C := RX3) (T := TX3) (N := 18) hx hb hts in_3 hown hK hP 26 rfl rfl 10 (by decide) w_3 (fun _ h9 => h9) rfl dX11_lasts_38 ?_
          refine lv_iload_n hx hb dX11_lasts_41 rfl (lv_at hv 1 rfl) ?_
          obtain ⟨c_21, h⟩ := ckI_ex h
          refine va_iald (D := D) hx hb hK hP 33 0 rfl rfl c_21 dX11_lasts_42 ?_
          refine lv_if_ne (tgt := 48) hx hb dX11_lasts_43 (by decide) (fun c_22 => ?_) (fun c_22 => ?_)
          · have h := ite_f c_22 h
            refine lv_aload_n hx hb dX11_lasts_48 rfl (lv_at hv 0 rfl) ?_
            refine va_get (D := D) (ci := 11) (v := .ref (td 0)) (C := RX11) (T := TX11) (N := 9) hx hb hts in_11 hown hK hP 0 rfl rfl 1 (by decide) w_0 (fun _ h9 => h9) rfl dX11_lasts_49 ?_
            refine lv_iconst (v := (1 : Int32)) hx hb dX11_lasts_52 (by decide) ?_
            obtain ⟨⟨t_known_23, t_hour_24, t_silver_25, t_fresh_26, tst_27⟩, hf_28, h⟩ := bd_ex h
            have sb : Sb D A H (wH cA td kd t_weight_28 t_known_28b t_hour_28b t_swS_28 t_swW_28 t_waS_28 t_spoons_28 t_kind_28 t_mark_28 t_silver_28b t_fresh_28b t_texts_28 t_tape t_tapeCount t_z t_waiting t_waitingCount L tx tst_28b) := sbXt hP hD hS hA
            refine calV (va_runV (As := [.int (1 : Int32)]) (rest := []) ⟨hx, hb, hml, hown, hts⟩ (c_X3_passHours l G D cA td kd _ t_weight_28 t_known_28b t_hour_28b t_swS_28 t_swW_28 t_waS_28 t_spoons_28 t_kind_28 t_mark_28 t_silver_28b t_fresh_28b t_texts_28 t_tape t_tapeCount t_z t_waiting t_waitingCount L tx tst_28b (1 : Int32) t_known_23 t_hour_24 t_silver_25 t_fresh_26 tst_27 hf_28) (cwV 1 hts gX11_lasts_X3_passHours rfl rfl rfl (by decide +kernel) ⟨Nat.le_of_ble_eq_true rfl, Nat.le_of_ble_eq_true rfl⟩) (pvV hE hK hS sb (va_recv hK hP (ci := 3) (q0 := 26) rfl rfl)) rfl rfl hv.1 rfl (lv_room (Nat.le_of_ble_eq_true rfl)) dX11_lasts_53 ⟨Nat.le_of_ble_eq_true rfl, Nat.le_of_ble_eq_true rfl⟩) hS sb (jnXt hP hD) (fun H locs hP hD hS => ?_)
            have hP : va_P D vwCl (wX cA xd vd sd nd hd td ed kd images errors_28 fewest vspoon vmark vcount vbodies sbits slens snum h_weight h_known h_hour h_swS h_swW h_waS h_spoons h_kind h_mark h_silver h_fresh h_texts h_tape h_tapeCount h_z h_waiting h_waitingCount t_weight_28 t_known_23 t_hour_24 t_swS_28 t_swW_28 t_waS_28 t_spoons_28 t_kind_28 t_mark_28 t_silver_25 t_fresh_26 t_texts_28 t_tape t_tapeCount t_z t_waiting t_waitingCount e_weight e_known e_hour e_swS e_swW e_waS e_spoons e_kind e_mark e_silver e_fresh e_texts e_tape e_tapeCount e_z e_waiting e_waitingCount L tx tst_27) H := hP
            have hD : va_D A (wX cA xd vd sd nd hd td ed kd images errors_28 fewest vspoon vmark vcount vbodies sbits slens snum h_weight h_known h_hour h_swS h_swW h_waS h_spoons h_kind h_mark h_silver h_fresh h_texts h_tape h_tapeCount h_z h_waiting h_waitingCount t_weight_28 t_known_23 t_hour_24 t_swS_28 t_swW_28 t_waS_28 t_spoons_28 t_kind_28 t_mark_28 t_silver_25 t_fresh_26 t_texts_28 t_tape t_tapeCount t_z t_waiting t_waitingCount e_weight e_known e_hour e_swS e_swW e_waS e_spoons e_kind e_mark e_silver e_fresh e_texts e_tape e_tapeCount e_z e_waiting e_waitingCount L tx tst_27) := hD
            obtain ⟨y_29, ey_29, h⟩ := bnd_ex h
            refine lv_iinc (v := y_29) (lv' := [(2, .int y_29), (0, .ref (xd 0)), (1, .int v1_28)]) hx hb dX11_lasts_56 hv (k := 2) rfl (by rw [ey_29]; rfl) (by decide) rfl (fun ls hv => ?_)
            refine lv_goto (tgt := 28) hx hb dX11_lasts_59 (by decide) ?_
            cases h
            exact ih y_29 t_known_23 t_hour_24 t_silver_25 t_fresh_26 tst_27 hl _ _ _ hP hD hS (lv_sub hv [1, 2, 0] rfl)
          · have h := ite_t c_22 h
            refine lv_iload_n hx hb dX11_lasts_46 rfl (lv_at hv 2 rfl) ?_
            cases h
            have hl : some (Sum.inr (v2_28b, errors_28, t_weight_28, t_known_28b, t_hour_28b, t_swS_28, t_swW_28, t_waS_28, t_spoons_28, t_kind_28, t_mark_28, t_silver_28b, t_fresh_28b, t_texts_28, tst_28b)) = some ρ := hl
            cases hl
            have h := LR _ rfl
            have ee0 : v2_28b = rR := congrArg (fun q => q.1) h
            have ee1 : errors_28 = errorsR := congrArg (fun q => q.2.1) h
            have ee2 : t_weight_28 = t_weightR := congrArg (fun q => q.2.2.1) h
            have ee3 : t_known_28b = t_knownR := congrArg (fun q => q.2.2.2.1) h
            have ee4 : t_hour_28b = t_hourR := congrArg (fun q => q.2.2.2.2.1) h
            have ee5 : t_swS_28 = t_swSR := congrArg (fun q => q.2.2.2.2.2.1) h
            have ee6 : t_swW_28 = t_swWR := congrArg (fun q => q.2.2.2.2.2.2.1) h
            have ee7 : t_waS_28 = t_waSR := congrArg (fun q => q.2.2.2.2.2.2.2.1) h
            have ee8 : t_spoons_28 = t_spoonsR := congrArg (fun q => q.2.2.2.2.2.2.2.2.1) h
            have ee9 : t_kind_28 = t_kindR := congrArg (fun q => q.2.2.2.2.2.2.2.2.2.1) h
            have ee10 : t_mark_28 = t_markR := congrArg (fun q => q.2.2.2.2.2.2.2.2.2.2.1) h
            have ee11 : t_silver_28b = t_silverR := congrArg (fun q => q.2.2.2.2.2.2.2.2.2.2.2.1) h
            have ee12 : t_fresh_28b = t_freshR := congrArg (fun q => q.2.2.2.2.2.2.2.2.2.2.2.2.1) h
            have ee13 : t_texts_28 = t_textsR := congrArg (fun q => q.2.2.2.2.2.2.2.2.2.2.2.2.2.1) h
            have ee14 : tst_28b = tstR := congrArg (fun q => q.2.2.2.2.2.2.2.2.2.2.2.2.2.2) h
            subst ee0
            subst ee1
            subst ee2
            subst ee3
            subst ee4
            subst ee5
            subst ee6
            subst ee7
            subst ee8
            subst ee9
            subst ee10
            subst ee11
            subst ee12
            subst ee13
            subst ee14
            rw [← hQ]
            exact retI hx hb hr hlk hK hP hD hS dX11_lasts_47 ⟨Nat.le_of_ble_eq_true rfl, Nat.le_of_ble_eq_true rfl⟩
    exact LB FU v2_28 t_known_28 t_hour_28 t_silver_28 t_fresh_28 tst_28 ho
  have hP : va_P D vwCl (wX cA xd vd sd nd hd td ed kd images errors fewest vspoon vmark vcount vbodies sbits slens snum h_weight h_known h_hour h_swS h_swW h_waS h_spoons h_kind h_mark h_silver h_fresh h_texts h_tape h_tapeCount h_z h_waiting h_waitingCount t_weight t_known t_hour t_swS t_swW t_waS t_spoons t_kind t_mark t_silver t_fresh t_texts t_tape t_tapeCount t_z t_waiting t_waitingCount e_weight e_known e_hour e_swS e_swW e_waS e_spoons e_kind e_mark e_silver e_fresh e_texts e_tape e_tapeCount e_z e_waiting e_waitingCount L tx tst) H := hP
  unfold fX11_lasts at h
  refine lv_aload_n hx hb dX11_lasts_0 rfl (lv_at hv 0 rfl) ?_
  refine lv_iload_n hx hb dX11_lasts_1 rfl (lv_at hv 1 rfl) ?_
  obtain ⟨r_1, hf_2, h⟩ := bd_ex h
  have sb := Sb.same hP hD hS hA
  refine calI (va_runV (As := [.int a]) (rest := []) ⟨hx, hb, hml, hown, hts⟩ (c_X11_isSpoon l G D cA xd vd sd nd hd td ed kd _ images errors fewest vspoon vmark vcount vbodies sbits slens snum h_weight h_known h_hour h_swS h_swW h_waS h_spoons h_kind h_mark h_silver h_fresh h_texts h_tape h_tapeCount h_z h_waiting h_waitingCount t_weight t_known t_hour t_swS t_swW t_waS t_spoons t_kind t_mark t_silver t_fresh t_texts t_tape t_tapeCount t_z t_waiting t_waitingCount e_weight e_known e_hour e_swS e_swW e_waS e_spoons e_kind e_mark e_silver e_fresh e_texts e_tape e_tapeCount e_z e_waiting e_waitingCount L tx tst a r_1 hf_2) (cwV 1 hts gX11_lasts_X11_isSpoon rfl rfl rfl (by decide +kernel) ⟨Nat.le_of_ble_eq_true rfl, Nat.le_of_ble_eq_true rfl⟩) (pvV hE hK hS sb (va_recv hK hP (ci := 11) (q0 := 0) rfl rfl)) rfl rfl hv.1 rfl (lv_room (Nat.le_of_ble_eq_true rfl)) dX11_lasts_2 ⟨Nat.le_of_ble_eq_true rfl, Nat.le_of_ble_eq_true rfl⟩) hS sb (Jn.same sb) (fun H locs hP hD hS => ?_)
  have hP : va_P D vwCl (wX cA xd vd sd nd hd td ed kd images errors fewest vspoon vmark vcount vbodies sbits slens snum h_weight h_known h_hour h_swS h_swW h_waS h_spoons h_kind h_mark h_silver h_fresh h_texts h_tape h_tapeCount h_z h_waiting h_waitingCount t_weight t_known t_hour t_swS t_swW t_waS t_spoons t_kind t_mark t_silver t_fresh t_texts t_tape t_tapeCount t_z t_waiting t_waitingCount e_weight e_known e_hour e_swS e_swW e_waS e_spoons e_kind e_mark e_silver e_fresh e_texts e_tape e_tapeCount e_z e_waiting e_waitingCount L tx tst) H := hP
  have hD : va_D A (wX cA xd vd sd nd hd td ed kd images errors fewest vspoon vmark vcount vbodies sbits slens snum h_weight h_known h_hour h_swS h_swW h_waS h_spoons h_kind h_mark h_silver h_fresh h_texts h_tape h_tapeCount h_z h_waiting h_waitingCount t_weight t_known t_hour t_swS t_swW t_waS t_spoons t_kind t_mark t_silver t_fresh t_texts t_tape t_tapeCount t_z t_waiting t_waitingCount e_weight e_known e_hour e_swS e_swW e_waS e_spoons e_kind e_mark e_silver e_fresh e_texts e_tape e_tapeCount e_z e_waiting e_waitingCount L tx tst) := hD
  refine lv_if_ne (tgt := 15) hx hb dX11_lasts_5 (by decide) (fun c_3 => ?_) (fun c_3 => ?_)
  · have h := ite_f c_3 h
    refine lv_aload_n hx hb dX11_lasts_15 rfl (lv_at hv 0 rfl) ?_
    refine va_get (D := D) (ci := 11) (v := .ref (td 0)) (C := RX11) (T := TX11) (N := 9) hx hb hts in_11 hown hK hP 0 rfl rfl 1 (by decide) w_0 (fun _ h9 => h9) rfl dX11_lasts_16 ?_
    refine lv_aload_n hx hb dX11_lasts_19 rfl (lv_at hv 0 rfl) ?_
    refine va_get (D := D) (ci := 11) (v := .ref (hd 0)) (C := RX11) (T := TX11) (N := 9) hx hb hts in_11 hown hK hP 0 rfl rfl 0 (by decide) w_1 (fun _ h9 => h9) rfl dX11_lasts_20 ?_
    obtain ⟨⟨t_weight_4, t_known_5, t_hour_6, t_swS_7, t_swW_8, t_waS_9, t_spoons_10, t_kind_11, t_mark_12, t_silver_13, t_fresh_14, t_texts_15⟩, hf_16, h⟩ := bd_ex h
    have sb : Sb D A H (wHH cA td hd kd t_weight t_known t_hour t_swS t_swW t_waS t_spoons t_kind t_mark t_silver t_fresh t_texts t_tape t_tapeCount t_z t_waiting t_waitingCount h_weight h_known h_hour h_swS h_swW h_waS h_spoons h_kind h_mark h_silver h_fresh h_texts h_tape h_tapeCount h_z h_waiting h_waitingCount L tx tst) := sbXth hP hD hS hA
    refine calV (va_runV (As := [.ref (hd 0)]) (rest := []) ⟨hx, hb, hml, hown, hts⟩ (c_X3_follow l G D cA td hd kd _ t_weight t_known t_hour t_swS t_swW t_waS t_spoons t_kind t_mark t_silver t_fresh t_texts t_tape t_tapeCount t_z t_waiting t_waitingCount h_weight h_known h_hour h_swS h_swW h_waS h_spoons h_kind h_mark h_silver h_fresh h_texts h_tape h_tapeCount h_z h_waiting h_waitingCount L tx tst t_weight_4 t_known_5 t_hour_6 t_swS_7 t_swW_8 t_waS_9 t_spoons_10 t_kind_11 t_mark_12 t_silver_13 t_fresh_14 t_texts_15 hf_16) (cwV 1 hts gX11_lasts_X3_follow rfl rfl rfl (by decide +kernel) ⟨Nat.le_of_ble_eq_true rfl, Nat.le_of_ble_eq_true rfl⟩) (pvV hE hK hS sb (va_recv hK hP (ci := 3) (q0 := 26) rfl rfl)) rfl rfl hv.1 rfl (lv_room (Nat.le_of_ble_eq_true rfl)) dX11_lasts_23 ⟨Nat.le_of_ble_eq_true rfl, Nat.le_of_ble_eq_true rfl⟩) hS sb (jnXth hP hD) (fun H locs hP hD hS => ?_)
    have hP : va_P D vwCl (wX cA xd vd sd nd hd td ed kd images errors fewest vspoon vmark vcount vbodies sbits slens snum h_weight h_known h_hour h_swS h_swW h_waS h_spoons h_kind h_mark h_silver h_fresh h_texts h_tape h_tapeCount h_z h_waiting h_waitingCount t_weight_4 t_known_5 t_hour_6 t_swS_7 t_swW_8 t_waS_9 t_spoons_10 t_kind_11 t_mark_12 t_silver_13 t_fresh_14 t_texts_15 t_tape t_tapeCount t_z t_waiting t_waitingCount e_weight e_known e_hour e_swS e_swW e_waS e_spoons e_kind e_mark e_silver e_fresh e_texts e_tape e_tapeCount e_z e_waiting e_waitingCount L tx tst) H := hP
    have hD : va_D A (wX cA xd vd sd nd hd td ed kd images errors fewest vspoon vmark vcount vbodies sbits slens snum h_weight h_known h_hour h_swS h_swW h_waS h_spoons h_kind h_mark h_silver h_fresh h_texts h_tape h_tapeCount h_z h_waiting h_waitingCount t_weight_4 t_known_5 t_hour_6 t_swS_7 t_swW_8 t_waS_9 t_spoons_10 t_kind_11 t_mark_12 t_silver_13 t_fresh_14 t_texts_15 t_tape t_tapeCount t_z t_waiting t_waitingCount e_weight e_known e_hour e_swS e_swW e_waS e_spoons e_kind e_mark e_silver e_fresh e_texts e_tape e_tapeCount e_z e_waiting e_waitingCount L tx tst) := hD
    refine lv_iconst (v := (0 : Int32)) hx hb dX11_lasts_26 (by decide) ?_
    refine lv_istore_n (lv' := [(2, .int (0 : Int32)), (0, .ref (xd 0)), (1, .int a)]) hx hb dX11_lasts_27 rfl hv (by decide) rfl (fun ls hv => ?_)
    exact C_28 a (0 : Int32) errors t_weight_4 t_known_5 t_hour_6 t_swS_7 t_swW_8 t_waS_9 t_spoons_10 t_kind_11 t_mark_12 t_silver_13 t_fresh_14 t_texts_15 tst h _ _ _ hP hD hS (lv_sub hv [1, 2, 0] rfl)
  · have h := ite_t c_3 h
    refine lv_aload_n hx hb dX11_lasts_8 rfl (lv_at hv 0 rfl) ?_
    refine lv_ldc (v := (-1000000001 : Int32)) hx hb hown w_4 dX11_lasts_9 ?_
    obtain ⟨⟨r_30, errors_31⟩, hf_32, h⟩ := bd_ex h
    have sb := Sb.same hP hD hS hA
    refine calI (va_runV (As := [.int (-1000000001 : Int32)]) (rest := []) ⟨hx, hb, hml, hown, hts⟩ (c_X11_refused l G D cA xd vd sd nd hd td ed kd _ images errors fewest vspoon vmark vcount vbodies sbits slens snum h_weight h_known h_hour h_swS h_swW h_waS h_spoons h_kind h_mark h_silver h_fresh h_texts h_tape h_tapeCount h_z h_waiting h_waitingCount t_weight t_known t_hour t_swS t_swW t_waS t_spoons t_kind t_mark t_silver t_fresh t_texts t_tape t_tapeCount t_z t_waiting t_waitingCount e_weight e_known e_hour e_swS e_swW e_waS e_spoons e_kind e_mark e_silver e_fresh e_texts e_tape e_tapeCount e_z e_waiting e_waitingCount L tx tst (-1000000001 : Int32) r_30 errors_31 hf_32) (cwV 1 hts gX11_lasts_X11_refused rfl rfl rfl (by decide +kernel) ⟨Nat.le_of_ble_eq_true rfl, Nat.le_of_ble_eq_true rfl⟩) (pvV hE hK hS sb (va_recv hK hP (ci := 11) (q0 := 0) rfl rfl)) rfl rfl hv.1 rfl (lv_room (Nat.le_of_ble_eq_true rfl)) dX11_lasts_11 ⟨Nat.le_of_ble_eq_true rfl, Nat.le_of_ble_eq_true rfl⟩) hS sb (Jn.same sb) (fun H locs hP hD hS => ?_)
    have hP : va_P D vwCl (wX cA xd vd sd nd hd td ed kd images errors_31 fewest vspoon vmark vcount vbodies sbits slens snum h_weight h_known h_hour h_swS h_swW h_waS h_spoons h_kind h_mark h_silver h_fresh h_texts h_tape h_tapeCount h_z h_waiting h_waitingCount t_weight t_known t_hour t_swS t_swW t_waS t_spoons t_kind t_mark t_silver t_fresh t_texts t_tape t_tapeCount t_z t_waiting t_waitingCount e_weight e_known e_hour e_swS e_swW e_waS e_spoons e_kind e_mark e_silver e_fresh e_texts e_tape e_tapeCount e_z e_waiting e_waitingCount L tx tst) H := hP
    have hD : va_D A (wX cA xd vd sd nd hd td ed kd images errors_31 fewest vspoon vmark vcount vbodies sbits slens snum h_weight h_known h_hour h_swS h_swW h_waS h_spoons h_kind h_mark h_silver h_fresh h_texts h_tape h_tapeCount h_z h_waiting h_waitingCount t_weight t_known t_hour t_swS t_swW t_waS t_spoons t_kind t_mark t_silver t_fresh t_texts t_tape t_tapeCount t_z t_waiting t_waitingCount e_weight e_known e_hour e_swS e_swW e_waS e_spoons e_kind e_mark e_silver e_fresh e_texts e_tape e_tapeCount e_z e_waiting e_waitingCount L tx tst) := hD
    have h := Option.some.inj h
    have ee0 : r_30 = rR := congrArg (fun q => q.1) h
    have ee1 : errors_31 = errorsR := congrArg (fun q => q.2.1) h
    have ee2 : t_weight = t_weightR := congrArg (fun q => q.2.2.1) h
    have ee3 : t_known = t_knownR := congrArg (fun q => q.2.2.2.1) h
    have ee4 : t_hour = t_hourR := congrArg (fun q => q.2.2.2.2.1) h
    have ee5 : t_swS = t_swSR := congrArg (fun q => q.2.2.2.2.2.1) h
    have ee6 : t_swW = t_swWR := congrArg (fun q => q.2.2.2.2.2.2.1) h
    have ee7 : t_waS = t_waSR := congrArg (fun q => q.2.2.2.2.2.2.2.1) h
    have ee8 : t_spoons = t_spoonsR := congrArg (fun q => q.2.2.2.2.2.2.2.2.1) h
    have ee9 : t_kind = t_kindR := congrArg (fun q => q.2.2.2.2.2.2.2.2.2.1) h
    have ee10 : t_mark = t_markR := congrArg (fun q => q.2.2.2.2.2.2.2.2.2.2.1) h
    have ee11 : t_silver = t_silverR := congrArg (fun q => q.2.2.2.2.2.2.2.2.2.2.2.1) h
    have ee12 : t_fresh = t_freshR := congrArg (fun q => q.2.2.2.2.2.2.2.2.2.2.2.2.1) h
    have ee13 : t_texts = t_textsR := congrArg (fun q => q.2.2.2.2.2.2.2.2.2.2.2.2.2.1) h
    have ee14 : tst = tstR := congrArg (fun q => q.2.2.2.2.2.2.2.2.2.2.2.2.2.2) h
    subst ee0
    subst ee1
    subst ee2
    subst ee3
    subst ee4
    subst ee5
    subst ee6
    subst ee7
    subst ee8
    subst ee9
    subst ee10
    subst ee11
    subst ee12
    subst ee13
    subst ee14
    rw [← hQ]
    exact retI hx hb hr hlk hK hP hD hS dX11_lasts_14 ⟨Nat.le_of_ble_eq_true rfl, Nat.le_of_ble_eq_true rfl⟩

def fX11_silverFor_24B (v1_24 : Int32) (v2_24 : Int32) (errors_24 : Nat → Int32) (h_weight : Nat → Int32) (h_known : Int32) (h_hour : Int32) (h_swS : Nat → Int32) (h_swW : Nat → Int32) (h_waS : Nat → Int32) (h_spoons : Int32) (h_kind : Nat → Int32) (h_mark : Nat → Int32) (h_silver : Nat → Int32) (h_fresh : Nat → Int64) (h_texts : Nat → Option Nat) (L : List Nat) (tx : Nat → TXc) (v3_24b : Int32) (t_weight_24b : Nat → Int32) (t_known_24b : Int32) (t_hour_24b : Int32) (t_swS_24b : Nat → Int32) (t_swW_24b : Nat → Int32) (t_waS_24b : Nat → Int32) (t_spoons_24b : Int32) (t_kind_24b : Nat → Int32) (t_mark_24b : Nat → Int32) (t_silver_24b : Nat → Int32) (t_fresh_24b : Nat → Int64) (t_texts_24b : Nat → Option Nat) (tst_24b : Nat → Nat → Int32) : Option ((Int32 × (Nat → Int32) × Int32 × Int32 × (Nat → Int32) × (Nat → Int32) × (Nat → Int32) × Int32 × (Nat → Int32) × (Nat → Int32) × (Nat → Int32) × (Nat → Int64) × (Nat → Option Nat) × (Nat → Nat → Int32)) ⊕ ((Int32 × (Nat → Int32) × Int32 × Int32 × (Nat → Int32) × (Nat → Int32) × (Nat → Int32) × Int32 × (Nat → Int32) × (Nat → Int32) × (Nat → Int32) × (Nat → Int64) × (Nat → Option Nat) × (Nat → Nat → Int32)) ⊕ (Int32 × (Nat → Int32) × (Nat → Int32) × Int32 × Int32 × (Nat → Int32) × (Nat → Int32) × (Nat → Int32) × Int32 × (Nat → Int32) × (Nat → Int32) × (Nat → Int32) × (Nat → Int64) × (Nat → Option Nat) × (Nat → Nat → Int32)))) :=
  (if (99 : Int32) < v3_24b then some (.inr (.inl (v3_24b, t_weight_24b, t_known_24b, t_hour_24b, t_swS_24b, t_swW_24b, t_waS_24b, t_spoons_24b, t_kind_24b, t_mark_24b, t_silver_24b, t_fresh_24b, t_texts_24b, tst_24b))) else bd (fX3_follow t_weight_24b t_known_24b t_hour_24b t_swS_24b t_swW_24b t_waS_24b t_spoons_24b t_kind_24b t_mark_24b t_silver_24b t_fresh_24b t_texts_24b h_weight h_known h_hour h_swS h_swW h_waS h_spoons h_kind h_mark h_silver h_fresh h_texts L) fun (t_weight_14, t_known_15, t_hour_16, t_swS_17, t_swW_18, t_waS_19, t_spoons_20, t_kind_21, t_mark_22, t_silver_23, t_fresh_24, t_texts_25) => ckI v1_24 8 (bnd (upd t_silver_23 (v1_24).toNatClampNeg v3_24b) fun t_silver_28 => bd (fX3_passHours v2_24 t_weight_14 t_known_15 t_hour_16 t_swS_17 t_swW_18 t_waS_19 t_spoons_20 t_kind_21 t_mark_22 t_silver_28 t_fresh_24 t_texts_25 L tx tst_24b) fun (t_known_29, t_hour_30, t_silver_31, t_fresh_32, tst_33) => ckI v1_24 8 ((if (t_silver_31 (v1_24).toNatClampNeg) ≤ 0 then bnd (v3_24b + (1 : Int32)) fun y_37 => some (.inl (y_37, t_weight_14, t_known_29, t_hour_30, t_swS_17, t_swW_18, t_waS_19, t_spoons_20, t_kind_21, t_mark_22, t_silver_31, t_fresh_32, t_texts_25, tst_33)) else some (.inr (.inr (v3_24b, errors_24, t_weight_14, t_known_29, t_hour_30, t_swS_17, t_swW_18, t_waS_19, t_spoons_20, t_kind_21, t_mark_22, t_silver_31, t_fresh_32, t_texts_25, tst_33)))))))
def fX11_silverFor_24 (v1_24 : Int32) (v2_24 : Int32) (v3_24 : Int32) (errors_24 : Nat → Int32) (h_weight : Nat → Int32) (h_known : Int32) (h_hour : Int32) (h_swS : Nat → Int32) (h_swW : Nat → Int32) (h_waS : Nat → Int32) (h_spoons : Int32) (h_kind : Nat → Int32) (h_mark : Nat → Int32) (h_silver : Nat → Int32) (h_fresh : Nat → Int64) (h_texts : Nat → Option Nat) (t_weight_24 : Nat → Int32) (t_known_24 : Int32) (t_hour_24 : Int32) (t_swS_24 : Nat → Int32) (t_swW_24 : Nat → Int32) (t_waS_24 : Nat → Int32) (t_spoons_24 : Int32) (t_kind_24 : Nat → Int32) (t_mark_24 : Nat → Int32) (t_silver_24 : Nat → Int32) (t_fresh_24 : Nat → Int64) (t_texts_24 : Nat → Option Nat) (L : List Nat) (tx : Nat → TXc) (tst_24 : Nat → Nat → Int32) : Option (Int32 × (Nat → Int32) × (Nat → Int32) × Int32 × Int32 × (Nat → Int32) × (Nat → Int32) × (Nat → Int32) × Int32 × (Nat → Int32) × (Nat → Int32) × (Nat → Int32) × (Nat → Int64) × (Nat → Option Nat) × (Nat → Nat → Int32)) :=
  bd (lp (fun σ : Int32 × (Nat → Int32) × Int32 × Int32 × (Nat → Int32) × (Nat → Int32) × (Nat → Int32) × Int32 × (Nat → Int32) × (Nat → Int32) × (Nat → Int32) × (Nat → Int64) × (Nat → Option Nat) × (Nat → Nat → Int32) => fX11_silverFor_24B v1_24 v2_24 errors_24 h_weight h_known h_hour h_swS h_swW h_waS h_spoons h_kind h_mark h_silver h_fresh h_texts L tx (σ.1) (σ.2.1) (σ.2.2.1) (σ.2.2.2.1) (σ.2.2.2.2.1) (σ.2.2.2.2.2.1) (σ.2.2.2.2.2.2.1) (σ.2.2.2.2.2.2.2.1) (σ.2.2.2.2.2.2.2.2.1) (σ.2.2.2.2.2.2.2.2.2.1) (σ.2.2.2.2.2.2.2.2.2.2.1) (σ.2.2.2.2.2.2.2.2.2.2.2.1) (σ.2.2.2.2.2.2.2.2.2.2.2.2.1) (σ.2.2.2.2.2.2.2.2.2.2.2.2.2)) FU (v3_24, t_weight_24, t_known_24, t_hour_24, t_swS_24, t_swW_24, t_waS_24, t_spoons_24, t_kind_24, t_mark_24, t_silver_24, t_fresh_24, t_texts_24, tst_24)) fun ρ => match ρ with | .inl (v3_24r, t_weight_24r, t_known_24r, t_hour_24r, t_swS_24r, t_swW_24r, t_waS_24r, t_spoons_24r, t_kind_24r, t_mark_24r, t_silver_24r, t_fresh_24r, t_texts_24r, tst_24r) => bd (fX11_refused (-1000000002 : Int32) errors_24) fun (r_10, errors_11) => some (r_10, errors_11, t_weight_24r, t_known_24r, t_hour_24r, t_swS_24r, t_swW_24r, t_waS_24r, t_spoons_24r, t_kind_24r, t_mark_24r, t_silver_24r, t_fresh_24r, t_texts_24r, tst_24r) | .inr q => some q
def fX11_silverFor (a : Int32) (n : Int32) (errors : Nat → Int32) (h_weight : Nat → Int32) (h_known : Int32) (h_hour : Int32) (h_swS : Nat → Int32) (h_swW : Nat → Int32) (h_waS : Nat → Int32) (h_spoons : Int32) (h_kind : Nat → Int32) (h_mark : Nat → Int32) (h_silver : Nat → Int32) (h_fresh : Nat → Int64) (h_texts : Nat → Option Nat) (t_weight : Nat → Int32) (t_known : Int32) (t_hour : Int32) (t_swS : Nat → Int32) (t_swW : Nat → Int32) (t_waS : Nat → Int32) (t_spoons : Int32) (t_kind : Nat → Int32) (t_mark : Nat → Int32) (t_silver : Nat → Int32) (t_fresh : Nat → Int64) (t_texts : Nat → Option Nat) (L : List Nat) (tx : Nat → TXc) (tst : Nat → Nat → Int32) : Option (Int32 × (Nat → Int32) × (Nat → Int32) × Int32 × Int32 × (Nat → Int32) × (Nat → Int32) × (Nat → Int32) × Int32 × (Nat → Int32) × (Nat → Int32) × (Nat → Int32) × (Nat → Int64) × (Nat → Option Nat) × (Nat → Nat → Int32)) :=
  bd (fX11_isSpoon a h_spoons) fun r_1 => (if r_1 = 0 then bd (fX11_refused (-1000000001 : Int32) errors) fun (r_4, errors_5) => some (r_4, errors_5, t_weight, t_known, t_hour, t_swS, t_swW, t_waS, t_spoons, t_kind, t_mark, t_silver, t_fresh, t_texts, tst) else bd (fX11_isBehind n) fun r_7 => (if r_7 = 0 then bd (fX11_refused (-1000000001 : Int32) errors) fun (r_38, errors_39) => some (r_38, errors_39, t_weight, t_known, t_hour, t_swS, t_swW, t_waS, t_spoons, t_kind, t_mark, t_silver, t_fresh, t_texts, tst) else fX11_silverFor_24 a n (1 : Int32) errors h_weight h_known h_hour h_swS h_swW h_waS h_spoons h_kind h_mark h_silver h_fresh h_texts t_weight t_known t_hour t_swS t_swW t_waS t_spoons t_kind t_mark t_silver t_fresh t_texts L tx tst))
set_option maxHeartbeats 4000000 in
set_option maxRecDepth 100000 in
theorem c_X11_silverFor (l : Launch) (G : Nat → Nat) (D : va_G) (cA : Nat → ClassId) (xd : Nat → Nat) (vd : Nat → Nat) (sd : Nat → Nat) (nd : Nat → Nat) (hd : Nat → Nat) (td : Nat → Nat) (ed : Nat → Nat) (kd : Nat → Nat) (sz : Nat) (images : Int32) (errors : Nat → Int32) (fewest : Nat → Int32) (vspoon : Int32) (vmark : Int32) (vcount : Int32) (vbodies : Nat → Int32) (sbits : Nat → Int32) (slens : Nat → Int32) (snum : Nat → Nat → Int32) (h_weight : Nat → Int32) (h_known : Int32) (h_hour : Int32) (h_swS : Nat → Int32) (h_swW : Nat → Int32) (h_waS : Nat → Int32) (h_spoons : Int32) (h_kind : Nat → Int32) (h_mark : Nat → Int32) (h_silver : Nat → Int32) (h_fresh : Nat → Int64) (h_texts : Nat → Option Nat) (h_tape : Nat → Int32) (h_tapeCount : Int32) (h_z : Int32) (h_waiting : Nat → Int32) (h_waitingCount : Int32) (t_weight : Nat → Int32) (t_known : Int32) (t_hour : Int32) (t_swS : Nat → Int32) (t_swW : Nat → Int32) (t_waS : Nat → Int32) (t_spoons : Int32) (t_kind : Nat → Int32) (t_mark : Nat → Int32) (t_silver : Nat → Int32) (t_fresh : Nat → Int64) (t_texts : Nat → Option Nat) (t_tape : Nat → Int32) (t_tapeCount : Int32) (t_z : Int32) (t_waiting : Nat → Int32) (t_waitingCount : Int32) (e_weight : Nat → Int32) (e_known : Int32) (e_hour : Int32) (e_swS : Nat → Int32) (e_swW : Nat → Int32) (e_waS : Nat → Int32) (e_spoons : Int32) (e_kind : Nat → Int32) (e_mark : Nat → Int32) (e_silver : Nat → Int32) (e_fresh : Nat → Int64) (e_texts : Nat → Option Nat) (e_tape : Nat → Int32) (e_tapeCount : Int32) (e_z : Int32) (e_waiting : Nat → Int32) (e_waitingCount : Int32) (L : List Nat) (tx : Nat → TXc) (tst : Nat → Nat → Int32) (a : Int32) (n : Int32) (rR : Int32) (errorsR : Nat → Int32) (t_weightR : Nat → Int32) (t_knownR : Int32) (t_hourR : Int32) (t_swSR : Nat → Int32) (t_swWR : Nat → Int32) (t_waSR : Nat → Int32) (t_spoonsR : Int32) (t_kindR : Nat → Int32) (t_markR : Nat → Int32) (t_silverR : Nat → Int32) (t_freshR : Nat → Int64) (t_textsR : Nat → Option Nat) (tstR : Nat → Nat → Int32) (h : fX11_silverFor a n errors h_weight h_known h_hour h_swS h_swW h_waS h_spoons h_kind h_mark h_silver h_fresh h_texts t_weight t_known t_hour t_swS t_swW t_waS t_spoons t_kind t_mark t_silver t_fresh t_texts L tx tst = some (rR, errorsR, t_weightR, t_knownR, t_hourR, t_swSR, t_swWR, t_waSR, t_spoonsR, t_kindR, t_markR, t_silverR, t_freshR, t_textsR, tstR)) : Met l yX11_silverFor wsX11_silverFor ({ frames := 6, cells := 0, slots := 0, locals := 141 } : Room) (PW G D (tyC cA) sz (wX cA xd vd sd nd hd td ed kd images errors fewest vspoon vmark vcount vbodies sbits slens snum h_weight h_known h_hour h_swS h_swW h_waS h_spoons h_kind h_mark h_silver h_fresh h_texts h_tape h_tapeCount h_z h_waiting h_waitingCount t_weight t_known t_hour t_swS t_swW t_waS t_spoons t_kind t_mark t_silver t_fresh t_texts t_tape t_tapeCount t_z t_waiting t_waitingCount e_weight e_known e_hour e_swS e_swW e_waS e_spoons e_kind e_mark e_silver e_fresh e_texts e_tape e_tapeCount e_z e_waiting e_waitingCount L tx tst) [.ref (xd 0), .int a, .int n]) (QI D (tyC cA) (va_A (wX cA xd vd sd nd hd td ed kd images errors fewest vspoon vmark vcount vbodies sbits slens snum h_weight h_known h_hour h_swS h_swW h_waS h_spoons h_kind h_mark h_silver h_fresh h_texts h_tape h_tapeCount h_z h_waiting h_waitingCount t_weight t_known t_hour t_swS t_swW t_waS t_spoons t_kind t_mark t_silver t_fresh t_texts t_tape t_tapeCount t_z t_waiting t_waitingCount e_weight e_known e_hour e_swS e_swW e_waS e_spoons e_kind e_mark e_silver e_fresh e_texts e_tape e_tapeCount e_z e_waiting e_waitingCount L tx tst) sz) rR (wX cA xd vd sd nd hd td ed kd images errorsR fewest vspoon vmark vcount vbodies sbits slens snum h_weight h_known h_hour h_swS h_swW h_waS h_spoons h_kind h_mark h_silver h_fresh h_texts h_tape h_tapeCount h_z h_waiting h_waitingCount t_weightR t_knownR t_hourR t_swSR t_swWR t_waSR t_spoonsR t_kindR t_markR t_silverR t_freshR t_textsR t_tape t_tapeCount t_z t_waiting t_waitingCount e_weight e_known e_hour e_swS e_swW e_waS e_spoons e_kind e_mark e_silver e_fresh e_texts e_tape e_tapeCount e_z e_waiting e_waitingCount L tx tstR)) 0 0 (va_A (wX cA xd vd sd nd hd td ed kd images errors fewest vspoon vmark vcount vbodies sbits slens snum h_weight h_known h_hour h_swS h_swW h_waS h_spoons h_kind h_mark h_silver h_fresh h_texts h_tape h_tapeCount h_z h_waiting h_waitingCount t_weight t_known t_hour t_swS t_swW t_waS t_spoons t_kind t_mark t_silver t_fresh t_texts t_tape t_tapeCount t_z t_waiting t_waitingCount e_weight e_known e_hour e_swS e_swW e_waS e_spoons e_kind e_mark e_silver e_fresh e_texts e_tape e_tapeCount e_z e_waiting e_waitingCount L tx tst) sz) := by
  refine ent (cc := cX11_silverFor) (maxL := 4) (ret := (some .int)) (fun A => QI D (tyC cA) A rR (wX cA xd vd sd nd hd td ed kd images errorsR fewest vspoon vmark vcount vbodies sbits slens snum h_weight h_known h_hour h_swS h_swW h_waS h_spoons h_kind h_mark h_silver h_fresh h_texts h_tape h_tapeCount h_z h_waiting h_waitingCount t_weightR t_knownR t_hourR t_swSR t_swWR t_waSR t_spoonsR t_kindR t_markR t_silverR t_freshR t_textsR t_tape t_tapeCount t_z t_waiting t_waitingCount e_weight e_known e_hour e_swS e_swW e_waS e_spoons e_kind e_mark e_silver e_fresh e_texts e_tape e_tapeCount e_z e_waiting e_waitingCount L tx tstR)) (by decide +kernel) rfl (Nat.le_of_ble_eq_true rfl) ?_
  intro p e s m args below meth c A ls H hx hb hml hr hlk hts hown hA hK hE hP hD hS hv hmm
  have hv : lv_has ls 4 [(0, .ref (xd 0)), (1, .int a), (2, .int n)] := hv
  have in_3 : ∀ w ∈ u_ws RX3 TX3 18, w ∈ wsX11_silverFor := fun _ h => List.mem_cons_of_mem _ (List.mem_append_left _ (List.mem_append_right _ h))
  have in_11 : ∀ w ∈ u_ws RX11 TX11 9, w ∈ wsX11_silverFor := fun _ h => List.mem_cons_of_mem _ (List.mem_append_left _ (List.mem_append_left _ (List.mem_append_right _ h)))
  have w_0 := hts (.constant RX11 78 (-1000000001)) (List.mem_of_getElem? (i := 1) rfl)
  have w_1 := hts (.constant RX11 204 (-1000000002)) (List.mem_of_getElem? (i := 5) rfl)
  have w_2 := hts (.fieldLink RX11 43 "SpoonsLast" "thought" "LSpoonsLast$House;") (List.mem_of_getElem? (i := 2) rfl)
  have w_3 := hts (.fieldLink RX11 39 "SpoonsLast" "house" "LSpoonsLast$House;") (List.mem_of_getElem? (i := 3) rfl)
  have w_4 := hts (.fieldLink RX11 121 "SpoonsLast$House" "silver" "[I") (List.mem_of_getElem? (i := 4) rfl)
  generalize hQ : MQ below _ args s 0 0 A = Q
  have C_24 : ∀ (v1_24 : Int32) (v2_24 : Int32) (v3_24 : Int32) (errors_24 : Nat → Int32) (t_weight_24 : Nat → Int32) (t_known_24 : Int32) (t_hour_24 : Int32) (t_swS_24 : Nat → Int32) (t_swW_24 : Nat → Int32) (t_waS_24 : Nat → Int32) (t_spoons_24 : Int32) (t_kind_24 : Nat → Int32) (t_mark_24 : Nat → Int32) (t_silver_24 : Nat → Int32) (t_fresh_24 : Nat → Int64) (t_texts_24 : Nat → Option Nat) (tst_24 : Nat → Nat → Int32), fX11_silverFor_24 v1_24 v2_24 v3_24 errors_24 h_weight h_known h_hour h_swS h_swW h_waS h_spoons h_kind h_mark h_silver h_fresh h_texts t_weight_24 t_known_24 t_hour_24 t_swS_24 t_swW_24 t_waS_24 t_spoons_24 t_kind_24 t_mark_24 t_silver_24 t_fresh_24 t_texts_24 L tx tst_24 = some (rR, errorsR, t_weightR, t_knownR, t_hourR, t_swSR, t_swWR, t_waSR, t_spoonsR, t_kindR, t_markR, t_silverR, t_freshR, t_textsR, tstR) → WW p l e ({ frames := 6, cells := 0, slots := 0, locals := 141 } : Room) s m args below meth c D A 0 0 Q (wX cA xd vd sd nd hd td ed kd images errors_24 fewest vspoon vmark vcount vbodies sbits slens snum h_weight h_known h_hour h_swS h_swW h_waS h_spoons h_kind h_mark h_silver h_fresh h_texts h_tape h_tapeCount h_z h_waiting h_waitingCount t_weight_24 t_known_24 t_hour_24 t_swS_24 t_swW_24 t_waS_24 t_spoons_24 t_kind_24 t_mark_24 t_silver_24 t_fresh_24 t_texts_24 t_tape t_tapeCount t_z t_waiting t_waitingCount e_weight e_known e_hour e_swS e_swW e_waS e_spoons e_kind e_mark e_silver e_fresh e_texts e_tape e_tapeCount e_z e_waiting e_waitingCount L tx tst_24) 4 [(0, .ref (xd 0)), (1, .int v1_24), (2, .int v2_24), (3, .int v3_24)] 24 [] := by
    intro v1_24 v2_24 v3_24 errors_24 t_weight_24 t_known_24 t_hour_24 t_swS_24 t_swW_24 t_waS_24 t_spoons_24 t_kind_24 t_mark_24 t_silver_24 t_fresh_24 t_texts_24 tst_24 h
    unfold fX11_silverFor_24 at h
    obtain ⟨ρ, ho, h⟩ := bd_ex h
    have LR : ∀ q, ρ = .inr q → q = (rR, errorsR, t_weightR, t_knownR, t_hourR, t_swSR, t_swWR, t_waSR, t_spoonsR, t_kindR, t_markR, t_silverR, t_freshR, t_textsR, tstR) := by intro q e; subst e; exact Option.some.inj h
    have LE : ∀ (v3_24r : Int32) (t_weight_24r : Nat → Int32) (t_known_24r : Int32) (t_hour_24r : Int32) (t_swS_24r : Nat → Int32) (t_swW_24r : Nat → Int32) (t_waS_24r : Nat → Int32) (t_spoons_24r : Int32) (t_kind_24r : Nat → Int32) (t_mark_24r : Nat → Int32) (t_silver_24r : Nat → Int32) (t_fresh_24r : Nat → Int64) (t_texts_24r : Nat → Option Nat) (tst_24r : Nat → Nat → Int32), ρ = .inl (v3_24r, t_weight_24r, t_known_24r, t_hour_24r, t_swS_24r, t_swW_24r, t_waS_24r, t_spoons_24r, t_kind_24r, t_mark_24r, t_silver_24r, t_fresh_24r, t_texts_24r, tst_24r) → WW p l e ({ frames := 6, cells := 0, slots := 0, locals := 141 } : Room) s m args below meth c D A 0 0 Q (wX cA xd vd sd nd hd td ed kd images errors_24 fewest vspoon vmark vcount vbodies sbits slens snum h_weight h_known h_hour h_swS h_swW h_waS h_spoons h_kind h_mark h_silver h_fresh h_texts h_tape h_tapeCount h_z h_waiting h_waitingCount t_weight_24r t_known_24r t_hour_24r t_swS_24r t_swW_24r t_waS_24r t_spoons_24r t_kind_24r t_mark_24r t_silver_24r t_fresh_24r t_texts_24r t_tape t_tapeCount t_z t_waiting t_waitingCount e_weight e_known e_hour e_swS e_swW e_waS e_spoons e_kind e_mark e_silver e_fresh e_texts e_tape e_tapeCount e_z e_waiting e_waitingCount L tx tst_24r) 4 [(0, .ref (xd 0))] 79 [] := by
      intro v3_24r t_weight_24r t_known_24r t_hour_24r t_swS_24r t_swW_24r t_waS_24r t_spoons_24r t_kind_24r t_mark_24r t_silver_24r t_fresh_24r t_texts_24r tst_24r e
      subst e
      intro H locs ls hP hD hS hv
      refine lv_aload_n hx hb dX11_silverFor_79 rfl (lv_at hv 0 rfl) ?_
      refine lv_ldc (v := (-1000000002 : Int32)) hx hb hown w_1 dX11_silverFor_80 ?_
      obtain ⟨⟨r_10, errors_11⟩, hf_12, h⟩ := bd_ex h
      have sb := Sb.same hP hD hS hA
      refine calI (va_runV (As := [.int (-1000000002 : Int32)]) (rest := []) ⟨hx, hb, hml, hown, hts⟩ (c_X11_refused l G D cA xd vd sd nd hd td ed kd _ images errors_24 fewest vspoon vmark vcount vbodies sbits slens snum h_weight h_known h_hour h_swS h_swW h_waS h_spoons h_kind h_mark h_silver h_fresh h_texts h_tape h_tapeCount h_z h_waiting h_waitingCount t_weight_24r t_known_24r t_hour_24r t_swS_24r t_swW_24r t_waS_24r t_spoons_24r t_kind_24r t_mark_24r t_silver_24r t_fresh_24r t_texts_24r t_tape t_tapeCount t_z t_waiting t_waitingCount e_weight e_known e_hour e_swS e_swW e_waS e_spoons e_kind e_mark e_silver e_fresh e_texts e_tape e_tapeCount e_z e_waiting e_waitingCount L tx tst_24r (-1000000002 : Int32) r_10 errors_11 hf_12) (cwV 1 hts gX11_silverFor_X11_refused rfl rfl rfl (by decide +kernel) ⟨Nat.le_of_ble_eq_true rfl, Nat.le_of_ble_eq_true rfl⟩) (pvV hE hK hS sb (va_recv hK hP (ci := 11) (q0 := 0) rfl rfl)) rfl rfl hv.1 rfl (lv_room (Nat.le_of_ble_eq_true rfl)) dX11_silverFor_82 ⟨Nat.le_of_ble_eq_true rfl, Nat.le_of_ble_eq_true rfl⟩) hS sb (Jn.same sb) (fun H locs hP hD hS => ?_)
      have hP : va_P D vwCl (wX cA xd vd sd nd hd td ed kd images errors_11 fewest vspoon vmark vcount vbodies sbits slens snum h_weight h_known h_hour h_swS h_swW h_waS h_spoons h_kind h_mark h_silver h_fresh h_texts h_tape h_tapeCount h_z h_waiting h_waitingCount t_weight_24r t_known_24r t_hour_24r t_swS_24r t_swW_24r t_waS_24r t_spoons_24r t_kind_24r t_mark_24r t_silver_24r t_fresh_24r t_texts_24r t_tape t_tapeCount t_z t_waiting t_waitingCount e_weight e_known e_hour e_swS e_swW e_waS e_spoons e_kind e_mark e_silver e_fresh e_texts e_tape e_tapeCount e_z e_waiting e_waitingCount L tx tst_24r) H := hP
      have hD : va_D A (wX cA xd vd sd nd hd td ed kd images errors_11 fewest vspoon vmark vcount vbodies sbits slens snum h_weight h_known h_hour h_swS h_swW h_waS h_spoons h_kind h_mark h_silver h_fresh h_texts h_tape h_tapeCount h_z h_waiting h_waitingCount t_weight_24r t_known_24r t_hour_24r t_swS_24r t_swW_24r t_waS_24r t_spoons_24r t_kind_24r t_mark_24r t_silver_24r t_fresh_24r t_texts_24r t_tape t_tapeCount t_z t_waiting t_waitingCount e_weight e_known e_hour e_swS e_swW e_waS e_spoons e_kind e_mark e_silver e_fresh e_texts e_tape e_tapeCount e_z e_waiting e_waitingCount L tx tst_24r) := hD
      have h := Option.some.inj h
      have ee0 : r_10 = rR := congrArg (fun q => q.1) h
      have ee1 : errors_11 = errorsR := congrArg (fun q => q.2.1) h
      have ee2 : t_weight_24r = t_weightR := congrArg (fun q => q.2.2.1) h
      have ee3 : t_known_24r = t_knownR := congrArg (fun q => q.2.2.2.1) h
      have ee4 : t_hour_24r = t_hourR := congrArg (fun q => q.2.2.2.2.1) h
      have ee5 : t_swS_24r = t_swSR := congrArg (fun q => q.2.2.2.2.2.1) h
      have ee6 : t_swW_24r = t_swWR := congrArg (fun q => q.2.2.2.2.2.2.1) h
      have ee7 : t_waS_24r = t_waSR := congrArg (fun q => q.2.2.2.2.2.2.2.1) h
      have ee8 : t_spoons_24r = t_spoonsR := congrArg (fun q => q.2.2.2.2.2.2.2.2.1) h
      have ee9 : t_kind_24r = t_kindR := congrArg (fun q => q.2.2.2.2.2.2.2.2.2.1) h
      have ee10 : t_mark_24r = t_markR := congrArg (fun q => q.2.2.2.2.2.2.2.2.2.2.1) h
      have ee11 : t_silver_24r = t_silverR := congrArg (fun q => q.2.2.2.2.2.2.2.2.2.2.2.1) h
      have ee12 : t_fresh_24r = t_freshR := congrArg (fun q => q.2.2.2.2.2.2.2.2.2.2.2.2.1) h
      have ee13 : t_texts_24r = t_textsR := congrArg (fun q => q.2.2.2.2.2.2.2.2.2.2.2.2.2.1) h
      have ee14 : tst_24r = tstR := congrArg (fun q => q.2.2.2.2.2.2.2.2.2.2.2.2.2.2) h
      subst ee0
      subst ee1
      subst ee2
      subst ee3
      subst ee4
      subst ee5
      subst ee6
      subst ee7
      subst ee8
      subst ee9
      subst ee10
      subst ee11
      subst ee12
      subst ee13
      subst ee14
      rw [← hQ]
      exact retI hx hb hr hlk hK hP hD hS dX11_silverFor_85 ⟨Nat.le_of_ble_eq_true rfl, Nat.le_of_ble_eq_true rfl⟩
    have LB : ∀ (nf : Nat) (v3_24b : Int32) (t_weight_24b : Nat → Int32) (t_known_24b : Int32) (t_hour_24b : Int32) (t_swS_24b : Nat → Int32) (t_swW_24b : Nat → Int32) (t_waS_24b : Nat → Int32) (t_spoons_24b : Int32) (t_kind_24b : Nat → Int32) (t_mark_24b : Nat → Int32) (t_silver_24b : Nat → Int32) (t_fresh_24b : Nat → Int64) (t_texts_24b : Nat → Option Nat) (tst_24b : Nat → Nat → Int32), lp (fun σ : Int32 × (Nat → Int32) × Int32 × Int32 × (Nat → Int32) × (Nat → Int32) × (Nat → Int32) × Int32 × (Nat → Int32) × (Nat → Int32) × (Nat → Int32) × (Nat → Int64) × (Nat → Option Nat) × (Nat → Nat → Int32) => fX11_silverFor_24B v1_24 v2_24 errors_24 h_weight h_known h_hour h_swS h_swW h_waS h_spoons h_kind h_mark h_silver h_fresh h_texts L tx (σ.1) (σ.2.1) (σ.2.2.1) (σ.2.2.2.1) (σ.2.2.2.2.1) (σ.2.2.2.2.2.1) (σ.2.2.2.2.2.2.1) (σ.2.2.2.2.2.2.2.1) (σ.2.2.2.2.2.2.2.2.1) (σ.2.2.2.2.2.2.2.2.2.1) (σ.2.2.2.2.2.2.2.2.2.2.1) (σ.2.2.2.2.2.2.2.2.2.2.2.1) (σ.2.2.2.2.2.2.2.2.2.2.2.2.1) (σ.2.2.2.2.2.2.2.2.2.2.2.2.2)) nf (v3_24b, t_weight_24b, t_known_24b, t_hour_24b, t_swS_24b, t_swW_24b, t_waS_24b, t_spoons_24b, t_kind_24b, t_mark_24b, t_silver_24b, t_fresh_24b, t_texts_24b, tst_24b) = some ρ → WW p l e ({ frames := 6, cells := 0, slots := 0, locals := 141 } : Room) s m args below meth c D A 0 0 Q (wX cA xd vd sd nd hd td ed kd images errors_24 fewest vspoon vmark vcount vbodies sbits slens snum h_weight h_known h_hour h_swS h_swW h_waS h_spoons h_kind h_mark h_silver h_fresh h_texts h_tape h_tapeCount h_z h_waiting h_waitingCount t_weight_24b t_known_24b t_hour_24b t_swS_24b t_swW_24b t_waS_24b t_spoons_24b t_kind_24b t_mark_24b t_silver_24b t_fresh_24b t_texts_24b t_tape t_tapeCount t_z t_waiting t_waitingCount e_weight e_known e_hour e_swS e_swW e_waS e_spoons e_kind e_mark e_silver e_fresh e_texts e_tape e_tapeCount e_z e_waiting e_waitingCount L tx tst_24b) 4 [(0, .ref (xd 0)), (1, .int v1_24), (2, .int v2_24), (3, .int v3_24b)] 24 [] := by
      intro nf
      induction nf with
      | zero => intro v3_24b t_weight_24b t_known_24b t_hour_24b t_swS_24b t_swW_24b t_waS_24b t_spoons_24b t_kind_24b t_mark_24b t_silver_24b t_fresh_24b t_texts_24b tst_24b hl; cases hl
      | succ nf ih =>
        intro v3_24b t_weight_24b t_known_24b t_hour_24b t_swS_24b t_swW_24b t_waS_24b t_spoons_24b t_kind_24b t_mark_24b t_silver_24b t_fresh_24b t_texts_24b tst_24b hl
        obtain ⟨x, h, hl⟩ := lp_ex hl
        have h : fX11_silverFor_24B v1_24 v2_24 errors_24 h_weight h_known h_hour h_swS h_swW h_waS h_spoons h_kind h_mark h_silver h_fresh h_texts L tx v3_24b t_weight_24b t_known_24b t_hour_24b t_swS_24b t_swW_24b t_waS_24b t_spoons_24b t_kind_24b t_mark_24b t_silver_24b t_fresh_24b t_texts_24b tst_24b = some x := h
        unfold fX11_silverFor_24B at h
        intro H locs ls hP hD hS hv
        refine lv_iload_n hx hb dX11_silverFor_24 rfl (lv_at hv 3 rfl) ?_
        refine lv_bipush (v := (99 : Int32)) hx hb dX11_silverFor_25 (by decide) ?_
        refine lv_icmp_gt (tgt := 79) hx hb dX11_silverFor_27 (by decide) (fun c_13 => ?_) (fun c_13 => ?_)
        · have h := ite_t c_13 h
          cases h
          have hl : some (Sum.inl (v3_24b, t_weight_24b, t_known_24b, t_hour_24b, t_swS_24b, t_swW_24b, t_waS_24b, t_spoons_24b, t_kind_24b, t_mark_24b, t_silver_24b, t_fresh_24b, t_texts_24b, tst_24b)) = some ρ := hl
          cases hl
          exact LE _ _ _ _ _ _ _ _ _ _ _ _ _ _ rfl _ _ _ hP hD hS (lv_sub hv [0] rfl)
        · have h := ite_f c_13 h
          refine lv_aload_n hx hb dX11_silverFor_30 rfl (lv_at hv 0 rfl) ?_
          refine va_get (D := D) (ci := 11) (v := .ref (td 0)) (C := RX11) (T := TX11) (N := 9) hx hb hts in_11 hown hK hP 0 rfl rfl 1 (by decide) w_2 (fun _ h9 => h9) rfl dX11_silverFor_31 ?_
          refine lv_aload_n hx hb dX11_silverFor_34 rfl (lv_at hv 0 rfl) ?_
          refine va_get (D := D) (ci := 11) (v := .ref (hd 0)) (C := RX11) (T := TX11) (N := 9) hx hb hts in_11 hown hK hP 0 rfl rfl 0 (by decide) w_3 (fun _ h9 => h9) rfl dX11_silverFor_35 ?_
          obtain ⟨⟨t_weight_14, t_known_15, t_hour_16, t_swS_17, t_swW_18, t_waS_19, t_spoons_20, t_kind_21, t_mark_22, t_silver_23, t_fresh_24, t_texts_25⟩, hf_26, h⟩ := bd_ex h
          have sb : Sb D A H (wHH cA td hd kd t_weight_24b t_known_24b t_hour_24b t_swS_24b t_swW_24b t_waS_24b t_spoons_24b t_kind_24b t_mark_24b t_silver_24b t_fresh_24b t_texts_24b t_tape t_tapeCount t_z t_waiting t_waitingCount h_weight h_known h_hour h_swS h_swW h_waS h_spoons h_kind h_mark h_silver h_fresh h_texts h_tape h_tapeCount h_z h_waiting h_waitingCount L tx tst_24b) := sbXth hP hD hS hA
          refine calV (va_runV (As := [.ref (hd 0)]) (rest := []) ⟨hx, hb, hml, hown, hts⟩ (c_X3_follow l G D cA td hd kd _ t_weight_24b t_known_24b t_hour_24b t_swS_24b t_swW_24b t_waS_24b t_spoons_24b t_kind_24b t_mark_24b t_silver_24b t_fresh_24b t_texts_24b t_tape t_tapeCount t_z t_waiting t_waitingCount h_weight h_known h_hour h_swS h_swW h_waS h_spoons h_kind h_mark h_silver h_fresh h_texts h_tape h_tapeCount h_z h_waiting h_waitingCount L tx tst_24b t_weight_14 t_known_15 t_hour_16 t_swS_17 t_swW_18 t_waS_19 t_spoons_20 t_kind_21 t_mark_22 t_silver_23 t_fresh_24 t_texts_25 hf_26) (cwV 1 hts gX11_silverFor_X3_follow rfl rfl rfl (by decide +kernel) ⟨Nat.le_of_ble_eq_true rfl, Nat.le_of_ble_eq_true rfl⟩) (pvV hE hK hS sb (va_recv hK hP (ci := 3) (q0 := 26) rfl rfl)) rfl rfl hv.1 rfl (lv_room (Nat.le_of_ble_eq_true rfl)) dX11_silverFor_38 ⟨Nat.le_of_ble_eq_true rfl, Nat.le_of_ble_eq_true rfl⟩) hS sb (jnXth hP hD) (fun H locs hP hD hS => ?_)
          have hP : va_P D vwCl (wX cA xd vd sd nd hd td ed kd images errors_24 fewest vspoon vmark vcount vbodies sbits slens snum h_weight h_known h_hour h_swS h_swW h_waS h_spoons h_kind h_mark h_silver h_fresh h_texts h_tape h_tapeCount h_z h_waiting h_waitingCount t_weight_14 t_known_15 t_hour_16 t_swS_17 t_swW_18 t_waS_19 t_spoons_20 t_kind_21 t_mark_22 t_silver_23 t_fresh_24 t_texts_25 t_tape t_tapeCount t_z t_waiting t_waitingCount e_weight e_known e_hour e_swS e_swW e_waS e_spoons e_kind e_mark e_silver e_fresh e_texts e_tape e_tapeCount e_z e_waiting e_waitingCount L tx tst_24b) H := hP
          have hD : va_D A (wX cA xd vd sd nd hd td ed kd images errors_24 fewest vspoon vmark vcount vbodies sbits slens snum h_weight h_known h_hour h_swS h_swW h_waS h_spoons h_kind h_mark h_silver h_fresh h_texts h_tape h_tapeCount h_z h_waiting h_waitingCount t_weight_14 t_known_15 t_hour_16 t_swS_17 t_swW_18 t_waS_19 t_spoons_20 t_kind_21 t_mark_22 t_silver_23 t_fresh_24 t_texts_25 t_tape t_tapeCount t_z t_waiting t_waitingCount e_weight e_known e_hour e_swS e_swW e_waS e_spoons e_kind e_mark e_silver e_fresh e_texts e_tape e_tapeCount e_z e_waiting e_waitingCount L tx tst_24b) := hD
          refine lv_aload_n hx hb dX11_silverFor_41 rfl (lv_at hv 0 rfl) ?_
          refine va_get (D := D) (ci := 11) (v := .ref (td 0)) (C := RX11) (T := TX11) (N := 9) hx hb hts in_11 hown hK hP 0 rfl rfl 1 (by decide) w_2 (fun _ h9 => h9) rfl dX11_silverFor_42 ?_
          refine va_get (D := D) (ci := 3) (v := .ref (td 11)) (C := RX3) (T := TX3) (N := 18) hx hb hts in_3 hown hK hP 26 rfl rfl 10 (by decide) w_4 (fun _ h9 => h9) rfl dX11_silverFor_45 ?_
          refine lv_iload_n hx hb dX11_silverFor_48 rfl (lv_at hv 1 rfl) ?_
          refine lv_iload_n hx hb dX11_silverFor_49 rfl (lv_at hv 3 rfl) ?_
          obtain ⟨c_27, h⟩ := ckI_ex h
          obtain ⟨t_silver_28, et_silver_28, h⟩ := bnd_ex h
          refine va_iast (D := D) hx hb hK hP hD hS 33 0 rfl rfl c_27 dX11_silverFor_50 (fun H locs hP hD hS => ?_)
          rw [← et_silver_28] at hP hD
          have hP : va_P D vwCl (wX cA xd vd sd nd hd td ed kd images errors_24 fewest vspoon vmark vcount vbodies sbits slens snum h_weight h_known h_hour h_swS h_swW h_waS h_spoons h_kind h_mark h_silver h_fresh h_texts h_tape h_tapeCount h_z h_waiting h_waitingCount t_weight_14 t_known_15 t_hour_16 t_swS_17 t_swW_18 t_waS_19 t_spoons_20 t_kind_21 t_mark_22 t_silver_28 t_fresh_24 t_texts_25 t_tape t_tapeCount t_z t_waiting t_waitingCount e_weight e_known e_hour e_swS e_swW e_waS e_spoons e_kind e_mark e_silver e_fresh e_texts e_tape e_tapeCount e_z e_waiting e_waitingCount L tx tst_24b) H := hP
          have hD : va_D A (wX cA xd vd sd nd hd td ed kd images errors_24 fewest vspoon vmark vcount vbodies sbits slens snum h_weight h_known h_hour h_swS h_swW h_waS h_spoons h_kind h_mark h_silver h_fresh h_texts h_tape h_tapeCount h_z h_waiting h_waitingCount t_weight_14 t_known_15 t_hour_16 t_swS_17 t_swW_18 t_waS_19 t_spoons_20 t_kind_21 t_mark_22 t_silver_28 t_fresh_24 t_texts_25 t_tape t_tapeCount t_z t_waiting t_waitingCount e_weight e_known e_hour e_swS e_swW e_waS e_spoons e_kind e_mark e_silver e_fresh e_texts e_tape e_tapeCount e_z e_waiting e_waitingCount L tx tst_24b) := hD
          refine lv_aload_n hx hb dX11_silverFor_51 rfl (lv_at hv 0 rfl) ?_
          refine va_get (D := D) (ci := 11) (v := .ref (td 0)) (C := RX11) (T := TX11) (N := 9) hx hb hts in_11 hown hK hP 0 rfl rfl 1 (by decide) w_2 (fun _ h9 => h9) rfl dX11_silverFor_52 ?_
          refine lv_iload_n hx hb dX11_silverFor_55 rfl (lv_at hv 2 rfl) ?_
          obtain ⟨⟨t_known_29, t_hour_30, t_silver_31, t_fresh_32, tst_33⟩, hf_34, h⟩ := bd_ex h
          have sb : Sb D A H (wH cA td kd t_weight_14 t_known_15 t_hour_16 t_swS_17 t_swW_18 t_waS_19 t_spoons_20 t_kind_21 t_mark_22 t_silver_28 t_fresh_24 t_texts_25 t_tape t_tapeCount t_z t_waiting t_waitingCount L tx tst_24b) := sbXt hP hD hS hA
          refine calV (va_runV (As := [.int v2_24]) (rest := []) ⟨hx, hb, hml, hown, hts⟩ (c_X3_passHours l G D cA td kd _ t_weight_14 t_known_15 t_hour_16 t_swS_17 t_swW_18 t_waS_19 t_spoons_20 t_kind_21 t_mark_22 t_silver_28 t_fresh_24 t_texts_25 t_tape t_tapeCount t_z t_waiting t_waitingCount L tx tst_24b v2_24 t_known_29 t_hour_30 t_silver_31 t_fresh_32 tst_33 hf_34) (cwV 1 hts gX11_silverFor_X3_passHours rfl rfl rfl (by decide +kernel) ⟨Nat.le_of_ble_eq_true rfl, Nat.le_of_ble_eq_true rfl⟩) (pvV hE hK hS sb (va_recv hK hP (ci := 3) (q0 := 26) rfl rfl)) rfl rfl hv.1 rfl (lv_room (Nat.le_of_ble_eq_true rfl)) dX11_silverFor_56 ⟨Nat.le_of_ble_eq_true rfl, Nat.le_of_ble_eq_true rfl⟩) hS sb (jnXt hP hD) (fun H locs hP hD hS => ?_)
          have hP : va_P D vwCl (wX cA xd vd sd nd hd td ed kd images errors_24 fewest vspoon vmark vcount vbodies sbits slens snum h_weight h_known h_hour h_swS h_swW h_waS h_spoons h_kind h_mark h_silver h_fresh h_texts h_tape h_tapeCount h_z h_waiting h_waitingCount t_weight_14 t_known_29 t_hour_30 t_swS_17 t_swW_18 t_waS_19 t_spoons_20 t_kind_21 t_mark_22 t_silver_31 t_fresh_32 t_texts_25 t_tape t_tapeCount t_z t_waiting t_waitingCount e_weight e_known e_hour e_swS e_swW e_waS e_spoons e_kind e_mark e_silver e_fresh e_texts e_tape e_tapeCount e_z e_waiting e_waitingCount L tx tst_33) H := hP
          have hD : va_D A (wX cA xd vd sd nd hd td ed kd images errors_24 fewest vspoon vmark vcount vbodies sbits slens snum h_weight h_known h_hour h_swS h_swW h_waS h_spoons h_kind h_mark h_silver h_fresh h_texts h_tape h_tapeCount h_z h_waiting h_waitingCount t_weight_14 t_known_29 t_hour_30 t_swS_17 t_swW_18 t_waS_19 t_spoons_20 t_kind_21 t_mark_22 t_silver_31 t_fresh_32 t_texts_25 t_tape t_tapeCount t_z t_waiting t_waitingCount e_weight e_known e_hour e_swS e_swW e_waS e_spoons e_kind e_mark e_silver e_fresh e_texts e_tape e_tapeCount e_z e_waiting e_waitingCount L tx tst_33) := hD
          refine lv_aload_n hx hb dX11_silverFor_59 rfl (lv_at hv 0 rfl) ?_
          refine va_get (D := D) (ci := 11) (v := .ref (td 0)) (C := RX11) (T := TX11) (N := 9) hx hb hts in_11 hown hK hP 0 rfl rfl 1 (by decide) w_2 (fun _ h9 => h9) rfl dX11_silverFor_60 ?_
          refine va_get (D := D) (ci := 3) (v := .ref (td 11)) (C := RX3) (T := TX3) (N := 18) hx hb hts in_3 hown hK hP 26 rfl rfl 10 (by decide) w_4 (fun _ h9 => h9) rfl dX11_silverFor_63 ?_
          refine lv_iload_n hx hb dX11_silverFor_66 rfl (lv_at hv 1 rfl) ?_
          obtain ⟨c_35, h⟩ := ckI_ex h
          refine va_iald (D := D) hx hb hK hP 33 0 rfl rfl c_35 dX11_silverFor_67 ?_
          refine lv_if_le (tgt := 73) hx hb dX11_silverFor_68 (by decide) (fun c_36 => ?_) (fun c_36 => ?_)
          · have h := ite_t c_36 h
            obtain ⟨y_37, ey_37, h⟩ := bnd_ex h
            refine lv_iinc (v := y_37) (lv' := [(3, .int y_37), (0, .ref (xd 0)), (1, .int v1_24), (2, .int v2_24)]) hx hb dX11_silverFor_73 hv (k := 3) rfl (by rw [ey_37]; rfl) (by decide) rfl (fun ls hv => ?_)
            refine lv_goto (tgt := 24) hx hb dX11_silverFor_76 (by decide) ?_
            cases h
            exact ih y_37 t_weight_14 t_known_29 t_hour_30 t_swS_17 t_swW_18 t_waS_19 t_spoons_20 t_kind_21 t_mark_22 t_silver_31 t_fresh_32 t_texts_25 tst_33 hl _ _ _ hP hD hS (lv_sub hv [1, 2, 3, 0] rfl)
          · have h := ite_f c_36 h
            refine lv_iload_n hx hb dX11_silverFor_71 rfl (lv_at hv 3 rfl) ?_
            cases h
            have hl : some (Sum.inr (v3_24b, errors_24, t_weight_14, t_known_29, t_hour_30, t_swS_17, t_swW_18, t_waS_19, t_spoons_20, t_kind_21, t_mark_22, t_silver_31, t_fresh_32, t_texts_25, tst_33)) = some ρ := hl
            cases hl
            have h := LR _ rfl
            have ee0 : v3_24b = rR := congrArg (fun q => q.1) h
            have ee1 : errors_24 = errorsR := congrArg (fun q => q.2.1) h
            have ee2 : t_weight_14 = t_weightR := congrArg (fun q => q.2.2.1) h
            have ee3 : t_known_29 = t_knownR := congrArg (fun q => q.2.2.2.1) h
            have ee4 : t_hour_30 = t_hourR := congrArg (fun q => q.2.2.2.2.1) h
            have ee5 : t_swS_17 = t_swSR := congrArg (fun q => q.2.2.2.2.2.1) h
            have ee6 : t_swW_18 = t_swWR := congrArg (fun q => q.2.2.2.2.2.2.1) h
            have ee7 : t_waS_19 = t_waSR := congrArg (fun q => q.2.2.2.2.2.2.2.1) h
            have ee8 : t_spoons_20 = t_spoonsR := congrArg (fun q => q.2.2.2.2.2.2.2.2.1) h
            have ee9 : t_kind_21 = t_kindR := congrArg (fun q => q.2.2.2.2.2.2.2.2.2.1) h
            have ee10 : t_mark_22 = t_markR := congrArg (fun q => q.2.2.2.2.2.2.2.2.2.2.1) h
            have ee11 : t_silver_31 = t_silverR := congrArg (fun q => q.2.2.2.2.2.2.2.2.2.2.2.1) h
            have ee12 : t_fresh_32 = t_freshR := congrArg (fun q => q.2.2.2.2.2.2.2.2.2.2.2.2.1) h
            have ee13 : t_texts_25 = t_textsR := congrArg (fun q => q.2.2.2.2.2.2.2.2.2.2.2.2.2.1) h
            have ee14 : tst_33 = tstR := congrArg (fun q => q.2.2.2.2.2.2.2.2.2.2.2.2.2.2) h
            subst ee0
            subst ee1
            subst ee2
            subst ee3
            subst ee4
            subst ee5
            subst ee6
            subst ee7
            subst ee8
            subst ee9
            subst ee10
            subst ee11
            subst ee12
            subst ee13
            subst ee14
            rw [← hQ]
            exact retI hx hb hr hlk hK hP hD hS dX11_silverFor_72 ⟨Nat.le_of_ble_eq_true rfl, Nat.le_of_ble_eq_true rfl⟩
    exact LB FU v3_24 t_weight_24 t_known_24 t_hour_24 t_swS_24 t_swW_24 t_waS_24 t_spoons_24 t_kind_24 t_mark_24 t_silver_24 t_fresh_24 t_texts_24 tst_24 ho
  have hP : va_P D vwCl (wX cA xd vd sd nd hd td ed kd images errors fewest vspoon vmark vcount vbodies sbits slens snum h_weight h_known h_hour h_swS h_swW h_waS h_spoons h_kind h_mark h_silver h_fresh h_texts h_tape h_tapeCount h_z h_waiting h_waitingCount t_weight t_known t_hour t_swS t_swW t_waS t_spoons t_kind t_mark t_silver t_fresh t_texts t_tape t_tapeCount t_z t_waiting t_waitingCount e_weight e_known e_hour e_swS e_swW e_waS e_spoons e_kind e_mark e_silver e_fresh e_texts e_tape e_tapeCount e_z e_waiting e_waitingCount L tx tst) H := hP
  unfold fX11_silverFor at h
  refine lv_aload_n hx hb dX11_silverFor_0 rfl (lv_at hv 0 rfl) ?_
  refine lv_iload_n hx hb dX11_silverFor_1 rfl (lv_at hv 1 rfl) ?_
  obtain ⟨r_1, hf_2, h⟩ := bd_ex h
  have sb := Sb.same hP hD hS hA
  refine calI (va_runV (As := [.int a]) (rest := []) ⟨hx, hb, hml, hown, hts⟩ (c_X11_isSpoon l G D cA xd vd sd nd hd td ed kd _ images errors fewest vspoon vmark vcount vbodies sbits slens snum h_weight h_known h_hour h_swS h_swW h_waS h_spoons h_kind h_mark h_silver h_fresh h_texts h_tape h_tapeCount h_z h_waiting h_waitingCount t_weight t_known t_hour t_swS t_swW t_waS t_spoons t_kind t_mark t_silver t_fresh t_texts t_tape t_tapeCount t_z t_waiting t_waitingCount e_weight e_known e_hour e_swS e_swW e_waS e_spoons e_kind e_mark e_silver e_fresh e_texts e_tape e_tapeCount e_z e_waiting e_waitingCount L tx tst a r_1 hf_2) (cwV 1 hts gX11_silverFor_X11_isSpoon rfl rfl rfl (by decide +kernel) ⟨Nat.le_of_ble_eq_true rfl, Nat.le_of_ble_eq_true rfl⟩) (pvV hE hK hS sb (va_recv hK hP (ci := 11) (q0 := 0) rfl rfl)) rfl rfl hv.1 rfl (lv_room (Nat.le_of_ble_eq_true rfl)) dX11_silverFor_2 ⟨Nat.le_of_ble_eq_true rfl, Nat.le_of_ble_eq_true rfl⟩) hS sb (Jn.same sb) (fun H locs hP hD hS => ?_)
  have hP : va_P D vwCl (wX cA xd vd sd nd hd td ed kd images errors fewest vspoon vmark vcount vbodies sbits slens snum h_weight h_known h_hour h_swS h_swW h_waS h_spoons h_kind h_mark h_silver h_fresh h_texts h_tape h_tapeCount h_z h_waiting h_waitingCount t_weight t_known t_hour t_swS t_swW t_waS t_spoons t_kind t_mark t_silver t_fresh t_texts t_tape t_tapeCount t_z t_waiting t_waitingCount e_weight e_known e_hour e_swS e_swW e_waS e_spoons e_kind e_mark e_silver e_fresh e_texts e_tape e_tapeCount e_z e_waiting e_waitingCount L tx tst) H := hP
  have hD : va_D A (wX cA xd vd sd nd hd td ed kd images errors fewest vspoon vmark vcount vbodies sbits slens snum h_weight h_known h_hour h_swS h_swW h_waS h_spoons h_kind h_mark h_silver h_fresh h_texts h_tape h_tapeCount h_z h_waiting h_waitingCount t_weight t_known t_hour t_swS t_swW t_waS t_spoons t_kind t_mark t_silver t_fresh t_texts t_tape t_tapeCount t_z t_waiting t_waitingCount e_weight e_known e_hour e_swS e_swW e_waS e_spoons e_kind e_mark e_silver e_fresh e_texts e_tape e_tapeCount e_z e_waiting e_waitingCount L tx tst) := hD
  refine lv_if_eq (tgt := 15) hx hb dX11_silverFor_5 (by decide) (fun c_3 => ?_) (fun c_3 => ?_)
  · have h := ite_t c_3 h
    refine lv_aload_n hx hb dX11_silverFor_15 rfl (lv_at hv 0 rfl) ?_
    refine lv_ldc (v := (-1000000001 : Int32)) hx hb hown w_0 dX11_silverFor_16 ?_
    obtain ⟨⟨r_4, errors_5⟩, hf_6, h⟩ := bd_ex h
    have sb := Sb.same hP hD hS hA
    refine calI (va_runV (As := [.int (-1000000001 : Int32)]) (rest := []) ⟨hx, hb, hml, hown, hts⟩ (c_X11_refused l G D cA xd vd sd nd hd td ed kd _ images errors fewest vspoon vmark vcount vbodies sbits slens snum h_weight h_known h_hour h_swS h_swW h_waS h_spoons h_kind h_mark h_silver h_fresh h_texts h_tape h_tapeCount h_z h_waiting h_waitingCount t_weight t_known t_hour t_swS t_swW t_waS t_spoons t_kind t_mark t_silver t_fresh t_texts t_tape t_tapeCount t_z t_waiting t_waitingCount e_weight e_known e_hour e_swS e_swW e_waS e_spoons e_kind e_mark e_silver e_fresh e_texts e_tape e_tapeCount e_z e_waiting e_waitingCount L tx tst (-1000000001 : Int32) r_4 errors_5 hf_6) (cwV 1 hts gX11_silverFor_X11_refused rfl rfl rfl (by decide +kernel) ⟨Nat.le_of_ble_eq_true rfl, Nat.le_of_ble_eq_true rfl⟩) (pvV hE hK hS sb (va_recv hK hP (ci := 11) (q0 := 0) rfl rfl)) rfl rfl hv.1 rfl (lv_room (Nat.le_of_ble_eq_true rfl)) dX11_silverFor_18 ⟨Nat.le_of_ble_eq_true rfl, Nat.le_of_ble_eq_true rfl⟩) hS sb (Jn.same sb) (fun H locs hP hD hS => ?_)
    have hP : va_P D vwCl (wX cA xd vd sd nd hd td ed kd images errors_5 fewest vspoon vmark vcount vbodies sbits slens snum h_weight h_known h_hour h_swS h_swW h_waS h_spoons h_kind h_mark h_silver h_fresh h_texts h_tape h_tapeCount h_z h_waiting h_waitingCount t_weight t_known t_hour t_swS t_swW t_waS t_spoons t_kind t_mark t_silver t_fresh t_texts t_tape t_tapeCount t_z t_waiting t_waitingCount e_weight e_known e_hour e_swS e_swW e_waS e_spoons e_kind e_mark e_silver e_fresh e_texts e_tape e_tapeCount e_z e_waiting e_waitingCount L tx tst) H := hP
    have hD : va_D A (wX cA xd vd sd nd hd td ed kd images errors_5 fewest vspoon vmark vcount vbodies sbits slens snum h_weight h_known h_hour h_swS h_swW h_waS h_spoons h_kind h_mark h_silver h_fresh h_texts h_tape h_tapeCount h_z h_waiting h_waitingCount t_weight t_known t_hour t_swS t_swW t_waS t_spoons t_kind t_mark t_silver t_fresh t_texts t_tape t_tapeCount t_z t_waiting t_waitingCount e_weight e_known e_hour e_swS e_swW e_waS e_spoons e_kind e_mark e_silver e_fresh e_texts e_tape e_tapeCount e_z e_waiting e_waitingCount L tx tst) := hD
    have h := Option.some.inj h
    have ee0 : r_4 = rR := congrArg (fun q => q.1) h
    have ee1 : errors_5 = errorsR := congrArg (fun q => q.2.1) h
    have ee2 : t_weight = t_weightR := congrArg (fun q => q.2.2.1) h
    have ee3 : t_known = t_knownR := congrArg (fun q => q.2.2.2.1) h
    have ee4 : t_hour = t_hourR := congrArg (fun q => q.2.2.2.2.1) h
    have ee5 : t_swS = t_swSR := congrArg (fun q => q.2.2.2.2.2.1) h
    have ee6 : t_swW = t_swWR := congrArg (fun q => q.2.2.2.2.2.2.1) h
    have ee7 : t_waS = t_waSR := congrArg (fun q => q.2.2.2.2.2.2.2.1) h
    have ee8 : t_spoons = t_spoonsR := congrArg (fun q => q.2.2.2.2.2.2.2.2.1) h
    have ee9 : t_kind = t_kindR := congrArg (fun q => q.2.2.2.2.2.2.2.2.2.1) h
    have ee10 : t_mark = t_markR := congrArg (fun q => q.2.2.2.2.2.2.2.2.2.2.1) h
    have ee11 : t_silver = t_silverR := congrArg (fun q => q.2.2.2.2.2.2.2.2.2.2.2.1) h
    have ee12 : t_fresh = t_freshR := congrArg (fun q => q.2.2.2.2.2.2.2.2.2.2.2.2.1) h
    have ee13 : t_texts = t_textsR := congrArg (fun q => q.2.2.2.2.2.2.2.2.2.2.2.2.2.1) h
    have ee14 : tst = tstR := congrArg (fun q => q.2.2.2.2.2.2.2.2.2.2.2.2.2.2) h
    subst ee0
    subst ee1
    subst ee2
    subst ee3
    subst ee4
    subst ee5
    subst ee6
    subst ee7
    subst ee8
    subst ee9
    subst ee10
    subst ee11
    subst ee12
    subst ee13
    subst ee14
    rw [← hQ]
    exact retI hx hb hr hlk hK hP hD hS dX11_silverFor_21 ⟨Nat.le_of_ble_eq_true rfl, Nat.le_of_ble_eq_true rfl⟩
  · have h := ite_f c_3 h
    refine lv_iload_n hx hb dX11_silverFor_8 rfl (lv_at hv 2 rfl) ?_
    obtain ⟨r_7, hf_8, h⟩ := bd_ex h
    have sb := Sb.nil hP hD hS hA
    refine calI (va_runS (As := [.int n]) (rest := []) ⟨hx, hb, hml, hown, hts⟩ (c_X11_isBehind l G D cA  _ n r_7 hf_8) (va_cwS 1 hts gX11_silverFor_X11_isBehind rfl rfl rfl (by decide +kernel) ⟨Nat.le_of_ble_eq_true rfl, Nat.le_of_ble_eq_true rfl⟩) (pvS hE hK hS sb) rfl rfl hv.1 rfl (lv_room (Nat.le_of_ble_eq_true rfl)) dX11_silverFor_9 ⟨Nat.le_of_ble_eq_true rfl, Nat.le_of_ble_eq_true rfl⟩) hS sb (Jn.nil hP hD) (fun H locs hP hD hS => ?_)
    have hP : va_P D vwCl (wX cA xd vd sd nd hd td ed kd images errors fewest vspoon vmark vcount vbodies sbits slens snum h_weight h_known h_hour h_swS h_swW h_waS h_spoons h_kind h_mark h_silver h_fresh h_texts h_tape h_tapeCount h_z h_waiting h_waitingCount t_weight t_known t_hour t_swS t_swW t_waS t_spoons t_kind t_mark t_silver t_fresh t_texts t_tape t_tapeCount t_z t_waiting t_waitingCount e_weight e_known e_hour e_swS e_swW e_waS e_spoons e_kind e_mark e_silver e_fresh e_texts e_tape e_tapeCount e_z e_waiting e_waitingCount L tx tst) H := hP
    have hD : va_D A (wX cA xd vd sd nd hd td ed kd images errors fewest vspoon vmark vcount vbodies sbits slens snum h_weight h_known h_hour h_swS h_swW h_waS h_spoons h_kind h_mark h_silver h_fresh h_texts h_tape h_tapeCount h_z h_waiting h_waitingCount t_weight t_known t_hour t_swS t_swW t_waS t_spoons t_kind t_mark t_silver t_fresh t_texts t_tape t_tapeCount t_z t_waiting t_waitingCount e_weight e_known e_hour e_swS e_swW e_waS e_spoons e_kind e_mark e_silver e_fresh e_texts e_tape e_tapeCount e_z e_waiting e_waitingCount L tx tst) := hD
    refine lv_if_ne (tgt := 22) hx hb dX11_silverFor_12 (by decide) (fun c_9 => ?_) (fun c_9 => ?_)
    · have h := ite_f c_9 h
      refine lv_iconst (v := (1 : Int32)) hx hb dX11_silverFor_22 (by decide) ?_
      refine lv_istore_n (lv' := [(3, .int (1 : Int32)), (0, .ref (xd 0)), (1, .int a), (2, .int n)]) hx hb dX11_silverFor_23 rfl hv (by decide) rfl (fun ls hv => ?_)
      exact C_24 a n (1 : Int32) errors t_weight t_known t_hour t_swS t_swW t_waS t_spoons t_kind t_mark t_silver t_fresh t_texts tst h _ _ _ hP hD hS (lv_sub hv [1, 2, 3, 0] rfl)
    · have h := ite_t c_9 h
      refine lv_aload_n hx hb dX11_silverFor_15 rfl (lv_at hv 0 rfl) ?_
      refine lv_ldc (v := (-1000000001 : Int32)) hx hb hown w_0 dX11_silverFor_16 ?_
      obtain ⟨⟨r_38, errors_39⟩, hf_40, h⟩ := bd_ex h
      have sb := Sb.same hP hD hS hA
      refine calI (va_runV (As := [.int (-1000000001 : Int32)]) (rest := []) ⟨hx, hb, hml, hown, hts⟩ (c_X11_refused l G D cA xd vd sd nd hd td ed kd _ images errors fewest vspoon vmark vcount vbodies sbits slens snum h_weight h_known h_hour h_swS h_swW h_waS h_spoons h_kind h_mark h_silver h_fresh h_texts h_tape h_tapeCount h_z h_waiting h_waitingCount t_weight t_known t_hour t_swS t_swW t_waS t_spoons t_kind t_mark t_silver t_fresh t_texts t_tape t_tapeCount t_z t_waiting t_waitingCount e_weight e_known e_hour e_swS e_swW e_waS e_spoons e_kind e_mark e_silver e_fresh e_texts e_tape e_tapeCount e_z e_waiting e_waitingCount L tx tst (-1000000001 : Int32) r_38 errors_39 hf_40) (cwV 1 hts gX11_silverFor_X11_refused rfl rfl rfl (by decide +kernel) ⟨Nat.le_of_ble_eq_true rfl, Nat.le_of_ble_eq_true rfl⟩) (pvV hE hK hS sb (va_recv hK hP (ci := 11) (q0 := 0) rfl rfl)) rfl rfl hv.1 rfl (lv_room (Nat.le_of_ble_eq_true rfl)) dX11_silverFor_18 ⟨Nat.le_of_ble_eq_true rfl, Nat.le_of_ble_eq_true rfl⟩) hS sb (Jn.same sb) (fun H locs hP hD hS => ?_)
      have hP : va_P D vwCl (wX cA xd vd sd nd hd td ed kd images errors_39 fewest vspoon vmark vcount vbodies sbits slens snum h_weight h_known h_hour h_swS h_swW h_waS h_spoons h_kind h_mark h_silver h_fresh h_texts h_tape h_tapeCount h_z h_waiting h_waitingCount t_weight t_known t_hour t_swS t_swW t_waS t_spoons t_kind t_mark t_silver t_fresh t_texts t_tape t_tapeCount t_z t_waiting t_waitingCount e_weight e_known e_hour e_swS e_swW e_waS e_spoons e_kind e_mark e_silver e_fresh e_texts e_tape e_tapeCount e_z e_waiting e_waitingCount L tx tst) H := hP
      have hD : va_D A (wX cA xd vd sd nd hd td ed kd images errors_39 fewest vspoon vmark vcount vbodies sbits slens snum h_weight h_known h_hour h_swS h_swW h_waS h_spoons h_kind h_mark h_silver h_fresh h_texts h_tape h_tapeCount h_z h_waiting h_waitingCount t_weight t_known t_hour t_swS t_swW t_waS t_spoons t_kind t_mark t_silver t_fresh t_texts t_tape t_tapeCount t_z t_waiting t_waitingCount e_weight e_known e_hour e_swS e_swW e_waS e_spoons e_kind e_mark e_silver e_fresh e_texts e_tape e_tapeCount e_z e_waiting e_waitingCount L tx tst) := hD
      have h := Option.some.inj h
      have ee0 : r_38 = rR := congrArg (fun q => q.1) h
      have ee1 : errors_39 = errorsR := congrArg (fun q => q.2.1) h
      have ee2 : t_weight = t_weightR := congrArg (fun q => q.2.2.1) h
      have ee3 : t_known = t_knownR := congrArg (fun q => q.2.2.2.1) h
      have ee4 : t_hour = t_hourR := congrArg (fun q => q.2.2.2.2.1) h
      have ee5 : t_swS = t_swSR := congrArg (fun q => q.2.2.2.2.2.1) h
      have ee6 : t_swW = t_swWR := congrArg (fun q => q.2.2.2.2.2.2.1) h
      have ee7 : t_waS = t_waSR := congrArg (fun q => q.2.2.2.2.2.2.2.1) h
      have ee8 : t_spoons = t_spoonsR := congrArg (fun q => q.2.2.2.2.2.2.2.2.1) h
      have ee9 : t_kind = t_kindR := congrArg (fun q => q.2.2.2.2.2.2.2.2.2.1) h
      have ee10 : t_mark = t_markR := congrArg (fun q => q.2.2.2.2.2.2.2.2.2.2.1) h
      have ee11 : t_silver = t_silverR := congrArg (fun q => q.2.2.2.2.2.2.2.2.2.2.2.1) h
      have ee12 : t_fresh = t_freshR := congrArg (fun q => q.2.2.2.2.2.2.2.2.2.2.2.2.1) h
      have ee13 : t_texts = t_textsR := congrArg (fun q => q.2.2.2.2.2.2.2.2.2.2.2.2.2.1) h
      have ee14 : tst = tstR := congrArg (fun q => q.2.2.2.2.2.2.2.2.2.2.2.2.2.2) h
      subst ee0
      subst ee1
      subst ee2
      subst ee3
      subst ee4
      subst ee5
      subst ee6
      subst ee7
      subst ee8
      subst ee9
      subst ee10
      subst ee11
      subst ee12
      subst ee13
      subst ee14
      rw [← hQ]
      exact retI hx hb hr hlk hK hP hD hS dX11_silverFor_21 ⟨Nat.le_of_ble_eq_true rfl, Nat.le_of_ble_eq_true rfl⟩

def fX11_washFor_99 (v1_32 : Int32) (v2_32 : Int32) (v3_99 : Int32) (v4_99 : Int32) (v5_99 : Int32) (errors_32 : Nat → Int32) (h_weight : Nat → Int32) (h_known : Int32) (h_hour : Int32) (h_swS : Nat → Int32) (h_swW : Nat → Int32) (h_waS : Nat → Int32) (h_spoons : Int32) (h_kind : Nat → Int32) (h_mark : Nat → Int32) (h_silver : Nat → Int32) (h_fresh : Nat → Int64) (h_texts : Nat → Option Nat) (t_weight_99 : Nat → Int32) (t_known_99 : Int32) (t_hour_99 : Int32) (t_swS_99 : Nat → Int32) (t_swW_99 : Nat → Int32) (t_waS_99 : Nat → Int32) (t_spoons_99 : Int32) (t_kind_99 : Nat → Int32) (t_mark_99 : Nat → Int32) (t_silver_99 : Nat → Int32) (t_fresh_99 : Nat → Int64) (t_texts_99 : Nat → Option Nat) (L : List Nat) (tx : Nat → TXc) (tst_99 : Nat → Nat → Int32) : Option ((Int32 × Int32 × Int32 × (Nat → Int32) × Int32 × Int32 × (Nat → Int32) × (Nat → Int32) × (Nat → Int32) × Int32 × (Nat → Int32) × (Nat → Int32) × (Nat → Int32) × (Nat → Int64) × (Nat → Option Nat) × (Nat → Nat → Int32)) ⊕ (Int32 × Int32 × Int32 × (Nat → Int32) × Int32 × Int32 × (Nat → Int32) × (Nat → Int32) × (Nat → Int32) × Int32 × (Nat → Int32) × (Nat → Int32) × (Nat → Int32) × (Nat → Int64) × (Nat → Option Nat) × (Nat → Nat → Int32))) :=
  bnd (v5_99 + (1 : Int32)) fun y_35 => some (.inl (v3_99, v4_99, y_35, t_weight_99, t_known_99, t_hour_99, t_swS_99, t_swW_99, t_waS_99, t_spoons_99, t_kind_99, t_mark_99, t_silver_99, t_fresh_99, t_texts_99, tst_99))
def fX11_washFor_32B (v1_32 : Int32) (v2_32 : Int32) (errors_32 : Nat → Int32) (h_weight : Nat → Int32) (h_known : Int32) (h_hour : Int32) (h_swS : Nat → Int32) (h_swW : Nat → Int32) (h_waS : Nat → Int32) (h_spoons : Int32) (h_kind : Nat → Int32) (h_mark : Nat → Int32) (h_silver : Nat → Int32) (h_fresh : Nat → Int64) (h_texts : Nat → Option Nat) (L : List Nat) (tx : Nat → TXc) (v3_32b : Int32) (v4_32b : Int32) (v5_32b : Int32) (t_weight_32b : Nat → Int32) (t_known_32b : Int32) (t_hour_32b : Int32) (t_swS_32b : Nat → Int32) (t_swW_32b : Nat → Int32) (t_waS_32b : Nat → Int32) (t_spoons_32b : Int32) (t_kind_32b : Nat → Int32) (t_mark_32b : Nat → Int32) (t_silver_32b : Nat → Int32) (t_fresh_32b : Nat → Int64) (t_texts_32b : Nat → Option Nat) (tst_32b : Nat → Nat → Int32) : Option ((Int32 × Int32 × Int32 × (Nat → Int32) × Int32 × Int32 × (Nat → Int32) × (Nat → Int32) × (Nat → Int32) × Int32 × (Nat → Int32) × (Nat → Int32) × (Nat → Int32) × (Nat → Int64) × (Nat → Option Nat) × (Nat → Nat → Int32)) ⊕ (Int32 × Int32 × Int32 × (Nat → Int32) × Int32 × Int32 × (Nat → Int32) × (Nat → Int32) × (Nat → Int32) × Int32 × (Nat → Int32) × (Nat → Int32) × (Nat → Int32) × (Nat → Int64) × (Nat → Option Nat) × (Nat → Nat → Int32))) :=
  (if (8 : Int32) ≤ v5_32b then some (.inr (v3_32b, v4_32b, v5_32b, t_weight_32b, t_known_32b, t_hour_32b, t_swS_32b, t_swW_32b, t_waS_32b, t_spoons_32b, t_kind_32b, t_mark_32b, t_silver_32b, t_fresh_32b, t_texts_32b, tst_32b)) else bd (fX3_follow t_weight_32b t_known_32b t_hour_32b t_swS_32b t_swW_32b t_waS_32b t_spoons_32b t_kind_32b t_mark_32b t_silver_32b t_fresh_32b t_texts_32b h_weight h_known h_hour h_swS h_swW h_waS h_spoons h_kind h_mark h_silver h_fresh h_texts L) fun (t_weight_11, t_known_12, t_hour_13, t_swS_14, t_swW_15, t_waS_16, t_spoons_17, t_kind_18, t_mark_19, t_silver_20, t_fresh_21, t_texts_22) => ckI v1_32 4 (bnd (upd t_waS_16 (v1_32).toNatClampNeg v5_32b) fun t_waS_25 => bd (fX3_passHours v2_32 t_weight_11 t_known_12 t_hour_13 t_swS_14 t_swW_15 t_waS_25 t_spoons_17 t_kind_18 t_mark_19 t_silver_20 t_fresh_21 t_texts_22 L tx tst_32b) fun (t_known_26, t_hour_27, t_silver_28, t_fresh_29, tst_30) => bd (fJ6_bitCount_0f7a4 t_known_26) fun r_32 => (if v4_32b ≤ r_32 then fX11_washFor_99 v1_32 v2_32 v3_32b v4_32b v5_32b errors_32 h_weight h_known h_hour h_swS h_swW h_waS h_spoons h_kind h_mark h_silver h_fresh h_texts t_weight_11 t_known_26 t_hour_27 t_swS_14 t_swW_15 t_waS_25 t_spoons_17 t_kind_18 t_mark_19 t_silver_28 t_fresh_29 t_texts_22 L tx tst_30 else bd (fJ6_bitCount_0f7a4 t_known_26) fun r_36 => fX11_washFor_99 v1_32 v2_32 v5_32b r_36 v5_32b errors_32 h_weight h_known h_hour h_swS h_swW h_waS h_spoons h_kind h_mark h_silver h_fresh h_texts t_weight_11 t_known_26 t_hour_27 t_swS_14 t_swW_15 t_waS_25 t_spoons_17 t_kind_18 t_mark_19 t_silver_28 t_fresh_29 t_texts_22 L tx tst_30)))
def fX11_washFor_32 (v1_32 : Int32) (v2_32 : Int32) (v3_32 : Int32) (v4_32 : Int32) (v5_32 : Int32) (errors_32 : Nat → Int32) (h_weight : Nat → Int32) (h_known : Int32) (h_hour : Int32) (h_swS : Nat → Int32) (h_swW : Nat → Int32) (h_waS : Nat → Int32) (h_spoons : Int32) (h_kind : Nat → Int32) (h_mark : Nat → Int32) (h_silver : Nat → Int32) (h_fresh : Nat → Int64) (h_texts : Nat → Option Nat) (t_weight_32 : Nat → Int32) (t_known_32 : Int32) (t_hour_32 : Int32) (t_swS_32 : Nat → Int32) (t_swW_32 : Nat → Int32) (t_waS_32 : Nat → Int32) (t_spoons_32 : Int32) (t_kind_32 : Nat → Int32) (t_mark_32 : Nat → Int32) (t_silver_32 : Nat → Int32) (t_fresh_32 : Nat → Int64) (t_texts_32 : Nat → Option Nat) (L : List Nat) (tx : Nat → TXc) (tst_32 : Nat → Nat → Int32) : Option (Int32 × (Nat → Int32) × (Nat → Int32) × Int32 × Int32 × (Nat → Int32) × (Nat → Int32) × (Nat → Int32) × Int32 × (Nat → Int32) × (Nat → Int32) × (Nat → Int32) × (Nat → Int64) × (Nat → Option Nat) × (Nat → Nat → Int32)) :=
  bd (lp (fun σ : Int32 × Int32 × Int32 × (Nat → Int32) × Int32 × Int32 × (Nat → Int32) × (Nat → Int32) × (Nat → Int32) × Int32 × (Nat → Int32) × (Nat → Int32) × (Nat → Int32) × (Nat → Int64) × (Nat → Option Nat) × (Nat → Nat → Int32) => fX11_washFor_32B v1_32 v2_32 errors_32 h_weight h_known h_hour h_swS h_swW h_waS h_spoons h_kind h_mark h_silver h_fresh h_texts L tx (σ.1) (σ.2.1) (σ.2.2.1) (σ.2.2.2.1) (σ.2.2.2.2.1) (σ.2.2.2.2.2.1) (σ.2.2.2.2.2.2.1) (σ.2.2.2.2.2.2.2.1) (σ.2.2.2.2.2.2.2.2.1) (σ.2.2.2.2.2.2.2.2.2.1) (σ.2.2.2.2.2.2.2.2.2.2.1) (σ.2.2.2.2.2.2.2.2.2.2.2.1) (σ.2.2.2.2.2.2.2.2.2.2.2.2.1) (σ.2.2.2.2.2.2.2.2.2.2.2.2.2.1) (σ.2.2.2.2.2.2.2.2.2.2.2.2.2.2.1) (σ.2.2.2.2.2.2.2.2.2.2.2.2.2.2.2)) FU (v3_32, v4_32, v5_32, t_weight_32, t_known_32, t_hour_32, t_swS_32, t_swW_32, t_waS_32, t_spoons_32, t_kind_32, t_mark_32, t_silver_32, t_fresh_32, t_texts_32, tst_32)) fun ρ => match ρ with | (v3_32r, v4_32r, v5_32r, t_weight_32r, t_known_32r, t_hour_32r, t_swS_32r, t_swW_32r, t_waS_32r, t_spoons_32r, t_kind_32r, t_mark_32r, t_silver_32r, t_fresh_32r, t_texts_32r, tst_32r) => some ((v3_32r + (1 : Int32)), errors_32, t_weight_32r, t_known_32r, t_hour_32r, t_swS_32r, t_swW_32r, t_waS_32r, t_spoons_32r, t_kind_32r, t_mark_32r, t_silver_32r, t_fresh_32r, t_texts_32r, tst_32r)
def fX11_washFor (a : Int32) (n : Int32) (errors : Nat → Int32) (h_weight : Nat → Int32) (h_known : Int32) (h_hour : Int32) (h_swS : Nat → Int32) (h_swW : Nat → Int32) (h_waS : Nat → Int32) (h_spoons : Int32) (h_kind : Nat → Int32) (h_mark : Nat → Int32) (h_silver : Nat → Int32) (h_fresh : Nat → Int64) (h_texts : Nat → Option Nat) (t_weight : Nat → Int32) (t_known : Int32) (t_hour : Int32) (t_swS : Nat → Int32) (t_swW : Nat → Int32) (t_waS : Nat → Int32) (t_spoons : Int32) (t_kind : Nat → Int32) (t_mark : Nat → Int32) (t_silver : Nat → Int32) (t_fresh : Nat → Int64) (t_texts : Nat → Option Nat) (L : List Nat) (tx : Nat → TXc) (tst : Nat → Nat → Int32) : Option (Int32 × (Nat → Int32) × (Nat → Int32) × Int32 × Int32 × (Nat → Int32) × (Nat → Int32) × (Nat → Int32) × Int32 × (Nat → Int32) × (Nat → Int32) × (Nat → Int32) × (Nat → Int64) × (Nat → Option Nat) × (Nat → Nat → Int32)) :=
  bd (fX11_within a (0 : Int32) (3 : Int32)) fun r_1 => (if r_1 = 0 then bd (fX11_refused (-1000000001 : Int32) errors) fun (r_4, errors_5) => some (r_4, errors_5, t_weight, t_known, t_hour, t_swS, t_swW, t_waS, t_spoons, t_kind, t_mark, t_silver, t_fresh, t_texts, tst) else bd (fX11_isBehind n) fun r_7 => (if r_7 = 0 then bd (fX11_refused (-1000000001 : Int32) errors) fun (r_38, errors_39) => some (r_38, errors_39, t_weight, t_known, t_hour, t_swS, t_swW, t_waS, t_spoons, t_kind, t_mark, t_silver, t_fresh, t_texts, tst) else fX11_washFor_32 a n (-1 : Int32) (13 : Int32) (-1 : Int32) errors h_weight h_known h_hour h_swS h_swW h_waS h_spoons h_kind h_mark h_silver h_fresh h_texts t_weight t_known t_hour t_swS t_swW t_waS t_spoons t_kind t_mark t_silver t_fresh t_texts L tx tst))
set_option maxHeartbeats 4000000 in
set_option maxRecDepth 100000 in
theorem c_X11_washFor (l : Launch) (G : Nat → Nat) (D : va_G) (cA : Nat → ClassId) (xd : Nat → Nat) (vd : Nat → Nat) (sd : Nat → Nat) (nd : Nat → Nat) (hd : Nat → Nat) (td : Nat → Nat) (ed : Nat → Nat) (kd : Nat → Nat) (sz : Nat) (images : Int32) (errors : Nat → Int32) (fewest : Nat → Int32) (vspoon : Int32) (vmark : Int32) (vcount : Int32) (vbodies : Nat → Int32) (sbits : Nat → Int32) (slens : Nat → Int32) (snum : Nat → Nat → Int32) (h_weight : Nat → Int32) (h_known : Int32) (h_hour : Int32) (h_swS : Nat → Int32) (h_swW : Nat → Int32) (h_waS : Nat → Int32) (h_spoons : Int32) (h_kind : Nat → Int32) (h_mark : Nat → Int32) (h_silver : Nat → Int32) (h_fresh : Nat → Int64) (h_texts : Nat → Option Nat) (h_tape : Nat → Int32) (h_tapeCount : Int32) (h_z : Int32) (h_waiting : Nat → Int32) (h_waitingCount : Int32) (t_weight : Nat → Int32) (t_known : Int32) (t_hour : Int32) (t_swS : Nat → Int32) (t_swW : Nat → Int32) (t_waS : Nat → Int32) (t_spoons : Int32) (t_kind : Nat → Int32) (t_mark : Nat → Int32) (t_silver : Nat → Int32) (t_fresh : Nat → Int64) (t_texts : Nat → Option Nat) (t_tape : Nat → Int32) (t_tapeCount : Int32) (t_z : Int32) (t_waiting : Nat → Int32) (t_waitingCount : Int32) (e_weight : Nat → Int32) (e_known : Int32) (e_hour : Int32) (e_swS : Nat → Int32) (e_swW : Nat → Int32) (e_waS : Nat → Int32) (e_spoons : Int32) (e_kind : Nat → Int32) (e_mark : Nat → Int32) (e_silver : Nat → Int32) (e_fresh : Nat → Int64) (e_texts : Nat → Option Nat) (e_tape : Nat → Int32) (e_tapeCount : Int32) (e_z : Int32) (e_waiting : Nat → Int32) (e_waitingCount : Int32) (L : List Nat) (tx : Nat → TXc) (tst : Nat → Nat → Int32) (a : Int32) (n : Int32) (rR : Int32) (errorsR : Nat → Int32) (t_weightR : Nat → Int32) (t_knownR : Int32) (t_hourR : Int32) (t_swSR : Nat → Int32) (t_swWR : Nat → Int32) (t_waSR : Nat → Int32) (t_spoonsR : Int32) (t_kindR : Nat → Int32) (t_markR : Nat → Int32) (t_silverR : Nat → Int32) (t_freshR : Nat → Int64) (t_textsR : Nat → Option Nat) (tstR : Nat → Nat → Int32) (h : fX11_washFor a n errors h_weight h_known h_hour h_swS h_swW h_waS h_spoons h_kind h_mark h_silver h_fresh h_texts t_weight t_known t_hour t_swS t_swW t_waS t_spoons t_kind t_mark t_silver t_fresh t_texts L tx tst = some (rR, errorsR, t_weightR, t_knownR, t_hourR, t_swSR, t_swWR, t_waSR, t_spoonsR, t_kindR, t_markR, t_silverR, t_freshR, t_textsR, tstR)) : Met l yX11_washFor wsX11_washFor ({ frames := 6, cells := 0, slots := 0, locals := 141 } : Room) (PW G D (tyC cA) sz (wX cA xd vd sd nd hd td ed kd images errors fewest vspoon vmark vcount vbodies sbits slens snum h_weight h_known h_hour h_swS h_swW h_waS h_spoons h_kind h_mark h_silver h_fresh h_texts h_tape h_tapeCount h_z h_waiting h_waitingCount t_weight t_known t_hour t_swS t_swW t_waS t_spoons t_kind t_mark t_silver t_fresh t_texts t_tape t_tapeCount t_z t_waiting t_waitingCount e_weight e_known e_hour e_swS e_swW e_waS e_spoons e_kind e_mark e_silver e_fresh e_texts e_tape e_tapeCount e_z e_waiting e_waitingCount L tx tst) [.ref (xd 0), .int a, .int n]) (QI D (tyC cA) (va_A (wX cA xd vd sd nd hd td ed kd images errors fewest vspoon vmark vcount vbodies sbits slens snum h_weight h_known h_hour h_swS h_swW h_waS h_spoons h_kind h_mark h_silver h_fresh h_texts h_tape h_tapeCount h_z h_waiting h_waitingCount t_weight t_known t_hour t_swS t_swW t_waS t_spoons t_kind t_mark t_silver t_fresh t_texts t_tape t_tapeCount t_z t_waiting t_waitingCount e_weight e_known e_hour e_swS e_swW e_waS e_spoons e_kind e_mark e_silver e_fresh e_texts e_tape e_tapeCount e_z e_waiting e_waitingCount L tx tst) sz) rR (wX cA xd vd sd nd hd td ed kd images errorsR fewest vspoon vmark vcount vbodies sbits slens snum h_weight h_known h_hour h_swS h_swW h_waS h_spoons h_kind h_mark h_silver h_fresh h_texts h_tape h_tapeCount h_z h_waiting h_waitingCount t_weightR t_knownR t_hourR t_swSR t_swWR t_waSR t_spoonsR t_kindR t_markR t_silverR t_freshR t_textsR t_tape t_tapeCount t_z t_waiting t_waitingCount e_weight e_known e_hour e_swS e_swW e_waS e_spoons e_kind e_mark e_silver e_fresh e_texts e_tape e_tapeCount e_z e_waiting e_waitingCount L tx tstR)) 0 0 (va_A (wX cA xd vd sd nd hd td ed kd images errors fewest vspoon vmark vcount vbodies sbits slens snum h_weight h_known h_hour h_swS h_swW h_waS h_spoons h_kind h_mark h_silver h_fresh h_texts h_tape h_tapeCount h_z h_waiting h_waitingCount t_weight t_known t_hour t_swS t_swW t_waS t_spoons t_kind t_mark t_silver t_fresh t_texts t_tape t_tapeCount t_z t_waiting t_waitingCount e_weight e_known e_hour e_swS e_swW e_waS e_spoons e_kind e_mark e_silver e_fresh e_texts e_tape e_tapeCount e_z e_waiting e_waitingCount L tx tst) sz) := by
  refine ent (cc := cX11_washFor) (maxL := 6) (ret := (some .int)) (fun A => QI D (tyC cA) A rR (wX cA xd vd sd nd hd td ed kd images errorsR fewest vspoon vmark vcount vbodies sbits slens snum h_weight h_known h_hour h_swS h_swW h_waS h_spoons h_kind h_mark h_silver h_fresh h_texts h_tape h_tapeCount h_z h_waiting h_waitingCount t_weightR t_knownR t_hourR t_swSR t_swWR t_waSR t_spoonsR t_kindR t_markR t_silverR t_freshR t_textsR t_tape t_tapeCount t_z t_waiting t_waitingCount e_weight e_known e_hour e_swS e_swW e_waS e_spoons e_kind e_mark e_silver e_fresh e_texts e_tape e_tapeCount e_z e_waiting e_waitingCount L tx tstR)) (by decide +kernel) rfl (Nat.le_of_ble_eq_true rfl) ?_
  intro p e s m args below meth c A ls H hx hb hml hr hlk hts hown hA hK hE hP hD hS hv hmm
  have hv : lv_has ls 6 [(0, .ref (xd 0)), (1, .int a), (2, .int n)] := hv
  have in_3 : ∀ w ∈ u_ws RX3 TX3 18, w ∈ wsX11_washFor := fun _ h => List.mem_cons_of_mem _ (List.mem_append_left _ (List.mem_append_right _ h))
  have in_11 : ∀ w ∈ u_ws RX11 TX11 9, w ∈ wsX11_washFor := fun _ h => List.mem_cons_of_mem _ (List.mem_append_left _ (List.mem_append_left _ (List.mem_append_right _ h)))
  have w_0 := hts (.constant RX11 78 (-1000000001)) (List.mem_of_getElem? (i := 1) rfl)
  have w_1 := hts (.fieldLink RX11 43 "SpoonsLast" "thought" "LSpoonsLast$House;") (List.mem_of_getElem? (i := 2) rfl)
  have w_2 := hts (.fieldLink RX11 39 "SpoonsLast" "house" "LSpoonsLast$House;") (List.mem_of_getElem? (i := 3) rfl)
  have w_3 := hts (.fieldLink RX11 108 "SpoonsLast$House" "washSpoon" "[I") (List.mem_of_getElem? (i := 4) rfl)
  have w_4 := hts (.fieldLink RX11 86 "SpoonsLast$House" "known" "I") (List.mem_of_getElem? (i := 5) rfl)
  generalize hQ : MQ below _ args s 0 0 A = Q
  have C_32 : ∀ (v1_32 : Int32) (v2_32 : Int32) (v3_32 : Int32) (v4_32 : Int32) (v5_32 : Int32) (errors_32 : Nat → Int32) (t_weight_32 : Nat → Int32) (t_known_32 : Int32) (t_hour_32 : Int32) (t_swS_32 : Nat → Int32) (t_swW_32 : Nat → Int32) (t_waS_32 : Nat → Int32) (t_spoons_32 : Int32) (t_kind_32 : Nat → Int32) (t_mark_32 : Nat → Int32) (t_silver_32 : Nat → Int32) (t_fresh_32 : Nat → Int64) (t_texts_32 : Nat → Option Nat) (tst_32 : Nat → Nat → Int32), fX11_washFor_32 v1_32 v2_32 v3_32 v4_32 v5_32 errors_32 h_weight h_known h_hour h_swS h_swW h_waS h_spoons h_kind h_mark h_silver h_fresh h_texts t_weight_32 t_known_32 t_hour_32 t_swS_32 t_swW_32 t_waS_32 t_spoons_32 t_kind_32 t_mark_32 t_silver_32 t_fresh_32 t_texts_32 L tx tst_32 = some (rR, errorsR, t_weightR, t_knownR, t_hourR, t_swSR, t_swWR, t_waSR, t_spoonsR, t_kindR, t_markR, t_silverR, t_freshR, t_textsR, tstR) → WW p l e ({ frames := 6, cells := 0, slots := 0, locals := 141 } : Room) s m args below meth c D A 0 0 Q (wX cA xd vd sd nd hd td ed kd images errors_32 fewest vspoon vmark vcount vbodies sbits slens snum h_weight h_known h_hour h_swS h_swW h_waS h_spoons h_kind h_mark h_silver h_fresh h_texts h_tape h_tapeCount h_z h_waiting h_waitingCount t_weight_32 t_known_32 t_hour_32 t_swS_32 t_swW_32 t_waS_32 t_spoons_32 t_kind_32 t_mark_32 t_silver_32 t_fresh_32 t_texts_32 t_tape t_tapeCount t_z t_waiting t_waitingCount e_weight e_known e_hour e_swS e_swW e_waS e_spoons e_kind e_mark e_silver e_fresh e_texts e_tape e_tapeCount e_z e_waiting e_waitingCount L tx tst_32) 6 [(0, .ref (xd 0)), (1, .int v1_32), (2, .int v2_32), (3, .int v3_32), (4, .int v4_32), (5, .int v5_32)] 32 [] := by
    intro v1_32 v2_32 v3_32 v4_32 v5_32 errors_32 t_weight_32 t_known_32 t_hour_32 t_swS_32 t_swW_32 t_waS_32 t_spoons_32 t_kind_32 t_mark_32 t_silver_32 t_fresh_32 t_texts_32 tst_32 h
    unfold fX11_washFor_32 at h
    obtain ⟨⟨v3_32r, v4_32r, v5_32r, t_weight_32r, t_known_32r, t_hour_32r, t_swS_32r, t_swW_32r, t_waS_32r, t_spoons_32r, t_kind_32r, t_mark_32r, t_silver_32r, t_fresh_32r, t_texts_32r, tst_32r⟩, ho, h⟩ := bd_ex h
    have LE : WW p l e ({ frames := 6, cells := 0, slots := 0, locals := 141 } : Room) s m args below meth c D A 0 0 Q (wX cA xd vd sd nd hd td ed kd images errors_32 fewest vspoon vmark vcount vbodies sbits slens snum h_weight h_known h_hour h_swS h_swW h_waS h_spoons h_kind h_mark h_silver h_fresh h_texts h_tape h_tapeCount h_z h_waiting h_waitingCount t_weight_32r t_known_32r t_hour_32r t_swS_32r t_swW_32r t_waS_32r t_spoons_32r t_kind_32r t_mark_32r t_silver_32r t_fresh_32r t_texts_32r t_tape t_tapeCount t_z t_waiting t_waitingCount e_weight e_known e_hour e_swS e_swW e_waS e_spoons e_kind e_mark e_silver e_fresh e_texts e_tape e_tapeCount e_z e_waiting e_waitingCount L tx tst_32r) 6 [(3, .int v3_32r)] 105 [] := by
      intro H locs ls hP hD hS hv
      refine lv_iload_n hx hb dX11_washFor_105 rfl (lv_at hv 0 rfl) ?_
      refine lv_iconst (v := (1 : Int32)) hx hb dX11_washFor_106 (by decide) ?_
      refine lv_iadd hx hb dX11_washFor_107 ?_
      have h := Option.some.inj h
      have ee0 : (v3_32r + (1 : Int32)) = rR := congrArg (fun q => q.1) h
      have ee1 : errors_32 = errorsR := congrArg (fun q => q.2.1) h
      have ee2 : t_weight_32r = t_weightR := congrArg (fun q => q.2.2.1) h
      have ee3 : t_known_32r = t_knownR := congrArg (fun q => q.2.2.2.1) h
      have ee4 : t_hour_32r = t_hourR := congrArg (fun q => q.2.2.2.2.1) h
      have ee5 : t_swS_32r = t_swSR := congrArg (fun q => q.2.2.2.2.2.1) h
      have ee6 : t_swW_32r = t_swWR := congrArg (fun q => q.2.2.2.2.2.2.1) h
      have ee7 : t_waS_32r = t_waSR := congrArg (fun q => q.2.2.2.2.2.2.2.1) h
      have ee8 : t_spoons_32r = t_spoonsR := congrArg (fun q => q.2.2.2.2.2.2.2.2.1) h
      have ee9 : t_kind_32r = t_kindR := congrArg (fun q => q.2.2.2.2.2.2.2.2.2.1) h
      have ee10 : t_mark_32r = t_markR := congrArg (fun q => q.2.2.2.2.2.2.2.2.2.2.1) h
      have ee11 : t_silver_32r = t_silverR := congrArg (fun q => q.2.2.2.2.2.2.2.2.2.2.2.1) h
      have ee12 : t_fresh_32r = t_freshR := congrArg (fun q => q.2.2.2.2.2.2.2.2.2.2.2.2.1) h
      have ee13 : t_texts_32r = t_textsR := congrArg (fun q => q.2.2.2.2.2.2.2.2.2.2.2.2.2.1) h
      have ee14 : tst_32r = tstR := congrArg (fun q => q.2.2.2.2.2.2.2.2.2.2.2.2.2.2) h
      subst ee0
      subst ee1
      subst ee2
      subst ee3
      subst ee4
      subst ee5
      subst ee6
      subst ee7
      subst ee8
      subst ee9
      subst ee10
      subst ee11
      subst ee12
      subst ee13
      subst ee14
      rw [← hQ]
      exact retI hx hb hr hlk hK hP hD hS dX11_washFor_108 ⟨Nat.le_of_ble_eq_true rfl, Nat.le_of_ble_eq_true rfl⟩
    have LB : ∀ (nf : Nat) (v3_32b : Int32) (v4_32b : Int32) (v5_32b : Int32) (t_weight_32b : Nat → Int32) (t_known_32b : Int32) (t_hour_32b : Int32) (t_swS_32b : Nat → Int32) (t_swW_32b : Nat → Int32) (t_waS_32b : Nat → Int32) (t_spoons_32b : Int32) (t_kind_32b : Nat → Int32) (t_mark_32b : Nat → Int32) (t_silver_32b : Nat → Int32) (t_fresh_32b : Nat → Int64) (t_texts_32b : Nat → Option Nat) (tst_32b : Nat → Nat → Int32), lp (fun σ : Int32 × Int32 × Int32 × (Nat → Int32) × Int32 × Int32 × (Nat → Int32) × (Nat → Int32) × (Nat → Int32) × Int32 × (Nat → Int32) × (Nat → Int32) × (Nat → Int32) × (Nat → Int64) × (Nat → Option Nat) × (Nat → Nat → Int32) => fX11_washFor_32B v1_32 v2_32 errors_32 h_weight h_known h_hour h_swS h_swW h_waS h_spoons h_kind h_mark h_silver h_fresh h_texts L tx (σ.1) (σ.2.1) (σ.2.2.1) (σ.2.2.2.1) (σ.2.2.2.2.1) (σ.2.2.2.2.2.1) (σ.2.2.2.2.2.2.1) (σ.2.2.2.2.2.2.2.1) (σ.2.2.2.2.2.2.2.2.1) (σ.2.2.2.2.2.2.2.2.2.1) (σ.2.2.2.2.2.2.2.2.2.2.1) (σ.2.2.2.2.2.2.2.2.2.2.2.1) (σ.2.2.2.2.2.2.2.2.2.2.2.2.1) (σ.2.2.2.2.2.2.2.2.2.2.2.2.2.1) (σ.2.2.2.2.2.2.2.2.2.2.2.2.2.2.1) (σ.2.2.2.2.2.2.2.2.2.2.2.2.2.2.2)) nf (v3_32b, v4_32b, v5_32b, t_weight_32b, t_known_32b, t_hour_32b, t_swS_32b, t_swW_32b, t_waS_32b, t_spoons_32b, t_kind_32b, t_mark_32b, t_silver_32b, t_fresh_32b, t_texts_32b, tst_32b) = some (v3_32r, v4_32r, v5_32r, t_weight_32r, t_known_32r, t_hour_32r, t_swS_32r, t_swW_32r, t_waS_32r, t_spoons_32r, t_kind_32r, t_mark_32r, t_silver_32r, t_fresh_32r, t_texts_32r, tst_32r) → WW p l e ({ frames := 6, cells := 0, slots := 0, locals := 141 } : Room) s m args below meth c D A 0 0 Q (wX cA xd vd sd nd hd td ed kd images errors_32 fewest vspoon vmark vcount vbodies sbits slens snum h_weight h_known h_hour h_swS h_swW h_waS h_spoons h_kind h_mark h_silver h_fresh h_texts h_tape h_tapeCount h_z h_waiting h_waitingCount t_weight_32b t_known_32b t_hour_32b t_swS_32b t_swW_32b t_waS_32b t_spoons_32b t_kind_32b t_mark_32b t_silver_32b t_fresh_32b t_texts_32b t_tape t_tapeCount t_z t_waiting t_waitingCount e_weight e_known e_hour e_swS e_swW e_waS e_spoons e_kind e_mark e_silver e_fresh e_texts e_tape e_tapeCount e_z e_waiting e_waitingCount L tx tst_32b) 6 [(0, .ref (xd 0)), (1, .int v1_32), (2, .int v2_32), (3, .int v3_32b), (4, .int v4_32b), (5, .int v5_32b)] 32 [] := by
      intro nf
      induction nf with
      | zero => intro v3_32b v4_32b v5_32b t_weight_32b t_known_32b t_hour_32b t_swS_32b t_swW_32b t_waS_32b t_spoons_32b t_kind_32b t_mark_32b t_silver_32b t_fresh_32b t_texts_32b tst_32b hl; cases hl
      | succ nf ih =>
        intro v3_32b v4_32b v5_32b t_weight_32b t_known_32b t_hour_32b t_swS_32b t_swW_32b t_waS_32b t_spoons_32b t_kind_32b t_mark_32b t_silver_32b t_fresh_32b t_texts_32b tst_32b hl
        obtain ⟨x, h, hl⟩ := lp_ex hl
        have h : fX11_washFor_32B v1_32 v2_32 errors_32 h_weight h_known h_hour h_swS h_swW h_waS h_spoons h_kind h_mark h_silver h_fresh h_texts L tx v3_32b v4_32b v5_32b t_weight_32b t_known_32b t_hour_32b t_swS_32b t_swW_32b t_waS_32b t_spoons_32b t_kind_32b t_mark_32b t_silver_32b t_fresh_32b t_texts_32b tst_32b = some x := h
        unfold fX11_washFor_32B at h
        have C_99 : ∀ (v3_99 : Int32) (v4_99 : Int32) (v5_99 : Int32) (t_weight_99 : Nat → Int32) (t_known_99 : Int32) (t_hour_99 : Int32) (t_swS_99 : Nat → Int32) (t_swW_99 : Nat → Int32) (t_waS_99 : Nat → Int32) (t_spoons_99 : Int32) (t_kind_99 : Nat → Int32) (t_mark_99 : Nat → Int32) (t_silver_99 : Nat → Int32) (t_fresh_99 : Nat → Int64) (t_texts_99 : Nat → Option Nat) (tst_99 : Nat → Nat → Int32) (x : (Int32 × Int32 × Int32 × (Nat → Int32) × Int32 × Int32 × (Nat → Int32) × (Nat → Int32) × (Nat → Int32) × Int32 × (Nat → Int32) × (Nat → Int32) × (Nat → Int32) × (Nat → Int64) × (Nat → Option Nat) × (Nat → Nat → Int32)) ⊕ (Int32 × Int32 × Int32 × (Nat → Int32) × Int32 × Int32 × (Nat → Int32) × (Nat → Int32) × (Nat → Int32) × Int32 × (Nat → Int32) × (Nat → Int32) × (Nat → Int32) × (Nat → Int64) × (Nat → Option Nat) × (Nat → Nat → Int32))), fX11_washFor_99 v1_32 v2_32 v3_99 v4_99 v5_99 errors_32 h_weight h_known h_hour h_swS h_swW h_waS h_spoons h_kind h_mark h_silver h_fresh h_texts t_weight_99 t_known_99 t_hour_99 t_swS_99 t_swW_99 t_waS_99 t_spoons_99 t_kind_99 t_mark_99 t_silver_99 t_fresh_99 t_texts_99 L tx tst_99 = some x → lpk (fun σ : Int32 × Int32 × Int32 × (Nat → Int32) × Int32 × Int32 × (Nat → Int32) × (Nat → Int32) × (Nat → Int32) × Int32 × (Nat → Int32) × (Nat → Int32) × (Nat → Int32) × (Nat → Int64) × (Nat → Option Nat) × (Nat → Nat → Int32) => fX11_washFor_32B v1_32 v2_32 errors_32 h_weight h_known h_hour h_swS h_swW h_waS h_spoons h_kind h_mark h_silver h_fresh h_texts L tx (σ.1) (σ.2.1) (σ.2.2.1) (σ.2.2.2.1) (σ.2.2.2.2.1) (σ.2.2.2.2.2.1) (σ.2.2.2.2.2.2.1) (σ.2.2.2.2.2.2.2.1) (σ.2.2.2.2.2.2.2.2.1) (σ.2.2.2.2.2.2.2.2.2.1) (σ.2.2.2.2.2.2.2.2.2.2.1) (σ.2.2.2.2.2.2.2.2.2.2.2.1) (σ.2.2.2.2.2.2.2.2.2.2.2.2.1) (σ.2.2.2.2.2.2.2.2.2.2.2.2.2.1) (σ.2.2.2.2.2.2.2.2.2.2.2.2.2.2.1) (σ.2.2.2.2.2.2.2.2.2.2.2.2.2.2.2)) nf x = some (v3_32r, v4_32r, v5_32r, t_weight_32r, t_known_32r, t_hour_32r, t_swS_32r, t_swW_32r, t_waS_32r, t_spoons_32r, t_kind_32r, t_mark_32r, t_silver_32r, t_fresh_32r, t_texts_32r, tst_32r) → WW p l e ({ frames := 6, cells := 0, slots := 0, locals := 141 } : Room) s m args below meth c D A 0 0 Q (wX cA xd vd sd nd hd td ed kd images errors_32 fewest vspoon vmark vcount vbodies sbits slens snum h_weight h_known h_hour h_swS h_swW h_waS h_spoons h_kind h_mark h_silver h_fresh h_texts h_tape h_tapeCount h_z h_waiting h_waitingCount t_weight_99 t_known_99 t_hour_99 t_swS_99 t_swW_99 t_waS_99 t_spoons_99 t_kind_99 t_mark_99 t_silver_99 t_fresh_99 t_texts_99 t_tape t_tapeCount t_z t_waiting t_waitingCount e_weight e_known e_hour e_swS e_swW e_waS e_spoons e_kind e_mark e_silver e_fresh e_texts e_tape e_tapeCount e_z e_waiting e_waitingCount L tx tst_99) 6 [(0, .ref (xd 0)), (1, .int v1_32), (2, .int v2_32), (3, .int v3_99), (4, .int v4_99), (5, .int v5_99)] 99 [] := by
          intro v3_99 v4_99 v5_99 t_weight_99 t_known_99 t_hour_99 t_swS_99 t_swW_99 t_waS_99 t_spoons_99 t_kind_99 t_mark_99 t_silver_99 t_fresh_99 t_texts_99 tst_99 x h hl
          unfold fX11_washFor_99 at h
          intro H locs ls hP hD hS hv
          obtain ⟨y_35, ey_35, h⟩ := bnd_ex h
          refine lv_iinc (v := y_35) (lv' := [(5, .int y_35), (0, .ref (xd 0)), (1, .int v1_32), (2, .int v2_32), (3, .int v3_99), (4, .int v4_99)]) hx hb dX11_washFor_99 hv (k := 5) rfl (by rw [ey_35]; rfl) (by decide) rfl (fun ls hv => ?_)
          refine lv_goto (tgt := 32) hx hb dX11_washFor_102 (by decide) ?_
          cases h
          exact ih v3_99 v4_99 y_35 t_weight_99 t_known_99 t_hour_99 t_swS_99 t_swW_99 t_waS_99 t_spoons_99 t_kind_99 t_mark_99 t_silver_99 t_fresh_99 t_texts_99 tst_99 hl _ _ _ hP hD hS (lv_sub hv [1, 2, 3, 4, 5, 0] rfl)
        intro H locs ls hP hD hS hv
        refine lv_iload hx hb dX11_washFor_32 (lv_at hv 5 rfl) ?_
        refine lv_bipush (v := (8 : Int32)) hx hb dX11_washFor_34 (by decide) ?_
        refine lv_icmp_ge (tgt := 105) hx hb dX11_washFor_36 (by decide) (fun c_10 => ?_) (fun c_10 => ?_)
        · have h := ite_t c_10 h
          cases h
          have hl : some (v3_32b, v4_32b, v5_32b, t_weight_32b, t_known_32b, t_hour_32b, t_swS_32b, t_swW_32b, t_waS_32b, t_spoons_32b, t_kind_32b, t_mark_32b, t_silver_32b, t_fresh_32b, t_texts_32b, tst_32b) = some (v3_32r, v4_32r, v5_32r, t_weight_32r, t_known_32r, t_hour_32r, t_swS_32r, t_swW_32r, t_waS_32r, t_spoons_32r, t_kind_32r, t_mark_32r, t_silver_32r, t_fresh_32r, t_texts_32r, tst_32r) := hl
          have hl := Option.some.inj hl
          have ee0 : v3_32b = v3_32r := congrArg (fun q => q.1) hl
          have ee1 : v4_32b = v4_32r := congrArg (fun q => q.2.1) hl
          have ee2 : v5_32b = v5_32r := congrArg (fun q => q.2.2.1) hl
          have ee3 : t_weight_32b = t_weight_32r := congrArg (fun q => q.2.2.2.1) hl
          have ee4 : t_known_32b = t_known_32r := congrArg (fun q => q.2.2.2.2.1) hl
          have ee5 : t_hour_32b = t_hour_32r := congrArg (fun q => q.2.2.2.2.2.1) hl
          have ee6 : t_swS_32b = t_swS_32r := congrArg (fun q => q.2.2.2.2.2.2.1) hl
          have ee7 : t_swW_32b = t_swW_32r := congrArg (fun q => q.2.2.2.2.2.2.2.1) hl
          have ee8 : t_waS_32b = t_waS_32r := congrArg (fun q => q.2.2.2.2.2.2.2.2.1) hl
          have ee9 : t_spoons_32b = t_spoons_32r := congrArg (fun q => q.2.2.2.2.2.2.2.2.2.1) hl
          have ee10 : t_kind_32b = t_kind_32r := congrArg (fun q => q.2.2.2.2.2.2.2.2.2.2.1) hl
          have ee11 : t_mark_32b = t_mark_32r := congrArg (fun q => q.2.2.2.2.2.2.2.2.2.2.2.1) hl
          have ee12 : t_silver_32b = t_silver_32r := congrArg (fun q => q.2.2.2.2.2.2.2.2.2.2.2.2.1) hl
          have ee13 : t_fresh_32b = t_fresh_32r := congrArg (fun q => q.2.2.2.2.2.2.2.2.2.2.2.2.2.1) hl
          have ee14 : t_texts_32b = t_texts_32r := congrArg (fun q => q.2.2.2.2.2.2.2.2.2.2.2.2.2.2.1) hl
          have ee15 : tst_32b = tst_32r := congrArg (fun q => q.2.2.2.2.2.2.2.2.2.2.2.2.2.2.2) hl
          subst ee0
          subst ee1
          subst ee2
          subst ee3
          subst ee4
          subst ee5
          subst ee6
          subst ee7
          subst ee8
          subst ee9
          subst ee10
          subst ee11
          subst ee12
          subst ee13
          subst ee14
          subst ee15
          exact LE _ _ _ hP hD hS (lv_sub hv [3] rfl)
        · have h := ite_f c_10 h
          refine lv_aload_n hx hb dX11_washFor_39 rfl (lv_at hv 0 rfl) ?_
          refine va_get (D := D) (ci := 11) (v := .ref (td 0)) (C := RX11) (T := TX11) (N := 9) hx hb hts in_11 hown hK hP 0 rfl rfl 1 (by decide) w_1 (fun _ h9 => h9) rfl dX11_washFor_40 ?_
          refine lv_aload_n hx hb dX11_washFor_43 rfl (lv_at hv 0 rfl) ?_
          refine va_get (D := D) (ci := 11) (v := .ref (hd 0)) (C := RX11) (T := TX11) (N := 9) hx hb hts in_11 hown hK hP 0 rfl rfl 0 (by decide) w_2 (fun _ h9 => h9) rfl dX11_washFor_44 ?_
          obtain ⟨⟨t_weight_11, t_known_12, t_hour_13, t_swS_14, t_swW_15, t_waS_16, t_spoons_17, t_kind_18, t_mark_19, t_silver_20, t_fresh_21, t_texts_22⟩, hf_23, h⟩ := bd_ex h
          have sb : Sb D A H (wHH cA td hd kd t_weight_32b t_known_32b t_hour_32b t_swS_32b t_swW_32b t_waS_32b t_spoons_32b t_kind_32b t_mark_32b t_silver_32b t_fresh_32b t_texts_32b t_tape t_tapeCount t_z t_waiting t_waitingCount h_weight h_known h_hour h_swS h_swW h_waS h_spoons h_kind h_mark h_silver h_fresh h_texts h_tape h_tapeCount h_z h_waiting h_waitingCount L tx tst_32b) := sbXth hP hD hS hA
          refine calV (va_runV (As := [.ref (hd 0)]) (rest := []) ⟨hx, hb, hml, hown, hts⟩ (c_X3_follow l G D cA td hd kd _ t_weight_32b t_known_32b t_hour_32b t_swS_32b t_swW_32b t_waS_32b t_spoons_32b t_kind_32b t_mark_32b t_silver_32b t_fresh_32b t_texts_32b t_tape t_tapeCount t_z t_waiting t_waitingCount h_weight h_known h_hour h_swS h_swW h_waS h_spoons h_kind h_mark h_silver h_fresh h_texts h_tape h_tapeCount h_z h_waiting h_waitingCount L tx tst_32b t_weight_11 t_known_12 t_hour_13 t_swS_14 t_swW_15 t_waS_16 t_spoons_17 t_kind_18 t_mark_19 t_silver_20 t_fresh_21 t_texts_22 hf_23) (cwV 1 hts gX11_washFor_X3_follow rfl rfl rfl (by decide +kernel) ⟨Nat.le_of_ble_eq_true rfl, Nat.le_of_ble_eq_true rfl⟩) (pvV hE hK hS sb (va_recv hK hP (ci := 3) (q0 := 26) rfl rfl)) rfl rfl hv.1 rfl (lv_room (Nat.le_of_ble_eq_true rfl)) dX11_washFor_47 ⟨Nat.le_of_ble_eq_true rfl, Nat.le_of_ble_eq_true rfl⟩) hS sb (jnXth hP hD) (fun H locs hP hD hS => ?_)
          have hP : va_P D vwCl (wX cA xd vd sd nd hd td ed kd images errors_32 fewest vspoon vmark vcount vbodies sbits slens snum h_weight h_known h_hour h_swS h_swW h_waS h_spoons h_kind h_mark h_silver h_fresh h_texts h_tape h_tapeCount h_z h_waiting h_waitingCount t_weight_11 t_known_12 t_hour_13 t_swS_14 t_swW_15 t_waS_16 t_spoons_17 t_kind_18 t_mark_19 t_silver_20 t_fresh_21 t_texts_22 t_tape t_tapeCount t_z t_waiting t_waitingCount e_weight e_known e_hour e_swS e_swW e_waS e_spoons e_kind e_mark e_silver e_fresh e_texts e_tape e_tapeCount e_z e_waiting e_waitingCount L tx tst_32b) H := hP
          have hD : va_D A (wX cA xd vd sd nd hd td ed kd images errors_32 fewest vspoon vmark vcount vbodies sbits slens snum h_weight h_known h_hour h_swS h_swW h_waS h_spoons h_kind h_mark h_silver h_fresh h_texts h_tape h_tapeCount h_z h_waiting h_waitingCount t_weight_11 t_known_12 t_hour_13 t_swS_14 t_swW_15 t_waS_16 t_spoons_17 t_kind_18 t_mark_19 t_silver_20 t_fresh_21 t_texts_22 t_tape t_tapeCount t_z t_waiting t_waitingCount e_weight e_known e_hour e_swS e_swW e_waS e_spoons e_kind e_mark e_silver e_fresh e_texts e_tape e_tapeCount e_z e_waiting e_waitingCount L tx tst_32b) := hD
          refine lv_aload_n hx hb dX11_washFor_50 rfl (lv_at hv 0 rfl) ?_
          refine va_get (D := D) (ci := 11) (v := .ref (td 0)) (C := RX11) (T := TX11) (N := 9) hx hb hts in_11 hown hK hP 0 rfl rfl 1 (by decide) w_1 (fun _ h9 => h9) rfl dX11_washFor_51 ?_
          refine va_get (D := D) (ci := 3) (v := .ref (td 7)) (C := RX3) (T := TX3) (N := 18) hx hb hts in_3 hown hK hP 26 rfl rfl 6 (by decide) w_3 (fun _ h9 => h9) rfl dX11_washFor_54 ?_
          refine lv_iload_n hx hb dX11_washFor_57 rfl (lv_at hv 1 rfl) ?_
          refine lv_iload hx hb dX11_washFor_58 (lv_at hv 5 rfl) ?_
          obtain ⟨c_24, h⟩ := ckI_ex h
          obtain ⟨t_waS_25, et_waS_25, h⟩ := bnd_ex h
          refine va_iast (D := D) hx hb hK hP hD hS 30 0 rfl rfl c_24 dX11_washFor_60 (fun H locs hP hD hS => ?_)
          rw [← et_waS_25] at hP hD
          have hP : va_P D vwCl (wX cA xd vd sd nd hd td ed kd images errors_32 fewest vspoon vmark vcount vbodies sbits slens snum h_weight h_known h_hour h_swS h_swW h_waS h_spoons h_kind h_mark h_silver h_fresh h_texts h_tape h_tapeCount h_z h_waiting h_waitingCount t_weight_11 t_known_12 t_hour_13 t_swS_14 t_swW_15 t_waS_25 t_spoons_17 t_kind_18 t_mark_19 t_silver_20 t_fresh_21 t_texts_22 t_tape t_tapeCount t_z t_waiting t_waitingCount e_weight e_known e_hour e_swS e_swW e_waS e_spoons e_kind e_mark e_silver e_fresh e_texts e_tape e_tapeCount e_z e_waiting e_waitingCount L tx tst_32b) H := hP
          have hD : va_D A (wX cA xd vd sd nd hd td ed kd images errors_32 fewest vspoon vmark vcount vbodies sbits slens snum h_weight h_known h_hour h_swS h_swW h_waS h_spoons h_kind h_mark h_silver h_fresh h_texts h_tape h_tapeCount h_z h_waiting h_waitingCount t_weight_11 t_known_12 t_hour_13 t_swS_14 t_swW_15 t_waS_25 t_spoons_17 t_kind_18 t_mark_19 t_silver_20 t_fresh_21 t_texts_22 t_tape t_tapeCount t_z t_waiting t_waitingCount e_weight e_known e_hour e_swS e_swW e_waS e_spoons e_kind e_mark e_silver e_fresh e_texts e_tape e_tapeCount e_z e_waiting e_waitingCount L tx tst_32b) := hD
          refine lv_aload_n hx hb dX11_washFor_61 rfl (lv_at hv 0 rfl) ?_
          refine va_get (D := D) (ci := 11) (v := .ref (td 0)) (C := RX11) (T := TX11) (N := 9) hx hb hts in_11 hown hK hP 0 rfl rfl 1 (by decide) w_1 (fun _ h9 => h9) rfl dX11_washFor_62 ?_
          refine lv_iload_n hx hb dX11_washFor_65 rfl (lv_at hv 2 rfl) ?_
          obtain ⟨⟨t_known_26, t_hour_27, t_silver_28, t_fresh_29, tst_30⟩, hf_31, h⟩ := bd_ex h
          have sb : Sb D A H (wH cA td kd t_weight_11 t_known_12 t_hour_13 t_swS_14 t_swW_15 t_waS_25 t_spoons_17 t_kind_18 t_mark_19 t_silver_20 t_fresh_21 t_texts_22 t_tape t_tapeCount t_z t_waiting t_waitingCount L tx tst_32b) := sbXt hP hD hS hA
          refine calV (va_runV (As := [.int v2_32]) (rest := []) ⟨hx, hb, hml, hown, hts⟩ (c_X3_passHours l G D cA td kd _ t_weight_11 t_known_12 t_hour_13 t_swS_14 t_swW_15 t_waS_25 t_spoons_17 t_kind_18 t_mark_19 t_silver_20 t_fresh_21 t_texts_22 t_tape t_tapeCount t_z t_waiting t_waitingCount L tx tst_32b v2_32 t_known_26 t_hour_27 t_silver_28 t_fresh_29 tst_30 hf_31) (cwV 1 hts gX11_washFor_X3_passHours rfl rfl rfl (by decide +kernel) ⟨Nat.le_of_ble_eq_true rfl, Nat.le_of_ble_eq_true rfl⟩) (pvV hE hK hS sb (va_recv hK hP (ci := 3) (q0 := 26) rfl rfl)) rfl rfl hv.1 rfl (lv_room (Nat.le_of_ble_eq_true rfl)) dX11_washFor_66 ⟨Nat.le_of_ble_eq_true rfl, Nat.le_of_ble_eq_true rfl⟩) hS sb (jnXt hP hD) (fun H locs hP hD hS => ?_)
          have hP : va_P D vwCl (wX cA xd vd sd nd hd td ed kd images errors_32 fewest vspoon vmark vcount vbodies sbits slens snum h_weight h_known h_hour h_swS h_swW h_waS h_spoons h_kind h_mark h_silver h_fresh h_texts h_tape h_tapeCount h_z h_waiting h_waitingCount t_weight_11 t_known_26 t_hour_27 t_swS_14 t_swW_15 t_waS_25 t_spoons_17 t_kind_18 t_mark_19 t_silver_28 t_fresh_29 t_texts_22 t_tape t_tapeCount t_z t_waiting t_waitingCount e_weight e_known e_hour e_swS e_swW e_waS e_spoons e_kind e_mark e_silver e_fresh e_texts e_tape e_tapeCount e_z e_waiting e_waitingCount L tx tst_30) H := hP
          have hD : va_D A (wX cA xd vd sd nd hd td ed kd images errors_32 fewest vspoon vmark vcount vbodies sbits slens snum h_weight h_known h_hour h_swS h_swW h_waS h_spoons h_kind h_mark h_silver h_fresh h_texts h_tape h_tapeCount h_z h_waiting h_waitingCount t_weight_11 t_known_26 t_hour_27 t_swS_14 t_swW_15 t_waS_25 t_spoons_17 t_kind_18 t_mark_19 t_silver_28 t_fresh_29 t_texts_22 t_tape t_tapeCount t_z t_waiting t_waitingCount e_weight e_known e_hour e_swS e_swW e_waS e_spoons e_kind e_mark e_silver e_fresh e_texts e_tape e_tapeCount e_z e_waiting e_waitingCount L tx tst_30) := hD
          refine lv_aload_n hx hb dX11_washFor_69 rfl (lv_at hv 0 rfl) ?_
          refine va_get (D := D) (ci := 11) (v := .ref (td 0)) (C := RX11) (T := TX11) (N := 9) hx hb hts in_11 hown hK hP 0 rfl rfl 1 (by decide) w_1 (fun _ h9 => h9) rfl dX11_washFor_70 ?_
          refine va_get (D := D) (ci := 3) (v := .int t_known_26) (C := RX3) (T := TX3) (N := 18) hx hb hts in_3 hown hK hP 26 rfl rfl 2 (by decide) w_4 (fun _ h9 => h9) rfl dX11_washFor_73 ?_
          obtain ⟨r_32, hf_33, h⟩ := bd_ex h
          have sb := Sb.nil hP hD hS hA
          refine calI (va_runS (As := [.int t_known_26]) (rest := []) ⟨hx, hb, hml, hown, hts⟩ (c_J6_bitCount_0f7a4 l G D cA  _ t_known_26 r_32 hf_33) (va_cwS 1 hts gX11_washFor_J6_bitCount_0f7a4 rfl rfl rfl (by decide +kernel) ⟨Nat.le_of_ble_eq_true rfl, Nat.le_of_ble_eq_true rfl⟩) (pvS hE hK hS sb) rfl rfl hv.1 rfl (lv_room (Nat.le_of_ble_eq_true rfl)) dX11_washFor_76 ⟨Nat.le_of_ble_eq_true rfl, Nat.le_of_ble_eq_true rfl⟩) hS sb (Jn.nil hP hD) (fun H locs hP hD hS => ?_)
          have hP : va_P D vwCl (wX cA xd vd sd nd hd td ed kd images errors_32 fewest vspoon vmark vcount vbodies sbits slens snum h_weight h_known h_hour h_swS h_swW h_waS h_spoons h_kind h_mark h_silver h_fresh h_texts h_tape h_tapeCount h_z h_waiting h_waitingCount t_weight_11 t_known_26 t_hour_27 t_swS_14 t_swW_15 t_waS_25 t_spoons_17 t_kind_18 t_mark_19 t_silver_28 t_fresh_29 t_texts_22 t_tape t_tapeCount t_z t_waiting t_waitingCount e_weight e_known e_hour e_swS e_swW e_waS e_spoons e_kind e_mark e_silver e_fresh e_texts e_tape e_tapeCount e_z e_waiting e_waitingCount L tx tst_30) H := hP
          have hD : va_D A (wX cA xd vd sd nd hd td ed kd images errors_32 fewest vspoon vmark vcount vbodies sbits slens snum h_weight h_known h_hour h_swS h_swW h_waS h_spoons h_kind h_mark h_silver h_fresh h_texts h_tape h_tapeCount h_z h_waiting h_waitingCount t_weight_11 t_known_26 t_hour_27 t_swS_14 t_swW_15 t_waS_25 t_spoons_17 t_kind_18 t_mark_19 t_silver_28 t_fresh_29 t_texts_22 t_tape t_tapeCount t_z t_waiting t_waitingCount e_weight e_known e_hour e_swS e_swW e_waS e_spoons e_kind e_mark e_silver e_fresh e_texts e_tape e_tapeCount e_z e_waiting e_waitingCount L tx tst_30) := hD
          refine lv_iload hx hb dX11_washFor_79 (lv_at hv 4 rfl) ?_
          refine lv_icmp_ge (tgt := 99) hx hb dX11_washFor_81 (by decide) (fun c_34 => ?_) (fun c_34 => ?_)
          · have h := ite_t c_34 h
            exact C_99 v3_32b v4_32b v5_32b t_weight_11 t_known_26 t_hour_27 t_swS_14 t_swW_15 t_waS_25 t_spoons_17 t_kind_18 t_mark_19 t_silver_28 t_fresh_29 t_texts_22 tst_30 _ h hl _ _ _ hP hD hS (lv_sub hv [0, 1, 2, 3, 4, 5] rfl)
          · have h := ite_f c_34 h
            refine lv_aload_n hx hb dX11_washFor_84 rfl (lv_at hv 0 rfl) ?_
            refine va_get (D := D) (ci := 11) (v := .ref (td 0)) (C := RX11) (T := TX11) (N := 9) hx hb hts in_11 hown hK hP 0 rfl rfl 1 (by decide) w_1 (fun _ h9 => h9) rfl dX11_washFor_85 ?_
            refine va_get (D := D) (ci := 3) (v := .int t_known_26) (C := RX3) (T := TX3) (N := 18) hx hb hts in_3 hown hK hP 26 rfl rfl 2 (by decide) w_4 (fun _ h9 => h9) rfl dX11_washFor_88 ?_
            obtain ⟨r_36, hf_37, h⟩ := bd_ex h
            have sb := Sb.nil hP hD hS hA
            refine calI (va_runS (As := [.int t_known_26]) (rest := []) ⟨hx, hb, hml, hown, hts⟩ (c_J6_bitCount_0f7a4 l G D cA  _ t_known_26 r_36 hf_37) (va_cwS 1 hts gX11_washFor_J6_bitCount_0f7a4 rfl rfl rfl (by decide +kernel) ⟨Nat.le_of_ble_eq_true rfl, Nat.le_of_ble_eq_true rfl⟩) (pvS hE hK hS sb) rfl rfl hv.1 rfl (lv_room (Nat.le_of_ble_eq_true rfl)) dX11_washFor_91 ⟨Nat.le_of_ble_eq_true rfl, Nat.le_of_ble_eq_true rfl⟩) hS sb (Jn.nil hP hD) (fun H locs hP hD hS => ?_)
            have hP : va_P D vwCl (wX cA xd vd sd nd hd td ed kd images errors_32 fewest vspoon vmark vcount vbodies sbits slens snum h_weight h_known h_hour h_swS h_swW h_waS h_spoons h_kind h_mark h_silver h_fresh h_texts h_tape h_tapeCount h_z h_waiting h_waitingCount t_weight_11 t_known_26 t_hour_27 t_swS_14 t_swW_15 t_waS_25 t_spoons_17 t_kind_18 t_mark_19 t_silver_28 t_fresh_29 t_texts_22 t_tape t_tapeCount t_z t_waiting t_waitingCount e_weight e_known e_hour e_swS e_swW e_waS e_spoons e_kind e_mark e_silver e_fresh e_texts e_tape e_tapeCount e_z e_waiting e_waitingCount L tx tst_30) H := hP
            have hD : va_D A (wX cA xd vd sd nd hd td ed kd images errors_32 fewest vspoon vmark vcount vbodies sbits slens snum h_weight h_known h_hour h_swS h_swW h_waS h_spoons h_kind h_mark h_silver h_fresh h_texts h_tape h_tapeCount h_z h_waiting h_waitingCount t_weight_11 t_known_26 t_hour_27 t_swS_14 t_swW_15 t_waS_25 t_spoons_17 t_kind_18 t_mark_19 t_silver_28 t_fresh_29 t_texts_22 t_tape t_tapeCount t_z t_waiting t_waitingCount e_weight e_known e_hour e_swS e_swW e_waS e_spoons e_kind e_mark e_silver e_fresh e_texts e_tape e_tapeCount e_z e_waiting e_waitingCount L tx tst_30) := hD
            refine lv_istore (lv' := [(4, .int r_36), (0, .ref (xd 0)), (1, .int v1_32), (2, .int v2_32), (3, .int v3_32b), (5, .int v5_32b)]) hx hb dX11_washFor_94 hv (by decide) rfl (fun ls hv => ?_)
            refine lv_iload hx hb dX11_washFor_96 (lv_at hv 5 rfl) ?_
            refine lv_istore_n (lv' := [(3, .int v5_32b), (4, .int r_36), (0, .ref (xd 0)), (1, .int v1_32), (2, .int v2_32), (5, .int v5_32b)]) hx hb dX11_washFor_98 rfl hv (by decide) rfl (fun ls hv => ?_)
            exact C_99 v5_32b r_36 v5_32b t_weight_11 t_known_26 t_hour_27 t_swS_14 t_swW_15 t_waS_25 t_spoons_17 t_kind_18 t_mark_19 t_silver_28 t_fresh_29 t_texts_22 tst_30 _ h hl _ _ _ hP hD hS (lv_sub hv [2, 3, 4, 0, 1, 5] rfl)
    exact LB FU v3_32 v4_32 v5_32 t_weight_32 t_known_32 t_hour_32 t_swS_32 t_swW_32 t_waS_32 t_spoons_32 t_kind_32 t_mark_32 t_silver_32 t_fresh_32 t_texts_32 tst_32 ho
  have hP : va_P D vwCl (wX cA xd vd sd nd hd td ed kd images errors fewest vspoon vmark vcount vbodies sbits slens snum h_weight h_known h_hour h_swS h_swW h_waS h_spoons h_kind h_mark h_silver h_fresh h_texts h_tape h_tapeCount h_z h_waiting h_waitingCount t_weight t_known t_hour t_swS t_swW t_waS t_spoons t_kind t_mark t_silver t_fresh t_texts t_tape t_tapeCount t_z t_waiting t_waitingCount e_weight e_known e_hour e_swS e_swW e_waS e_spoons e_kind e_mark e_silver e_fresh e_texts e_tape e_tapeCount e_z e_waiting e_waitingCount L tx tst) H := hP
  unfold fX11_washFor at h
  refine lv_iload_n hx hb dX11_washFor_0 rfl (lv_at hv 1 rfl) ?_
  refine lv_iconst (v := (0 : Int32)) hx hb dX11_washFor_1 (by decide) ?_
  refine lv_iconst (v := (3 : Int32)) hx hb dX11_washFor_2 (by decide) ?_
  obtain ⟨r_1, hf_2, h⟩ := bd_ex h
  have sb := Sb.nil hP hD hS hA
  refine calI (va_runS (As := [.int a, .int (0 : Int32), .int (3 : Int32)]) (rest := []) ⟨hx, hb, hml, hown, hts⟩ (c_X11_within l G D cA  _ a (0 : Int32) (3 : Int32) r_1 hf_2) (va_cwS 3 hts gX11_washFor_X11_within rfl rfl rfl (by decide +kernel) ⟨Nat.le_of_ble_eq_true rfl, Nat.le_of_ble_eq_true rfl⟩) (pvS hE hK hS sb) rfl rfl hv.1 rfl (lv_room (Nat.le_of_ble_eq_true rfl)) dX11_washFor_3 ⟨Nat.le_of_ble_eq_true rfl, Nat.le_of_ble_eq_true rfl⟩) hS sb (Jn.nil hP hD) (fun H locs hP hD hS => ?_)
  have hP : va_P D vwCl (wX cA xd vd sd nd hd td ed kd images errors fewest vspoon vmark vcount vbodies sbits slens snum h_weight h_known h_hour h_swS h_swW h_waS h_spoons h_kind h_mark h_silver h_fresh h_texts h_tape h_tapeCount h_z h_waiting h_waitingCount t_weight t_known t_hour t_swS t_swW t_waS t_spoons t_kind t_mark t_silver t_fresh t_texts t_tape t_tapeCount t_z t_waiting t_waitingCount e_weight e_known e_hour e_swS e_swW e_waS e_spoons e_kind e_mark e_silver e_fresh e_texts e_tape e_tapeCount e_z e_waiting e_waitingCount L tx tst) H := hP
  have hD : va_D A (wX cA xd vd sd nd hd td ed kd images errors fewest vspoon vmark vcount vbodies sbits slens snum h_weight h_known h_hour h_swS h_swW h_waS h_spoons h_kind h_mark h_silver h_fresh h_texts h_tape h_tapeCount h_z h_waiting h_waitingCount t_weight t_known t_hour t_swS t_swW t_waS t_spoons t_kind t_mark t_silver t_fresh t_texts t_tape t_tapeCount t_z t_waiting t_waitingCount e_weight e_known e_hour e_swS e_swW e_waS e_spoons e_kind e_mark e_silver e_fresh e_texts e_tape e_tapeCount e_z e_waiting e_waitingCount L tx tst) := hD
  refine lv_if_eq (tgt := 16) hx hb dX11_washFor_6 (by decide) (fun c_3 => ?_) (fun c_3 => ?_)
  · have h := ite_t c_3 h
    refine lv_aload_n hx hb dX11_washFor_16 rfl (lv_at hv 0 rfl) ?_
    refine lv_ldc (v := (-1000000001 : Int32)) hx hb hown w_0 dX11_washFor_17 ?_
    obtain ⟨⟨r_4, errors_5⟩, hf_6, h⟩ := bd_ex h
    have sb := Sb.same hP hD hS hA
    refine calI (va_runV (As := [.int (-1000000001 : Int32)]) (rest := []) ⟨hx, hb, hml, hown, hts⟩ (c_X11_refused l G D cA xd vd sd nd hd td ed kd _ images errors fewest vspoon vmark vcount vbodies sbits slens snum h_weight h_known h_hour h_swS h_swW h_waS h_spoons h_kind h_mark h_silver h_fresh h_texts h_tape h_tapeCount h_z h_waiting h_waitingCount t_weight t_known t_hour t_swS t_swW t_waS t_spoons t_kind t_mark t_silver t_fresh t_texts t_tape t_tapeCount t_z t_waiting t_waitingCount e_weight e_known e_hour e_swS e_swW e_waS e_spoons e_kind e_mark e_silver e_fresh e_texts e_tape e_tapeCount e_z e_waiting e_waitingCount L tx tst (-1000000001 : Int32) r_4 errors_5 hf_6) (cwV 1 hts gX11_washFor_X11_refused rfl rfl rfl (by decide +kernel) ⟨Nat.le_of_ble_eq_true rfl, Nat.le_of_ble_eq_true rfl⟩) (pvV hE hK hS sb (va_recv hK hP (ci := 11) (q0 := 0) rfl rfl)) rfl rfl hv.1 rfl (lv_room (Nat.le_of_ble_eq_true rfl)) dX11_washFor_19 ⟨Nat.le_of_ble_eq_true rfl, Nat.le_of_ble_eq_true rfl⟩) hS sb (Jn.same sb) (fun H locs hP hD hS => ?_)
    have hP : va_P D vwCl (wX cA xd vd sd nd hd td ed kd images errors_5 fewest vspoon vmark vcount vbodies sbits slens snum h_weight h_known h_hour h_swS h_swW h_waS h_spoons h_kind h_mark h_silver h_fresh h_texts h_tape h_tapeCount h_z h_waiting h_waitingCount t_weight t_known t_hour t_swS t_swW t_waS t_spoons t_kind t_mark t_silver t_fresh t_texts t_tape t_tapeCount t_z t_waiting t_waitingCount e_weight e_known e_hour e_swS e_swW e_waS e_spoons e_kind e_mark e_silver e_fresh e_texts e_tape e_tapeCount e_z e_waiting e_waitingCount L tx tst) H := hP
    have hD : va_D A (wX cA xd vd sd nd hd td ed kd images errors_5 fewest vspoon vmark vcount vbodies sbits slens snum h_weight h_known h_hour h_swS h_swW h_waS h_spoons h_kind h_mark h_silver h_fresh h_texts h_tape h_tapeCount h_z h_waiting h_waitingCount t_weight t_known t_hour t_swS t_swW t_waS t_spoons t_kind t_mark t_silver t_fresh t_texts t_tape t_tapeCount t_z t_waiting t_waitingCount e_weight e_known e_hour e_swS e_swW e_waS e_spoons e_kind e_mark e_silver e_fresh e_texts e_tape e_tapeCount e_z e_waiting e_waitingCount L tx tst) := hD
    have h := Option.some.inj h
    have ee0 : r_4 = rR := congrArg (fun q => q.1) h
    have ee1 : errors_5 = errorsR := congrArg (fun q => q.2.1) h
    have ee2 : t_weight = t_weightR := congrArg (fun q => q.2.2.1) h
    have ee3 : t_known = t_knownR := congrArg (fun q => q.2.2.2.1) h
    have ee4 : t_hour = t_hourR := congrArg (fun q => q.2.2.2.2.1) h
    have ee5 : t_swS = t_swSR := congrArg (fun q => q.2.2.2.2.2.1) h
    have ee6 : t_swW = t_swWR := congrArg (fun q => q.2.2.2.2.2.2.1) h
    have ee7 : t_waS = t_waSR := congrArg (fun q => q.2.2.2.2.2.2.2.1) h
    have ee8 : t_spoons = t_spoonsR := congrArg (fun q => q.2.2.2.2.2.2.2.2.1) h
    have ee9 : t_kind = t_kindR := congrArg (fun q => q.2.2.2.2.2.2.2.2.2.1) h
    have ee10 : t_mark = t_markR := congrArg (fun q => q.2.2.2.2.2.2.2.2.2.2.1) h
    have ee11 : t_silver = t_silverR := congrArg (fun q => q.2.2.2.2.2.2.2.2.2.2.2.1) h
    have ee12 : t_fresh = t_freshR := congrArg (fun q => q.2.2.2.2.2.2.2.2.2.2.2.2.1) h
    have ee13 : t_texts = t_textsR := congrArg (fun q => q.2.2.2.2.2.2.2.2.2.2.2.2.2.1) h
    have ee14 : tst = tstR := congrArg (fun q => q.2.2.2.2.2.2.2.2.2.2.2.2.2.2) h
    subst ee0
    subst ee1
    subst ee2
    subst ee3
    subst ee4
    subst ee5
    subst ee6
    subst ee7
    subst ee8
    subst ee9
    subst ee10
    subst ee11
    subst ee12
    subst ee13
    subst ee14
    rw [← hQ]
    exact retI hx hb hr hlk hK hP hD hS dX11_washFor_22 ⟨Nat.le_of_ble_eq_true rfl, Nat.le_of_ble_eq_true rfl⟩
  · have h := ite_f c_3 h
    refine lv_iload_n hx hb dX11_washFor_9 rfl (lv_at hv 2 rfl) ?_
    obtain ⟨r_7, hf_8, h⟩ := bd_ex h
    have sb := Sb.nil hP hD hS hA
    refine calI (va_runS (As := [.int n]) (rest := []) ⟨hx, hb, hml, hown, hts⟩ (c_X11_isBehind l G D cA  _ n r_7 hf_8) (va_cwS 1 hts gX11_washFor_X11_isBehind rfl rfl rfl (by decide +kernel) ⟨Nat.le_of_ble_eq_true rfl, Nat.le_of_ble_eq_true rfl⟩) (pvS hE hK hS sb) rfl rfl hv.1 rfl (lv_room (Nat.le_of_ble_eq_true rfl)) dX11_washFor_10 ⟨Nat.le_of_ble_eq_true rfl, Nat.le_of_ble_eq_true rfl⟩) hS sb (Jn.nil hP hD) (fun H locs hP hD hS => ?_)
    have hP : va_P D vwCl (wX cA xd vd sd nd hd td ed kd images errors fewest vspoon vmark vcount vbodies sbits slens snum h_weight h_known h_hour h_swS h_swW h_waS h_spoons h_kind h_mark h_silver h_fresh h_texts h_tape h_tapeCount h_z h_waiting h_waitingCount t_weight t_known t_hour t_swS t_swW t_waS t_spoons t_kind t_mark t_silver t_fresh t_texts t_tape t_tapeCount t_z t_waiting t_waitingCount e_weight e_known e_hour e_swS e_swW e_waS e_spoons e_kind e_mark e_silver e_fresh e_texts e_tape e_tapeCount e_z e_waiting e_waitingCount L tx tst) H := hP
    have hD : va_D A (wX cA xd vd sd nd hd td ed kd images errors fewest vspoon vmark vcount vbodies sbits slens snum h_weight h_known h_hour h_swS h_swW h_waS h_spoons h_kind h_mark h_silver h_fresh h_texts h_tape h_tapeCount h_z h_waiting h_waitingCount t_weight t_known t_hour t_swS t_swW t_waS t_spoons t_kind t_mark t_silver t_fresh t_texts t_tape t_tapeCount t_z t_waiting t_waitingCount e_weight e_known e_hour e_swS e_swW e_waS e_spoons e_kind e_mark e_silver e_fresh e_texts e_tape e_tapeCount e_z e_waiting e_waitingCount L tx tst) := hD
    refine lv_if_ne (tgt := 23) hx hb dX11_washFor_13 (by decide) (fun c_9 => ?_) (fun c_9 => ?_)
    · have h := ite_f c_9 h
      refine lv_iconst (v := (-1 : Int32)) hx hb dX11_washFor_23 (by decide) ?_
      refine lv_istore_n (lv' := [(3, .int (-1 : Int32)), (0, .ref (xd 0)), (1, .int a), (2, .int n)]) hx hb dX11_washFor_24 rfl hv (by decide) rfl (fun ls hv => ?_)
      refine lv_bipush (v := (13 : Int32)) hx hb dX11_washFor_25 (by decide) ?_
      refine lv_istore (lv' := [(4, .int (13 : Int32)), (3, .int (-1 : Int32)), (0, .ref (xd 0)), (1, .int a), (2, .int n)]) hx hb dX11_washFor_27 hv (by decide) rfl (fun ls hv => ?_)
      refine lv_iconst (v := (-1 : Int32)) hx hb dX11_washFor_29 (by decide) ?_
      refine lv_istore (lv' := [(5, .int (-1 : Int32)), (4, .int (13 : Int32)), (3, .int (-1 : Int32)), (0, .ref (xd 0)), (1, .int a), (2, .int n)]) hx hb dX11_washFor_30 hv (by decide) rfl (fun ls hv => ?_)
      exact C_32 a n (-1 : Int32) (13 : Int32) (-1 : Int32) errors t_weight t_known t_hour t_swS t_swW t_waS t_spoons t_kind t_mark t_silver t_fresh t_texts tst h _ _ _ hP hD hS (lv_sub hv [3, 4, 5, 2, 1, 0] rfl)
    · have h := ite_t c_9 h
      refine lv_aload_n hx hb dX11_washFor_16 rfl (lv_at hv 0 rfl) ?_
      refine lv_ldc (v := (-1000000001 : Int32)) hx hb hown w_0 dX11_washFor_17 ?_
      obtain ⟨⟨r_38, errors_39⟩, hf_40, h⟩ := bd_ex h
      have sb := Sb.same hP hD hS hA
      refine calI (va_runV (As := [.int (-1000000001 : Int32)]) (rest := []) ⟨hx, hb, hml, hown, hts⟩ (c_X11_refused l G D cA xd vd sd nd hd td ed kd _ images errors fewest vspoon vmark vcount vbodies sbits slens snum h_weight h_known h_hour h_swS h_swW h_waS h_spoons h_kind h_mark h_silver h_fresh h_texts h_tape h_tapeCount h_z h_waiting h_waitingCount t_weight t_known t_hour t_swS t_swW t_waS t_spoons t_kind t_mark t_silver t_fresh t_texts t_tape t_tapeCount t_z t_waiting t_waitingCount e_weight e_known e_hour e_swS e_swW e_waS e_spoons e_kind e_mark e_silver e_fresh e_texts e_tape e_tapeCount e_z e_waiting e_waitingCount L tx tst (-1000000001 : Int32) r_38 errors_39 hf_40) (cwV 1 hts gX11_washFor_X11_refused rfl rfl rfl (by decide +kernel) ⟨Nat.le_of_ble_eq_true rfl, Nat.le_of_ble_eq_true rfl⟩) (pvV hE hK hS sb (va_recv hK hP (ci := 11) (q0 := 0) rfl rfl)) rfl rfl hv.1 rfl (lv_room (Nat.le_of_ble_eq_true rfl)) dX11_washFor_19 ⟨Nat.le_of_ble_eq_true rfl, Nat.le_of_ble_eq_true rfl⟩) hS sb (Jn.same sb) (fun H locs hP hD hS => ?_)
      have hP : va_P D vwCl (wX cA xd vd sd nd hd td ed kd images errors_39 fewest vspoon vmark vcount vbodies sbits slens snum h_weight h_known h_hour h_swS h_swW h_waS h_spoons h_kind h_mark h_silver h_fresh h_texts h_tape h_tapeCount h_z h_waiting h_waitingCount t_weight t_known t_hour t_swS t_swW t_waS t_spoons t_kind t_mark t_silver t_fresh t_texts t_tape t_tapeCount t_z t_waiting t_waitingCount e_weight e_known e_hour e_swS e_swW e_waS e_spoons e_kind e_mark e_silver e_fresh e_texts e_tape e_tapeCount e_z e_waiting e_waitingCount L tx tst) H := hP
      have hD : va_D A (wX cA xd vd sd nd hd td ed kd images errors_39 fewest vspoon vmark vcount vbodies sbits slens snum h_weight h_known h_hour h_swS h_swW h_waS h_spoons h_kind h_mark h_silver h_fresh h_texts h_tape h_tapeCount h_z h_waiting h_waitingCount t_weight t_known t_hour t_swS t_swW t_waS t_spoons t_kind t_mark t_silver t_fresh t_texts t_tape t_tapeCount t_z t_waiting t_waitingCount e_weight e_known e_hour e_swS e_swW e_waS e_spoons e_kind e_mark e_silver e_fresh e_texts e_tape e_tapeCount e_z e_waiting e_waitingCount L tx tst) := hD
      have h := Option.some.inj h
      have ee0 : r_38 = rR := congrArg (fun q => q.1) h
      have ee1 : errors_39 = errorsR := congrArg (fun q => q.2.1) h
      have ee2 : t_weight = t_weightR := congrArg (fun q => q.2.2.1) h
      have ee3 : t_known = t_knownR := congrArg (fun q => q.2.2.2.1) h
      have ee4 : t_hour = t_hourR := congrArg (fun q => q.2.2.2.2.1) h
      have ee5 : t_swS = t_swSR := congrArg (fun q => q.2.2.2.2.2.1) h
      have ee6 : t_swW = t_swWR := congrArg (fun q => q.2.2.2.2.2.2.1) h
      have ee7 : t_waS = t_waSR := congrArg (fun q => q.2.2.2.2.2.2.2.1) h
      have ee8 : t_spoons = t_spoonsR := congrArg (fun q => q.2.2.2.2.2.2.2.2.1) h
      have ee9 : t_kind = t_kindR := congrArg (fun q => q.2.2.2.2.2.2.2.2.2.1) h
      have ee10 : t_mark = t_markR := congrArg (fun q => q.2.2.2.2.2.2.2.2.2.2.1) h
      have ee11 : t_silver = t_silverR := congrArg (fun q => q.2.2.2.2.2.2.2.2.2.2.2.1) h
      have ee12 : t_fresh = t_freshR := congrArg (fun q => q.2.2.2.2.2.2.2.2.2.2.2.2.1) h
      have ee13 : t_texts = t_textsR := congrArg (fun q => q.2.2.2.2.2.2.2.2.2.2.2.2.2.1) h
      have ee14 : tst = tstR := congrArg (fun q => q.2.2.2.2.2.2.2.2.2.2.2.2.2.2) h
      subst ee0
      subst ee1
      subst ee2
      subst ee3
      subst ee4
      subst ee5
      subst ee6
      subst ee7
      subst ee8
      subst ee9
      subst ee10
      subst ee11
      subst ee12
      subst ee13
      subst ee14
      rw [← hQ]
      exact retI hx hb hr hlk hK hP hD hS dX11_washFor_22 ⟨Nat.le_of_ble_eq_true rfl, Nat.le_of_ble_eq_true rfl⟩

def fX11_kindFor_98 (v1_31 : Int32) (v2_31 : Int32) (v3_98 : Int32) (v4_98 : Int32) (v5_98 : Int32) (errors_31 : Nat → Int32) (h_weight : Nat → Int32) (h_known : Int32) (h_hour : Int32) (h_swS : Nat → Int32) (h_swW : Nat → Int32) (h_waS : Nat → Int32) (h_spoons : Int32) (h_kind : Nat → Int32) (h_mark : Nat → Int32) (h_silver : Nat → Int32) (h_fresh : Nat → Int64) (h_texts : Nat → Option Nat) (t_weight_98 : Nat → Int32) (t_known_98 : Int32) (t_hour_98 : Int32) (t_swS_98 : Nat → Int32) (t_swW_98 : Nat → Int32) (t_waS_98 : Nat → Int32) (t_spoons_98 : Int32) (t_kind_98 : Nat → Int32) (t_mark_98 : Nat → Int32) (t_silver_98 : Nat → Int32) (t_fresh_98 : Nat → Int64) (t_texts_98 : Nat → Option Nat) (L : List Nat) (tx : Nat → TXc) (tst_98 : Nat → Nat → Int32) : Option ((Int32 × Int32 × Int32 × (Nat → Int32) × Int32 × Int32 × (Nat → Int32) × (Nat → Int32) × (Nat → Int32) × Int32 × (Nat → Int32) × (Nat → Int32) × (Nat → Int32) × (Nat → Int64) × (Nat → Option Nat) × (Nat → Nat → Int32)) ⊕ (Int32 × Int32 × Int32 × (Nat → Int32) × Int32 × Int32 × (Nat → Int32) × (Nat → Int32) × (Nat → Int32) × Int32 × (Nat → Int32) × (Nat → Int32) × (Nat → Int32) × (Nat → Int64) × (Nat → Option Nat) × (Nat → Nat → Int32))) :=
  bnd (v5_98 + (1 : Int32)) fun y_35 => some (.inl (v3_98, v4_98, y_35, t_weight_98, t_known_98, t_hour_98, t_swS_98, t_swW_98, t_waS_98, t_spoons_98, t_kind_98, t_mark_98, t_silver_98, t_fresh_98, t_texts_98, tst_98))
def fX11_kindFor_31B (v1_31 : Int32) (v2_31 : Int32) (errors_31 : Nat → Int32) (h_weight : Nat → Int32) (h_known : Int32) (h_hour : Int32) (h_swS : Nat → Int32) (h_swW : Nat → Int32) (h_waS : Nat → Int32) (h_spoons : Int32) (h_kind : Nat → Int32) (h_mark : Nat → Int32) (h_silver : Nat → Int32) (h_fresh : Nat → Int64) (h_texts : Nat → Option Nat) (L : List Nat) (tx : Nat → TXc) (v3_31b : Int32) (v4_31b : Int32) (v5_31b : Int32) (t_weight_31b : Nat → Int32) (t_known_31b : Int32) (t_hour_31b : Int32) (t_swS_31b : Nat → Int32) (t_swW_31b : Nat → Int32) (t_waS_31b : Nat → Int32) (t_spoons_31b : Int32) (t_kind_31b : Nat → Int32) (t_mark_31b : Nat → Int32) (t_silver_31b : Nat → Int32) (t_fresh_31b : Nat → Int64) (t_texts_31b : Nat → Option Nat) (tst_31b : Nat → Nat → Int32) : Option ((Int32 × Int32 × Int32 × (Nat → Int32) × Int32 × Int32 × (Nat → Int32) × (Nat → Int32) × (Nat → Int32) × Int32 × (Nat → Int32) × (Nat → Int32) × (Nat → Int32) × (Nat → Int64) × (Nat → Option Nat) × (Nat → Nat → Int32)) ⊕ (Int32 × Int32 × Int32 × (Nat → Int32) × Int32 × Int32 × (Nat → Int32) × (Nat → Int32) × (Nat → Int32) × Int32 × (Nat → Int32) × (Nat → Int32) × (Nat → Int32) × (Nat → Int64) × (Nat → Option Nat) × (Nat → Nat → Int32))) :=
  (if (7 : Int32) ≤ v5_31b then some (.inr (v3_31b, v4_31b, v5_31b, t_weight_31b, t_known_31b, t_hour_31b, t_swS_31b, t_swW_31b, t_waS_31b, t_spoons_31b, t_kind_31b, t_mark_31b, t_silver_31b, t_fresh_31b, t_texts_31b, tst_31b)) else bd (fX3_follow t_weight_31b t_known_31b t_hour_31b t_swS_31b t_swW_31b t_waS_31b t_spoons_31b t_kind_31b t_mark_31b t_silver_31b t_fresh_31b t_texts_31b h_weight h_known h_hour h_swS h_swW h_waS h_spoons h_kind h_mark h_silver h_fresh h_texts L) fun (t_weight_11, t_known_12, t_hour_13, t_swS_14, t_swW_15, t_waS_16, t_spoons_17, t_kind_18, t_mark_19, t_silver_20, t_fresh_21, t_texts_22) => ckI v1_31 8 (bnd (upd t_kind_18 (v1_31).toNatClampNeg v5_31b) fun t_kind_25 => bd (fX3_passHours v2_31 t_weight_11 t_known_12 t_hour_13 t_swS_14 t_swW_15 t_waS_16 t_spoons_17 t_kind_25 t_mark_19 t_silver_20 t_fresh_21 t_texts_22 L tx tst_31b) fun (t_known_26, t_hour_27, t_silver_28, t_fresh_29, tst_30) => bd (fJ6_bitCount_0f7a4 t_known_26) fun r_32 => (if v4_31b ≤ r_32 then fX11_kindFor_98 v1_31 v2_31 v3_31b v4_31b v5_31b errors_31 h_weight h_known h_hour h_swS h_swW h_waS h_spoons h_kind h_mark h_silver h_fresh h_texts t_weight_11 t_known_26 t_hour_27 t_swS_14 t_swW_15 t_waS_16 t_spoons_17 t_kind_25 t_mark_19 t_silver_28 t_fresh_29 t_texts_22 L tx tst_30 else bd (fJ6_bitCount_0f7a4 t_known_26) fun r_36 => fX11_kindFor_98 v1_31 v2_31 v5_31b r_36 v5_31b errors_31 h_weight h_known h_hour h_swS h_swW h_waS h_spoons h_kind h_mark h_silver h_fresh h_texts t_weight_11 t_known_26 t_hour_27 t_swS_14 t_swW_15 t_waS_16 t_spoons_17 t_kind_25 t_mark_19 t_silver_28 t_fresh_29 t_texts_22 L tx tst_30)))
def fX11_kindFor_31 (v1_31 : Int32) (v2_31 : Int32) (v3_31 : Int32) (v4_31 : Int32) (v5_31 : Int32) (errors_31 : Nat → Int32) (h_weight : Nat → Int32) (h_known : Int32) (h_hour : Int32) (h_swS : Nat → Int32) (h_swW : Nat → Int32) (h_waS : Nat → Int32) (h_spoons : Int32) (h_kind : Nat → Int32) (h_mark : Nat → Int32) (h_silver : Nat → Int32) (h_fresh : Nat → Int64) (h_texts : Nat → Option Nat) (t_weight_31 : Nat → Int32) (t_known_31 : Int32) (t_hour_31 : Int32) (t_swS_31 : Nat → Int32) (t_swW_31 : Nat → Int32) (t_waS_31 : Nat → Int32) (t_spoons_31 : Int32) (t_kind_31 : Nat → Int32) (t_mark_31 : Nat → Int32) (t_silver_31 : Nat → Int32) (t_fresh_31 : Nat → Int64) (t_texts_31 : Nat → Option Nat) (L : List Nat) (tx : Nat → TXc) (tst_31 : Nat → Nat → Int32) : Option (Int32 × (Nat → Int32) × (Nat → Int32) × Int32 × Int32 × (Nat → Int32) × (Nat → Int32) × (Nat → Int32) × Int32 × (Nat → Int32) × (Nat → Int32) × (Nat → Int32) × (Nat → Int64) × (Nat → Option Nat) × (Nat → Nat → Int32)) :=
  bd (lp (fun σ : Int32 × Int32 × Int32 × (Nat → Int32) × Int32 × Int32 × (Nat → Int32) × (Nat → Int32) × (Nat → Int32) × Int32 × (Nat → Int32) × (Nat → Int32) × (Nat → Int32) × (Nat → Int64) × (Nat → Option Nat) × (Nat → Nat → Int32) => fX11_kindFor_31B v1_31 v2_31 errors_31 h_weight h_known h_hour h_swS h_swW h_waS h_spoons h_kind h_mark h_silver h_fresh h_texts L tx (σ.1) (σ.2.1) (σ.2.2.1) (σ.2.2.2.1) (σ.2.2.2.2.1) (σ.2.2.2.2.2.1) (σ.2.2.2.2.2.2.1) (σ.2.2.2.2.2.2.2.1) (σ.2.2.2.2.2.2.2.2.1) (σ.2.2.2.2.2.2.2.2.2.1) (σ.2.2.2.2.2.2.2.2.2.2.1) (σ.2.2.2.2.2.2.2.2.2.2.2.1) (σ.2.2.2.2.2.2.2.2.2.2.2.2.1) (σ.2.2.2.2.2.2.2.2.2.2.2.2.2.1) (σ.2.2.2.2.2.2.2.2.2.2.2.2.2.2.1) (σ.2.2.2.2.2.2.2.2.2.2.2.2.2.2.2)) FU (v3_31, v4_31, v5_31, t_weight_31, t_known_31, t_hour_31, t_swS_31, t_swW_31, t_waS_31, t_spoons_31, t_kind_31, t_mark_31, t_silver_31, t_fresh_31, t_texts_31, tst_31)) fun ρ => match ρ with | (v3_31r, v4_31r, v5_31r, t_weight_31r, t_known_31r, t_hour_31r, t_swS_31r, t_swW_31r, t_waS_31r, t_spoons_31r, t_kind_31r, t_mark_31r, t_silver_31r, t_fresh_31r, t_texts_31r, tst_31r) => some (v3_31r, errors_31, t_weight_31r, t_known_31r, t_hour_31r, t_swS_31r, t_swW_31r, t_waS_31r, t_spoons_31r, t_kind_31r, t_mark_31r, t_silver_31r, t_fresh_31r, t_texts_31r, tst_31r)
def fX11_kindFor (a : Int32) (n : Int32) (errors : Nat → Int32) (h_weight : Nat → Int32) (h_known : Int32) (h_hour : Int32) (h_swS : Nat → Int32) (h_swW : Nat → Int32) (h_waS : Nat → Int32) (h_spoons : Int32) (h_kind : Nat → Int32) (h_mark : Nat → Int32) (h_silver : Nat → Int32) (h_fresh : Nat → Int64) (h_texts : Nat → Option Nat) (t_weight : Nat → Int32) (t_known : Int32) (t_hour : Int32) (t_swS : Nat → Int32) (t_swW : Nat → Int32) (t_waS : Nat → Int32) (t_spoons : Int32) (t_kind : Nat → Int32) (t_mark : Nat → Int32) (t_silver : Nat → Int32) (t_fresh : Nat → Int64) (t_texts : Nat → Option Nat) (L : List Nat) (tx : Nat → TXc) (tst : Nat → Nat → Int32) : Option (Int32 × (Nat → Int32) × (Nat → Int32) × Int32 × Int32 × (Nat → Int32) × (Nat → Int32) × (Nat → Int32) × Int32 × (Nat → Int32) × (Nat → Int32) × (Nat → Int32) × (Nat → Int64) × (Nat → Option Nat) × (Nat → Nat → Int32)) :=
  bd (fX11_isSpoon a h_spoons) fun r_1 => (if r_1 = 0 then bd (fX11_refused (-1000000001 : Int32) errors) fun (r_4, errors_5) => some (r_4, errors_5, t_weight, t_known, t_hour, t_swS, t_swW, t_waS, t_spoons, t_kind, t_mark, t_silver, t_fresh, t_texts, tst) else bd (fX11_isBehind n) fun r_7 => (if r_7 = 0 then bd (fX11_refused (-1000000001 : Int32) errors) fun (r_38, errors_39) => some (r_38, errors_39, t_weight, t_known, t_hour, t_swS, t_swW, t_waS, t_spoons, t_kind, t_mark, t_silver, t_fresh, t_texts, tst) else fX11_kindFor_31 a n (0 : Int32) (13 : Int32) (0 : Int32) errors h_weight h_known h_hour h_swS h_swW h_waS h_spoons h_kind h_mark h_silver h_fresh h_texts t_weight t_known t_hour t_swS t_swW t_waS t_spoons t_kind t_mark t_silver t_fresh t_texts L tx tst))
set_option maxHeartbeats 4000000 in
set_option maxRecDepth 100000 in
theorem c_X11_kindFor (l : Launch) (G : Nat → Nat) (D : va_G) (cA : Nat → ClassId) (xd : Nat → Nat) (vd : Nat → Nat) (sd : Nat → Nat) (nd : Nat → Nat) (hd : Nat → Nat) (td : Nat → Nat) (ed : Nat → Nat) (kd : Nat → Nat) (sz : Nat) (images : Int32) (errors : Nat → Int32) (fewest : Nat → Int32) (vspoon : Int32) (vmark : Int32) (vcount : Int32) (vbodies : Nat → Int32) (sbits : Nat → Int32) (slens : Nat → Int32) (snum : Nat → Nat → Int32) (h_weight : Nat → Int32) (h_known : Int32) (h_hour : Int32) (h_swS : Nat → Int32) (h_swW : Nat → Int32) (h_waS : Nat → Int32) (h_spoons : Int32) (h_kind : Nat → Int32) (h_mark : Nat → Int32) (h_silver : Nat → Int32) (h_fresh : Nat → Int64) (h_texts : Nat → Option Nat) (h_tape : Nat → Int32) (h_tapeCount : Int32) (h_z : Int32) (h_waiting : Nat → Int32) (h_waitingCount : Int32) (t_weight : Nat → Int32) (t_known : Int32) (t_hour : Int32) (t_swS : Nat → Int32) (t_swW : Nat → Int32) (t_waS : Nat → Int32) (t_spoons : Int32) (t_kind : Nat → Int32) (t_mark : Nat → Int32) (t_silver : Nat → Int32) (t_fresh : Nat → Int64) (t_texts : Nat → Option Nat) (t_tape : Nat → Int32) (t_tapeCount : Int32) (t_z : Int32) (t_waiting : Nat → Int32) (t_waitingCount : Int32) (e_weight : Nat → Int32) (e_known : Int32) (e_hour : Int32) (e_swS : Nat → Int32) (e_swW : Nat → Int32) (e_waS : Nat → Int32) (e_spoons : Int32) (e_kind : Nat → Int32) (e_mark : Nat → Int32) (e_silver : Nat → Int32) (e_fresh : Nat → Int64) (e_texts : Nat → Option Nat) (e_tape : Nat → Int32) (e_tapeCount : Int32) (e_z : Int32) (e_waiting : Nat → Int32) (e_waitingCount : Int32) (L : List Nat) (tx : Nat → TXc) (tst : Nat → Nat → Int32) (a : Int32) (n : Int32) (rR : Int32) (errorsR : Nat → Int32) (t_weightR : Nat → Int32) (t_knownR : Int32) (t_hourR : Int32) (t_swSR : Nat → Int32) (t_swWR : Nat → Int32) (t_waSR : Nat → Int32) (t_spoonsR : Int32) (t_kindR : Nat → Int32) (t_markR : Nat → Int32) (t_silverR : Nat → Int32) (t_freshR : Nat → Int64) (t_textsR : Nat → Option Nat) (tstR : Nat → Nat → Int32) (h : fX11_kindFor a n errors h_weight h_known h_hour h_swS h_swW h_waS h_spoons h_kind h_mark h_silver h_fresh h_texts t_weight t_known t_hour t_swS t_swW t_waS t_spoons t_kind t_mark t_silver t_fresh t_texts L tx tst = some (rR, errorsR, t_weightR, t_knownR, t_hourR, t_swSR, t_swWR, t_waSR, t_spoonsR, t_kindR, t_markR, t_silverR, t_freshR, t_textsR, tstR)) : Met l yX11_kindFor wsX11_kindFor ({ frames := 6, cells := 0, slots := 0, locals := 141 } : Room) (PW G D (tyC cA) sz (wX cA xd vd sd nd hd td ed kd images errors fewest vspoon vmark vcount vbodies sbits slens snum h_weight h_known h_hour h_swS h_swW h_waS h_spoons h_kind h_mark h_silver h_fresh h_texts h_tape h_tapeCount h_z h_waiting h_waitingCount t_weight t_known t_hour t_swS t_swW t_waS t_spoons t_kind t_mark t_silver t_fresh t_texts t_tape t_tapeCount t_z t_waiting t_waitingCount e_weight e_known e_hour e_swS e_swW e_waS e_spoons e_kind e_mark e_silver e_fresh e_texts e_tape e_tapeCount e_z e_waiting e_waitingCount L tx tst) [.ref (xd 0), .int a, .int n]) (QI D (tyC cA) (va_A (wX cA xd vd sd nd hd td ed kd images errors fewest vspoon vmark vcount vbodies sbits slens snum h_weight h_known h_hour h_swS h_swW h_waS h_spoons h_kind h_mark h_silver h_fresh h_texts h_tape h_tapeCount h_z h_waiting h_waitingCount t_weight t_known t_hour t_swS t_swW t_waS t_spoons t_kind t_mark t_silver t_fresh t_texts t_tape t_tapeCount t_z t_waiting t_waitingCount e_weight e_known e_hour e_swS e_swW e_waS e_spoons e_kind e_mark e_silver e_fresh e_texts e_tape e_tapeCount e_z e_waiting e_waitingCount L tx tst) sz) rR (wX cA xd vd sd nd hd td ed kd images errorsR fewest vspoon vmark vcount vbodies sbits slens snum h_weight h_known h_hour h_swS h_swW h_waS h_spoons h_kind h_mark h_silver h_fresh h_texts h_tape h_tapeCount h_z h_waiting h_waitingCount t_weightR t_knownR t_hourR t_swSR t_swWR t_waSR t_spoonsR t_kindR t_markR t_silverR t_freshR t_textsR t_tape t_tapeCount t_z t_waiting t_waitingCount e_weight e_known e_hour e_swS e_swW e_waS e_spoons e_kind e_mark e_silver e_fresh e_texts e_tape e_tapeCount e_z e_waiting e_waitingCount L tx tstR)) 0 0 (va_A (wX cA xd vd sd nd hd td ed kd images errors fewest vspoon vmark vcount vbodies sbits slens snum h_weight h_known h_hour h_swS h_swW h_waS h_spoons h_kind h_mark h_silver h_fresh h_texts h_tape h_tapeCount h_z h_waiting h_waitingCount t_weight t_known t_hour t_swS t_swW t_waS t_spoons t_kind t_mark t_silver t_fresh t_texts t_tape t_tapeCount t_z t_waiting t_waitingCount e_weight e_known e_hour e_swS e_swW e_waS e_spoons e_kind e_mark e_silver e_fresh e_texts e_tape e_tapeCount e_z e_waiting e_waitingCount L tx tst) sz) := by
  refine ent (cc := cX11_kindFor) (maxL := 6) (ret := (some .int)) (fun A => QI D (tyC cA) A rR (wX cA xd vd sd nd hd td ed kd images errorsR fewest vspoon vmark vcount vbodies sbits slens snum h_weight h_known h_hour h_swS h_swW h_waS h_spoons h_kind h_mark h_silver h_fresh h_texts h_tape h_tapeCount h_z h_waiting h_waitingCount t_weightR t_knownR t_hourR t_swSR t_swWR t_waSR t_spoonsR t_kindR t_markR t_silverR t_freshR t_textsR t_tape t_tapeCount t_z t_waiting t_waitingCount e_weight e_known e_hour e_swS e_swW e_waS e_spoons e_kind e_mark e_silver e_fresh e_texts e_tape e_tapeCount e_z e_waiting e_waitingCount L tx tstR)) (by decide +kernel) rfl (Nat.le_of_ble_eq_true rfl) ?_
  intro p e s m args below meth c A ls H hx hb hml hr hlk hts hown hA hK hE hP hD hS hv hmm
  have hv : lv_has ls 6 [(0, .ref (xd 0)), (1, .int a), (2, .int n)] := hv
  have in_3 : ∀ w ∈ u_ws RX3 TX3 18, w ∈ wsX11_kindFor := fun _ h => List.mem_cons_of_mem _ (List.mem_append_left _ (List.mem_append_right _ h))
  have in_11 : ∀ w ∈ u_ws RX11 TX11 9, w ∈ wsX11_kindFor := fun _ h => List.mem_cons_of_mem _ (List.mem_append_left _ (List.mem_append_left _ (List.mem_append_right _ h)))
  have w_0 := hts (.constant RX11 78 (-1000000001)) (List.mem_of_getElem? (i := 1) rfl)
  have w_1 := hts (.fieldLink RX11 43 "SpoonsLast" "thought" "LSpoonsLast$House;") (List.mem_of_getElem? (i := 2) rfl)
  have w_2 := hts (.fieldLink RX11 39 "SpoonsLast" "house" "LSpoonsLast$House;") (List.mem_of_getElem? (i := 3) rfl)
  have w_3 := hts (.fieldLink RX11 115 "SpoonsLast$House" "kind" "[I") (List.mem_of_getElem? (i := 4) rfl)
  have w_4 := hts (.fieldLink RX11 86 "SpoonsLast$House" "known" "I") (List.mem_of_getElem? (i := 5) rfl)
  generalize hQ : MQ below _ args s 0 0 A = Q
  have C_31 : ∀ (v1_31 : Int32) (v2_31 : Int32) (v3_31 : Int32) (v4_31 : Int32) (v5_31 : Int32) (errors_31 : Nat → Int32) (t_weight_31 : Nat → Int32) (t_known_31 : Int32) (t_hour_31 : Int32) (t_swS_31 : Nat → Int32) (t_swW_31 : Nat → Int32) (t_waS_31 : Nat → Int32) (t_spoons_31 : Int32) (t_kind_31 : Nat → Int32) (t_mark_31 : Nat → Int32) (t_silver_31 : Nat → Int32) (t_fresh_31 : Nat → Int64) (t_texts_31 : Nat → Option Nat) (tst_31 : Nat → Nat → Int32), fX11_kindFor_31 v1_31 v2_31 v3_31 v4_31 v5_31 errors_31 h_weight h_known h_hour h_swS h_swW h_waS h_spoons h_kind h_mark h_silver h_fresh h_texts t_weight_31 t_known_31 t_hour_31 t_swS_31 t_swW_31 t_waS_31 t_spoons_31 t_kind_31 t_mark_31 t_silver_31 t_fresh_31 t_texts_31 L tx tst_31 = some (rR, errorsR, t_weightR, t_knownR, t_hourR, t_swSR, t_swWR, t_waSR, t_spoonsR, t_kindR, t_markR, t_silverR, t_freshR, t_textsR, tstR) → WW p l e ({ frames := 6, cells := 0, slots := 0, locals := 141 } : Room) s m args below meth c D A 0 0 Q (wX cA xd vd sd nd hd td ed kd images errors_31 fewest vspoon vmark vcount vbodies sbits slens snum h_weight h_known h_hour h_swS h_swW h_waS h_spoons h_kind h_mark h_silver h_fresh h_texts h_tape h_tapeCount h_z h_waiting h_waitingCount t_weight_31 t_known_31 t_hour_31 t_swS_31 t_swW_31 t_waS_31 t_spoons_31 t_kind_31 t_mark_31 t_silver_31 t_fresh_31 t_texts_31 t_tape t_tapeCount t_z t_waiting t_waitingCount e_weight e_known e_hour e_swS e_swW e_waS e_spoons e_kind e_mark e_silver e_fresh e_texts e_tape e_tapeCount e_z e_waiting e_waitingCount L tx tst_31) 6 [(0, .ref (xd 0)), (1, .int v1_31), (2, .int v2_31), (3, .int v3_31), (4, .int v4_31), (5, .int v5_31)] 31 [] := by
    intro v1_31 v2_31 v3_31 v4_31 v5_31 errors_31 t_weight_31 t_known_31 t_hour_31 t_swS_31 t_swW_31 t_waS_31 t_spoons_31 t_kind_31 t_mark_31 t_silver_31 t_fresh_31 t_texts_31 tst_31 h
    unfold fX11_kindFor_31 at h
    obtain ⟨⟨v3_31r, v4_31r, v5_31r, t_weight_31r, t_known_31r, t_hour_31r, t_swS_31r, t_swW_31r, t_waS_31r, t_spoons_31r, t_kind_31r, t_mark_31r, t_silver_31r, t_fresh_31r, t_texts_31r, tst_31r⟩, ho, h⟩ := bd_ex h
    have LE : WW p l e ({ frames := 6, cells := 0, slots := 0, locals := 141 } : Room) s m args below meth c D A 0 0 Q (wX cA xd vd sd nd hd td ed kd images errors_31 fewest vspoon vmark vcount vbodies sbits slens snum h_weight h_known h_hour h_swS h_swW h_waS h_spoons h_kind h_mark h_silver h_fresh h_texts h_tape h_tapeCount h_z h_waiting h_waitingCount t_weight_31r t_known_31r t_hour_31r t_swS_31r t_swW_31r t_waS_31r t_spoons_31r t_kind_31r t_mark_31r t_silver_31r t_fresh_31r t_texts_31r t_tape t_tapeCount t_z t_waiting t_waitingCount e_weight e_known e_hour e_swS e_swW e_waS e_spoons e_kind e_mark e_silver e_fresh e_texts e_tape e_tapeCount e_z e_waiting e_waitingCount L tx tst_31r) 6 [(3, .int v3_31r)] 104 [] := by
      intro H locs ls hP hD hS hv
      refine lv_iload_n hx hb dX11_kindFor_104 rfl (lv_at hv 0 rfl) ?_
      have h := Option.some.inj h
      have ee0 : v3_31r = rR := congrArg (fun q => q.1) h
      have ee1 : errors_31 = errorsR := congrArg (fun q => q.2.1) h
      have ee2 : t_weight_31r = t_weightR := congrArg (fun q => q.2.2.1) h
      have ee3 : t_known_31r = t_knownR := congrArg (fun q => q.2.2.2.1) h
      have ee4 : t_hour_31r = t_hourR := congrArg (fun q => q.2.2.2.2.1) h
      have ee5 : t_swS_31r = t_swSR := congrArg (fun q => q.2.2.2.2.2.1) h
      have ee6 : t_swW_31r = t_swWR := congrArg (fun q => q.2.2.2.2.2.2.1) h
      have ee7 : t_waS_31r = t_waSR := congrArg (fun q => q.2.2.2.2.2.2.2.1) h
      have ee8 : t_spoons_31r = t_spoonsR := congrArg (fun q => q.2.2.2.2.2.2.2.2.1) h
      have ee9 : t_kind_31r = t_kindR := congrArg (fun q => q.2.2.2.2.2.2.2.2.2.1) h
      have ee10 : t_mark_31r = t_markR := congrArg (fun q => q.2.2.2.2.2.2.2.2.2.2.1) h
      have ee11 : t_silver_31r = t_silverR := congrArg (fun q => q.2.2.2.2.2.2.2.2.2.2.2.1) h
      have ee12 : t_fresh_31r = t_freshR := congrArg (fun q => q.2.2.2.2.2.2.2.2.2.2.2.2.1) h
      have ee13 : t_texts_31r = t_textsR := congrArg (fun q => q.2.2.2.2.2.2.2.2.2.2.2.2.2.1) h
      have ee14 : tst_31r = tstR := congrArg (fun q => q.2.2.2.2.2.2.2.2.2.2.2.2.2.2) h
      subst ee0
      subst ee1
      subst ee2
      subst ee3
      subst ee4
      subst ee5
      subst ee6
      subst ee7
      subst ee8
      subst ee9
      subst ee10
      subst ee11
      subst ee12
      subst ee13
      subst ee14
      rw [← hQ]
      exact retI hx hb hr hlk hK hP hD hS dX11_kindFor_105 ⟨Nat.le_of_ble_eq_true rfl, Nat.le_of_ble_eq_true rfl⟩
    have LB : ∀ (nf : Nat) (v3_31b : Int32) (v4_31b : Int32) (v5_31b : Int32) (t_weight_31b : Nat → Int32) (t_known_31b : Int32) (t_hour_31b : Int32) (t_swS_31b : Nat → Int32) (t_swW_31b : Nat → Int32) (t_waS_31b : Nat → Int32) (t_spoons_31b : Int32) (t_kind_31b : Nat → Int32) (t_mark_31b : Nat → Int32) (t_silver_31b : Nat → Int32) (t_fresh_31b : Nat → Int64) (t_texts_31b : Nat → Option Nat) (tst_31b : Nat → Nat → Int32), lp (fun σ : Int32 × Int32 × Int32 × (Nat → Int32) × Int32 × Int32 × (Nat → Int32) × (Nat → Int32) × (Nat → Int32) × Int32 × (Nat → Int32) × (Nat → Int32) × (Nat → Int32) × (Nat → Int64) × (Nat → Option Nat) × (Nat → Nat → Int32) => fX11_kindFor_31B v1_31 v2_31 errors_31 h_weight h_known h_hour h_swS h_swW h_waS h_spoons h_kind h_mark h_silver h_fresh h_texts L tx (σ.1) (σ.2.1) (σ.2.2.1) (σ.2.2.2.1) (σ.2.2.2.2.1) (σ.2.2.2.2.2.1) (σ.2.2.2.2.2.2.1) (σ.2.2.2.2.2.2.2.1) (σ.2.2.2.2.2.2.2.2.1) (σ.2.2.2.2.2.2.2.2.2.1) (σ.2.2.2.2.2.2.2.2.2.2.1) (σ.2.2.2.2.2.2.2.2.2.2.2.1) (σ.2.2.2.2.2.2.2.2.2.2.2.2.1) (σ.2.2.2.2.2.2.2.2.2.2.2.2.2.1) (σ.2.2.2.2.2.2.2.2.2.2.2.2.2.2.1) (σ.2.2.2.2.2.2.2.2.2.2.2.2.2.2.2)) nf (v3_31b, v4_31b, v5_31b, t_weight_31b, t_known_31b, t_hour_31b, t_swS_31b, t_swW_31b, t_waS_31b, t_spoons_31b, t_kind_31b, t_mark_31b, t_silver_31b, t_fresh_31b, t_texts_31b, tst_31b) = some (v3_31r, v4_31r, v5_31r, t_weight_31r, t_known_31r, t_hour_31r, t_swS_31r, t_swW_31r, t_waS_31r, t_spoons_31r, t_kind_31r, t_mark_31r, t_silver_31r, t_fresh_31r, t_texts_31r, tst_31r) → WW p l e ({ frames := 6, cells := 0, slots := 0, locals := 141 } : Room) s m args below meth c D A 0 0 Q (wX cA xd vd sd nd hd td ed kd images errors_31 fewest vspoon vmark vcount vbodies sbits slens snum h_weight h_known h_hour h_swS h_swW h_waS h_spoons h_kind h_mark h_silver h_fresh h_texts h_tape h_tapeCount h_z h_waiting h_waitingCount t_weight_31b t_known_31b t_hour_31b t_swS_31b t_swW_31b t_waS_31b t_spoons_31b t_kind_31b t_mark_31b t_silver_31b t_fresh_31b t_texts_31b t_tape t_tapeCount t_z t_waiting t_waitingCount e_weight e_known e_hour e_swS e_swW e_waS e_spoons e_kind e_mark e_silver e_fresh e_texts e_tape e_tapeCount e_z e_waiting e_waitingCount L tx tst_31b) 6 [(0, .ref (xd 0)), (1, .int v1_31), (2, .int v2_31), (3, .int v3_31b), (4, .int v4_31b), (5, .int v5_31b)] 31 [] := by
      intro nf
      induction nf with
      | zero => intro v3_31b v4_31b v5_31b t_weight_31b t_known_31b t_hour_31b t_swS_31b t_swW_31b t_waS_31b t_spoons_31b t_kind_31b t_mark_31b t_silver_31b t_fresh_31b t_texts_31b tst_31b hl; cases hl
      | succ nf ih =>
        intro v3_31b v4_31b v5_31b t_weight_31b t_known_31b t_hour_31b t_swS_31b t_swW_31b t_waS_31b t_spoons_31b t_kind_31b t_mark_31b t_silver_31b t_fresh_31b t_texts_31b tst_31b hl
        obtain ⟨x, h, hl⟩ := lp_ex hl
        have h : fX11_kindFor_31B v1_31 v2_31 errors_31 h_weight h_known h_hour h_swS h_swW h_waS h_spoons h_kind h_mark h_silver h_fresh h_texts L tx v3_31b v4_31b v5_31b t_weight_31b t_known_31b t_hour_31b t_swS_31b t_swW_31b t_waS_31b t_spoons_31b t_kind_31b t_mark_31b t_silver_31b t_fresh_31b t_texts_31b tst_31b = some x := h
        unfold fX11_kindFor_31B at h
        have C_98 : ∀ (v3_98 : Int32) (v4_98 : Int32) (v5_98 : Int32) (t_weight_98 : Nat → Int32) (t_known_98 : Int32) (t_hour_98 : Int32) (t_swS_98 : Nat → Int32) (t_swW_98 : Nat → Int32) (t_waS_98 : Nat → Int32) (t_spoons_98 : Int32) (t_kind_98 : Nat → Int32) (t_mark_98 : Nat → Int32) (t_silver_98 : Nat → Int32) (t_fresh_98 : Nat → Int64) (t_texts_98 : Nat → Option Nat) (tst_98 : Nat → Nat → Int32) (x : (Int32 × Int32 × Int32 × (Nat → Int32) × Int32 × Int32 × (Nat → Int32) × (Nat → Int32) × (Nat → Int32) × Int32 × (Nat → Int32) × (Nat → Int32) × (Nat → Int32) × (Nat → Int64) × (Nat → Option Nat) × (Nat → Nat → Int32)) ⊕ (Int32 × Int32 × Int32 × (Nat → Int32) × Int32 × Int32 × (Nat → Int32) × (Nat → Int32) × (Nat → Int32) × Int32 × (Nat → Int32) × (Nat → Int32) × (Nat → Int32) × (Nat → Int64) × (Nat → Option Nat) × (Nat → Nat → Int32))), fX11_kindFor_98 v1_31 v2_31 v3_98 v4_98 v5_98 errors_31 h_weight h_known h_hour h_swS h_swW h_waS h_spoons h_kind h_mark h_silver h_fresh h_texts t_weight_98 t_known_98 t_hour_98 t_swS_98 t_swW_98 t_waS_98 t_spoons_98 t_kind_98 t_mark_98 t_silver_98 t_fresh_98 t_texts_98 L tx tst_98 = some x → lpk (fun σ : Int32 × Int32 × Int32 × (Nat → Int32) × Int32 × Int32 × (Nat → Int32) × (Nat → Int32) × (Nat → Int32) × Int32 × (Nat → Int32) × (Nat → Int32) × (Nat → Int32) × (Nat → Int64) × (Nat → Option Nat) × (Nat → Nat → Int32) => fX11_kindFor_31B v1_31 v2_31 errors_31 h_weight h_known h_hour h_swS h_swW h_waS h_spoons h_kind h_mark h_silver h_fresh h_texts L tx (σ.1) (σ.2.1) (σ.2.2.1) (σ.2.2.2.1) (σ.2.2.2.2.1) (σ.2.2.2.2.2.1) (σ.2.2.2.2.2.2.1) (σ.2.2.2.2.2.2.2.1) (σ.2.2.2.2.2.2.2.2.1) (σ.2.2.2.2.2.2.2.2.2.1) (σ.2.2.2.2.2.2.2.2.2.2.1) (σ.2.2.2.2.2.2.2.2.2.2.2.1) (σ.2.2.2.2.2.2.2.2.2.2.2.2.1) (σ.2.2.2.2.2.2.2.2.2.2.2.2.2.1) (σ.2.2.2.2.2.2.2.2.2.2.2.2.2.2.1) (σ.2.2.2.2.2.2.2.2.2.2.2.2.2.2.2)) nf x = some (v3_31r, v4_31r, v5_31r, t_weight_31r, t_known_31r, t_hour_31r, t_swS_31r, t_swW_31r, t_waS_31r, t_spoons_31r, t_kind_31r, t_mark_31r, t_silver_31r, t_fresh_31r, t_texts_31r, tst_31r) → WW p l e ({ frames := 6, cells := 0, slots := 0, locals := 141 } : Room) s m args below meth c D A 0 0 Q (wX cA xd vd sd nd hd td ed kd images errors_31 fewest vspoon vmark vcount vbodies sbits slens snum h_weight h_known h_hour h_swS h_swW h_waS h_spoons h_kind h_mark h_silver h_fresh h_texts h_tape h_tapeCount h_z h_waiting h_waitingCount t_weight_98 t_known_98 t_hour_98 t_swS_98 t_swW_98 t_waS_98 t_spoons_98 t_kind_98 t_mark_98 t_silver_98 t_fresh_98 t_texts_98 t_tape t_tapeCount t_z t_waiting t_waitingCount e_weight e_known e_hour e_swS e_swW e_waS e_spoons e_kind e_mark e_silver e_fresh e_texts e_tape e_tapeCount e_z e_waiting e_waitingCount L tx tst_98) 6 [(0, .ref (xd 0)), (1, .int v1_31), (2, .int v2_31), (3, .int v3_98), (4, .int v4_98), (5, .int v5_98)] 98 [] := by
          intro v3_98 v4_98 v5_98 t_weight_98 t_known_98 t_hour_98 t_swS_98 t_swW_98 t_waS_98 t_spoons_98 t_kind_98 t_mark_98 t_silver_98 t_fresh_98 t_texts_98 tst_98 x h hl
          unfold fX11_kindFor_98 at h
          intro H locs ls hP hD hS hv
          obtain ⟨y_35, ey_35, h⟩ := bnd_ex h
          refine lv_iinc (v := y_35) (lv' := [(5, .int y_35), (0, .ref (xd 0)), (1, .int v1_31), (2, .int v2_31), (3, .int v3_98), (4, .int v4_98)]) hx hb dX11_kindFor_98 hv (k := 5) rfl (by rw [ey_35]; rfl) (by decide) rfl (fun ls hv => ?_)
          refine lv_goto (tgt := 31) hx hb dX11_kindFor_101 (by decide) ?_
          cases h
          exact ih v3_98 v4_98 y_35 t_weight_98 t_known_98 t_hour_98 t_swS_98 t_swW_98 t_waS_98 t_spoons_98 t_kind_98 t_mark_98 t_silver_98 t_fresh_98 t_texts_98 tst_98 hl _ _ _ hP hD hS (lv_sub hv [1, 2, 3, 4, 5, 0] rfl)
        intro H locs ls hP hD hS hv
        refine lv_iload hx hb dX11_kindFor_31 (lv_at hv 5 rfl) ?_
        refine lv_bipush (v := (7 : Int32)) hx hb dX11_kindFor_33 (by decide) ?_
        refine lv_icmp_ge (tgt := 104) hx hb dX11_kindFor_35 (by decide) (fun c_10 => ?_) (fun c_10 => ?_)
        · have h := ite_t c_10 h
          cases h
          have hl : some (v3_31b, v4_31b, v5_31b, t_weight_31b, t_known_31b, t_hour_31b, t_swS_31b, t_swW_31b, t_waS_31b, t_spoons_31b, t_kind_31b, t_mark_31b, t_silver_31b, t_fresh_31b, t_texts_31b, tst_31b) = some (v3_31r, v4_31r, v5_31r, t_weight_31r, t_known_31r, t_hour_31r, t_swS_31r, t_swW_31r, t_waS_31r, t_spoons_31r, t_kind_31r, t_mark_31r, t_silver_31r, t_fresh_31r, t_texts_31r, tst_31r) := hl
          have hl := Option.some.inj hl
          have ee0 : v3_31b = v3_31r := congrArg (fun q => q.1) hl
          have ee1 : v4_31b = v4_31r := congrArg (fun q => q.2.1) hl
          have ee2 : v5_31b = v5_31r := congrArg (fun q => q.2.2.1) hl
          have ee3 : t_weight_31b = t_weight_31r := congrArg (fun q => q.2.2.2.1) hl
          have ee4 : t_known_31b = t_known_31r := congrArg (fun q => q.2.2.2.2.1) hl
          have ee5 : t_hour_31b = t_hour_31r := congrArg (fun q => q.2.2.2.2.2.1) hl
          have ee6 : t_swS_31b = t_swS_31r := congrArg (fun q => q.2.2.2.2.2.2.1) hl
          have ee7 : t_swW_31b = t_swW_31r := congrArg (fun q => q.2.2.2.2.2.2.2.1) hl
          have ee8 : t_waS_31b = t_waS_31r := congrArg (fun q => q.2.2.2.2.2.2.2.2.1) hl
          have ee9 : t_spoons_31b = t_spoons_31r := congrArg (fun q => q.2.2.2.2.2.2.2.2.2.1) hl
          have ee10 : t_kind_31b = t_kind_31r := congrArg (fun q => q.2.2.2.2.2.2.2.2.2.2.1) hl
          have ee11 : t_mark_31b = t_mark_31r := congrArg (fun q => q.2.2.2.2.2.2.2.2.2.2.2.1) hl
          have ee12 : t_silver_31b = t_silver_31r := congrArg (fun q => q.2.2.2.2.2.2.2.2.2.2.2.2.1) hl
          have ee13 : t_fresh_31b = t_fresh_31r := congrArg (fun q => q.2.2.2.2.2.2.2.2.2.2.2.2.2.1) hl
          have ee14 : t_texts_31b = t_texts_31r := congrArg (fun q => q.2.2.2.2.2.2.2.2.2.2.2.2.2.2.1) hl
          have ee15 : tst_31b = tst_31r := congrArg (fun q => q.2.2.2.2.2.2.2.2.2.2.2.2.2.2.2) hl
          subst ee0
          subst ee1
          subst ee2
          subst ee3
          subst ee4
          subst ee5
          subst ee6
          subst ee7
          subst ee8
          subst ee9
          subst ee10
          subst ee11
          subst ee12
          subst ee13
          subst ee14
          subst ee15
          exact LE _ _ _ hP hD hS (lv_sub hv [3] rfl)
        · have h := ite_f c_10 h
          refine lv_aload_n hx hb dX11_kindFor_38 rfl (lv_at hv 0 rfl) ?_
          refine va_get (D := D) (ci := 11) (v := .ref (td 0)) (C := RX11) (T := TX11) (N := 9) hx hb hts in_11 hown hK hP 0 rfl rfl 1 (by decide) w_1 (fun _ h9 => h9) rfl dX11_kindFor_39 ?_
          refine lv_aload_n hx hb dX11_kindFor_42 rfl (lv_at hv 0 rfl) ?_
          refine va_get (D := D) (ci := 11) (v := .ref (hd 0)) (C := RX11) (T := TX11) (N := 9) hx hb hts in_11 hown hK hP 0 rfl rfl 0 (by decide) w_2 (fun _ h9 => h9) rfl dX11_kindFor_43 ?_
          obtain ⟨⟨t_weight_11, t_known_12, t_hour_13, t_swS_14, t_swW_15, t_waS_16, t_spoons_17, t_kind_18, t_mark_19, t_silver_20, t_fresh_21, t_texts_22⟩, hf_23, h⟩ := bd_ex h
          have sb : Sb D A H (wHH cA td hd kd t_weight_31b t_known_31b t_hour_31b t_swS_31b t_swW_31b t_waS_31b t_spoons_31b t_kind_31b t_mark_31b t_silver_31b t_fresh_31b t_texts_31b t_tape t_tapeCount t_z t_waiting t_waitingCount h_weight h_known h_hour h_swS h_swW h_waS h_spoons h_kind h_mark h_silver h_fresh h_texts h_tape h_tapeCount h_z h_waiting h_waitingCount L tx tst_31b) := sbXth hP hD hS hA
          refine calV (va_runV (As := [.ref (hd 0)]) (rest := []) ⟨hx, hb, hml, hown, hts⟩ (c_X3_follow l G D cA td hd kd _ t_weight_31b t_known_31b t_hour_31b t_swS_31b t_swW_31b t_waS_31b t_spoons_31b t_kind_31b t_mark_31b t_silver_31b t_fresh_31b t_texts_31b t_tape t_tapeCount t_z t_waiting t_waitingCount h_weight h_known h_hour h_swS h_swW h_waS h_spoons h_kind h_mark h_silver h_fresh h_texts h_tape h_tapeCount h_z h_waiting h_waitingCount L tx tst_31b t_weight_11 t_known_12 t_hour_13 t_swS_14 t_swW_15 t_waS_16 t_spoons_17 t_kind_18 t_mark_19 t_silver_20 t_fresh_21 t_texts_22 hf_23) (cwV 1 hts gX11_kindFor_X3_follow rfl rfl rfl (by decide +kernel) ⟨Nat.le_of_ble_eq_true rfl, Nat.le_of_ble_eq_true rfl⟩) (pvV hE hK hS sb (va_recv hK hP (ci := 3) (q0 := 26) rfl rfl)) rfl rfl hv.1 rfl (lv_room (Nat.le_of_ble_eq_true rfl)) dX11_kindFor_46 ⟨Nat.le_of_ble_eq_true rfl, Nat.le_of_ble_eq_true rfl⟩) hS sb (jnXth hP hD) (fun H locs hP hD hS => ?_)
          have hP : va_P D vwCl (wX cA xd vd sd nd hd td ed kd images errors_31 fewest vspoon vmark vcount vbodies sbits slens snum h_weight h_known h_hour h_swS h_swW h_waS h_spoons h_kind h_mark h_silver h_fresh h_texts h_tape h_tapeCount h_z h_waiting h_waitingCount t_weight_11 t_known_12 t_hour_13 t_swS_14 t_swW_15 t_waS_16 t_spoons_17 t_kind_18 t_mark_19 t_silver_20 t_fresh_21 t_texts_22 t_tape t_tapeCount t_z t_waiting t_waitingCount e_weight e_known e_hour e_swS e_swW e_waS e_spoons e_kind e_mark e_silver e_fresh e_texts e_tape e_tapeCount e_z e_waiting e_waitingCount L tx tst_31b) H := hP
          have hD : va_D A (wX cA xd vd sd nd hd td ed kd images errors_31 fewest vspoon vmark vcount vbodies sbits slens snum h_weight h_known h_hour h_swS h_swW h_waS h_spoons h_kind h_mark h_silver h_fresh h_texts h_tape h_tapeCount h_z h_waiting h_waitingCount t_weight_11 t_known_12 t_hour_13 t_swS_14 t_swW_15 t_waS_16 t_spoons_17 t_kind_18 t_mark_19 t_silver_20 t_fresh_21 t_texts_22 t_tape t_tapeCount t_z t_waiting t_waitingCount e_weight e_known e_hour e_swS e_swW e_waS e_spoons e_kind e_mark e_silver e_fresh e_texts e_tape e_tapeCount e_z e_waiting e_waitingCount L tx tst_31b) := hD
          refine lv_aload_n hx hb dX11_kindFor_49 rfl (lv_at hv 0 rfl) ?_
          refine va_get (D := D) (ci := 11) (v := .ref (td 0)) (C := RX11) (T := TX11) (N := 9) hx hb hts in_11 hown hK hP 0 rfl rfl 1 (by decide) w_1 (fun _ h9 => h9) rfl dX11_kindFor_50 ?_
          refine va_get (D := D) (ci := 3) (v := .ref (td 9)) (C := RX3) (T := TX3) (N := 18) hx hb hts in_3 hown hK hP 26 rfl rfl 8 (by decide) w_3 (fun _ h9 => h9) rfl dX11_kindFor_53 ?_
          refine lv_iload_n hx hb dX11_kindFor_56 rfl (lv_at hv 1 rfl) ?_
          refine lv_iload hx hb dX11_kindFor_57 (lv_at hv 5 rfl) ?_
          obtain ⟨c_24, h⟩ := ckI_ex h
          obtain ⟨t_kind_25, et_kind_25, h⟩ := bnd_ex h
          refine va_iast (D := D) hx hb hK hP hD hS 31 0 rfl rfl c_24 dX11_kindFor_59 (fun H locs hP hD hS => ?_)
          rw [← et_kind_25] at hP hD
          have hP : va_P D vwCl (wX cA xd vd sd nd hd td ed kd images errors_31 fewest vspoon vmark vcount vbodies sbits slens snum h_weight h_known h_hour h_swS h_swW h_waS h_spoons h_kind h_mark h_silver h_fresh h_texts h_tape h_tapeCount h_z h_waiting h_waitingCount t_weight_11 t_known_12 t_hour_13 t_swS_14 t_swW_15 t_waS_16 t_spoons_17 t_kind_25 t_mark_19 t_silver_20 t_fresh_21 t_texts_22 t_tape t_tapeCount t_z t_waiting t_waitingCount e_weight e_known e_hour e_swS e_swW e_waS e_spoons e_kind e_mark e_silver e_fresh e_texts e_tape e_tapeCount e_z e_waiting e_waitingCount L tx tst_31b) H := hP
          have hD : va_D A (wX cA xd vd sd nd hd td ed kd images errors_31 fewest vspoon vmark vcount vbodies sbits slens snum h_weight h_known h_hour h_swS h_swW h_waS h_spoons h_kind h_mark h_silver h_fresh h_texts h_tape h_tapeCount h_z h_waiting h_waitingCount t_weight_11 t_known_12 t_hour_13 t_swS_14 t_swW_15 t_waS_16 t_spoons_17 t_kind_25 t_mark_19 t_silver_20 t_fresh_21 t_texts_22 t_tape t_tapeCount t_z t_waiting t_waitingCount e_weight e_known e_hour e_swS e_swW e_waS e_spoons e_kind e_mark e_silver e_fresh e_texts e_tape e_tapeCount e_z e_waiting e_waitingCount L tx tst_31b) := hD
          refine lv_aload_n hx hb dX11_kindFor_60 rfl (lv_at hv 0 rfl) ?_
          refine va_get (D := D) (ci := 11) (v := .ref (td 0)) (C := RX11) (T := TX11) (N := 9) hx hb hts in_11 hown hK hP 0 rfl rfl 1 (by decide) w_1 (fun _ h9 => h9) rfl dX11_kindFor_61 ?_
          refine lv_iload_n hx hb dX11_kindFor_64 rfl (lv_at hv 2 rfl) ?_
          obtain ⟨⟨t_known_26, t_hour_27, t_silver_28, t_fresh_29, tst_30⟩, hf_31, h⟩ := bd_ex h
          have sb : Sb D A H (wH cA td kd t_weight_11 t_known_12 t_hour_13 t_swS_14 t_swW_15 t_waS_16 t_spoons_17 t_kind_25 t_mark_19 t_silver_20 t_fresh_21 t_texts_22 t_tape t_tapeCount t_z t_waiting t_waitingCount L tx tst_31b) := sbXt hP hD hS hA
          refine calV (va_runV (As := [.int v2_31]) (rest := []) ⟨hx, hb, hml, hown, hts⟩ (c_X3_passHours l G D cA td kd _ t_weight_11 t_known_12 t_hour_13 t_swS_14 t_swW_15 t_waS_16 t_spoons_17 t_kind_25 t_mark_19 t_silver_20 t_fresh_21 t_texts_22 t_tape t_tapeCount t_z t_waiting t_waitingCount L tx tst_31b v2_31 t_known_26 t_hour_27 t_silver_28 t_fresh_29 tst_30 hf_31) (cwV 1 hts gX11_kindFor_X3_passHours rfl rfl rfl (by decide +kernel) ⟨Nat.le_of_ble_eq_true rfl, Nat.le_of_ble_eq_true rfl⟩) (pvV hE hK hS sb (va_recv hK hP (ci := 3) (q0 := 26) rfl rfl)) rfl rfl hv.1 rfl (lv_room (Nat.le_of_ble_eq_true rfl)) dX11_kindFor_65 ⟨Nat.le_of_ble_eq_true rfl, Nat.le_of_ble_eq_true rfl⟩) hS sb (jnXt hP hD) (fun H locs hP hD hS => ?_)
          have hP : va_P D vwCl (wX cA xd vd sd nd hd td ed kd images errors_31 fewest vspoon vmark vcount vbodies sbits slens snum h_weight h_known h_hour h_swS h_swW h_waS h_spoons h_kind h_mark h_silver h_fresh h_texts h_tape h_tapeCount h_z h_waiting h_waitingCount t_weight_11 t_known_26 t_hour_27 t_swS_14 t_swW_15 t_waS_16 t_spoons_17 t_kind_25 t_mark_19 t_silver_28 t_fresh_29 t_texts_22 t_tape t_tapeCount t_z t_waiting t_waitingCount e_weight e_known e_hour e_swS e_swW e_waS e_spoons e_kind e_mark e_silver e_fresh e_texts e_tape e_tapeCount e_z e_waiting e_waitingCount L tx tst_30) H := hP
          have hD : va_D A (wX cA xd vd sd nd hd td ed kd images errors_31 fewest vspoon vmark vcount vbodies sbits slens snum h_weight h_known h_hour h_swS h_swW h_waS h_spoons h_kind h_mark h_silver h_fresh h_texts h_tape h_tapeCount h_z h_waiting h_waitingCount t_weight_11 t_known_26 t_hour_27 t_swS_14 t_swW_15 t_waS_16 t_spoons_17 t_kind_25 t_mark_19 t_silver_28 t_fresh_29 t_texts_22 t_tape t_tapeCount t_z t_waiting t_waitingCount e_weight e_known e_hour e_swS e_swW e_waS e_spoons e_kind e_mark e_silver e_fresh e_texts e_tape e_tapeCount e_z e_waiting e_waitingCount L tx tst_30) := hD
          refine lv_aload_n hx hb dX11_kindFor_68 rfl (lv_at hv 0 rfl) ?_
          refine va_get (D := D) (ci := 11) (v := .ref (td 0)) (C := RX11) (T := TX11) (N := 9) hx hb hts in_11 hown hK hP 0 rfl rfl 1 (by decide) w_1 (fun _ h9 => h9) rfl dX11_kindFor_69 ?_
          refine va_get (D := D) (ci := 3) (v := .int t_known_26) (C := RX3) (T := TX3) (N := 18) hx hb hts in_3 hown hK hP 26 rfl rfl 2 (by decide) w_4 (fun _ h9 => h9) rfl dX11_kindFor_72 ?_
          obtain ⟨r_32, hf_33, h⟩ := bd_ex h
          have sb := Sb.nil hP hD hS hA
          refine calI (va_runS (As := [.int t_known_26]) (rest := []) ⟨hx, hb, hml, hown, hts⟩ (c_J6_bitCount_0f7a4 l G D cA  _ t_known_26 r_32 hf_33) (va_cwS 1 hts gX11_kindFor_J6_bitCount_0f7a4 rfl rfl rfl (by decide +kernel) ⟨Nat.le_of_ble_eq_true rfl, Nat.le_of_ble_eq_true rfl⟩) (pvS hE hK hS sb) rfl rfl hv.1 rfl (lv_room (Nat.le_of_ble_eq_true rfl)) dX11_kindFor_75 ⟨Nat.le_of_ble_eq_true rfl, Nat.le_of_ble_eq_true rfl⟩) hS sb (Jn.nil hP hD) (fun H locs hP hD hS => ?_)
          have hP : va_P D vwCl (wX cA xd vd sd nd hd td ed kd images errors_31 fewest vspoon vmark vcount vbodies sbits slens snum h_weight h_known h_hour h_swS h_swW h_waS h_spoons h_kind h_mark h_silver h_fresh h_texts h_tape h_tapeCount h_z h_waiting h_waitingCount t_weight_11 t_known_26 t_hour_27 t_swS_14 t_swW_15 t_waS_16 t_spoons_17 t_kind_25 t_mark_19 t_silver_28 t_fresh_29 t_texts_22 t_tape t_tapeCount t_z t_waiting t_waitingCount e_weight e_known e_hour e_swS e_swW e_waS e_spoons e_kind e_mark e_silver e_fresh e_texts e_tape e_tapeCount e_z e_waiting e_waitingCount L tx tst_30) H := hP
          have hD : va_D A (wX cA xd vd sd nd hd td ed kd images errors_31 fewest vspoon vmark vcount vbodies sbits slens snum h_weight h_known h_hour h_swS h_swW h_waS h_spoons h_kind h_mark h_silver h_fresh h_texts h_tape h_tapeCount h_z h_waiting h_waitingCount t_weight_11 t_known_26 t_hour_27 t_swS_14 t_swW_15 t_waS_16 t_spoons_17 t_kind_25 t_mark_19 t_silver_28 t_fresh_29 t_texts_22 t_tape t_tapeCount t_z t_waiting t_waitingCount e_weight e_known e_hour e_swS e_swW e_waS e_spoons e_kind e_mark e_silver e_fresh e_texts e_tape e_tapeCount e_z e_waiting e_waitingCount L tx tst_30) := hD
          refine lv_iload hx hb dX11_kindFor_78 (lv_at hv 4 rfl) ?_
          refine lv_icmp_ge (tgt := 98) hx hb dX11_kindFor_80 (by decide) (fun c_34 => ?_) (fun c_34 => ?_)
          · have h := ite_t c_34 h
            exact C_98 v3_31b v4_31b v5_31b t_weight_11 t_known_26 t_hour_27 t_swS_14 t_swW_15 t_waS_16 t_spoons_17 t_kind_25 t_mark_19 t_silver_28 t_fresh_29 t_texts_22 tst_30 _ h hl _ _ _ hP hD hS (lv_sub hv [0, 1, 2, 3, 4, 5] rfl)
          · have h := ite_f c_34 h
            refine lv_aload_n hx hb dX11_kindFor_83 rfl (lv_at hv 0 rfl) ?_
            refine va_get (D := D) (ci := 11) (v := .ref (td 0)) (C := RX11) (T := TX11) (N := 9) hx hb hts in_11 hown hK hP 0 rfl rfl 1 (by decide) w_1 (fun _ h9 => h9) rfl dX11_kindFor_84 ?_
            refine va_get (D := D) (ci := 3) (v := .int t_known_26) (C := RX3) (T := TX3) (N := 18) hx hb hts in_3 hown hK hP 26 rfl rfl 2 (by decide) w_4 (fun _ h9 => h9) rfl dX11_kindFor_87 ?_
            obtain ⟨r_36, hf_37, h⟩ := bd_ex h
            have sb := Sb.nil hP hD hS hA
            refine calI (va_runS (As := [.int t_known_26]) (rest := []) ⟨hx, hb, hml, hown, hts⟩ (c_J6_bitCount_0f7a4 l G D cA  _ t_known_26 r_36 hf_37) (va_cwS 1 hts gX11_kindFor_J6_bitCount_0f7a4 rfl rfl rfl (by decide +kernel) ⟨Nat.le_of_ble_eq_true rfl, Nat.le_of_ble_eq_true rfl⟩) (pvS hE hK hS sb) rfl rfl hv.1 rfl (lv_room (Nat.le_of_ble_eq_true rfl)) dX11_kindFor_90 ⟨Nat.le_of_ble_eq_true rfl, Nat.le_of_ble_eq_true rfl⟩) hS sb (Jn.nil hP hD) (fun H locs hP hD hS => ?_)
            have hP : va_P D vwCl (wX cA xd vd sd nd hd td ed kd images errors_31 fewest vspoon vmark vcount vbodies sbits slens snum h_weight h_known h_hour h_swS h_swW h_waS h_spoons h_kind h_mark h_silver h_fresh h_texts h_tape h_tapeCount h_z h_waiting h_waitingCount t_weight_11 t_known_26 t_hour_27 t_swS_14 t_swW_15 t_waS_16 t_spoons_17 t_kind_25 t_mark_19 t_silver_28 t_fresh_29 t_texts_22 t_tape t_tapeCount t_z t_waiting t_waitingCount e_weight e_known e_hour e_swS e_swW e_waS e_spoons e_kind e_mark e_silver e_fresh e_texts e_tape e_tapeCount e_z e_waiting e_waitingCount L tx tst_30) H := hP
            have hD : va_D A (wX cA xd vd sd nd hd td ed kd images errors_31 fewest vspoon vmark vcount vbodies sbits slens snum h_weight h_known h_hour h_swS h_swW h_waS h_spoons h_kind h_mark h_silver h_fresh h_texts h_tape h_tapeCount h_z h_waiting h_waitingCount t_weight_11 t_known_26 t_hour_27 t_swS_14 t_swW_15 t_waS_16 t_spoons_17 t_kind_25 t_mark_19 t_silver_28 t_fresh_29 t_texts_22 t_tape t_tapeCount t_z t_waiting t_waitingCount e_weight e_known e_hour e_swS e_swW e_waS e_spoons e_kind e_mark e_silver e_fresh e_texts e_tape e_tapeCount e_z e_waiting e_waitingCount L tx tst_30) := hD
            refine lv_istore (lv' := [(4, .int r_36), (0, .ref (xd 0)), (1, .int v1_31), (2, .int v2_31), (3, .int v3_31b), (5, .int v5_31b)]) hx hb dX11_kindFor_93 hv (by decide) rfl (fun ls hv => ?_)
            refine lv_iload hx hb dX11_kindFor_95 (lv_at hv 5 rfl) ?_
            refine lv_istore_n (lv' := [(3, .int v5_31b), (4, .int r_36), (0, .ref (xd 0)), (1, .int v1_31), (2, .int v2_31), (5, .int v5_31b)]) hx hb dX11_kindFor_97 rfl hv (by decide) rfl (fun ls hv => ?_)
            exact C_98 v5_31b r_36 v5_31b t_weight_11 t_known_26 t_hour_27 t_swS_14 t_swW_15 t_waS_16 t_spoons_17 t_kind_25 t_mark_19 t_silver_28 t_fresh_29 t_texts_22 tst_30 _ h hl _ _ _ hP hD hS (lv_sub hv [2, 3, 4, 0, 1, 5] rfl)
    exact LB FU v3_31 v4_31 v5_31 t_weight_31 t_known_31 t_hour_31 t_swS_31 t_swW_31 t_waS_31 t_spoons_31 t_kind_31 t_mark_31 t_silver_31 t_fresh_31 t_texts_31 tst_31 ho
  have hP : va_P D vwCl (wX cA xd vd sd nd hd td ed kd images errors fewest vspoon vmark vcount vbodies sbits slens snum h_weight h_known h_hour h_swS h_swW h_waS h_spoons h_kind h_mark h_silver h_fresh h_texts h_tape h_tapeCount h_z h_waiting h_waitingCount t_weight t_known t_hour t_swS t_swW t_waS t_spoons t_kind t_mark t_silver t_fresh t_texts t_tape t_tapeCount t_z t_waiting t_waitingCount e_weight e_known e_hour e_swS e_swW e_waS e_spoons e_kind e_mark e_silver e_fresh e_texts e_tape e_tapeCount e_z e_waiting e_waitingCount L tx tst) H := hP
  unfold fX11_kindFor at h
  refine lv_aload_n hx hb dX11_kindFor_0 rfl (lv_at hv 0 rfl) ?_
  refine lv_iload_n hx hb dX11_kindFor_1 rfl (lv_at hv 1 rfl) ?_
  obtain ⟨r_1, hf_2, h⟩ := bd_ex h
  have sb := Sb.same hP hD hS hA
  refine calI (va_runV (As := [.int a]) (rest := []) ⟨hx, hb, hml, hown, hts⟩ (c_X11_isSpoon l G D cA xd vd sd nd hd td ed kd _ images errors fewest vspoon vmark vcount vbodies sbits slens snum h_weight h_known h_hour h_swS h_swW h_waS h_spoons h_kind h_mark h_silver h_fresh h_texts h_tape h_tapeCount h_z h_waiting h_waitingCount t_weight t_known t_hour t_swS t_swW t_waS t_spoons t_kind t_mark t_silver t_fresh t_texts t_tape t_tapeCount t_z t_waiting t_waitingCount e_weight e_known e_hour e_swS e_swW e_waS e_spoons e_kind e_mark e_silver e_fresh e_texts e_tape e_tapeCount e_z e_waiting e_waitingCount L tx tst a r_1 hf_2) (cwV 1 hts gX11_kindFor_X11_isSpoon rfl rfl rfl (by decide +kernel) ⟨Nat.le_of_ble_eq_true rfl, Nat.le_of_ble_eq_true rfl⟩) (pvV hE hK hS sb (va_recv hK hP (ci := 11) (q0 := 0) rfl rfl)) rfl rfl hv.1 rfl (lv_room (Nat.le_of_ble_eq_true rfl)) dX11_kindFor_2 ⟨Nat.le_of_ble_eq_true rfl, Nat.le_of_ble_eq_true rfl⟩) hS sb (Jn.same sb) (fun H locs hP hD hS => ?_)
  have hP : va_P D vwCl (wX cA xd vd sd nd hd td ed kd images errors fewest vspoon vmark vcount vbodies sbits slens snum h_weight h_known h_hour h_swS h_swW h_waS h_spoons h_kind h_mark h_silver h_fresh h_texts h_tape h_tapeCount h_z h_waiting h_waitingCount t_weight t_known t_hour t_swS t_swW t_waS t_spoons t_kind t_mark t_silver t_fresh t_texts t_tape t_tapeCount t_z t_waiting t_waitingCount e_weight e_known e_hour e_swS e_swW e_waS e_spoons e_kind e_mark e_silver e_fresh e_texts e_tape e_tapeCount e_z e_waiting e_waitingCount L tx tst) H := hP
  have hD : va_D A (wX cA xd vd sd nd hd td ed kd images errors fewest vspoon vmark vcount vbodies sbits slens snum h_weight h_known h_hour h_swS h_swW h_waS h_spoons h_kind h_mark h_silver h_fresh h_texts h_tape h_tapeCount h_z h_waiting h_waitingCount t_weight t_known t_hour t_swS t_swW t_waS t_spoons t_kind t_mark t_silver t_fresh t_texts t_tape t_tapeCount t_z t_waiting t_waitingCount e_weight e_known e_hour e_swS e_swW e_waS e_spoons e_kind e_mark e_silver e_fresh e_texts e_tape e_tapeCount e_z e_waiting e_waitingCount L tx tst) := hD
  refine lv_if_eq (tgt := 15) hx hb dX11_kindFor_5 (by decide) (fun c_3 => ?_) (fun c_3 => ?_)
  · have h := ite_t c_3 h
    refine lv_aload_n hx hb dX11_kindFor_15 rfl (lv_at hv 0 rfl) ?_
    refine lv_ldc (v := (-1000000001 : Int32)) hx hb hown w_0 dX11_kindFor_16 ?_
    obtain ⟨⟨r_4, errors_5⟩, hf_6, h⟩ := bd_ex h
    have sb := Sb.same hP hD hS hA
    refine calI (va_runV (As := [.int (-1000000001 : Int32)]) (rest := []) ⟨hx, hb, hml, hown, hts⟩ (c_X11_refused l G D cA xd vd sd nd hd td ed kd _ images errors fewest vspoon vmark vcount vbodies sbits slens snum h_weight h_known h_hour h_swS h_swW h_waS h_spoons h_kind h_mark h_silver h_fresh h_texts h_tape h_tapeCount h_z h_waiting h_waitingCount t_weight t_known t_hour t_swS t_swW t_waS t_spoons t_kind t_mark t_silver t_fresh t_texts t_tape t_tapeCount t_z t_waiting t_waitingCount e_weight e_known e_hour e_swS e_swW e_waS e_spoons e_kind e_mark e_silver e_fresh e_texts e_tape e_tapeCount e_z e_waiting e_waitingCount L tx tst (-1000000001 : Int32) r_4 errors_5 hf_6) (cwV 1 hts gX11_kindFor_X11_refused rfl rfl rfl (by decide +kernel) ⟨Nat.le_of_ble_eq_true rfl, Nat.le_of_ble_eq_true rfl⟩) (pvV hE hK hS sb (va_recv hK hP (ci := 11) (q0 := 0) rfl rfl)) rfl rfl hv.1 rfl (lv_room (Nat.le_of_ble_eq_true rfl)) dX11_kindFor_18 ⟨Nat.le_of_ble_eq_true rfl, Nat.le_of_ble_eq_true rfl⟩) hS sb (Jn.same sb) (fun H locs hP hD hS => ?_)
    have hP : va_P D vwCl (wX cA xd vd sd nd hd td ed kd images errors_5 fewest vspoon vmark vcount vbodies sbits slens snum h_weight h_known h_hour h_swS h_swW h_waS h_spoons h_kind h_mark h_silver h_fresh h_texts h_tape h_tapeCount h_z h_waiting h_waitingCount t_weight t_known t_hour t_swS t_swW t_waS t_spoons t_kind t_mark t_silver t_fresh t_texts t_tape t_tapeCount t_z t_waiting t_waitingCount e_weight e_known e_hour e_swS e_swW e_waS e_spoons e_kind e_mark e_silver e_fresh e_texts e_tape e_tapeCount e_z e_waiting e_waitingCount L tx tst) H := hP
    have hD : va_D A (wX cA xd vd sd nd hd td ed kd images errors_5 fewest vspoon vmark vcount vbodies sbits slens snum h_weight h_known h_hour h_swS h_swW h_waS h_spoons h_kind h_mark h_silver h_fresh h_texts h_tape h_tapeCount h_z h_waiting h_waitingCount t_weight t_known t_hour t_swS t_swW t_waS t_spoons t_kind t_mark t_silver t_fresh t_texts t_tape t_tapeCount t_z t_waiting t_waitingCount e_weight e_known e_hour e_swS e_swW e_waS e_spoons e_kind e_mark e_silver e_fresh e_texts e_tape e_tapeCount e_z e_waiting e_waitingCount L tx tst) := hD
    have h := Option.some.inj h
    have ee0 : r_4 = rR := congrArg (fun q => q.1) h
    have ee1 : errors_5 = errorsR := congrArg (fun q => q.2.1) h
    have ee2 : t_weight = t_weightR := congrArg (fun q => q.2.2.1) h
    have ee3 : t_known = t_knownR := congrArg (fun q => q.2.2.2.1) h
    have ee4 : t_hour = t_hourR := congrArg (fun q => q.2.2.2.2.1) h
    have ee5 : t_swS = t_swSR := congrArg (fun q => q.2.2.2.2.2.1) h
    have ee6 : t_swW = t_swWR := congrArg (fun q => q.2.2.2.2.2.2.1) h
    have ee7 : t_waS = t_waSR := congrArg (fun q => q.2.2.2.2.2.2.2.1) h
    have ee8 : t_spoons = t_spoonsR := congrArg (fun q => q.2.2.2.2.2.2.2.2.1) h
    have ee9 : t_kind = t_kindR := congrArg (fun q => q.2.2.2.2.2.2.2.2.2.1) h
    have ee10 : t_mark = t_markR := congrArg (fun q => q.2.2.2.2.2.2.2.2.2.2.1) h
    have ee11 : t_silver = t_silverR := congrArg (fun q => q.2.2.2.2.2.2.2.2.2.2.2.1) h
    have ee12 : t_fresh = t_freshR := congrArg (fun q => q.2.2.2.2.2.2.2.2.2.2.2.2.1) h
    have ee13 : t_texts = t_textsR := congrArg (fun q => q.2.2.2.2.2.2.2.2.2.2.2.2.2.1) h
    have ee14 : tst = tstR := congrArg (fun q => q.2.2.2.2.2.2.2.2.2.2.2.2.2.2) h
    subst ee0
    subst ee1
    subst ee2
    subst ee3
    subst ee4
    subst ee5
    subst ee6
    subst ee7
    subst ee8
    subst ee9
    subst ee10
    subst ee11
    subst ee12
    subst ee13
    subst ee14
    rw [← hQ]
    exact retI hx hb hr hlk hK hP hD hS dX11_kindFor_21 ⟨Nat.le_of_ble_eq_true rfl, Nat.le_of_ble_eq_true rfl⟩
  · have h := ite_f c_3 h
    refine lv_iload_n hx hb dX11_kindFor_8 rfl (lv_at hv 2 rfl) ?_
    obtain ⟨r_7, hf_8, h⟩ := bd_ex h
    have sb := Sb.nil hP hD hS hA
    refine calI (va_runS (As := [.int n]) (rest := []) ⟨hx, hb, hml, hown, hts⟩ (c_X11_isBehind l G D cA  _ n r_7 hf_8) (va_cwS 1 hts gX11_kindFor_X11_isBehind rfl rfl rfl (by decide +kernel) ⟨Nat.le_of_ble_eq_true rfl, Nat.le_of_ble_eq_true rfl⟩) (pvS hE hK hS sb) rfl rfl hv.1 rfl (lv_room (Nat.le_of_ble_eq_true rfl)) dX11_kindFor_9 ⟨Nat.le_of_ble_eq_true rfl, Nat.le_of_ble_eq_true rfl⟩) hS sb (Jn.nil hP hD) (fun H locs hP hD hS => ?_)
    have hP : va_P D vwCl (wX cA xd vd sd nd hd td ed kd images errors fewest vspoon vmark vcount vbodies sbits slens snum h_weight h_known h_hour h_swS h_swW h_waS h_spoons h_kind h_mark h_silver h_fresh h_texts h_tape h_tapeCount h_z h_waiting h_waitingCount t_weight t_known t_hour t_swS t_swW t_waS t_spoons t_kind t_mark t_silver t_fresh t_texts t_tape t_tapeCount t_z t_waiting t_waitingCount e_weight e_known e_hour e_swS e_swW e_waS e_spoons e_kind e_mark e_silver e_fresh e_texts e_tape e_tapeCount e_z e_waiting e_waitingCount L tx tst) H := hP
    have hD : va_D A (wX cA xd vd sd nd hd td ed kd images errors fewest vspoon vmark vcount vbodies sbits slens snum h_weight h_known h_hour h_swS h_swW h_waS h_spoons h_kind h_mark h_silver h_fresh h_texts h_tape h_tapeCount h_z h_waiting h_waitingCount t_weight t_known t_hour t_swS t_swW t_waS t_spoons t_kind t_mark t_silver t_fresh t_texts t_tape t_tapeCount t_z t_waiting t_waitingCount e_weight e_known e_hour e_swS e_swW e_waS e_spoons e_kind e_mark e_silver e_fresh e_texts e_tape e_tapeCount e_z e_waiting e_waitingCount L tx tst) := hD
    refine lv_if_ne (tgt := 22) hx hb dX11_kindFor_12 (by decide) (fun c_9 => ?_) (fun c_9 => ?_)
    · have h := ite_f c_9 h
      refine lv_iconst (v := (0 : Int32)) hx hb dX11_kindFor_22 (by decide) ?_
      refine lv_istore_n (lv' := [(3, .int (0 : Int32)), (0, .ref (xd 0)), (1, .int a), (2, .int n)]) hx hb dX11_kindFor_23 rfl hv (by decide) rfl (fun ls hv => ?_)
      refine lv_bipush (v := (13 : Int32)) hx hb dX11_kindFor_24 (by decide) ?_
      refine lv_istore (lv' := [(4, .int (13 : Int32)), (3, .int (0 : Int32)), (0, .ref (xd 0)), (1, .int a), (2, .int n)]) hx hb dX11_kindFor_26 hv (by decide) rfl (fun ls hv => ?_)
      refine lv_iconst (v := (0 : Int32)) hx hb dX11_kindFor_28 (by decide) ?_
      refine lv_istore (lv' := [(5, .int (0 : Int32)), (4, .int (13 : Int32)), (3, .int (0 : Int32)), (0, .ref (xd 0)), (1, .int a), (2, .int n)]) hx hb dX11_kindFor_29 hv (by decide) rfl (fun ls hv => ?_)
      exact C_31 a n (0 : Int32) (13 : Int32) (0 : Int32) errors t_weight t_known t_hour t_swS t_swW t_waS t_spoons t_kind t_mark t_silver t_fresh t_texts tst h _ _ _ hP hD hS (lv_sub hv [3, 4, 5, 2, 1, 0] rfl)
    · have h := ite_t c_9 h
      refine lv_aload_n hx hb dX11_kindFor_15 rfl (lv_at hv 0 rfl) ?_
      refine lv_ldc (v := (-1000000001 : Int32)) hx hb hown w_0 dX11_kindFor_16 ?_
      obtain ⟨⟨r_38, errors_39⟩, hf_40, h⟩ := bd_ex h
      have sb := Sb.same hP hD hS hA
      refine calI (va_runV (As := [.int (-1000000001 : Int32)]) (rest := []) ⟨hx, hb, hml, hown, hts⟩ (c_X11_refused l G D cA xd vd sd nd hd td ed kd _ images errors fewest vspoon vmark vcount vbodies sbits slens snum h_weight h_known h_hour h_swS h_swW h_waS h_spoons h_kind h_mark h_silver h_fresh h_texts h_tape h_tapeCount h_z h_waiting h_waitingCount t_weight t_known t_hour t_swS t_swW t_waS t_spoons t_kind t_mark t_silver t_fresh t_texts t_tape t_tapeCount t_z t_waiting t_waitingCount e_weight e_known e_hour e_swS e_swW e_waS e_spoons e_kind e_mark e_silver e_fresh e_texts e_tape e_tapeCount e_z e_waiting e_waitingCount L tx tst (-1000000001 : Int32) r_38 errors_39 hf_40) (cwV 1 hts gX11_kindFor_X11_refused rfl rfl rfl (by decide +kernel) ⟨Nat.le_of_ble_eq_true rfl, Nat.le_of_ble_eq_true rfl⟩) (pvV hE hK hS sb (va_recv hK hP (ci := 11) (q0 := 0) rfl rfl)) rfl rfl hv.1 rfl (lv_room (Nat.le_of_ble_eq_true rfl)) dX11_kindFor_18 ⟨Nat.le_of_ble_eq_true rfl, Nat.le_of_ble_eq_true rfl⟩) hS sb (Jn.same sb) (fun H locs hP hD hS => ?_)
      have hP : va_P D vwCl (wX cA xd vd sd nd hd td ed kd images errors_39 fewest vspoon vmark vcount vbodies sbits slens snum h_weight h_known h_hour h_swS h_swW h_waS h_spoons h_kind h_mark h_silver h_fresh h_texts h_tape h_tapeCount h_z h_waiting h_waitingCount t_weight t_known t_hour t_swS t_swW t_waS t_spoons t_kind t_mark t_silver t_fresh t_texts t_tape t_tapeCount t_z t_waiting t_waitingCount e_weight e_known e_hour e_swS e_swW e_waS e_spoons e_kind e_mark e_silver e_fresh e_texts e_tape e_tapeCount e_z e_waiting e_waitingCount L tx tst) H := hP
      have hD : va_D A (wX cA xd vd sd nd hd td ed kd images errors_39 fewest vspoon vmark vcount vbodies sbits slens snum h_weight h_known h_hour h_swS h_swW h_waS h_spoons h_kind h_mark h_silver h_fresh h_texts h_tape h_tapeCount h_z h_waiting h_waitingCount t_weight t_known t_hour t_swS t_swW t_waS t_spoons t_kind t_mark t_silver t_fresh t_texts t_tape t_tapeCount t_z t_waiting t_waitingCount e_weight e_known e_hour e_swS e_swW e_waS e_spoons e_kind e_mark e_silver e_fresh e_texts e_tape e_tapeCount e_z e_waiting e_waitingCount L tx tst) := hD
      have h := Option.some.inj h
      have ee0 : r_38 = rR := congrArg (fun q => q.1) h
      have ee1 : errors_39 = errorsR := congrArg (fun q => q.2.1) h
      have ee2 : t_weight = t_weightR := congrArg (fun q => q.2.2.1) h
      have ee3 : t_known = t_knownR := congrArg (fun q => q.2.2.2.1) h
      have ee4 : t_hour = t_hourR := congrArg (fun q => q.2.2.2.2.1) h
      have ee5 : t_swS = t_swSR := congrArg (fun q => q.2.2.2.2.2.1) h
      have ee6 : t_swW = t_swWR := congrArg (fun q => q.2.2.2.2.2.2.1) h
      have ee7 : t_waS = t_waSR := congrArg (fun q => q.2.2.2.2.2.2.2.1) h
      have ee8 : t_spoons = t_spoonsR := congrArg (fun q => q.2.2.2.2.2.2.2.2.1) h
      have ee9 : t_kind = t_kindR := congrArg (fun q => q.2.2.2.2.2.2.2.2.2.1) h
      have ee10 : t_mark = t_markR := congrArg (fun q => q.2.2.2.2.2.2.2.2.2.2.1) h
      have ee11 : t_silver = t_silverR := congrArg (fun q => q.2.2.2.2.2.2.2.2.2.2.2.1) h
      have ee12 : t_fresh = t_freshR := congrArg (fun q => q.2.2.2.2.2.2.2.2.2.2.2.2.1) h
      have ee13 : t_texts = t_textsR := congrArg (fun q => q.2.2.2.2.2.2.2.2.2.2.2.2.2.1) h
      have ee14 : tst = tstR := congrArg (fun q => q.2.2.2.2.2.2.2.2.2.2.2.2.2.2) h
      subst ee0
      subst ee1
      subst ee2
      subst ee3
      subst ee4
      subst ee5
      subst ee6
      subst ee7
      subst ee8
      subst ee9
      subst ee10
      subst ee11
      subst ee12
      subst ee13
      subst ee14
      rw [← hQ]
      exact retI hx hb hr hlk hK hP hD hS dX11_kindFor_21 ⟨Nat.le_of_ble_eq_true rfl, Nat.le_of_ble_eq_true rfl⟩

def fX11_rubbed_24 (errors_24 : Nat → Int32) (sbits : Nat → Int32) (slens : Nat → Int32) (snum : Nat → Nat → Int32) (h_weight : Nat → Int32) (h_known : Int32) (h_hour : Int32) (h_swS : Nat → Int32) (h_swW : Nat → Int32) (h_waS : Nat → Int32) (h_spoons : Int32) (h_kind : Nat → Int32) (h_mark : Nat → Int32) (h_silver : Nat → Int32) (h_fresh : Nat → Int64) (h_texts : Nat → Option Nat) (t_weight_24 : Nat → Int32) (t_known_24 : Int32) (t_hour_24 : Int32) (t_swS_24 : Nat → Int32) (t_swW_24 : Nat → Int32) (t_waS_24 : Nat → Int32) (t_spoons_24 : Int32) (t_kind_24 : Nat → Int32) (t_mark_24 : Nat → Int32) (t_silver_24 : Nat → Int32) (t_fresh_24 : Nat → Int64) (t_texts_24 : Nat → Option Nat) (L : List Nat) (tx : Nat → TXc) (tst_24 : Nat → Nat → Int32) : Option (Int32 × (Nat → Int32) × (Nat → Int32) × Int32 × Int32 × (Nat → Int32) × (Nat → Int32) × (Nat → Int32) × Int32 × (Nat → Int32) × (Nat → Int32) × (Nat → Int32) × (Nat → Int64) × (Nat → Option Nat) × (Nat → Nat → Int32)) :=
  bd (fX11_refused (-1000000001 : Int32) errors_24) fun (r_4, errors_5) => some (r_4, errors_5, t_weight_24, t_known_24, t_hour_24, t_swS_24, t_swW_24, t_waS_24, t_spoons_24, t_kind_24, t_mark_24, t_silver_24, t_fresh_24, t_texts_24, tst_24)
def fX11_rubbed_129 (v2_63 : Int32) (v3_63 : Int32) (v5_129 : Int32) (v6_129 : Int32) (v7_129 : Int32) (a : Int32) (errors_63 : Nat → Int32) (sbits : Nat → Int32) (slens : Nat → Int32) (snum : Nat → Nat → Int32) (h_weight : Nat → Int32) (h_known : Int32) (h_hour : Int32) (h_swS : Nat → Int32) (h_swW : Nat → Int32) (h_waS : Nat → Int32) (h_spoons : Int32) (h_kind : Nat → Int32) (h_mark : Nat → Int32) (h_silver : Nat → Int32) (h_fresh : Nat → Int64) (h_texts : Nat → Option Nat) (t_weight_129 : Nat → Int32) (t_known_129 : Int32) (t_hour_129 : Int32) (t_swS_129 : Nat → Int32) (t_swW_129 : Nat → Int32) (t_waS_129 : Nat → Int32) (t_spoons_129 : Int32) (t_kind_129 : Nat → Int32) (t_mark_129 : Nat → Int32) (t_silver_129 : Nat → Int32) (t_fresh_129 : Nat → Int64) (t_texts_129 : Nat → Option Nat) (L : List Nat) (tx : Nat → TXc) (tst_129 : Nat → Nat → Int32) : Option ((Int32 × Int32 × Int32 × (Nat → Int32) × Int32 × Int32 × (Nat → Int32) × (Nat → Int32) × (Nat → Int32) × Int32 × (Nat → Int32) × (Nat → Int32) × (Nat → Int32) × (Nat → Int64) × (Nat → Option Nat) × (Nat → Nat → Int32)) ⊕ (Int32 × Int32 × Int32 × (Nat → Int32) × Int32 × Int32 × (Nat → Int32) × (Nat → Int32) × (Nat → Int32) × Int32 × (Nat → Int32) × (Nat → Int32) × (Nat → Int32) × (Nat → Int64) × (Nat → Option Nat) × (Nat → Nat → Int32))) :=
  bnd (v7_129 + (1 : Int32)) fun y_48 => some (.inl (v5_129, v6_129, y_48, t_weight_129, t_known_129, t_hour_129, t_swS_129, t_swW_129, t_waS_129, t_spoons_129, t_kind_129, t_mark_129, t_silver_129, t_fresh_129, t_texts_129, tst_129))
def fX11_rubbed_127 (v2_63 : Int32) (v3_63 : Int32) (v5_127 : Int32) (v7_127 : Int32) (k0_127 : Int32) (a : Int32) (errors_63 : Nat → Int32) (sbits : Nat → Int32) (slens : Nat → Int32) (snum : Nat → Nat → Int32) (h_weight : Nat → Int32) (h_known : Int32) (h_hour : Int32) (h_swS : Nat → Int32) (h_swW : Nat → Int32) (h_waS : Nat → Int32) (h_spoons : Int32) (h_kind : Nat → Int32) (h_mark : Nat → Int32) (h_silver : Nat → Int32) (h_fresh : Nat → Int64) (h_texts : Nat → Option Nat) (t_weight_127 : Nat → Int32) (t_known_127 : Int32) (t_hour_127 : Int32) (t_swS_127 : Nat → Int32) (t_swW_127 : Nat → Int32) (t_waS_127 : Nat → Int32) (t_spoons_127 : Int32) (t_kind_127 : Nat → Int32) (t_mark_127 : Nat → Int32) (t_silver_127 : Nat → Int32) (t_fresh_127 : Nat → Int64) (t_texts_127 : Nat → Option Nat) (L : List Nat) (tx : Nat → TXc) (tst_127 : Nat → Nat → Int32) : Option ((Int32 × Int32 × Int32 × (Nat → Int32) × Int32 × Int32 × (Nat → Int32) × (Nat → Int32) × (Nat → Int32) × Int32 × (Nat → Int32) × (Nat → Int32) × (Nat → Int32) × (Nat → Int64) × (Nat → Option Nat) × (Nat → Nat → Int32)) ⊕ (Int32 × Int32 × Int32 × (Nat → Int32) × Int32 × Int32 × (Nat → Int32) × (Nat → Int32) × (Nat → Int32) × Int32 × (Nat → Int32) × (Nat → Int32) × (Nat → Int32) × (Nat → Int64) × (Nat → Option Nat) × (Nat → Nat → Int32))) :=
  fX11_rubbed_129 v2_63 v3_63 v5_127 k0_127 v7_127 a errors_63 sbits slens snum h_weight h_known h_hour h_swS h_swW h_waS h_spoons h_kind h_mark h_silver h_fresh h_texts t_weight_127 t_known_127 t_hour_127 t_swS_127 t_swW_127 t_waS_127 t_spoons_127 t_kind_127 t_mark_127 t_silver_127 t_fresh_127 t_texts_127 L tx tst_127
def fX11_rubbed_63B (v2_63 : Int32) (v3_63 : Int32) (a : Int32) (errors_63 : Nat → Int32) (sbits : Nat → Int32) (slens : Nat → Int32) (snum : Nat → Nat → Int32) (h_weight : Nat → Int32) (h_known : Int32) (h_hour : Int32) (h_swS : Nat → Int32) (h_swW : Nat → Int32) (h_waS : Nat → Int32) (h_spoons : Int32) (h_kind : Nat → Int32) (h_mark : Nat → Int32) (h_silver : Nat → Int32) (h_fresh : Nat → Int64) (h_texts : Nat → Option Nat) (L : List Nat) (tx : Nat → TXc) (v5_63b : Int32) (v6_63b : Int32) (v7_63b : Int32) (t_weight_63b : Nat → Int32) (t_known_63b : Int32) (t_hour_63b : Int32) (t_swS_63b : Nat → Int32) (t_swW_63b : Nat → Int32) (t_waS_63b : Nat → Int32) (t_spoons_63b : Int32) (t_kind_63b : Nat → Int32) (t_mark_63b : Nat → Int32) (t_silver_63b : Nat → Int32) (t_fresh_63b : Nat → Int64) (t_texts_63b : Nat → Option Nat) (tst_63b : Nat → Nat → Int32) : Option ((Int32 × Int32 × Int32 × (Nat → Int32) × Int32 × Int32 × (Nat → Int32) × (Nat → Int32) × (Nat → Int32) × Int32 × (Nat → Int32) × (Nat → Int32) × (Nat → Int32) × (Nat → Int64) × (Nat → Option Nat) × (Nat → Nat → Int32)) ⊕ (Int32 × Int32 × Int32 × (Nat → Int32) × Int32 × Int32 × (Nat → Int32) × (Nat → Int32) × (Nat → Int32) × Int32 × (Nat → Int32) × (Nat → Int32) × (Nat → Int32) × (Nat → Int64) × (Nat → Option Nat) × (Nat → Nat → Int32))) :=
  (if (99 : Int32) < v7_63b then some (.inr (v5_63b, v6_63b, v7_63b, t_weight_63b, t_known_63b, t_hour_63b, t_swS_63b, t_swW_63b, t_waS_63b, t_spoons_63b, t_kind_63b, t_mark_63b, t_silver_63b, t_fresh_63b, t_texts_63b, tst_63b)) else bd (fX3_follow t_weight_63b t_known_63b t_hour_63b t_swS_63b t_swW_63b t_waS_63b t_spoons_63b t_kind_63b t_mark_63b t_silver_63b t_fresh_63b t_texts_63b h_weight h_known h_hour h_swS h_swW h_waS h_spoons h_kind h_mark h_silver h_fresh h_texts L) fun (t_weight_22, t_known_23, t_hour_24, t_swS_25, t_swW_26, t_waS_27, t_spoons_28, t_kind_29, t_mark_30, t_silver_31, t_fresh_32, t_texts_33) => ckI v2_63 8 (bnd (upd t_silver_31 (v2_63).toNatClampNeg v7_63b) fun t_silver_36 => ckI a 4 (ckI a 4 (ckI a 4 (bd (fX3_unlikeSpreads 40 (slens (a).toNatClampNeg) t_weight_22 t_known_23 t_hour_24 t_swS_25 t_swW_26 t_waS_27 t_spoons_28 t_kind_29 t_mark_30 t_silver_36 t_fresh_32 t_texts_33 (snum (a).toNatClampNeg) L tx tst_63b) fun (r_40, t_known_41, t_hour_42, t_silver_43, t_fresh_44, tst_45) => (if 0 ≤ r_40 then fX11_rubbed_129 v2_63 v3_63 v5_63b v6_63b v7_63b a errors_63 sbits slens snum h_weight h_known h_hour h_swS h_swW h_waS h_spoons h_kind h_mark h_silver h_fresh h_texts t_weight_22 t_known_41 t_hour_42 t_swS_25 t_swW_26 t_waS_27 t_spoons_28 t_kind_29 t_mark_30 t_silver_43 t_fresh_44 t_texts_33 L tx tst_45 else bnd (v5_63b + (1 : Int32)) fun y_49 => (if 0 ≤ v6_63b then fX11_rubbed_127 v2_63 v3_63 y_49 v7_63b v6_63b a errors_63 sbits slens snum h_weight h_known h_hour h_swS h_swW h_waS h_spoons h_kind h_mark h_silver h_fresh h_texts t_weight_22 t_known_41 t_hour_42 t_swS_25 t_swW_26 t_waS_27 t_spoons_28 t_kind_29 t_mark_30 t_silver_43 t_fresh_44 t_texts_33 L tx tst_45 else fX11_rubbed_127 v2_63 v3_63 y_49 v7_63b v7_63b a errors_63 sbits slens snum h_weight h_known h_hour h_swS h_swW h_waS h_spoons h_kind h_mark h_silver h_fresh h_texts t_weight_22 t_known_41 t_hour_42 t_swS_25 t_swW_26 t_waS_27 t_spoons_28 t_kind_29 t_mark_30 t_silver_43 t_fresh_44 t_texts_33 L tx tst_45)))))))
def fX11_rubbed_63 (v2_63 : Int32) (v3_63 : Int32) (v5_63 : Int32) (v6_63 : Int32) (v7_63 : Int32) (a : Int32) (errors_63 : Nat → Int32) (sbits : Nat → Int32) (slens : Nat → Int32) (snum : Nat → Nat → Int32) (h_weight : Nat → Int32) (h_known : Int32) (h_hour : Int32) (h_swS : Nat → Int32) (h_swW : Nat → Int32) (h_waS : Nat → Int32) (h_spoons : Int32) (h_kind : Nat → Int32) (h_mark : Nat → Int32) (h_silver : Nat → Int32) (h_fresh : Nat → Int64) (h_texts : Nat → Option Nat) (t_weight_63 : Nat → Int32) (t_known_63 : Int32) (t_hour_63 : Int32) (t_swS_63 : Nat → Int32) (t_swW_63 : Nat → Int32) (t_waS_63 : Nat → Int32) (t_spoons_63 : Int32) (t_kind_63 : Nat → Int32) (t_mark_63 : Nat → Int32) (t_silver_63 : Nat → Int32) (t_fresh_63 : Nat → Int64) (t_texts_63 : Nat → Option Nat) (L : List Nat) (tx : Nat → TXc) (tst_63 : Nat → Nat → Int32) : Option (Int32 × (Nat → Int32) × (Nat → Int32) × Int32 × Int32 × (Nat → Int32) × (Nat → Int32) × (Nat → Int32) × Int32 × (Nat → Int32) × (Nat → Int32) × (Nat → Int32) × (Nat → Int64) × (Nat → Option Nat) × (Nat → Nat → Int32)) :=
  bd (lp (fun σ : Int32 × Int32 × Int32 × (Nat → Int32) × Int32 × Int32 × (Nat → Int32) × (Nat → Int32) × (Nat → Int32) × Int32 × (Nat → Int32) × (Nat → Int32) × (Nat → Int32) × (Nat → Int64) × (Nat → Option Nat) × (Nat → Nat → Int32) => fX11_rubbed_63B v2_63 v3_63 a errors_63 sbits slens snum h_weight h_known h_hour h_swS h_swW h_waS h_spoons h_kind h_mark h_silver h_fresh h_texts L tx (σ.1) (σ.2.1) (σ.2.2.1) (σ.2.2.2.1) (σ.2.2.2.2.1) (σ.2.2.2.2.2.1) (σ.2.2.2.2.2.2.1) (σ.2.2.2.2.2.2.2.1) (σ.2.2.2.2.2.2.2.2.1) (σ.2.2.2.2.2.2.2.2.2.1) (σ.2.2.2.2.2.2.2.2.2.2.1) (σ.2.2.2.2.2.2.2.2.2.2.2.1) (σ.2.2.2.2.2.2.2.2.2.2.2.2.1) (σ.2.2.2.2.2.2.2.2.2.2.2.2.2.1) (σ.2.2.2.2.2.2.2.2.2.2.2.2.2.2.1) (σ.2.2.2.2.2.2.2.2.2.2.2.2.2.2.2)) FU (v5_63, v6_63, v7_63, t_weight_63, t_known_63, t_hour_63, t_swS_63, t_swW_63, t_waS_63, t_spoons_63, t_kind_63, t_mark_63, t_silver_63, t_fresh_63, t_texts_63, tst_63)) fun ρ => match ρ with | (v5_63r, v6_63r, v7_63r, t_weight_63r, t_known_63r, t_hour_63r, t_swS_63r, t_swW_63r, t_waS_63r, t_spoons_63r, t_kind_63r, t_mark_63r, t_silver_63r, t_fresh_63r, t_texts_63r, tst_63r) => (if v3_63 = 0 then some (v5_63r, errors_63, t_weight_63r, t_known_63r, t_hour_63r, t_swS_63r, t_swW_63r, t_waS_63r, t_spoons_63r, t_kind_63r, t_mark_63r, t_silver_63r, t_fresh_63r, t_texts_63r, tst_63r) else (if v5_63r = 0 then bd (fX11_refused (-1000000002 : Int32) errors_63) fun (r_18, errors_19) => some (r_18, errors_19, t_weight_63r, t_known_63r, t_hour_63r, t_swS_63r, t_swW_63r, t_waS_63r, t_spoons_63r, t_kind_63r, t_mark_63r, t_silver_63r, t_fresh_63r, t_texts_63r, tst_63r) else some (v6_63r, errors_63, t_weight_63r, t_known_63r, t_hour_63r, t_swS_63r, t_swW_63r, t_waS_63r, t_spoons_63r, t_kind_63r, t_mark_63r, t_silver_63r, t_fresh_63r, t_texts_63r, tst_63r)))
def fX11_rubbed (a : Int32) (b : Int32) (what : Int32) (errors : Nat → Int32) (sbits : Nat → Int32) (slens : Nat → Int32) (snum : Nat → Nat → Int32) (h_weight : Nat → Int32) (h_known : Int32) (h_hour : Int32) (h_swS : Nat → Int32) (h_swW : Nat → Int32) (h_waS : Nat → Int32) (h_spoons : Int32) (h_kind : Nat → Int32) (h_mark : Nat → Int32) (h_silver : Nat → Int32) (h_fresh : Nat → Int64) (h_texts : Nat → Option Nat) (t_weight : Nat → Int32) (t_known : Int32) (t_hour : Int32) (t_swS : Nat → Int32) (t_swW : Nat → Int32) (t_waS : Nat → Int32) (t_spoons : Int32) (t_kind : Nat → Int32) (t_mark : Nat → Int32) (t_silver : Nat → Int32) (t_fresh : Nat → Int64) (t_texts : Nat → Option Nat) (L : List Nat) (tx : Nat → TXc) (tst : Nat → Nat → Int32) : Option (Int32 × (Nat → Int32) × (Nat → Int32) × Int32 × Int32 × (Nat → Int32) × (Nat → Int32) × (Nat → Int32) × Int32 × (Nat → Int32) × (Nat → Int32) × (Nat → Int32) × (Nat → Int64) × (Nat → Option Nat) × (Nat → Nat → Int32)) :=
  bd (fX11_isSheet a) fun r_1 => (if r_1 = 0 then fX11_rubbed_24 errors sbits slens snum h_weight h_known h_hour h_swS h_swW h_waS h_spoons h_kind h_mark h_silver h_fresh h_texts t_weight t_known t_hour t_swS t_swW t_waS t_spoons t_kind t_mark t_silver t_fresh t_texts L tx tst else bd (fX11_isSpoon b h_spoons) fun r_7 => (if r_7 = 0 then fX11_rubbed_24 errors sbits slens snum h_weight h_known h_hour h_swS h_swW h_waS h_spoons h_kind h_mark h_silver h_fresh h_texts t_weight t_known t_hour t_swS t_swW t_waS t_spoons t_kind t_mark t_silver t_fresh t_texts L tx tst else bd (fX11_within what (0 : Int32) (1 : Int32)) fun r_10 => (if r_10 = 0 then fX11_rubbed_24 errors sbits slens snum h_weight h_known h_hour h_swS h_swW h_waS h_spoons h_kind h_mark h_silver h_fresh h_texts t_weight t_known t_hour t_swS t_swW t_waS t_spoons t_kind t_mark t_silver t_fresh t_texts L tx tst else ckI a 4 (ckI a 4 ((if (sbits (a).toNatClampNeg) = 0 then bd (fX11_refused (-1000000002 : Int32) errors) fun (r_51, errors_52) => some (r_51, errors_52, t_weight, t_known, t_hour, t_swS, t_swW, t_waS, t_spoons, t_kind, t_mark, t_silver, t_fresh, t_texts, tst) else fX11_rubbed_63 b what (0 : Int32) (-1 : Int32) (0 : Int32) a errors sbits slens snum h_weight h_known h_hour h_swS h_swW h_waS h_spoons h_kind h_mark h_silver h_fresh h_texts t_weight t_known t_hour t_swS t_swW t_waS t_spoons t_kind t_mark t_silver t_fresh t_texts L tx tst))))))
set_option maxHeartbeats 4000000 in
set_option maxRecDepth 100000 in
theorem c_X11_rubbed (l : Launch) (G : Nat → Nat) (D : va_G) (cA : Nat → ClassId) (xd : Nat → Nat) (vd : Nat → Nat) (sd : Nat → Nat) (nd : Nat → Nat) (hd : Nat → Nat) (td : Nat → Nat) (ed : Nat → Nat) (kd : Nat → Nat) (sz : Nat) (images : Int32) (errors : Nat → Int32) (fewest : Nat → Int32) (vspoon : Int32) (vmark : Int32) (vcount : Int32) (vbodies : Nat → Int32) (sbits : Nat → Int32) (slens : Nat → Int32) (snum : Nat → Nat → Int32) (h_weight : Nat → Int32) (h_known : Int32) (h_hour : Int32) (h_swS : Nat → Int32) (h_swW : Nat → Int32) (h_waS : Nat → Int32) (h_spoons : Int32) (h_kind : Nat → Int32) (h_mark : Nat → Int32) (h_silver : Nat → Int32) (h_fresh : Nat → Int64) (h_texts : Nat → Option Nat) (h_tape : Nat → Int32) (h_tapeCount : Int32) (h_z : Int32) (h_waiting : Nat → Int32) (h_waitingCount : Int32) (t_weight : Nat → Int32) (t_known : Int32) (t_hour : Int32) (t_swS : Nat → Int32) (t_swW : Nat → Int32) (t_waS : Nat → Int32) (t_spoons : Int32) (t_kind : Nat → Int32) (t_mark : Nat → Int32) (t_silver : Nat → Int32) (t_fresh : Nat → Int64) (t_texts : Nat → Option Nat) (t_tape : Nat → Int32) (t_tapeCount : Int32) (t_z : Int32) (t_waiting : Nat → Int32) (t_waitingCount : Int32) (e_weight : Nat → Int32) (e_known : Int32) (e_hour : Int32) (e_swS : Nat → Int32) (e_swW : Nat → Int32) (e_waS : Nat → Int32) (e_spoons : Int32) (e_kind : Nat → Int32) (e_mark : Nat → Int32) (e_silver : Nat → Int32) (e_fresh : Nat → Int64) (e_texts : Nat → Option Nat) (e_tape : Nat → Int32) (e_tapeCount : Int32) (e_z : Int32) (e_waiting : Nat → Int32) (e_waitingCount : Int32) (L : List Nat) (tx : Nat → TXc) (tst : Nat → Nat → Int32) (a : Int32) (b : Int32) (what : Int32) (rR : Int32) (errorsR : Nat → Int32) (t_weightR : Nat → Int32) (t_knownR : Int32) (t_hourR : Int32) (t_swSR : Nat → Int32) (t_swWR : Nat → Int32) (t_waSR : Nat → Int32) (t_spoonsR : Int32) (t_kindR : Nat → Int32) (t_markR : Nat → Int32) (t_silverR : Nat → Int32) (t_freshR : Nat → Int64) (t_textsR : Nat → Option Nat) (tstR : Nat → Nat → Int32) (h : fX11_rubbed a b what errors sbits slens snum h_weight h_known h_hour h_swS h_swW h_waS h_spoons h_kind h_mark h_silver h_fresh h_texts t_weight t_known t_hour t_swS t_swW t_waS t_spoons t_kind t_mark t_silver t_fresh t_texts L tx tst = some (rR, errorsR, t_weightR, t_knownR, t_hourR, t_swSR, t_swWR, t_waSR, t_spoonsR, t_kindR, t_markR, t_silverR, t_freshR, t_textsR, tstR)) : Met l yX11_rubbed wsX11_rubbed ({ frames := 7, cells := 0, slots := 0, locals := 164 } : Room) (PW G D (tyC cA) sz (wX cA xd vd sd nd hd td ed kd images errors fewest vspoon vmark vcount vbodies sbits slens snum h_weight h_known h_hour h_swS h_swW h_waS h_spoons h_kind h_mark h_silver h_fresh h_texts h_tape h_tapeCount h_z h_waiting h_waitingCount t_weight t_known t_hour t_swS t_swW t_waS t_spoons t_kind t_mark t_silver t_fresh t_texts t_tape t_tapeCount t_z t_waiting t_waitingCount e_weight e_known e_hour e_swS e_swW e_waS e_spoons e_kind e_mark e_silver e_fresh e_texts e_tape e_tapeCount e_z e_waiting e_waitingCount L tx tst) [.ref (xd 0), .int a, .int b, .int what]) (QI D (tyC cA) (va_A (wX cA xd vd sd nd hd td ed kd images errors fewest vspoon vmark vcount vbodies sbits slens snum h_weight h_known h_hour h_swS h_swW h_waS h_spoons h_kind h_mark h_silver h_fresh h_texts h_tape h_tapeCount h_z h_waiting h_waitingCount t_weight t_known t_hour t_swS t_swW t_waS t_spoons t_kind t_mark t_silver t_fresh t_texts t_tape t_tapeCount t_z t_waiting t_waitingCount e_weight e_known e_hour e_swS e_swW e_waS e_spoons e_kind e_mark e_silver e_fresh e_texts e_tape e_tapeCount e_z e_waiting e_waitingCount L tx tst) sz) rR (wX cA xd vd sd nd hd td ed kd images errorsR fewest vspoon vmark vcount vbodies sbits slens snum h_weight h_known h_hour h_swS h_swW h_waS h_spoons h_kind h_mark h_silver h_fresh h_texts h_tape h_tapeCount h_z h_waiting h_waitingCount t_weightR t_knownR t_hourR t_swSR t_swWR t_waSR t_spoonsR t_kindR t_markR t_silverR t_freshR t_textsR t_tape t_tapeCount t_z t_waiting t_waitingCount e_weight e_known e_hour e_swS e_swW e_waS e_spoons e_kind e_mark e_silver e_fresh e_texts e_tape e_tapeCount e_z e_waiting e_waitingCount L tx tstR)) 0 0 (va_A (wX cA xd vd sd nd hd td ed kd images errors fewest vspoon vmark vcount vbodies sbits slens snum h_weight h_known h_hour h_swS h_swW h_waS h_spoons h_kind h_mark h_silver h_fresh h_texts h_tape h_tapeCount h_z h_waiting h_waitingCount t_weight t_known t_hour t_swS t_swW t_waS t_spoons t_kind t_mark t_silver t_fresh t_texts t_tape t_tapeCount t_z t_waiting t_waitingCount e_weight e_known e_hour e_swS e_swW e_waS e_spoons e_kind e_mark e_silver e_fresh e_texts e_tape e_tapeCount e_z e_waiting e_waitingCount L tx tst) sz) := by
  refine ent (cc := cX11_rubbed) (maxL := 8) (ret := (some .int)) (fun A => QI D (tyC cA) A rR (wX cA xd vd sd nd hd td ed kd images errorsR fewest vspoon vmark vcount vbodies sbits slens snum h_weight h_known h_hour h_swS h_swW h_waS h_spoons h_kind h_mark h_silver h_fresh h_texts h_tape h_tapeCount h_z h_waiting h_waitingCount t_weightR t_knownR t_hourR t_swSR t_swWR t_waSR t_spoonsR t_kindR t_markR t_silverR t_freshR t_textsR t_tape t_tapeCount t_z t_waiting t_waitingCount e_weight e_known e_hour e_swS e_swW e_waS e_spoons e_kind e_mark e_silver e_fresh e_texts e_tape e_tapeCount e_z e_waiting e_waitingCount L tx tstR)) (by decide +kernel) rfl (Nat.le_of_ble_eq_true rfl) ?_
  intro p e s m args below meth c A ls H hx hb hml hr hlk hts hown hA hK hE hP hD hS hv hmm
  have hv : lv_has ls 8 [(0, .ref (xd 0)), (1, .int a), (2, .int b), (3, .int what)] := hv
  have in_3 : ∀ w ∈ u_ws RX3 TX3 18, w ∈ wsX11_rubbed := fun _ h => List.mem_cons_of_mem _ (List.mem_append_left _ (List.mem_append_right _ h))
  have in_7 : ∀ w ∈ u_ws RX7 TX7 3, w ∈ wsX11_rubbed := fun _ h => List.mem_cons_of_mem _ (List.mem_append_left _ (List.mem_append_left _ (List.mem_append_right _ h)))
  have in_11 : ∀ w ∈ u_ws RX11 TX11 9, w ∈ wsX11_rubbed := fun _ h => List.mem_cons_of_mem _ (List.mem_append_left _ (List.mem_append_left _ (List.mem_append_left _ (List.mem_append_right _ h))))
  have w_0 := hts (.constant RX11 78 (-1000000001)) (List.mem_of_getElem? (i := 1) rfl)
  have w_1 := hts (.fieldLink RX11 58 "SpoonsLast" "sheets" "[LSpoonsLast$Sheet;") (List.mem_of_getElem? (i := 2) rfl)
  have w_2 := hts (.fieldLink RX11 208 "SpoonsLast$Sheet" "bits" "I") (List.mem_of_getElem? (i := 3) rfl)
  have w_3 := hts (.constant RX11 204 (-1000000002)) (List.mem_of_getElem? (i := 4) rfl)
  have w_4 := hts (.fieldLink RX11 43 "SpoonsLast" "thought" "LSpoonsLast$House;") (List.mem_of_getElem? (i := 5) rfl)
  have w_5 := hts (.fieldLink RX11 39 "SpoonsLast" "house" "LSpoonsLast$House;") (List.mem_of_getElem? (i := 6) rfl)
  have w_6 := hts (.fieldLink RX11 121 "SpoonsLast$House" "silver" "[I") (List.mem_of_getElem? (i := 7) rfl)
  have w_7 := hts (.fieldLink RX11 211 "SpoonsLast$Sheet" "numbers" "[I") (List.mem_of_getElem? (i := 8) rfl)
  have w_8 := hts (.fieldLink RX11 214 "SpoonsLast$Sheet" "length" "I") (List.mem_of_getElem? (i := 9) rfl)
  generalize hQ : MQ below _ args s 0 0 A = Q
  have C_24 : ∀ (errors_24 : Nat → Int32) (t_weight_24 : Nat → Int32) (t_known_24 : Int32) (t_hour_24 : Int32) (t_swS_24 : Nat → Int32) (t_swW_24 : Nat → Int32) (t_waS_24 : Nat → Int32) (t_spoons_24 : Int32) (t_kind_24 : Nat → Int32) (t_mark_24 : Nat → Int32) (t_silver_24 : Nat → Int32) (t_fresh_24 : Nat → Int64) (t_texts_24 : Nat → Option Nat) (tst_24 : Nat → Nat → Int32), fX11_rubbed_24 errors_24 sbits slens snum h_weight h_known h_hour h_swS h_swW h_waS h_spoons h_kind h_mark h_silver h_fresh h_texts t_weight_24 t_known_24 t_hour_24 t_swS_24 t_swW_24 t_waS_24 t_spoons_24 t_kind_24 t_mark_24 t_silver_24 t_fresh_24 t_texts_24 L tx tst_24 = some (rR, errorsR, t_weightR, t_knownR, t_hourR, t_swSR, t_swWR, t_waSR, t_spoonsR, t_kindR, t_markR, t_silverR, t_freshR, t_textsR, tstR) → WW p l e ({ frames := 7, cells := 0, slots := 0, locals := 164 } : Room) s m args below meth c D A 0 0 Q (wX cA xd vd sd nd hd td ed kd images errors_24 fewest vspoon vmark vcount vbodies sbits slens snum h_weight h_known h_hour h_swS h_swW h_waS h_spoons h_kind h_mark h_silver h_fresh h_texts h_tape h_tapeCount h_z h_waiting h_waitingCount t_weight_24 t_known_24 t_hour_24 t_swS_24 t_swW_24 t_waS_24 t_spoons_24 t_kind_24 t_mark_24 t_silver_24 t_fresh_24 t_texts_24 t_tape t_tapeCount t_z t_waiting t_waitingCount e_weight e_known e_hour e_swS e_swW e_waS e_spoons e_kind e_mark e_silver e_fresh e_texts e_tape e_tapeCount e_z e_waiting e_waitingCount L tx tst_24) 8 [(0, .ref (xd 0))] 24 [] := by
    intro errors_24 t_weight_24 t_known_24 t_hour_24 t_swS_24 t_swW_24 t_waS_24 t_spoons_24 t_kind_24 t_mark_24 t_silver_24 t_fresh_24 t_texts_24 tst_24 h
    unfold fX11_rubbed_24 at h
    intro H locs ls hP hD hS hv
    refine lv_aload_n hx hb dX11_rubbed_24 rfl (lv_at hv 0 rfl) ?_
    refine lv_ldc (v := (-1000000001 : Int32)) hx hb hown w_0 dX11_rubbed_25 ?_
    obtain ⟨⟨r_4, errors_5⟩, hf_6, h⟩ := bd_ex h
    have sb := Sb.same hP hD hS hA
    refine calI (va_runV (As := [.int (-1000000001 : Int32)]) (rest := []) ⟨hx, hb, hml, hown, hts⟩ (c_X11_refused l G D cA xd vd sd nd hd td ed kd _ images errors_24 fewest vspoon vmark vcount vbodies sbits slens snum h_weight h_known h_hour h_swS h_swW h_waS h_spoons h_kind h_mark h_silver h_fresh h_texts h_tape h_tapeCount h_z h_waiting h_waitingCount t_weight_24 t_known_24 t_hour_24 t_swS_24 t_swW_24 t_waS_24 t_spoons_24 t_kind_24 t_mark_24 t_silver_24 t_fresh_24 t_texts_24 t_tape t_tapeCount t_z t_waiting t_waitingCount e_weight e_known e_hour e_swS e_swW e_waS e_spoons e_kind e_mark e_silver e_fresh e_texts e_tape e_tapeCount e_z e_waiting e_waitingCount L tx tst_24 (-1000000001 : Int32) r_4 errors_5 hf_6) (cwV 1 hts gX11_rubbed_X11_refused rfl rfl rfl (by decide +kernel) ⟨Nat.le_of_ble_eq_true rfl, Nat.le_of_ble_eq_true rfl⟩) (pvV hE hK hS sb (va_recv hK hP (ci := 11) (q0 := 0) rfl rfl)) rfl rfl hv.1 rfl (lv_room (Nat.le_of_ble_eq_true rfl)) dX11_rubbed_27 ⟨Nat.le_of_ble_eq_true rfl, Nat.le_of_ble_eq_true rfl⟩) hS sb (Jn.same sb) (fun H locs hP hD hS => ?_)
    have hP : va_P D vwCl (wX cA xd vd sd nd hd td ed kd images errors_5 fewest vspoon vmark vcount vbodies sbits slens snum h_weight h_known h_hour h_swS h_swW h_waS h_spoons h_kind h_mark h_silver h_fresh h_texts h_tape h_tapeCount h_z h_waiting h_waitingCount t_weight_24 t_known_24 t_hour_24 t_swS_24 t_swW_24 t_waS_24 t_spoons_24 t_kind_24 t_mark_24 t_silver_24 t_fresh_24 t_texts_24 t_tape t_tapeCount t_z t_waiting t_waitingCount e_weight e_known e_hour e_swS e_swW e_waS e_spoons e_kind e_mark e_silver e_fresh e_texts e_tape e_tapeCount e_z e_waiting e_waitingCount L tx tst_24) H := hP
    have hD : va_D A (wX cA xd vd sd nd hd td ed kd images errors_5 fewest vspoon vmark vcount vbodies sbits slens snum h_weight h_known h_hour h_swS h_swW h_waS h_spoons h_kind h_mark h_silver h_fresh h_texts h_tape h_tapeCount h_z h_waiting h_waitingCount t_weight_24 t_known_24 t_hour_24 t_swS_24 t_swW_24 t_waS_24 t_spoons_24 t_kind_24 t_mark_24 t_silver_24 t_fresh_24 t_texts_24 t_tape t_tapeCount t_z t_waiting t_waitingCount e_weight e_known e_hour e_swS e_swW e_waS e_spoons e_kind e_mark e_silver e_fresh e_texts e_tape e_tapeCount e_z e_waiting e_waitingCount L tx tst_24) := hD
    have h := Option.some.inj h
    have ee0 : r_4 = rR := congrArg (fun q => q.1) h
    have ee1 : errors_5 = errorsR := congrArg (fun q => q.2.1) h
    have ee2 : t_weight_24 = t_weightR := congrArg (fun q => q.2.2.1) h
    have ee3 : t_known_24 = t_knownR := congrArg (fun q => q.2.2.2.1) h
    have ee4 : t_hour_24 = t_hourR := congrArg (fun q => q.2.2.2.2.1) h
    have ee5 : t_swS_24 = t_swSR := congrArg (fun q => q.2.2.2.2.2.1) h
    have ee6 : t_swW_24 = t_swWR := congrArg (fun q => q.2.2.2.2.2.2.1) h
    have ee7 : t_waS_24 = t_waSR := congrArg (fun q => q.2.2.2.2.2.2.2.1) h
    have ee8 : t_spoons_24 = t_spoonsR := congrArg (fun q => q.2.2.2.2.2.2.2.2.1) h
    have ee9 : t_kind_24 = t_kindR := congrArg (fun q => q.2.2.2.2.2.2.2.2.2.1) h
    have ee10 : t_mark_24 = t_markR := congrArg (fun q => q.2.2.2.2.2.2.2.2.2.2.1) h
    have ee11 : t_silver_24 = t_silverR := congrArg (fun q => q.2.2.2.2.2.2.2.2.2.2.2.1) h
    have ee12 : t_fresh_24 = t_freshR := congrArg (fun q => q.2.2.2.2.2.2.2.2.2.2.2.2.1) h
    have ee13 : t_texts_24 = t_textsR := congrArg (fun q => q.2.2.2.2.2.2.2.2.2.2.2.2.2.1) h
    have ee14 : tst_24 = tstR := congrArg (fun q => q.2.2.2.2.2.2.2.2.2.2.2.2.2.2) h
    subst ee0
    subst ee1
    subst ee2
    subst ee3
    subst ee4
    subst ee5
    subst ee6
    subst ee7
    subst ee8
    subst ee9
    subst ee10
    subst ee11
    subst ee12
    subst ee13
    subst ee14
    rw [← hQ]
    exact retI hx hb hr hlk hK hP hD hS dX11_rubbed_30 ⟨Nat.le_of_ble_eq_true rfl, Nat.le_of_ble_eq_true rfl⟩
  have C_63 : ∀ (v2_63 : Int32) (v3_63 : Int32) (v5_63 : Int32) (v6_63 : Int32) (v7_63 : Int32) (errors_63 : Nat → Int32) (t_weight_63 : Nat → Int32) (t_known_63 : Int32) (t_hour_63 : Int32) (t_swS_63 : Nat → Int32) (t_swW_63 : Nat → Int32) (t_waS_63 : Nat → Int32) (t_spoons_63 : Int32) (t_kind_63 : Nat → Int32) (t_mark_63 : Nat → Int32) (t_silver_63 : Nat → Int32) (t_fresh_63 : Nat → Int64) (t_texts_63 : Nat → Option Nat) (tst_63 : Nat → Nat → Int32), fX11_rubbed_63 v2_63 v3_63 v5_63 v6_63 v7_63 a errors_63 sbits slens snum h_weight h_known h_hour h_swS h_swW h_waS h_spoons h_kind h_mark h_silver h_fresh h_texts t_weight_63 t_known_63 t_hour_63 t_swS_63 t_swW_63 t_waS_63 t_spoons_63 t_kind_63 t_mark_63 t_silver_63 t_fresh_63 t_texts_63 L tx tst_63 = some (rR, errorsR, t_weightR, t_knownR, t_hourR, t_swSR, t_swWR, t_waSR, t_spoonsR, t_kindR, t_markR, t_silverR, t_freshR, t_textsR, tstR) → WW p l e ({ frames := 7, cells := 0, slots := 0, locals := 164 } : Room) s m args below meth c D A 0 0 Q (wX cA xd vd sd nd hd td ed kd images errors_63 fewest vspoon vmark vcount vbodies sbits slens snum h_weight h_known h_hour h_swS h_swW h_waS h_spoons h_kind h_mark h_silver h_fresh h_texts h_tape h_tapeCount h_z h_waiting h_waitingCount t_weight_63 t_known_63 t_hour_63 t_swS_63 t_swW_63 t_waS_63 t_spoons_63 t_kind_63 t_mark_63 t_silver_63 t_fresh_63 t_texts_63 t_tape t_tapeCount t_z t_waiting t_waitingCount e_weight e_known e_hour e_swS e_swW e_waS e_spoons e_kind e_mark e_silver e_fresh e_texts e_tape e_tapeCount e_z e_waiting e_waitingCount L tx tst_63) 8 [(0, .ref (xd 0)), (2, .int v2_63), (3, .int v3_63), (4, .ref (sd (a).toNatClampNeg)), (5, .int v5_63), (6, .int v6_63), (7, .int v7_63)] 63 [] := by
    intro v2_63 v3_63 v5_63 v6_63 v7_63 errors_63 t_weight_63 t_known_63 t_hour_63 t_swS_63 t_swW_63 t_waS_63 t_spoons_63 t_kind_63 t_mark_63 t_silver_63 t_fresh_63 t_texts_63 tst_63 h
    unfold fX11_rubbed_63 at h
    obtain ⟨⟨v5_63r, v6_63r, v7_63r, t_weight_63r, t_known_63r, t_hour_63r, t_swS_63r, t_swW_63r, t_waS_63r, t_spoons_63r, t_kind_63r, t_mark_63r, t_silver_63r, t_fresh_63r, t_texts_63r, tst_63r⟩, ho, h⟩ := bd_ex h
    have LE : WW p l e ({ frames := 7, cells := 0, slots := 0, locals := 164 } : Room) s m args below meth c D A 0 0 Q (wX cA xd vd sd nd hd td ed kd images errors_63 fewest vspoon vmark vcount vbodies sbits slens snum h_weight h_known h_hour h_swS h_swW h_waS h_spoons h_kind h_mark h_silver h_fresh h_texts h_tape h_tapeCount h_z h_waiting h_waitingCount t_weight_63r t_known_63r t_hour_63r t_swS_63r t_swW_63r t_waS_63r t_spoons_63r t_kind_63r t_mark_63r t_silver_63r t_fresh_63r t_texts_63r t_tape t_tapeCount t_z t_waiting t_waitingCount e_weight e_known e_hour e_swS e_swW e_waS e_spoons e_kind e_mark e_silver e_fresh e_texts e_tape e_tapeCount e_z e_waiting e_waitingCount L tx tst_63r) 8 [(0, .ref (xd 0)), (3, .int v3_63), (5, .int v5_63r), (6, .int v6_63r)] 135 [] := by
      intro H locs ls hP hD hS hv
      refine lv_iload_n hx hb dX11_rubbed_135 rfl (lv_at hv 1 rfl) ?_
      refine lv_if_ne (tgt := 142) hx hb dX11_rubbed_136 (by decide) (fun c_16 => ?_) (fun c_16 => ?_)
      · have h := ite_f c_16 h
        refine lv_iload hx hb dX11_rubbed_142 (lv_at hv 2 rfl) ?_
        refine lv_if_ne (tgt := 156) hx hb dX11_rubbed_144 (by decide) (fun c_17 => ?_) (fun c_17 => ?_)
        · have h := ite_f c_17 h
          refine lv_iload hx hb dX11_rubbed_156 (lv_at hv 3 rfl) ?_
          have h := Option.some.inj h
          have ee0 : v6_63r = rR := congrArg (fun q => q.1) h
          have ee1 : errors_63 = errorsR := congrArg (fun q => q.2.1) h
          have ee2 : t_weight_63r = t_weightR := congrArg (fun q => q.2.2.1) h
          have ee3 : t_known_63r = t_knownR := congrArg (fun q => q.2.2.2.1) h
          have ee4 : t_hour_63r = t_hourR := congrArg (fun q => q.2.2.2.2.1) h
          have ee5 : t_swS_63r = t_swSR := congrArg (fun q => q.2.2.2.2.2.1) h
          have ee6 : t_swW_63r = t_swWR := congrArg (fun q => q.2.2.2.2.2.2.1) h
          have ee7 : t_waS_63r = t_waSR := congrArg (fun q => q.2.2.2.2.2.2.2.1) h
          have ee8 : t_spoons_63r = t_spoonsR := congrArg (fun q => q.2.2.2.2.2.2.2.2.1) h
          have ee9 : t_kind_63r = t_kindR := congrArg (fun q => q.2.2.2.2.2.2.2.2.2.1) h
          have ee10 : t_mark_63r = t_markR := congrArg (fun q => q.2.2.2.2.2.2.2.2.2.2.1) h
          have ee11 : t_silver_63r = t_silverR := congrArg (fun q => q.2.2.2.2.2.2.2.2.2.2.2.1) h
          have ee12 : t_fresh_63r = t_freshR := congrArg (fun q => q.2.2.2.2.2.2.2.2.2.2.2.2.1) h
          have ee13 : t_texts_63r = t_textsR := congrArg (fun q => q.2.2.2.2.2.2.2.2.2.2.2.2.2.1) h
          have ee14 : tst_63r = tstR := congrArg (fun q => q.2.2.2.2.2.2.2.2.2.2.2.2.2.2) h
          subst ee0
          subst ee1
          subst ee2
          subst ee3
          subst ee4
          subst ee5
          subst ee6
          subst ee7
          subst ee8
          subst ee9
          subst ee10
          subst ee11
          subst ee12
          subst ee13
          subst ee14
          rw [← hQ]
          exact retI hx hb hr hlk hK hP hD hS dX11_rubbed_158 ⟨Nat.le_of_ble_eq_true rfl, Nat.le_of_ble_eq_true rfl⟩
        · have h := ite_t c_17 h
          refine lv_aload_n hx hb dX11_rubbed_147 rfl (lv_at hv 0 rfl) ?_
          refine lv_ldc (v := (-1000000002 : Int32)) hx hb hown w_3 dX11_rubbed_148 ?_
          obtain ⟨⟨r_18, errors_19⟩, hf_20, h⟩ := bd_ex h
          have sb := Sb.same hP hD hS hA
          refine calI (va_runV (As := [.int (-1000000002 : Int32)]) (rest := []) ⟨hx, hb, hml, hown, hts⟩ (c_X11_refused l G D cA xd vd sd nd hd td ed kd _ images errors_63 fewest vspoon vmark vcount vbodies sbits slens snum h_weight h_known h_hour h_swS h_swW h_waS h_spoons h_kind h_mark h_silver h_fresh h_texts h_tape h_tapeCount h_z h_waiting h_waitingCount t_weight_63r t_known_63r t_hour_63r t_swS_63r t_swW_63r t_waS_63r t_spoons_63r t_kind_63r t_mark_63r t_silver_63r t_fresh_63r t_texts_63r t_tape t_tapeCount t_z t_waiting t_waitingCount e_weight e_known e_hour e_swS e_swW e_waS e_spoons e_kind e_mark e_silver e_fresh e_texts e_tape e_tapeCount e_z e_waiting e_waitingCount L tx tst_63r (-1000000002 : Int32) r_18 errors_19 hf_20) (cwV 1 hts gX11_rubbed_X11_refused rfl rfl rfl (by decide +kernel) ⟨Nat.le_of_ble_eq_true rfl, Nat.le_of_ble_eq_true rfl⟩) (pvV hE hK hS sb (va_recv hK hP (ci := 11) (q0 := 0) rfl rfl)) rfl rfl hv.1 rfl (lv_room (Nat.le_of_ble_eq_true rfl)) dX11_rubbed_150 ⟨Nat.le_of_ble_eq_true rfl, Nat.le_of_ble_eq_true rfl⟩) hS sb (Jn.same sb) (fun H locs hP hD hS => ?_)
          have hP : va_P D vwCl (wX cA xd vd sd nd hd td ed kd images errors_19 fewest vspoon vmark vcount vbodies sbits slens snum h_weight h_known h_hour h_swS h_swW h_waS h_spoons h_kind h_mark h_silver h_fresh h_texts h_tape h_tapeCount h_z h_waiting h_waitingCount t_weight_63r t_known_63r t_hour_63r t_swS_63r t_swW_63r t_waS_63r t_spoons_63r t_kind_63r t_mark_63r t_silver_63r t_fresh_63r t_texts_63r t_tape t_tapeCount t_z t_waiting t_waitingCount e_weight e_known e_hour e_swS e_swW e_waS e_spoons e_kind e_mark e_silver e_fresh e_texts e_tape e_tapeCount e_z e_waiting e_waitingCount L tx tst_63r) H := hP
          have hD : va_D A (wX cA xd vd sd nd hd td ed kd images errors_19 fewest vspoon vmark vcount vbodies sbits slens snum h_weight h_known h_hour h_swS h_swW h_waS h_spoons h_kind h_mark h_silver h_fresh h_texts h_tape h_tapeCount h_z h_waiting h_waitingCount t_weight_63r t_known_63r t_hour_63r t_swS_63r t_swW_63r t_waS_63r t_spoons_63r t_kind_63r t_mark_63r t_silver_63r t_fresh_63r t_texts_63r t_tape t_tapeCount t_z t_waiting t_waitingCount e_weight e_known e_hour e_swS e_swW e_waS e_spoons e_kind e_mark e_silver e_fresh e_texts e_tape e_tapeCount e_z e_waiting e_waitingCount L tx tst_63r) := hD
          refine lv_goto (tgt := 158) hx hb dX11_rubbed_153 (by decide) ?_
          have h := Option.some.inj h
          have ee0 : r_18 = rR := congrArg (fun q => q.1) h
          have ee1 : errors_19 = errorsR := congrArg (fun q => q.2.1) h
          have ee2 : t_weight_63r = t_weightR := congrArg (fun q => q.2.2.1) h
          have ee3 : t_known_63r = t_knownR := congrArg (fun q => q.2.2.2.1) h
          have ee4 : t_hour_63r = t_hourR := congrArg (fun q => q.2.2.2.2.1) h
          have ee5 : t_swS_63r = t_swSR := congrArg (fun q => q.2.2.2.2.2.1) h
          have ee6 : t_swW_63r = t_swWR := congrArg (fun q => q.2.2.2.2.2.2.1) h
          have ee7 : t_waS_63r = t_waSR := congrArg (fun q => q.2.2.2.2.2.2.2.1) h
          have ee8 : t_spoons_63r = t_spoonsR := congrArg (fun q => q.2.2.2.2.2.2.2.2.1) h
          have ee9 : t_kind_63r = t_kindR := congrArg (fun q => q.2.2.2.2.2.2.2.2.2.1) h
          have ee10 : t_mark_63r = t_markR := congrArg (fun q => q.2.2.2.2.2.2.2.2.2.2.1) h
          have ee11 : t_silver_63r = t_silverR := congrArg (fun q => q.2.2.2.2.2.2.2.2.2.2.2.1) h
          have ee12 : t_fresh_63r = t_freshR := congrArg (fun q => q.2.2.2.2.2.2.2.2.2.2.2.2.1) h
          have ee13 : t_texts_63r = t_textsR := congrArg (fun q => q.2.2.2.2.2.2.2.2.2.2.2.2.2.1) h
          have ee14 : tst_63r = tstR := congrArg (fun q => q.2.2.2.2.2.2.2.2.2.2.2.2.2.2) h
          subst ee0
          subst ee1
          subst ee2
          subst ee3
          subst ee4
          subst ee5
          subst ee6
          subst ee7
          subst ee8
          subst ee9
          subst ee10
          subst ee11
          subst ee12
          subst ee13
          subst ee14
          rw [← hQ]
          exact retI hx hb hr hlk hK hP hD hS dX11_rubbed_158 ⟨Nat.le_of_ble_eq_true rfl, Nat.le_of_ble_eq_true rfl⟩
      · have h := ite_t c_16 h
        refine lv_iload hx hb dX11_rubbed_139 (lv_at hv 2 rfl) ?_
        have h := Option.some.inj h
        have ee0 : v5_63r = rR := congrArg (fun q => q.1) h
        have ee1 : errors_63 = errorsR := congrArg (fun q => q.2.1) h
        have ee2 : t_weight_63r = t_weightR := congrArg (fun q => q.2.2.1) h
        have ee3 : t_known_63r = t_knownR := congrArg (fun q => q.2.2.2.1) h
        have ee4 : t_hour_63r = t_hourR := congrArg (fun q => q.2.2.2.2.1) h
        have ee5 : t_swS_63r = t_swSR := congrArg (fun q => q.2.2.2.2.2.1) h
        have ee6 : t_swW_63r = t_swWR := congrArg (fun q => q.2.2.2.2.2.2.1) h
        have ee7 : t_waS_63r = t_waSR := congrArg (fun q => q.2.2.2.2.2.2.2.1) h
        have ee8 : t_spoons_63r = t_spoonsR := congrArg (fun q => q.2.2.2.2.2.2.2.2.1) h
        have ee9 : t_kind_63r = t_kindR := congrArg (fun q => q.2.2.2.2.2.2.2.2.2.1) h
        have ee10 : t_mark_63r = t_markR := congrArg (fun q => q.2.2.2.2.2.2.2.2.2.2.1) h
        have ee11 : t_silver_63r = t_silverR := congrArg (fun q => q.2.2.2.2.2.2.2.2.2.2.2.1) h
        have ee12 : t_fresh_63r = t_freshR := congrArg (fun q => q.2.2.2.2.2.2.2.2.2.2.2.2.1) h
        have ee13 : t_texts_63r = t_textsR := congrArg (fun q => q.2.2.2.2.2.2.2.2.2.2.2.2.2.1) h
        have ee14 : tst_63r = tstR := congrArg (fun q => q.2.2.2.2.2.2.2.2.2.2.2.2.2.2) h
        subst ee0
        subst ee1
        subst ee2
        subst ee3
        subst ee4
        subst ee5
        subst ee6
        subst ee7
        subst ee8
        subst ee9
        subst ee10
        subst ee11
        subst ee12
        subst ee13
        subst ee14
        rw [← hQ]
        exact retI hx hb hr hlk hK hP hD hS dX11_rubbed_141 ⟨Nat.le_of_ble_eq_true rfl, Nat.le_of_ble_eq_true rfl⟩
    have LB : ∀ (nf : Nat) (v5_63b : Int32) (v6_63b : Int32) (v7_63b : Int32) (t_weight_63b : Nat → Int32) (t_known_63b : Int32) (t_hour_63b : Int32) (t_swS_63b : Nat → Int32) (t_swW_63b : Nat → Int32) (t_waS_63b : Nat → Int32) (t_spoons_63b : Int32) (t_kind_63b : Nat → Int32) (t_mark_63b : Nat → Int32) (t_silver_63b : Nat → Int32) (t_fresh_63b : Nat → Int64) (t_texts_63b : Nat → Option Nat) (tst_63b : Nat → Nat → Int32), lp (fun σ : Int32 × Int32 × Int32 × (Nat → Int32) × Int32 × Int32 × (Nat → Int32) × (Nat → Int32) × (Nat → Int32) × Int32 × (Nat → Int32) × (Nat → Int32) × (Nat → Int32) × (Nat → Int64) × (Nat → Option Nat) × (Nat → Nat → Int32) => fX11_rubbed_63B v2_63 v3_63 a errors_63 sbits slens snum h_weight h_known h_hour h_swS h_swW h_waS h_spoons h_kind h_mark h_silver h_fresh h_texts L tx (σ.1) (σ.2.1) (σ.2.2.1) (σ.2.2.2.1) (σ.2.2.2.2.1) (σ.2.2.2.2.2.1) (σ.2.2.2.2.2.2.1) (σ.2.2.2.2.2.2.2.1) (σ.2.2.2.2.2.2.2.2.1) (σ.2.2.2.2.2.2.2.2.2.1) (σ.2.2.2.2.2.2.2.2.2.2.1) (σ.2.2.2.2.2.2.2.2.2.2.2.1) (σ.2.2.2.2.2.2.2.2.2.2.2.2.1) (σ.2.2.2.2.2.2.2.2.2.2.2.2.2.1) (σ.2.2.2.2.2.2.2.2.2.2.2.2.2.2.1) (σ.2.2.2.2.2.2.2.2.2.2.2.2.2.2.2)) nf (v5_63b, v6_63b, v7_63b, t_weight_63b, t_known_63b, t_hour_63b, t_swS_63b, t_swW_63b, t_waS_63b, t_spoons_63b, t_kind_63b, t_mark_63b, t_silver_63b, t_fresh_63b, t_texts_63b, tst_63b) = some (v5_63r, v6_63r, v7_63r, t_weight_63r, t_known_63r, t_hour_63r, t_swS_63r, t_swW_63r, t_waS_63r, t_spoons_63r, t_kind_63r, t_mark_63r, t_silver_63r, t_fresh_63r, t_texts_63r, tst_63r) → WW p l e ({ frames := 7, cells := 0, slots := 0, locals := 164 } : Room) s m args below meth c D A 0 0 Q (wX cA xd vd sd nd hd td ed kd images errors_63 fewest vspoon vmark vcount vbodies sbits slens snum h_weight h_known h_hour h_swS h_swW h_waS h_spoons h_kind h_mark h_silver h_fresh h_texts h_tape h_tapeCount h_z h_waiting h_waitingCount t_weight_63b t_known_63b t_hour_63b t_swS_63b t_swW_63b t_waS_63b t_spoons_63b t_kind_63b t_mark_63b t_silver_63b t_fresh_63b t_texts_63b t_tape t_tapeCount t_z t_waiting t_waitingCount e_weight e_known e_hour e_swS e_swW e_waS e_spoons e_kind e_mark e_silver e_fresh e_texts e_tape e_tapeCount e_z e_waiting e_waitingCount L tx tst_63b) 8 [(0, .ref (xd 0)), (2, .int v2_63), (3, .int v3_63), (4, .ref (sd (a).toNatClampNeg)), (5, .int v5_63b), (6, .int v6_63b), (7, .int v7_63b)] 63 [] := by
      intro nf
      induction nf with
      | zero => intro v5_63b v6_63b v7_63b t_weight_63b t_known_63b t_hour_63b t_swS_63b t_swW_63b t_waS_63b t_spoons_63b t_kind_63b t_mark_63b t_silver_63b t_fresh_63b t_texts_63b tst_63b hl; cases hl
      | succ nf ih =>
        intro v5_63b v6_63b v7_63b t_weight_63b t_known_63b t_hour_63b t_swS_63b t_swW_63b t_waS_63b t_spoons_63b t_kind_63b t_mark_63b t_silver_63b t_fresh_63b t_texts_63b tst_63b hl
        obtain ⟨x, h, hl⟩ := lp_ex hl
        have h : fX11_rubbed_63B v2_63 v3_63 a errors_63 sbits slens snum h_weight h_known h_hour h_swS h_swW h_waS h_spoons h_kind h_mark h_silver h_fresh h_texts L tx v5_63b v6_63b v7_63b t_weight_63b t_known_63b t_hour_63b t_swS_63b t_swW_63b t_waS_63b t_spoons_63b t_kind_63b t_mark_63b t_silver_63b t_fresh_63b t_texts_63b tst_63b = some x := h
        unfold fX11_rubbed_63B at h
        have C_129 : ∀ (v5_129 : Int32) (v6_129 : Int32) (v7_129 : Int32) (t_weight_129 : Nat → Int32) (t_known_129 : Int32) (t_hour_129 : Int32) (t_swS_129 : Nat → Int32) (t_swW_129 : Nat → Int32) (t_waS_129 : Nat → Int32) (t_spoons_129 : Int32) (t_kind_129 : Nat → Int32) (t_mark_129 : Nat → Int32) (t_silver_129 : Nat → Int32) (t_fresh_129 : Nat → Int64) (t_texts_129 : Nat → Option Nat) (tst_129 : Nat → Nat → Int32) (x : (Int32 × Int32 × Int32 × (Nat → Int32) × Int32 × Int32 × (Nat → Int32) × (Nat → Int32) × (Nat → Int32) × Int32 × (Nat → Int32) × (Nat → Int32) × (Nat → Int32) × (Nat → Int64) × (Nat → Option Nat) × (Nat → Nat → Int32)) ⊕ (Int32 × Int32 × Int32 × (Nat → Int32) × Int32 × Int32 × (Nat → Int32) × (Nat → Int32) × (Nat → Int32) × Int32 × (Nat → Int32) × (Nat → Int32) × (Nat → Int32) × (Nat → Int64) × (Nat → Option Nat) × (Nat → Nat → Int32))), fX11_rubbed_129 v2_63 v3_63 v5_129 v6_129 v7_129 a errors_63 sbits slens snum h_weight h_known h_hour h_swS h_swW h_waS h_spoons h_kind h_mark h_silver h_fresh h_texts t_weight_129 t_known_129 t_hour_129 t_swS_129 t_swW_129 t_waS_129 t_spoons_129 t_kind_129 t_mark_129 t_silver_129 t_fresh_129 t_texts_129 L tx tst_129 = some x → lpk (fun σ : Int32 × Int32 × Int32 × (Nat → Int32) × Int32 × Int32 × (Nat → Int32) × (Nat → Int32) × (Nat → Int32) × Int32 × (Nat → Int32) × (Nat → Int32) × (Nat → Int32) × (Nat → Int64) × (Nat → Option Nat) × (Nat → Nat → Int32) => fX11_rubbed_63B v2_63 v3_63 a errors_63 sbits slens snum h_weight h_known h_hour h_swS h_swW h_waS h_spoons h_kind h_mark h_silver h_fresh h_texts L tx (σ.1) (σ.2.1) (σ.2.2.1) (σ.2.2.2.1) (σ.2.2.2.2.1) (σ.2.2.2.2.2.1) (σ.2.2.2.2.2.2.1) (σ.2.2.2.2.2.2.2.1) (σ.2.2.2.2.2.2.2.2.1) (σ.2.2.2.2.2.2.2.2.2.1) (σ.2.2.2.2.2.2.2.2.2.2.1) (σ.2.2.2.2.2.2.2.2.2.2.2.1) (σ.2.2.2.2.2.2.2.2.2.2.2.2.1) (σ.2.2.2.2.2.2.2.2.2.2.2.2.2.1) (σ.2.2.2.2.2.2.2.2.2.2.2.2.2.2.1) (σ.2.2.2.2.2.2.2.2.2.2.2.2.2.2.2)) nf x = some (v5_63r, v6_63r, v7_63r, t_weight_63r, t_known_63r, t_hour_63r, t_swS_63r, t_swW_63r, t_waS_63r, t_spoons_63r, t_kind_63r, t_mark_63r, t_silver_63r, t_fresh_63r, t_texts_63r, tst_63r) → WW p l e ({ frames := 7, cells := 0, slots := 0, locals := 164 } : Room) s m args below meth c D A 0 0 Q (wX cA xd vd sd nd hd td ed kd images errors_63 fewest vspoon vmark vcount vbodies sbits slens snum h_weight h_known h_hour h_swS h_swW h_waS h_spoons h_kind h_mark h_silver h_fresh h_texts h_tape h_tapeCount h_z h_waiting h_waitingCount t_weight_129 t_known_129 t_hour_129 t_swS_129 t_swW_129 t_waS_129 t_spoons_129 t_kind_129 t_mark_129 t_silver_129 t_fresh_129 t_texts_129 t_tape t_tapeCount t_z t_waiting t_waitingCount e_weight e_known e_hour e_swS e_swW e_waS e_spoons e_kind e_mark e_silver e_fresh e_texts e_tape e_tapeCount e_z e_waiting e_waitingCount L tx tst_129) 8 [(0, .ref (xd 0)), (2, .int v2_63), (3, .int v3_63), (4, .ref (sd (a).toNatClampNeg)), (5, .int v5_129), (6, .int v6_129), (7, .int v7_129)] 129 [] := by
          intro v5_129 v6_129 v7_129 t_weight_129 t_known_129 t_hour_129 t_swS_129 t_swW_129 t_waS_129 t_spoons_129 t_kind_129 t_mark_129 t_silver_129 t_fresh_129 t_texts_129 tst_129 x h hl
          unfold fX11_rubbed_129 at h
          intro H locs ls hP hD hS hv
          obtain ⟨y_48, ey_48, h⟩ := bnd_ex h
          refine lv_iinc (v := y_48) (lv' := [(7, .int y_48), (0, .ref (xd 0)), (2, .int v2_63), (3, .int v3_63), (4, .ref (sd (a).toNatClampNeg)), (5, .int v5_129), (6, .int v6_129)]) hx hb dX11_rubbed_129 hv (k := 6) rfl (by rw [ey_48]; rfl) (by decide) rfl (fun ls hv => ?_)
          refine lv_goto (tgt := 63) hx hb dX11_rubbed_132 (by decide) ?_
          cases h
          exact ih v5_129 v6_129 y_48 t_weight_129 t_known_129 t_hour_129 t_swS_129 t_swW_129 t_waS_129 t_spoons_129 t_kind_129 t_mark_129 t_silver_129 t_fresh_129 t_texts_129 tst_129 hl _ _ _ hP hD hS (lv_sub hv [1, 2, 3, 4, 5, 6, 0] rfl)
        have C_127 : ∀ (v5_127 : Int32) (v7_127 : Int32) (k0_127 : Int32) (t_weight_127 : Nat → Int32) (t_known_127 : Int32) (t_hour_127 : Int32) (t_swS_127 : Nat → Int32) (t_swW_127 : Nat → Int32) (t_waS_127 : Nat → Int32) (t_spoons_127 : Int32) (t_kind_127 : Nat → Int32) (t_mark_127 : Nat → Int32) (t_silver_127 : Nat → Int32) (t_fresh_127 : Nat → Int64) (t_texts_127 : Nat → Option Nat) (tst_127 : Nat → Nat → Int32) (x : (Int32 × Int32 × Int32 × (Nat → Int32) × Int32 × Int32 × (Nat → Int32) × (Nat → Int32) × (Nat → Int32) × Int32 × (Nat → Int32) × (Nat → Int32) × (Nat → Int32) × (Nat → Int64) × (Nat → Option Nat) × (Nat → Nat → Int32)) ⊕ (Int32 × Int32 × Int32 × (Nat → Int32) × Int32 × Int32 × (Nat → Int32) × (Nat → Int32) × (Nat → Int32) × Int32 × (Nat → Int32) × (Nat → Int32) × (Nat → Int32) × (Nat → Int64) × (Nat → Option Nat) × (Nat → Nat → Int32))), fX11_rubbed_127 v2_63 v3_63 v5_127 v7_127 k0_127 a errors_63 sbits slens snum h_weight h_known h_hour h_swS h_swW h_waS h_spoons h_kind h_mark h_silver h_fresh h_texts t_weight_127 t_known_127 t_hour_127 t_swS_127 t_swW_127 t_waS_127 t_spoons_127 t_kind_127 t_mark_127 t_silver_127 t_fresh_127 t_texts_127 L tx tst_127 = some x → lpk (fun σ : Int32 × Int32 × Int32 × (Nat → Int32) × Int32 × Int32 × (Nat → Int32) × (Nat → Int32) × (Nat → Int32) × Int32 × (Nat → Int32) × (Nat → Int32) × (Nat → Int32) × (Nat → Int64) × (Nat → Option Nat) × (Nat → Nat → Int32) => fX11_rubbed_63B v2_63 v3_63 a errors_63 sbits slens snum h_weight h_known h_hour h_swS h_swW h_waS h_spoons h_kind h_mark h_silver h_fresh h_texts L tx (σ.1) (σ.2.1) (σ.2.2.1) (σ.2.2.2.1) (σ.2.2.2.2.1) (σ.2.2.2.2.2.1) (σ.2.2.2.2.2.2.1) (σ.2.2.2.2.2.2.2.1) (σ.2.2.2.2.2.2.2.2.1) (σ.2.2.2.2.2.2.2.2.2.1) (σ.2.2.2.2.2.2.2.2.2.2.1) (σ.2.2.2.2.2.2.2.2.2.2.2.1) (σ.2.2.2.2.2.2.2.2.2.2.2.2.1) (σ.2.2.2.2.2.2.2.2.2.2.2.2.2.1) (σ.2.2.2.2.2.2.2.2.2.2.2.2.2.2.1) (σ.2.2.2.2.2.2.2.2.2.2.2.2.2.2.2)) nf x = some (v5_63r, v6_63r, v7_63r, t_weight_63r, t_known_63r, t_hour_63r, t_swS_63r, t_swW_63r, t_waS_63r, t_spoons_63r, t_kind_63r, t_mark_63r, t_silver_63r, t_fresh_63r, t_texts_63r, tst_63r) → WW p l e ({ frames := 7, cells := 0, slots := 0, locals := 164 } : Room) s m args below meth c D A 0 0 Q (wX cA xd vd sd nd hd td ed kd images errors_63 fewest vspoon vmark vcount vbodies sbits slens snum h_weight h_known h_hour h_swS h_swW h_waS h_spoons h_kind h_mark h_silver h_fresh h_texts h_tape h_tapeCount h_z h_waiting h_waitingCount t_weight_127 t_known_127 t_hour_127 t_swS_127 t_swW_127 t_waS_127 t_spoons_127 t_kind_127 t_mark_127 t_silver_127 t_fresh_127 t_texts_127 t_tape t_tapeCount t_z t_waiting t_waitingCount e_weight e_known e_hour e_swS e_swW e_waS e_spoons e_kind e_mark e_silver e_fresh e_texts e_tape e_tapeCount e_z e_waiting e_waitingCount L tx tst_127) 8 [(0, .ref (xd 0)), (2, .int v2_63), (3, .int v3_63), (4, .ref (sd (a).toNatClampNeg)), (5, .int v5_127), (7, .int v7_127)] 127 [.int k0_127] := by
          intro v5_127 v7_127 k0_127 t_weight_127 t_known_127 t_hour_127 t_swS_127 t_swW_127 t_waS_127 t_spoons_127 t_kind_127 t_mark_127 t_silver_127 t_fresh_127 t_texts_127 tst_127 x h hl
          unfold fX11_rubbed_127 at h
          intro H locs ls hP hD hS hv
          refine lv_istore (lv' := [(6, .int k0_127), (0, .ref (xd 0)), (2, .int v2_63), (3, .int v3_63), (4, .ref (sd (a).toNatClampNeg)), (5, .int v5_127), (7, .int v7_127)]) hx hb dX11_rubbed_127 hv (by decide) rfl (fun ls hv => ?_)
          exact C_129 v5_127 k0_127 v7_127 t_weight_127 t_known_127 t_hour_127 t_swS_127 t_swW_127 t_waS_127 t_spoons_127 t_kind_127 t_mark_127 t_silver_127 t_fresh_127 t_texts_127 tst_127 _ h hl _ _ _ hP hD hS (lv_sub hv [1, 2, 3, 4, 5, 0, 6] rfl)
        intro H locs ls hP hD hS hv
        refine lv_iload hx hb dX11_rubbed_63 (lv_at hv 6 rfl) ?_
        refine lv_bipush (v := (99 : Int32)) hx hb dX11_rubbed_65 (by decide) ?_
        refine lv_icmp_gt (tgt := 135) hx hb dX11_rubbed_67 (by decide) (fun c_21 => ?_) (fun c_21 => ?_)
        · have h := ite_t c_21 h
          cases h
          have hl : some (v5_63b, v6_63b, v7_63b, t_weight_63b, t_known_63b, t_hour_63b, t_swS_63b, t_swW_63b, t_waS_63b, t_spoons_63b, t_kind_63b, t_mark_63b, t_silver_63b, t_fresh_63b, t_texts_63b, tst_63b) = some (v5_63r, v6_63r, v7_63r, t_weight_63r, t_known_63r, t_hour_63r, t_swS_63r, t_swW_63r, t_waS_63r, t_spoons_63r, t_kind_63r, t_mark_63r, t_silver_63r, t_fresh_63r, t_texts_63r, tst_63r) := hl
          have hl := Option.some.inj hl
          have ee0 : v5_63b = v5_63r := congrArg (fun q => q.1) hl
          have ee1 : v6_63b = v6_63r := congrArg (fun q => q.2.1) hl
          have ee2 : v7_63b = v7_63r := congrArg (fun q => q.2.2.1) hl
          have ee3 : t_weight_63b = t_weight_63r := congrArg (fun q => q.2.2.2.1) hl
          have ee4 : t_known_63b = t_known_63r := congrArg (fun q => q.2.2.2.2.1) hl
          have ee5 : t_hour_63b = t_hour_63r := congrArg (fun q => q.2.2.2.2.2.1) hl
          have ee6 : t_swS_63b = t_swS_63r := congrArg (fun q => q.2.2.2.2.2.2.1) hl
          have ee7 : t_swW_63b = t_swW_63r := congrArg (fun q => q.2.2.2.2.2.2.2.1) hl
          have ee8 : t_waS_63b = t_waS_63r := congrArg (fun q => q.2.2.2.2.2.2.2.2.1) hl
          have ee9 : t_spoons_63b = t_spoons_63r := congrArg (fun q => q.2.2.2.2.2.2.2.2.2.1) hl
          have ee10 : t_kind_63b = t_kind_63r := congrArg (fun q => q.2.2.2.2.2.2.2.2.2.2.1) hl
          have ee11 : t_mark_63b = t_mark_63r := congrArg (fun q => q.2.2.2.2.2.2.2.2.2.2.2.1) hl
          have ee12 : t_silver_63b = t_silver_63r := congrArg (fun q => q.2.2.2.2.2.2.2.2.2.2.2.2.1) hl
          have ee13 : t_fresh_63b = t_fresh_63r := congrArg (fun q => q.2.2.2.2.2.2.2.2.2.2.2.2.2.1) hl
          have ee14 : t_texts_63b = t_texts_63r := congrArg (fun q => q.2.2.2.2.2.2.2.2.2.2.2.2.2.2.1) hl
          have ee15 : tst_63b = tst_63r := congrArg (fun q => q.2.2.2.2.2.2.2.2.2.2.2.2.2.2.2) hl
          subst ee0
          subst ee1
          subst ee2
          subst ee3
          subst ee4
          subst ee5
          subst ee6
          subst ee7
          subst ee8
          subst ee9
          subst ee10
          subst ee11
          subst ee12
          subst ee13
          subst ee14
          subst ee15
          exact LE _ _ _ hP hD hS (lv_sub hv [0, 2, 4, 5] rfl)
        · have h := ite_f c_21 h
          refine lv_aload_n hx hb dX11_rubbed_70 rfl (lv_at hv 0 rfl) ?_
          refine va_get (D := D) (ci := 11) (v := .ref (td 0)) (C := RX11) (T := TX11) (N := 9) hx hb hts in_11 hown hK hP 0 rfl rfl 1 (by decide) w_4 (fun _ h9 => h9) rfl dX11_rubbed_71 ?_
          refine lv_aload_n hx hb dX11_rubbed_74 rfl (lv_at hv 0 rfl) ?_
          refine va_get (D := D) (ci := 11) (v := .ref (hd 0)) (C := RX11) (T := TX11) (N := 9) hx hb hts in_11 hown hK hP 0 rfl rfl 0 (by decide) w_5 (fun _ h9 => h9) rfl dX11_rubbed_75 ?_
          obtain ⟨⟨t_weight_22, t_known_23, t_hour_24, t_swS_25, t_swW_26, t_waS_27, t_spoons_28, t_kind_29, t_mark_30, t_silver_31, t_fresh_32, t_texts_33⟩, hf_34, h⟩ := bd_ex h
          have sb : Sb D A H (wHH cA td hd kd t_weight_63b t_known_63b t_hour_63b t_swS_63b t_swW_63b t_waS_63b t_spoons_63b t_kind_63b t_mark_63b t_silver_63b t_fresh_63b t_texts_63b t_tape t_tapeCount t_z t_waiting t_waitingCount h_weight h_known h_hour h_swS h_swW h_waS h_spoons h_kind h_mark h_silver h_fresh h_texts h_tape h_tapeCount h_z h_waiting h_waitingCount L tx tst_63b) := sbXth hP hD hS hA
          refine calV (va_runV (As := [.ref (hd 0)]) (rest := []) ⟨hx, hb, hml, hown, hts⟩ (c_X3_follow l G D cA td hd kd _ t_weight_63b t_known_63b t_hour_63b t_swS_63b t_swW_63b t_waS_63b t_spoons_63b t_kind_63b t_mark_63b t_silver_63b t_fresh_63b t_texts_63b t_tape t_tapeCount t_z t_waiting t_waitingCount h_weight h_known h_hour h_swS h_swW h_waS h_spoons h_kind h_mark h_silver h_fresh h_texts h_tape h_tapeCount h_z h_waiting h_waitingCount L tx tst_63b t_weight_22 t_known_23 t_hour_24 t_swS_25 t_swW_26 t_waS_27 t_spoons_28 t_kind_29 t_mark_30 t_silver_31 t_fresh_32 t_texts_33 hf_34) (cwV 1 hts gX11_rubbed_X3_follow rfl rfl rfl (by decide +kernel) ⟨Nat.le_of_ble_eq_true rfl, Nat.le_of_ble_eq_true rfl⟩) (pvV hE hK hS sb (va_recv hK hP (ci := 3) (q0 := 26) rfl rfl)) rfl rfl hv.1 rfl (lv_room (Nat.le_of_ble_eq_true rfl)) dX11_rubbed_78 ⟨Nat.le_of_ble_eq_true rfl, Nat.le_of_ble_eq_true rfl⟩) hS sb (jnXth hP hD) (fun H locs hP hD hS => ?_)
          have hP : va_P D vwCl (wX cA xd vd sd nd hd td ed kd images errors_63 fewest vspoon vmark vcount vbodies sbits slens snum h_weight h_known h_hour h_swS h_swW h_waS h_spoons h_kind h_mark h_silver h_fresh h_texts h_tape h_tapeCount h_z h_waiting h_waitingCount t_weight_22 t_known_23 t_hour_24 t_swS_25 t_swW_26 t_waS_27 t_spoons_28 t_kind_29 t_mark_30 t_silver_31 t_fresh_32 t_texts_33 t_tape t_tapeCount t_z t_waiting t_waitingCount e_weight e_known e_hour e_swS e_swW e_waS e_spoons e_kind e_mark e_silver e_fresh e_texts e_tape e_tapeCount e_z e_waiting e_waitingCount L tx tst_63b) H := hP
          have hD : va_D A (wX cA xd vd sd nd hd td ed kd images errors_63 fewest vspoon vmark vcount vbodies sbits slens snum h_weight h_known h_hour h_swS h_swW h_waS h_spoons h_kind h_mark h_silver h_fresh h_texts h_tape h_tapeCount h_z h_waiting h_waitingCount t_weight_22 t_known_23 t_hour_24 t_swS_25 t_swW_26 t_waS_27 t_spoons_28 t_kind_29 t_mark_30 t_silver_31 t_fresh_32 t_texts_33 t_tape t_tapeCount t_z t_waiting t_waitingCount e_weight e_known e_hour e_swS e_swW e_waS e_spoons e_kind e_mark e_silver e_fresh e_texts e_tape e_tapeCount e_z e_waiting e_waitingCount L tx tst_63b) := hD
          refine lv_aload_n hx hb dX11_rubbed_81 rfl (lv_at hv 0 rfl) ?_
          refine va_get (D := D) (ci := 11) (v := .ref (td 0)) (C := RX11) (T := TX11) (N := 9) hx hb hts in_11 hown hK hP 0 rfl rfl 1 (by decide) w_4 (fun _ h9 => h9) rfl dX11_rubbed_82 ?_
          refine va_get (D := D) (ci := 3) (v := .ref (td 11)) (C := RX3) (T := TX3) (N := 18) hx hb hts in_3 hown hK hP 26 rfl rfl 10 (by decide) w_6 (fun _ h9 => h9) rfl dX11_rubbed_85 ?_
          refine lv_iload_n hx hb dX11_rubbed_88 rfl (lv_at hv 1 rfl) ?_
          refine lv_iload hx hb dX11_rubbed_89 (lv_at hv 6 rfl) ?_
          obtain ⟨c_35, h⟩ := ckI_ex h
          obtain ⟨t_silver_36, et_silver_36, h⟩ := bnd_ex h
          refine va_iast (D := D) hx hb hK hP hD hS 33 0 rfl rfl c_35 dX11_rubbed_91 (fun H locs hP hD hS => ?_)
          rw [← et_silver_36] at hP hD
          have hP : va_P D vwCl (wX cA xd vd sd nd hd td ed kd images errors_63 fewest vspoon vmark vcount vbodies sbits slens snum h_weight h_known h_hour h_swS h_swW h_waS h_spoons h_kind h_mark h_silver h_fresh h_texts h_tape h_tapeCount h_z h_waiting h_waitingCount t_weight_22 t_known_23 t_hour_24 t_swS_25 t_swW_26 t_waS_27 t_spoons_28 t_kind_29 t_mark_30 t_silver_36 t_fresh_32 t_texts_33 t_tape t_tapeCount t_z t_waiting t_waitingCount e_weight e_known e_hour e_swS e_swW e_waS e_spoons e_kind e_mark e_silver e_fresh e_texts e_tape e_tapeCount e_z e_waiting e_waitingCount L tx tst_63b) H := hP
          have hD : va_D A (wX cA xd vd sd nd hd td ed kd images errors_63 fewest vspoon vmark vcount vbodies sbits slens snum h_weight h_known h_hour h_swS h_swW h_waS h_spoons h_kind h_mark h_silver h_fresh h_texts h_tape h_tapeCount h_z h_waiting h_waitingCount t_weight_22 t_known_23 t_hour_24 t_swS_25 t_swW_26 t_waS_27 t_spoons_28 t_kind_29 t_mark_30 t_silver_36 t_fresh_32 t_texts_33 t_tape t_tapeCount t_z t_waiting t_waitingCount e_weight e_known e_hour e_swS e_swW e_waS e_spoons e_kind e_mark e_silver e_fresh e_texts e_tape e_tapeCount e_z e_waiting e_waitingCount L tx tst_63b) := hD
          refine lv_aload_n hx hb dX11_rubbed_92 rfl (lv_at hv 0 rfl) ?_
          refine va_get (D := D) (ci := 11) (v := .ref (td 0)) (C := RX11) (T := TX11) (N := 9) hx hb hts in_11 hown hK hP 0 rfl rfl 1 (by decide) w_4 (fun _ h9 => h9) rfl dX11_rubbed_93 ?_
          refine lv_aload hx hb dX11_rubbed_96 (lv_at hv 3 rfl) ?_
          obtain ⟨c_37, h⟩ := ckI_ex h
          refine va_get (D := D) (ci := 7) (v := .ref (nd (a).toNatClampNeg)) (C := RX7) (T := TX7) (N := 3) hx hb hts in_7 hown hK hP (6 + (a).toNatClampNeg) (wX_so (vlt c_37)) rfl 2 (by decide) w_7 (fun _ h9 => h9) rfl dX11_rubbed_98 ?_
          refine lv_aload hx hb dX11_rubbed_101 (lv_at hv 3 rfl) ?_
          obtain ⟨c_38, h⟩ := ckI_ex h
          refine va_get (D := D) (ci := 7) (v := .int (slens (a).toNatClampNeg)) (C := RX7) (T := TX7) (N := 3) hx hb hts in_7 hown hK hP (6 + (a).toNatClampNeg) (wX_so (vlt c_38)) rfl 1 (by decide) w_8 (fun _ h9 => h9) rfl dX11_rubbed_103 ?_
          obtain ⟨c_39, h⟩ := ckI_ex h
          obtain ⟨⟨r_40, t_known_41, t_hour_42, t_silver_43, t_fresh_44, tst_45⟩, hf_46, h⟩ := bd_ex h
          have sb : Sb D A H (wHA cA td kd (nd (a).toNatClampNeg) 40 t_weight_22 t_known_23 t_hour_24 t_swS_25 t_swW_26 t_waS_27 t_spoons_28 t_kind_29 t_mark_30 t_silver_36 t_fresh_32 t_texts_33 t_tape t_tapeCount t_z t_waiting t_waitingCount (snum (a).toNatClampNeg) L tx tst_63b) := sbHAS (vlt c_39) hP hD hS hA
          refine calI (va_runV (As := [.ref (nd (a).toNatClampNeg), .int (slens (a).toNatClampNeg)]) (rest := []) ⟨hx, hb, hml, hown, hts⟩ (c_X3_unlikeSpreads l G D cA td kd (nd (a).toNatClampNeg) 40 _ t_weight_22 t_known_23 t_hour_24 t_swS_25 t_swW_26 t_waS_27 t_spoons_28 t_kind_29 t_mark_30 t_silver_36 t_fresh_32 t_texts_33 t_tape t_tapeCount t_z t_waiting t_waitingCount (snum (a).toNatClampNeg) L tx tst_63b (slens (a).toNatClampNeg) r_40 t_known_41 t_hour_42 t_silver_43 t_fresh_44 tst_45 hf_46) (cwV 2 hts gX11_rubbed_X3_unlikeSpreads rfl rfl rfl (by decide +kernel) ⟨Nat.le_of_ble_eq_true rfl, Nat.le_of_ble_eq_true rfl⟩) (pvV hE hK hS sb (va_recv hK hP (ci := 3) (q0 := 26) rfl rfl)) rfl rfl hv.1 rfl (lv_room (Nat.le_of_ble_eq_true rfl)) dX11_rubbed_106 ⟨Nat.le_of_ble_eq_true rfl, Nat.le_of_ble_eq_true rfl⟩) hS sb (jnHAS (vlt c_39) hP hD) (fun H locs hP hD hS => ?_)
          have hP : va_P D vwCl (wX cA xd vd sd nd hd td ed kd images errors_63 fewest vspoon vmark vcount vbodies sbits slens snum h_weight h_known h_hour h_swS h_swW h_waS h_spoons h_kind h_mark h_silver h_fresh h_texts h_tape h_tapeCount h_z h_waiting h_waitingCount t_weight_22 t_known_41 t_hour_42 t_swS_25 t_swW_26 t_waS_27 t_spoons_28 t_kind_29 t_mark_30 t_silver_43 t_fresh_44 t_texts_33 t_tape t_tapeCount t_z t_waiting t_waitingCount e_weight e_known e_hour e_swS e_swW e_waS e_spoons e_kind e_mark e_silver e_fresh e_texts e_tape e_tapeCount e_z e_waiting e_waitingCount L tx tst_45) H := hP
          have hD : va_D A (wX cA xd vd sd nd hd td ed kd images errors_63 fewest vspoon vmark vcount vbodies sbits slens snum h_weight h_known h_hour h_swS h_swW h_waS h_spoons h_kind h_mark h_silver h_fresh h_texts h_tape h_tapeCount h_z h_waiting h_waitingCount t_weight_22 t_known_41 t_hour_42 t_swS_25 t_swW_26 t_waS_27 t_spoons_28 t_kind_29 t_mark_30 t_silver_43 t_fresh_44 t_texts_33 t_tape t_tapeCount t_z t_waiting t_waitingCount e_weight e_known e_hour e_swS e_swW e_waS e_spoons e_kind e_mark e_silver e_fresh e_texts e_tape e_tapeCount e_z e_waiting e_waitingCount L tx tst_45) := hD
          refine lv_if_ge (tgt := 129) hx hb dX11_rubbed_109 (by decide) (fun c_47 => ?_) (fun c_47 => ?_)
          · have h := ite_t c_47 h
            exact C_129 v5_63b v6_63b v7_63b t_weight_22 t_known_41 t_hour_42 t_swS_25 t_swW_26 t_waS_27 t_spoons_28 t_kind_29 t_mark_30 t_silver_43 t_fresh_44 t_texts_33 tst_45 _ h hl _ _ _ hP hD hS (lv_sub hv [0, 1, 2, 3, 4, 5, 6] rfl)
          · have h := ite_f c_47 h
            obtain ⟨y_49, ey_49, h⟩ := bnd_ex h
            refine lv_iinc (v := y_49) (lv' := [(5, .int y_49), (0, .ref (xd 0)), (2, .int v2_63), (3, .int v3_63), (4, .ref (sd (a).toNatClampNeg)), (6, .int v6_63b), (7, .int v7_63b)]) hx hb dX11_rubbed_112 hv (k := 4) rfl (by rw [ey_49]; rfl) (by decide) rfl (fun ls hv => ?_)
            refine lv_iload hx hb dX11_rubbed_115 (lv_at hv 5 rfl) ?_
            refine lv_if_ge (tgt := 125) hx hb dX11_rubbed_117 (by decide) (fun c_50 => ?_) (fun c_50 => ?_)
            · have h := ite_t c_50 h
              refine lv_iload hx hb dX11_rubbed_125 (lv_at hv 5 rfl) ?_
              exact C_127 y_49 v7_63b v6_63b t_weight_22 t_known_41 t_hour_42 t_swS_25 t_swW_26 t_waS_27 t_spoons_28 t_kind_29 t_mark_30 t_silver_43 t_fresh_44 t_texts_33 tst_45 _ h hl _ _ _ hP hD hS (lv_sub hv [1, 2, 3, 4, 0, 6] rfl)
            · have h := ite_f c_50 h
              refine lv_iload hx hb dX11_rubbed_120 (lv_at hv 6 rfl) ?_
              refine lv_goto (tgt := 127) hx hb dX11_rubbed_122 (by decide) ?_
              exact C_127 y_49 v7_63b v7_63b t_weight_22 t_known_41 t_hour_42 t_swS_25 t_swW_26 t_waS_27 t_spoons_28 t_kind_29 t_mark_30 t_silver_43 t_fresh_44 t_texts_33 tst_45 _ h hl _ _ _ hP hD hS (lv_sub hv [1, 2, 3, 4, 0, 6] rfl)
    exact LB FU v5_63 v6_63 v7_63 t_weight_63 t_known_63 t_hour_63 t_swS_63 t_swW_63 t_waS_63 t_spoons_63 t_kind_63 t_mark_63 t_silver_63 t_fresh_63 t_texts_63 tst_63 ho
  have hP : va_P D vwCl (wX cA xd vd sd nd hd td ed kd images errors fewest vspoon vmark vcount vbodies sbits slens snum h_weight h_known h_hour h_swS h_swW h_waS h_spoons h_kind h_mark h_silver h_fresh h_texts h_tape h_tapeCount h_z h_waiting h_waitingCount t_weight t_known t_hour t_swS t_swW t_waS t_spoons t_kind t_mark t_silver t_fresh t_texts t_tape t_tapeCount t_z t_waiting t_waitingCount e_weight e_known e_hour e_swS e_swW e_waS e_spoons e_kind e_mark e_silver e_fresh e_texts e_tape e_tapeCount e_z e_waiting e_waitingCount L tx tst) H := hP
  unfold fX11_rubbed at h
  refine lv_iload_n hx hb dX11_rubbed_0 rfl (lv_at hv 1 rfl) ?_
  obtain ⟨r_1, hf_2, h⟩ := bd_ex h
  have sb := Sb.nil hP hD hS hA
  refine calI (va_runS (As := [.int a]) (rest := []) ⟨hx, hb, hml, hown, hts⟩ (c_X11_isSheet l G D cA  _ a r_1 hf_2) (va_cwS 1 hts gX11_rubbed_X11_isSheet rfl rfl rfl (by decide +kernel) ⟨Nat.le_of_ble_eq_true rfl, Nat.le_of_ble_eq_true rfl⟩) (pvS hE hK hS sb) rfl rfl hv.1 rfl (lv_room (Nat.le_of_ble_eq_true rfl)) dX11_rubbed_1 ⟨Nat.le_of_ble_eq_true rfl, Nat.le_of_ble_eq_true rfl⟩) hS sb (Jn.nil hP hD) (fun H locs hP hD hS => ?_)
  have hP : va_P D vwCl (wX cA xd vd sd nd hd td ed kd images errors fewest vspoon vmark vcount vbodies sbits slens snum h_weight h_known h_hour h_swS h_swW h_waS h_spoons h_kind h_mark h_silver h_fresh h_texts h_tape h_tapeCount h_z h_waiting h_waitingCount t_weight t_known t_hour t_swS t_swW t_waS t_spoons t_kind t_mark t_silver t_fresh t_texts t_tape t_tapeCount t_z t_waiting t_waitingCount e_weight e_known e_hour e_swS e_swW e_waS e_spoons e_kind e_mark e_silver e_fresh e_texts e_tape e_tapeCount e_z e_waiting e_waitingCount L tx tst) H := hP
  have hD : va_D A (wX cA xd vd sd nd hd td ed kd images errors fewest vspoon vmark vcount vbodies sbits slens snum h_weight h_known h_hour h_swS h_swW h_waS h_spoons h_kind h_mark h_silver h_fresh h_texts h_tape h_tapeCount h_z h_waiting h_waitingCount t_weight t_known t_hour t_swS t_swW t_waS t_spoons t_kind t_mark t_silver t_fresh t_texts t_tape t_tapeCount t_z t_waiting t_waitingCount e_weight e_known e_hour e_swS e_swW e_waS e_spoons e_kind e_mark e_silver e_fresh e_texts e_tape e_tapeCount e_z e_waiting e_waitingCount L tx tst) := hD
  refine lv_if_eq (tgt := 24) hx hb dX11_rubbed_4 (by decide) (fun c_3 => ?_) (fun c_3 => ?_)
  · have h := ite_t c_3 h
    exact C_24 errors t_weight t_known t_hour t_swS t_swW t_waS t_spoons t_kind t_mark t_silver t_fresh t_texts tst h _ _ _ hP hD hS (lv_sub hv [0] rfl)
  · have h := ite_f c_3 h
    refine lv_aload_n hx hb dX11_rubbed_7 rfl (lv_at hv 0 rfl) ?_
    refine lv_iload_n hx hb dX11_rubbed_8 rfl (lv_at hv 2 rfl) ?_
    obtain ⟨r_7, hf_8, h⟩ := bd_ex h
    have sb := Sb.same hP hD hS hA
    refine calI (va_runV (As := [.int b]) (rest := []) ⟨hx, hb, hml, hown, hts⟩ (c_X11_isSpoon l G D cA xd vd sd nd hd td ed kd _ images errors fewest vspoon vmark vcount vbodies sbits slens snum h_weight h_known h_hour h_swS h_swW h_waS h_spoons h_kind h_mark h_silver h_fresh h_texts h_tape h_tapeCount h_z h_waiting h_waitingCount t_weight t_known t_hour t_swS t_swW t_waS t_spoons t_kind t_mark t_silver t_fresh t_texts t_tape t_tapeCount t_z t_waiting t_waitingCount e_weight e_known e_hour e_swS e_swW e_waS e_spoons e_kind e_mark e_silver e_fresh e_texts e_tape e_tapeCount e_z e_waiting e_waitingCount L tx tst b r_7 hf_8) (cwV 1 hts gX11_rubbed_X11_isSpoon rfl rfl rfl (by decide +kernel) ⟨Nat.le_of_ble_eq_true rfl, Nat.le_of_ble_eq_true rfl⟩) (pvV hE hK hS sb (va_recv hK hP (ci := 11) (q0 := 0) rfl rfl)) rfl rfl hv.1 rfl (lv_room (Nat.le_of_ble_eq_true rfl)) dX11_rubbed_9 ⟨Nat.le_of_ble_eq_true rfl, Nat.le_of_ble_eq_true rfl⟩) hS sb (Jn.same sb) (fun H locs hP hD hS => ?_)
    have hP : va_P D vwCl (wX cA xd vd sd nd hd td ed kd images errors fewest vspoon vmark vcount vbodies sbits slens snum h_weight h_known h_hour h_swS h_swW h_waS h_spoons h_kind h_mark h_silver h_fresh h_texts h_tape h_tapeCount h_z h_waiting h_waitingCount t_weight t_known t_hour t_swS t_swW t_waS t_spoons t_kind t_mark t_silver t_fresh t_texts t_tape t_tapeCount t_z t_waiting t_waitingCount e_weight e_known e_hour e_swS e_swW e_waS e_spoons e_kind e_mark e_silver e_fresh e_texts e_tape e_tapeCount e_z e_waiting e_waitingCount L tx tst) H := hP
    have hD : va_D A (wX cA xd vd sd nd hd td ed kd images errors fewest vspoon vmark vcount vbodies sbits slens snum h_weight h_known h_hour h_swS h_swW h_waS h_spoons h_kind h_mark h_silver h_fresh h_texts h_tape h_tapeCount h_z h_waiting h_waitingCount t_weight t_known t_hour t_swS t_swW t_waS t_spoons t_kind t_mark t_silver t_fresh t_texts t_tape t_tapeCount t_z t_waiting t_waitingCount e_weight e_known e_hour e_swS e_swW e_waS e_spoons e_kind e_mark e_silver e_fresh e_texts e_tape e_tapeCount e_z e_waiting e_waitingCount L tx tst) := hD
    refine lv_if_eq (tgt := 24) hx hb dX11_rubbed_12 (by decide) (fun c_9 => ?_) (fun c_9 => ?_)
    · have h := ite_t c_9 h
      exact C_24 errors t_weight t_known t_hour t_swS t_swW t_waS t_spoons t_kind t_mark t_silver t_fresh t_texts tst h _ _ _ hP hD hS (lv_sub hv [0] rfl)
    · have h := ite_f c_9 h
      refine lv_iload_n hx hb dX11_rubbed_15 rfl (lv_at hv 3 rfl) ?_
      refine lv_iconst (v := (0 : Int32)) hx hb dX11_rubbed_16 (by decide) ?_
      refine lv_iconst (v := (1 : Int32)) hx hb dX11_rubbed_17 (by decide) ?_
      obtain ⟨r_10, hf_11, h⟩ := bd_ex h
      have sb := Sb.nil hP hD hS hA
      refine calI (va_runS (As := [.int what, .int (0 : Int32), .int (1 : Int32)]) (rest := []) ⟨hx, hb, hml, hown, hts⟩ (c_X11_within l G D cA  _ what (0 : Int32) (1 : Int32) r_10 hf_11) (va_cwS 3 hts gX11_rubbed_X11_within rfl rfl rfl (by decide +kernel) ⟨Nat.le_of_ble_eq_true rfl, Nat.le_of_ble_eq_true rfl⟩) (pvS hE hK hS sb) rfl rfl hv.1 rfl (lv_room (Nat.le_of_ble_eq_true rfl)) dX11_rubbed_18 ⟨Nat.le_of_ble_eq_true rfl, Nat.le_of_ble_eq_true rfl⟩) hS sb (Jn.nil hP hD) (fun H locs hP hD hS => ?_)
      have hP : va_P D vwCl (wX cA xd vd sd nd hd td ed kd images errors fewest vspoon vmark vcount vbodies sbits slens snum h_weight h_known h_hour h_swS h_swW h_waS h_spoons h_kind h_mark h_silver h_fresh h_texts h_tape h_tapeCount h_z h_waiting h_waitingCount t_weight t_known t_hour t_swS t_swW t_waS t_spoons t_kind t_mark t_silver t_fresh t_texts t_tape t_tapeCount t_z t_waiting t_waitingCount e_weight e_known e_hour e_swS e_swW e_waS e_spoons e_kind e_mark e_silver e_fresh e_texts e_tape e_tapeCount e_z e_waiting e_waitingCount L tx tst) H := hP
      have hD : va_D A (wX cA xd vd sd nd hd td ed kd images errors fewest vspoon vmark vcount vbodies sbits slens snum h_weight h_known h_hour h_swS h_swW h_waS h_spoons h_kind h_mark h_silver h_fresh h_texts h_tape h_tapeCount h_z h_waiting h_waitingCount t_weight t_known t_hour t_swS t_swW t_waS t_spoons t_kind t_mark t_silver t_fresh t_texts t_tape t_tapeCount t_z t_waiting t_waitingCount e_weight e_known e_hour e_swS e_swW e_waS e_spoons e_kind e_mark e_silver e_fresh e_texts e_tape e_tapeCount e_z e_waiting e_waitingCount L tx tst) := hD
      refine lv_if_ne (tgt := 31) hx hb dX11_rubbed_21 (by decide) (fun c_12 => ?_) (fun c_12 => ?_)
      · have h := ite_f c_12 h
        refine lv_aload_n hx hb dX11_rubbed_31 rfl (lv_at hv 0 rfl) ?_
        refine va_get (D := D) (ci := 11) (v := .ref (xd 1)) (C := RX11) (T := TX11) (N := 9) hx hb hts in_11 hown hK hP 0 rfl rfl 6 (by decide) w_1 (fun _ h9 => h9) rfl dX11_rubbed_32 ?_
        refine lv_iload_n hx hb dX11_rubbed_35 rfl (lv_at hv 1 rfl) ?_
        obtain ⟨c_13, h⟩ := ckI_ex h
        refine va_aldq (D := D) (f := fun j => some (sd j)) hx hb hK hP 1 4 rfl rfl c_13 dX11_rubbed_36 ?_
        refine W.eq (g2 := F0 m 37 ls [.ref (sd (a).toNatClampNeg)]) rfl ?_
        refine lv_astore (lv' := [(4, .ref (sd (a).toNatClampNeg)), (0, .ref (xd 0)), (1, .int a), (2, .int b), (3, .int what)]) hx hb dX11_rubbed_37 hv (by decide) rfl (fun ls hv => ?_)
        refine lv_aload hx hb dX11_rubbed_39 (lv_at hv 0 rfl) ?_
        obtain ⟨c_14, h⟩ := ckI_ex h
        refine va_get (D := D) (ci := 7) (v := .int (sbits (a).toNatClampNeg)) (C := RX7) (T := TX7) (N := 3) hx hb hts in_7 hown hK hP (6 + (a).toNatClampNeg) (wX_so (vlt c_14)) rfl 0 (by decide) w_2 (fun _ h9 => h9) rfl dX11_rubbed_41 ?_
        refine lv_if_ne (tgt := 54) hx hb dX11_rubbed_44 (by decide) (fun c_15 => ?_) (fun c_15 => ?_)
        · have h := ite_f c_15 h
          refine lv_iconst (v := (0 : Int32)) hx hb dX11_rubbed_54 (by decide) ?_
          refine lv_istore (lv' := [(5, .int (0 : Int32)), (4, .ref (sd (a).toNatClampNeg)), (0, .ref (xd 0)), (1, .int a), (2, .int b), (3, .int what)]) hx hb dX11_rubbed_55 hv (by decide) rfl (fun ls hv => ?_)
          refine lv_iconst (v := (-1 : Int32)) hx hb dX11_rubbed_57 (by decide) ?_
          refine lv_istore (lv' := [(6, .int (-1 : Int32)), (5, .int (0 : Int32)), (4, .ref (sd (a).toNatClampNeg)), (0, .ref (xd 0)), (1, .int a), (2, .int b), (3, .int what)]) hx hb dX11_rubbed_58 hv (by decide) rfl (fun ls hv => ?_)
          refine lv_iconst (v := (0 : Int32)) hx hb dX11_rubbed_60 (by decide) ?_
          refine lv_istore (lv' := [(7, .int (0 : Int32)), (6, .int (-1 : Int32)), (5, .int (0 : Int32)), (4, .ref (sd (a).toNatClampNeg)), (0, .ref (xd 0)), (1, .int a), (2, .int b), (3, .int what)]) hx hb dX11_rubbed_61 hv (by decide) rfl (fun ls hv => ?_)
          exact C_63 b what (0 : Int32) (-1 : Int32) (0 : Int32) errors t_weight t_known t_hour t_swS t_swW t_waS t_spoons t_kind t_mark t_silver t_fresh t_texts tst h _ _ _ hP hD hS (lv_sub hv [4, 6, 7, 3, 2, 1, 0] rfl)
        · have h := ite_t c_15 h
          refine lv_aload_n hx hb dX11_rubbed_47 rfl (lv_at hv 1 rfl) ?_
          refine lv_ldc (v := (-1000000002 : Int32)) hx hb hown w_3 dX11_rubbed_48 ?_
          obtain ⟨⟨r_51, errors_52⟩, hf_53, h⟩ := bd_ex h
          have sb := Sb.same hP hD hS hA
          refine calI (va_runV (As := [.int (-1000000002 : Int32)]) (rest := []) ⟨hx, hb, hml, hown, hts⟩ (c_X11_refused l G D cA xd vd sd nd hd td ed kd _ images errors fewest vspoon vmark vcount vbodies sbits slens snum h_weight h_known h_hour h_swS h_swW h_waS h_spoons h_kind h_mark h_silver h_fresh h_texts h_tape h_tapeCount h_z h_waiting h_waitingCount t_weight t_known t_hour t_swS t_swW t_waS t_spoons t_kind t_mark t_silver t_fresh t_texts t_tape t_tapeCount t_z t_waiting t_waitingCount e_weight e_known e_hour e_swS e_swW e_waS e_spoons e_kind e_mark e_silver e_fresh e_texts e_tape e_tapeCount e_z e_waiting e_waitingCount L tx tst (-1000000002 : Int32) r_51 errors_52 hf_53) (cwV 1 hts gX11_rubbed_X11_refused rfl rfl rfl (by decide +kernel) ⟨Nat.le_of_ble_eq_true rfl, Nat.le_of_ble_eq_true rfl⟩) (pvV hE hK hS sb (va_recv hK hP (ci := 11) (q0 := 0) rfl rfl)) rfl rfl hv.1 rfl (lv_room (Nat.le_of_ble_eq_true rfl)) dX11_rubbed_50 ⟨Nat.le_of_ble_eq_true rfl, Nat.le_of_ble_eq_true rfl⟩) hS sb (Jn.same sb) (fun H locs hP hD hS => ?_)
          have hP : va_P D vwCl (wX cA xd vd sd nd hd td ed kd images errors_52 fewest vspoon vmark vcount vbodies sbits slens snum h_weight h_known h_hour h_swS h_swW h_waS h_spoons h_kind h_mark h_silver h_fresh h_texts h_tape h_tapeCount h_z h_waiting h_waitingCount t_weight t_known t_hour t_swS t_swW t_waS t_spoons t_kind t_mark t_silver t_fresh t_texts t_tape t_tapeCount t_z t_waiting t_waitingCount e_weight e_known e_hour e_swS e_swW e_waS e_spoons e_kind e_mark e_silver e_fresh e_texts e_tape e_tapeCount e_z e_waiting e_waitingCount L tx tst) H := hP
          have hD : va_D A (wX cA xd vd sd nd hd td ed kd images errors_52 fewest vspoon vmark vcount vbodies sbits slens snum h_weight h_known h_hour h_swS h_swW h_waS h_spoons h_kind h_mark h_silver h_fresh h_texts h_tape h_tapeCount h_z h_waiting h_waitingCount t_weight t_known t_hour t_swS t_swW t_waS t_spoons t_kind t_mark t_silver t_fresh t_texts t_tape t_tapeCount t_z t_waiting t_waitingCount e_weight e_known e_hour e_swS e_swW e_waS e_spoons e_kind e_mark e_silver e_fresh e_texts e_tape e_tapeCount e_z e_waiting e_waitingCount L tx tst) := hD
          have h := Option.some.inj h
          have ee0 : r_51 = rR := congrArg (fun q => q.1) h
          have ee1 : errors_52 = errorsR := congrArg (fun q => q.2.1) h
          have ee2 : t_weight = t_weightR := congrArg (fun q => q.2.2.1) h
          have ee3 : t_known = t_knownR := congrArg (fun q => q.2.2.2.1) h
          have ee4 : t_hour = t_hourR := congrArg (fun q => q.2.2.2.2.1) h
          have ee5 : t_swS = t_swSR := congrArg (fun q => q.2.2.2.2.2.1) h
          have ee6 : t_swW = t_swWR := congrArg (fun q => q.2.2.2.2.2.2.1) h
          have ee7 : t_waS = t_waSR := congrArg (fun q => q.2.2.2.2.2.2.2.1) h
          have ee8 : t_spoons = t_spoonsR := congrArg (fun q => q.2.2.2.2.2.2.2.2.1) h
          have ee9 : t_kind = t_kindR := congrArg (fun q => q.2.2.2.2.2.2.2.2.2.1) h
          have ee10 : t_mark = t_markR := congrArg (fun q => q.2.2.2.2.2.2.2.2.2.2.1) h
          have ee11 : t_silver = t_silverR := congrArg (fun q => q.2.2.2.2.2.2.2.2.2.2.2.1) h
          have ee12 : t_fresh = t_freshR := congrArg (fun q => q.2.2.2.2.2.2.2.2.2.2.2.2.1) h
          have ee13 : t_texts = t_textsR := congrArg (fun q => q.2.2.2.2.2.2.2.2.2.2.2.2.2.1) h
          have ee14 : tst = tstR := congrArg (fun q => q.2.2.2.2.2.2.2.2.2.2.2.2.2.2) h
          subst ee0
          subst ee1
          subst ee2
          subst ee3
          subst ee4
          subst ee5
          subst ee6
          subst ee7
          subst ee8
          subst ee9
          subst ee10
          subst ee11
          subst ee12
          subst ee13
          subst ee14
          rw [← hQ]
          exact retI hx hb hr hlk hK hP hD hS dX11_rubbed_53 ⟨Nat.le_of_ble_eq_true rfl, Nat.le_of_ble_eq_true rfl⟩
      · have h := ite_t c_12 h
        exact C_24 errors t_weight t_known t_hour t_swS t_swW t_waS t_spoons t_kind t_mark t_silver t_fresh t_texts tst h _ _ _ hP hD hS (lv_sub hv [0] rfl)

def fX11_which_105 (v2_49 : Int32) (v4_105 : Int32) (v5_105 : Int32) (a : Int32) (errors_49 : Nat → Int32) (sbits : Nat → Int32) (slens : Nat → Int32) (snum : Nat → Nat → Int32) (h_weight : Nat → Int32) (h_known : Int32) (h_hour : Int32) (h_swS : Nat → Int32) (h_swW : Nat → Int32) (h_waS : Nat → Int32) (h_spoons : Int32) (h_kind : Nat → Int32) (h_mark : Nat → Int32) (h_silver : Nat → Int32) (h_fresh : Nat → Int64) (h_texts : Nat → Option Nat) (t_weight_105 : Nat → Int32) (t_known_105 : Int32) (t_hour_105 : Int32) (t_swS_105 : Nat → Int32) (t_swW_105 : Nat → Int32) (t_waS_105 : Nat → Int32) (t_spoons_105 : Int32) (t_kind_105 : Nat → Int32) (t_mark_105 : Nat → Int32) (t_silver_105 : Nat → Int32) (t_fresh_105 : Nat → Int64) (t_texts_105 : Nat → Option Nat) (L : List Nat) (tx : Nat → TXc) (tst_105 : Nat → Nat → Int32) : Option ((Int32 × Int32 × (Nat → Int32) × Int32 × Int32 × (Nat → Int32) × (Nat → Int32) × (Nat → Int32) × Int32 × (Nat → Int32) × (Nat → Int32) × (Nat → Int32) × (Nat → Int64) × (Nat → Option Nat) × (Nat → Nat → Int32)) ⊕ (Int32 × Int32 × (Nat → Int32) × Int32 × Int32 × (Nat → Int32) × (Nat → Int32) × (Nat → Int32) × Int32 × (Nat → Int32) × (Nat → Int32) × (Nat → Int32) × (Nat → Int64) × (Nat → Option Nat) × (Nat → Nat → Int32))) :=
  bnd (v5_105 + (1 : Int32)) fun y_40 => some (.inl (v4_105, y_40, t_weight_105, t_known_105, t_hour_105, t_swS_105, t_swW_105, t_waS_105, t_spoons_105, t_kind_105, t_mark_105, t_silver_105, t_fresh_105, t_texts_105, tst_105))
def fX11_which_49B (v2_49 : Int32) (a : Int32) (errors_49 : Nat → Int32) (sbits : Nat → Int32) (slens : Nat → Int32) (snum : Nat → Nat → Int32) (h_weight : Nat → Int32) (h_known : Int32) (h_hour : Int32) (h_swS : Nat → Int32) (h_swW : Nat → Int32) (h_waS : Nat → Int32) (h_spoons : Int32) (h_kind : Nat → Int32) (h_mark : Nat → Int32) (h_silver : Nat → Int32) (h_fresh : Nat → Int64) (h_texts : Nat → Option Nat) (L : List Nat) (tx : Nat → TXc) (v4_49b : Int32) (v5_49b : Int32) (t_weight_49b : Nat → Int32) (t_known_49b : Int32) (t_hour_49b : Int32) (t_swS_49b : Nat → Int32) (t_swW_49b : Nat → Int32) (t_waS_49b : Nat → Int32) (t_spoons_49b : Int32) (t_kind_49b : Nat → Int32) (t_mark_49b : Nat → Int32) (t_silver_49b : Nat → Int32) (t_fresh_49b : Nat → Int64) (t_texts_49b : Nat → Option Nat) (tst_49b : Nat → Nat → Int32) : Option ((Int32 × Int32 × (Nat → Int32) × Int32 × Int32 × (Nat → Int32) × (Nat → Int32) × (Nat → Int32) × Int32 × (Nat → Int32) × (Nat → Int32) × (Nat → Int32) × (Nat → Int64) × (Nat → Option Nat) × (Nat → Nat → Int32)) ⊕ (Int32 × Int32 × (Nat → Int32) × Int32 × Int32 × (Nat → Int32) × (Nat → Int32) × (Nat → Int32) × Int32 × (Nat → Int32) × (Nat → Int32) × (Nat → Int32) × (Nat → Int64) × (Nat → Option Nat) × (Nat → Nat → Int32))) :=
  (if (7 : Int32) ≤ v5_49b then some (.inr (v4_49b, v5_49b, t_weight_49b, t_known_49b, t_hour_49b, t_swS_49b, t_swW_49b, t_waS_49b, t_spoons_49b, t_kind_49b, t_mark_49b, t_silver_49b, t_fresh_49b, t_texts_49b, tst_49b)) else bd (fX3_follow t_weight_49b t_known_49b t_hour_49b t_swS_49b t_swW_49b t_waS_49b t_spoons_49b t_kind_49b t_mark_49b t_silver_49b t_fresh_49b t_texts_49b h_weight h_known h_hour h_swS h_swW h_waS h_spoons h_kind h_mark h_silver h_fresh h_texts L) fun (t_weight_14, t_known_15, t_hour_16, t_swS_17, t_swW_18, t_waS_19, t_spoons_20, t_kind_21, t_mark_22, t_silver_23, t_fresh_24, t_texts_25) => ckI v2_49 8 (bnd (upd t_kind_21 (v2_49).toNatClampNeg v5_49b) fun t_kind_28 => ckI a 4 (ckI a 4 (ckI a 4 (bd (fX3_unlikeSpreads 40 (slens (a).toNatClampNeg) t_weight_14 t_known_15 t_hour_16 t_swS_17 t_swW_18 t_waS_19 t_spoons_20 t_kind_28 t_mark_22 t_silver_23 t_fresh_24 t_texts_25 (snum (a).toNatClampNeg) L tx tst_49b) fun (r_32, t_known_33, t_hour_34, t_silver_35, t_fresh_36, tst_37) => (if 0 ≤ r_32 then fX11_which_105 v2_49 v4_49b v5_49b a errors_49 sbits slens snum h_weight h_known h_hour h_swS h_swW h_waS h_spoons h_kind h_mark h_silver h_fresh h_texts t_weight_14 t_known_33 t_hour_34 t_swS_17 t_swW_18 t_waS_19 t_spoons_20 t_kind_28 t_mark_22 t_silver_35 t_fresh_36 t_texts_25 L tx tst_37 else bnd (v4_49b ||| ((1 : Int32) <<< (v5_49b &&& 31))) fun y_41 => fX11_which_105 v2_49 y_41 v5_49b a errors_49 sbits slens snum h_weight h_known h_hour h_swS h_swW h_waS h_spoons h_kind h_mark h_silver h_fresh h_texts t_weight_14 t_known_33 t_hour_34 t_swS_17 t_swW_18 t_waS_19 t_spoons_20 t_kind_28 t_mark_22 t_silver_35 t_fresh_36 t_texts_25 L tx tst_37))))))
def fX11_which_49 (v2_49 : Int32) (v4_49 : Int32) (v5_49 : Int32) (a : Int32) (errors_49 : Nat → Int32) (sbits : Nat → Int32) (slens : Nat → Int32) (snum : Nat → Nat → Int32) (h_weight : Nat → Int32) (h_known : Int32) (h_hour : Int32) (h_swS : Nat → Int32) (h_swW : Nat → Int32) (h_waS : Nat → Int32) (h_spoons : Int32) (h_kind : Nat → Int32) (h_mark : Nat → Int32) (h_silver : Nat → Int32) (h_fresh : Nat → Int64) (h_texts : Nat → Option Nat) (t_weight_49 : Nat → Int32) (t_known_49 : Int32) (t_hour_49 : Int32) (t_swS_49 : Nat → Int32) (t_swW_49 : Nat → Int32) (t_waS_49 : Nat → Int32) (t_spoons_49 : Int32) (t_kind_49 : Nat → Int32) (t_mark_49 : Nat → Int32) (t_silver_49 : Nat → Int32) (t_fresh_49 : Nat → Int64) (t_texts_49 : Nat → Option Nat) (L : List Nat) (tx : Nat → TXc) (tst_49 : Nat → Nat → Int32) : Option (Int32 × (Nat → Int32) × (Nat → Int32) × Int32 × Int32 × (Nat → Int32) × (Nat → Int32) × (Nat → Int32) × Int32 × (Nat → Int32) × (Nat → Int32) × (Nat → Int32) × (Nat → Int64) × (Nat → Option Nat) × (Nat → Nat → Int32)) :=
  bd (lp (fun σ : Int32 × Int32 × (Nat → Int32) × Int32 × Int32 × (Nat → Int32) × (Nat → Int32) × (Nat → Int32) × Int32 × (Nat → Int32) × (Nat → Int32) × (Nat → Int32) × (Nat → Int64) × (Nat → Option Nat) × (Nat → Nat → Int32) => fX11_which_49B v2_49 a errors_49 sbits slens snum h_weight h_known h_hour h_swS h_swW h_waS h_spoons h_kind h_mark h_silver h_fresh h_texts L tx (σ.1) (σ.2.1) (σ.2.2.1) (σ.2.2.2.1) (σ.2.2.2.2.1) (σ.2.2.2.2.2.1) (σ.2.2.2.2.2.2.1) (σ.2.2.2.2.2.2.2.1) (σ.2.2.2.2.2.2.2.2.1) (σ.2.2.2.2.2.2.2.2.2.1) (σ.2.2.2.2.2.2.2.2.2.2.1) (σ.2.2.2.2.2.2.2.2.2.2.2.1) (σ.2.2.2.2.2.2.2.2.2.2.2.2.1) (σ.2.2.2.2.2.2.2.2.2.2.2.2.2.1) (σ.2.2.2.2.2.2.2.2.2.2.2.2.2.2)) FU (v4_49, v5_49, t_weight_49, t_known_49, t_hour_49, t_swS_49, t_swW_49, t_waS_49, t_spoons_49, t_kind_49, t_mark_49, t_silver_49, t_fresh_49, t_texts_49, tst_49)) fun ρ => match ρ with | (v4_49r, v5_49r, t_weight_49r, t_known_49r, t_hour_49r, t_swS_49r, t_swW_49r, t_waS_49r, t_spoons_49r, t_kind_49r, t_mark_49r, t_silver_49r, t_fresh_49r, t_texts_49r, tst_49r) => some (v4_49r, errors_49, t_weight_49r, t_known_49r, t_hour_49r, t_swS_49r, t_swW_49r, t_waS_49r, t_spoons_49r, t_kind_49r, t_mark_49r, t_silver_49r, t_fresh_49r, t_texts_49r, tst_49r)
def fX11_which (a : Int32) (b : Int32) (errors : Nat → Int32) (sbits : Nat → Int32) (slens : Nat → Int32) (snum : Nat → Nat → Int32) (h_weight : Nat → Int32) (h_known : Int32) (h_hour : Int32) (h_swS : Nat → Int32) (h_swW : Nat → Int32) (h_waS : Nat → Int32) (h_spoons : Int32) (h_kind : Nat → Int32) (h_mark : Nat → Int32) (h_silver : Nat → Int32) (h_fresh : Nat → Int64) (h_texts : Nat → Option Nat) (t_weight : Nat → Int32) (t_known : Int32) (t_hour : Int32) (t_swS : Nat → Int32) (t_swW : Nat → Int32) (t_waS : Nat → Int32) (t_spoons : Int32) (t_kind : Nat → Int32) (t_mark : Nat → Int32) (t_silver : Nat → Int32) (t_fresh : Nat → Int64) (t_texts : Nat → Option Nat) (L : List Nat) (tx : Nat → TXc) (tst : Nat → Nat → Int32) : Option (Int32 × (Nat → Int32) × (Nat → Int32) × Int32 × Int32 × (Nat → Int32) × (Nat → Int32) × (Nat → Int32) × Int32 × (Nat → Int32) × (Nat → Int32) × (Nat → Int32) × (Nat → Int64) × (Nat → Option Nat) × (Nat → Nat → Int32)) :=
  bd (fX11_isSheet a) fun r_1 => (if r_1 = 0 then bd (fX11_refused (-1000000001 : Int32) errors) fun (r_4, errors_5) => some (r_4, errors_5, t_weight, t_known, t_hour, t_swS, t_swW, t_waS, t_spoons, t_kind, t_mark, t_silver, t_fresh, t_texts, tst) else bd (fX11_isSpoon b h_spoons) fun r_7 => (if r_7 = 0 then bd (fX11_refused (-1000000001 : Int32) errors) fun (r_45, errors_46) => some (r_45, errors_46, t_weight, t_known, t_hour, t_swS, t_swW, t_waS, t_spoons, t_kind, t_mark, t_silver, t_fresh, t_texts, tst) else ckI a 4 (ckI a 4 ((if (sbits (a).toNatClampNeg) = 0 then bd (fX11_refused (-1000000002 : Int32) errors) fun (r_42, errors_43) => some (r_42, errors_43, t_weight, t_known, t_hour, t_swS, t_swW, t_waS, t_spoons, t_kind, t_mark, t_silver, t_fresh, t_texts, tst) else fX11_which_49 b (0 : Int32) (0 : Int32) a errors sbits slens snum h_weight h_known h_hour h_swS h_swW h_waS h_spoons h_kind h_mark h_silver h_fresh h_texts t_weight t_known t_hour t_swS t_swW t_waS t_spoons t_kind t_mark t_silver t_fresh t_texts L tx tst)))))
set_option maxHeartbeats 4000000 in
set_option maxRecDepth 100000 in
theorem c_X11_which (l : Launch) (G : Nat → Nat) (D : va_G) (cA : Nat → ClassId) (xd : Nat → Nat) (vd : Nat → Nat) (sd : Nat → Nat) (nd : Nat → Nat) (hd : Nat → Nat) (td : Nat → Nat) (ed : Nat → Nat) (kd : Nat → Nat) (sz : Nat) (images : Int32) (errors : Nat → Int32) (fewest : Nat → Int32) (vspoon : Int32) (vmark : Int32) (vcount : Int32) (vbodies : Nat → Int32) (sbits : Nat → Int32) (slens : Nat → Int32) (snum : Nat → Nat → Int32) (h_weight : Nat → Int32) (h_known : Int32) (h_hour : Int32) (h_swS : Nat → Int32) (h_swW : Nat → Int32) (h_waS : Nat → Int32) (h_spoons : Int32) (h_kind : Nat → Int32) (h_mark : Nat → Int32) (h_silver : Nat → Int32) (h_fresh : Nat → Int64) (h_texts : Nat → Option Nat) (h_tape : Nat → Int32) (h_tapeCount : Int32) (h_z : Int32) (h_waiting : Nat → Int32) (h_waitingCount : Int32) (t_weight : Nat → Int32) (t_known : Int32) (t_hour : Int32) (t_swS : Nat → Int32) (t_swW : Nat → Int32) (t_waS : Nat → Int32) (t_spoons : Int32) (t_kind : Nat → Int32) (t_mark : Nat → Int32) (t_silver : Nat → Int32) (t_fresh : Nat → Int64) (t_texts : Nat → Option Nat) (t_tape : Nat → Int32) (t_tapeCount : Int32) (t_z : Int32) (t_waiting : Nat → Int32) (t_waitingCount : Int32) (e_weight : Nat → Int32) (e_known : Int32) (e_hour : Int32) (e_swS : Nat → Int32) (e_swW : Nat → Int32) (e_waS : Nat → Int32) (e_spoons : Int32) (e_kind : Nat → Int32) (e_mark : Nat → Int32) (e_silver : Nat → Int32) (e_fresh : Nat → Int64) (e_texts : Nat → Option Nat) (e_tape : Nat → Int32) (e_tapeCount : Int32) (e_z : Int32) (e_waiting : Nat → Int32) (e_waitingCount : Int32) (L : List Nat) (tx : Nat → TXc) (tst : Nat → Nat → Int32) (a : Int32) (b : Int32) (rR : Int32) (errorsR : Nat → Int32) (t_weightR : Nat → Int32) (t_knownR : Int32) (t_hourR : Int32) (t_swSR : Nat → Int32) (t_swWR : Nat → Int32) (t_waSR : Nat → Int32) (t_spoonsR : Int32) (t_kindR : Nat → Int32) (t_markR : Nat → Int32) (t_silverR : Nat → Int32) (t_freshR : Nat → Int64) (t_textsR : Nat → Option Nat) (tstR : Nat → Nat → Int32) (h : fX11_which a b errors sbits slens snum h_weight h_known h_hour h_swS h_swW h_waS h_spoons h_kind h_mark h_silver h_fresh h_texts t_weight t_known t_hour t_swS t_swW t_waS t_spoons t_kind t_mark t_silver t_fresh t_texts L tx tst = some (rR, errorsR, t_weightR, t_knownR, t_hourR, t_swSR, t_swWR, t_waSR, t_spoonsR, t_kindR, t_markR, t_silverR, t_freshR, t_textsR, tstR)) : Met l yX11_which wsX11_which ({ frames := 7, cells := 0, slots := 0, locals := 164 } : Room) (PW G D (tyC cA) sz (wX cA xd vd sd nd hd td ed kd images errors fewest vspoon vmark vcount vbodies sbits slens snum h_weight h_known h_hour h_swS h_swW h_waS h_spoons h_kind h_mark h_silver h_fresh h_texts h_tape h_tapeCount h_z h_waiting h_waitingCount t_weight t_known t_hour t_swS t_swW t_waS t_spoons t_kind t_mark t_silver t_fresh t_texts t_tape t_tapeCount t_z t_waiting t_waitingCount e_weight e_known e_hour e_swS e_swW e_waS e_spoons e_kind e_mark e_silver e_fresh e_texts e_tape e_tapeCount e_z e_waiting e_waitingCount L tx tst) [.ref (xd 0), .int a, .int b]) (QI D (tyC cA) (va_A (wX cA xd vd sd nd hd td ed kd images errors fewest vspoon vmark vcount vbodies sbits slens snum h_weight h_known h_hour h_swS h_swW h_waS h_spoons h_kind h_mark h_silver h_fresh h_texts h_tape h_tapeCount h_z h_waiting h_waitingCount t_weight t_known t_hour t_swS t_swW t_waS t_spoons t_kind t_mark t_silver t_fresh t_texts t_tape t_tapeCount t_z t_waiting t_waitingCount e_weight e_known e_hour e_swS e_swW e_waS e_spoons e_kind e_mark e_silver e_fresh e_texts e_tape e_tapeCount e_z e_waiting e_waitingCount L tx tst) sz) rR (wX cA xd vd sd nd hd td ed kd images errorsR fewest vspoon vmark vcount vbodies sbits slens snum h_weight h_known h_hour h_swS h_swW h_waS h_spoons h_kind h_mark h_silver h_fresh h_texts h_tape h_tapeCount h_z h_waiting h_waitingCount t_weightR t_knownR t_hourR t_swSR t_swWR t_waSR t_spoonsR t_kindR t_markR t_silverR t_freshR t_textsR t_tape t_tapeCount t_z t_waiting t_waitingCount e_weight e_known e_hour e_swS e_swW e_waS e_spoons e_kind e_mark e_silver e_fresh e_texts e_tape e_tapeCount e_z e_waiting e_waitingCount L tx tstR)) 0 0 (va_A (wX cA xd vd sd nd hd td ed kd images errors fewest vspoon vmark vcount vbodies sbits slens snum h_weight h_known h_hour h_swS h_swW h_waS h_spoons h_kind h_mark h_silver h_fresh h_texts h_tape h_tapeCount h_z h_waiting h_waitingCount t_weight t_known t_hour t_swS t_swW t_waS t_spoons t_kind t_mark t_silver t_fresh t_texts t_tape t_tapeCount t_z t_waiting t_waitingCount e_weight e_known e_hour e_swS e_swW e_waS e_spoons e_kind e_mark e_silver e_fresh e_texts e_tape e_tapeCount e_z e_waiting e_waitingCount L tx tst) sz) := by
  refine ent (cc := cX11_which) (maxL := 6) (ret := (some .int)) (fun A => QI D (tyC cA) A rR (wX cA xd vd sd nd hd td ed kd images errorsR fewest vspoon vmark vcount vbodies sbits slens snum h_weight h_known h_hour h_swS h_swW h_waS h_spoons h_kind h_mark h_silver h_fresh h_texts h_tape h_tapeCount h_z h_waiting h_waitingCount t_weightR t_knownR t_hourR t_swSR t_swWR t_waSR t_spoonsR t_kindR t_markR t_silverR t_freshR t_textsR t_tape t_tapeCount t_z t_waiting t_waitingCount e_weight e_known e_hour e_swS e_swW e_waS e_spoons e_kind e_mark e_silver e_fresh e_texts e_tape e_tapeCount e_z e_waiting e_waitingCount L tx tstR)) (by decide +kernel) rfl (Nat.le_of_ble_eq_true rfl) ?_
  intro p e s m args below meth c A ls H hx hb hml hr hlk hts hown hA hK hE hP hD hS hv hmm
  have hv : lv_has ls 6 [(0, .ref (xd 0)), (1, .int a), (2, .int b)] := hv
  have in_3 : ∀ w ∈ u_ws RX3 TX3 18, w ∈ wsX11_which := fun _ h => List.mem_cons_of_mem _ (List.mem_append_left _ (List.mem_append_right _ h))
  have in_7 : ∀ w ∈ u_ws RX7 TX7 3, w ∈ wsX11_which := fun _ h => List.mem_cons_of_mem _ (List.mem_append_left _ (List.mem_append_left _ (List.mem_append_right _ h)))
  have in_11 : ∀ w ∈ u_ws RX11 TX11 9, w ∈ wsX11_which := fun _ h => List.mem_cons_of_mem _ (List.mem_append_left _ (List.mem_append_left _ (List.mem_append_left _ (List.mem_append_right _ h))))
  have w_0 := hts (.constant RX11 78 (-1000000001)) (List.mem_of_getElem? (i := 1) rfl)
  have w_1 := hts (.fieldLink RX11 58 "SpoonsLast" "sheets" "[LSpoonsLast$Sheet;") (List.mem_of_getElem? (i := 2) rfl)
  have w_2 := hts (.fieldLink RX11 208 "SpoonsLast$Sheet" "bits" "I") (List.mem_of_getElem? (i := 3) rfl)
  have w_3 := hts (.fieldLink RX11 43 "SpoonsLast" "thought" "LSpoonsLast$House;") (List.mem_of_getElem? (i := 5) rfl)
  have w_4 := hts (.fieldLink RX11 39 "SpoonsLast" "house" "LSpoonsLast$House;") (List.mem_of_getElem? (i := 6) rfl)
  have w_5 := hts (.fieldLink RX11 115 "SpoonsLast$House" "kind" "[I") (List.mem_of_getElem? (i := 7) rfl)
  have w_6 := hts (.fieldLink RX11 211 "SpoonsLast$Sheet" "numbers" "[I") (List.mem_of_getElem? (i := 8) rfl)
  have w_7 := hts (.fieldLink RX11 214 "SpoonsLast$Sheet" "length" "I") (List.mem_of_getElem? (i := 9) rfl)
  have w_8 := hts (.constant RX11 204 (-1000000002)) (List.mem_of_getElem? (i := 4) rfl)
  generalize hQ : MQ below _ args s 0 0 A = Q
  have C_49 : ∀ (v2_49 : Int32) (v4_49 : Int32) (v5_49 : Int32) (errors_49 : Nat → Int32) (t_weight_49 : Nat → Int32) (t_known_49 : Int32) (t_hour_49 : Int32) (t_swS_49 : Nat → Int32) (t_swW_49 : Nat → Int32) (t_waS_49 : Nat → Int32) (t_spoons_49 : Int32) (t_kind_49 : Nat → Int32) (t_mark_49 : Nat → Int32) (t_silver_49 : Nat → Int32) (t_fresh_49 : Nat → Int64) (t_texts_49 : Nat → Option Nat) (tst_49 : Nat → Nat → Int32), fX11_which_49 v2_49 v4_49 v5_49 a errors_49 sbits slens snum h_weight h_known h_hour h_swS h_swW h_waS h_spoons h_kind h_mark h_silver h_fresh h_texts t_weight_49 t_known_49 t_hour_49 t_swS_49 t_swW_49 t_waS_49 t_spoons_49 t_kind_49 t_mark_49 t_silver_49 t_fresh_49 t_texts_49 L tx tst_49 = some (rR, errorsR, t_weightR, t_knownR, t_hourR, t_swSR, t_swWR, t_waSR, t_spoonsR, t_kindR, t_markR, t_silverR, t_freshR, t_textsR, tstR) → WW p l e ({ frames := 7, cells := 0, slots := 0, locals := 164 } : Room) s m args below meth c D A 0 0 Q (wX cA xd vd sd nd hd td ed kd images errors_49 fewest vspoon vmark vcount vbodies sbits slens snum h_weight h_known h_hour h_swS h_swW h_waS h_spoons h_kind h_mark h_silver h_fresh h_texts h_tape h_tapeCount h_z h_waiting h_waitingCount t_weight_49 t_known_49 t_hour_49 t_swS_49 t_swW_49 t_waS_49 t_spoons_49 t_kind_49 t_mark_49 t_silver_49 t_fresh_49 t_texts_49 t_tape t_tapeCount t_z t_waiting t_waitingCount e_weight e_known e_hour e_swS e_swW e_waS e_spoons e_kind e_mark e_silver e_fresh e_texts e_tape e_tapeCount e_z e_waiting e_waitingCount L tx tst_49) 6 [(0, .ref (xd 0)), (2, .int v2_49), (3, .ref (sd (a).toNatClampNeg)), (4, .int v4_49), (5, .int v5_49)] 49 [] := by
    intro v2_49 v4_49 v5_49 errors_49 t_weight_49 t_known_49 t_hour_49 t_swS_49 t_swW_49 t_waS_49 t_spoons_49 t_kind_49 t_mark_49 t_silver_49 t_fresh_49 t_texts_49 tst_49 h
    unfold fX11_which_49 at h
    obtain ⟨⟨v4_49r, v5_49r, t_weight_49r, t_known_49r, t_hour_49r, t_swS_49r, t_swW_49r, t_waS_49r, t_spoons_49r, t_kind_49r, t_mark_49r, t_silver_49r, t_fresh_49r, t_texts_49r, tst_49r⟩, ho, h⟩ := bd_ex h
    have LE : WW p l e ({ frames := 7, cells := 0, slots := 0, locals := 164 } : Room) s m args below meth c D A 0 0 Q (wX cA xd vd sd nd hd td ed kd images errors_49 fewest vspoon vmark vcount vbodies sbits slens snum h_weight h_known h_hour h_swS h_swW h_waS h_spoons h_kind h_mark h_silver h_fresh h_texts h_tape h_tapeCount h_z h_waiting h_waitingCount t_weight_49r t_known_49r t_hour_49r t_swS_49r t_swW_49r t_waS_49r t_spoons_49r t_kind_49r t_mark_49r t_silver_49r t_fresh_49r t_texts_49r t_tape t_tapeCount t_z t_waiting t_waitingCount e_weight e_known e_hour e_swS e_swW e_waS e_spoons e_kind e_mark e_silver e_fresh e_texts e_tape e_tapeCount e_z e_waiting e_waitingCount L tx tst_49r) 6 [(4, .int v4_49r)] 111 [] := by
      intro H locs ls hP hD hS hv
      refine lv_iload hx hb dX11_which_111 (lv_at hv 0 rfl) ?_
      have h := Option.some.inj h
      have ee0 : v4_49r = rR := congrArg (fun q => q.1) h
      have ee1 : errors_49 = errorsR := congrArg (fun q => q.2.1) h
      have ee2 : t_weight_49r = t_weightR := congrArg (fun q => q.2.2.1) h
      have ee3 : t_known_49r = t_knownR := congrArg (fun q => q.2.2.2.1) h
      have ee4 : t_hour_49r = t_hourR := congrArg (fun q => q.2.2.2.2.1) h
      have ee5 : t_swS_49r = t_swSR := congrArg (fun q => q.2.2.2.2.2.1) h
      have ee6 : t_swW_49r = t_swWR := congrArg (fun q => q.2.2.2.2.2.2.1) h
      have ee7 : t_waS_49r = t_waSR := congrArg (fun q => q.2.2.2.2.2.2.2.1) h
      have ee8 : t_spoons_49r = t_spoonsR := congrArg (fun q => q.2.2.2.2.2.2.2.2.1) h
      have ee9 : t_kind_49r = t_kindR := congrArg (fun q => q.2.2.2.2.2.2.2.2.2.1) h
      have ee10 : t_mark_49r = t_markR := congrArg (fun q => q.2.2.2.2.2.2.2.2.2.2.1) h
      have ee11 : t_silver_49r = t_silverR := congrArg (fun q => q.2.2.2.2.2.2.2.2.2.2.2.1) h
      have ee12 : t_fresh_49r = t_freshR := congrArg (fun q => q.2.2.2.2.2.2.2.2.2.2.2.2.1) h
      have ee13 : t_texts_49r = t_textsR := congrArg (fun q => q.2.2.2.2.2.2.2.2.2.2.2.2.2.1) h
      have ee14 : tst_49r = tstR := congrArg (fun q => q.2.2.2.2.2.2.2.2.2.2.2.2.2.2) h
      subst ee0
      subst ee1
      subst ee2
      subst ee3
      subst ee4
      subst ee5
      subst ee6
      subst ee7
      subst ee8
      subst ee9
      subst ee10
      subst ee11
      subst ee12
      subst ee13
      subst ee14
      rw [← hQ]
      exact retI hx hb hr hlk hK hP hD hS dX11_which_113 ⟨Nat.le_of_ble_eq_true rfl, Nat.le_of_ble_eq_true rfl⟩
    have LB : ∀ (nf : Nat) (v4_49b : Int32) (v5_49b : Int32) (t_weight_49b : Nat → Int32) (t_known_49b : Int32) (t_hour_49b : Int32) (t_swS_49b : Nat → Int32) (t_swW_49b : Nat → Int32) (t_waS_49b : Nat → Int32) (t_spoons_49b : Int32) (t_kind_49b : Nat → Int32) (t_mark_49b : Nat → Int32) (t_silver_49b : Nat → Int32) (t_fresh_49b : Nat → Int64) (t_texts_49b : Nat → Option Nat) (tst_49b : Nat → Nat → Int32), lp (fun σ : Int32 × Int32 × (Nat → Int32) × Int32 × Int32 × (Nat → Int32) × (Nat → Int32) × (Nat → Int32) × Int32 × (Nat → Int32) × (Nat → Int32) × (Nat → Int32) × (Nat → Int64) × (Nat → Option Nat) × (Nat → Nat → Int32) => fX11_which_49B v2_49 a errors_49 sbits slens snum h_weight h_known h_hour h_swS h_swW h_waS h_spoons h_kind h_mark h_silver h_fresh h_texts L tx (σ.1) (σ.2.1) (σ.2.2.1) (σ.2.2.2.1) (σ.2.2.2.2.1) (σ.2.2.2.2.2.1) (σ.2.2.2.2.2.2.1) (σ.2.2.2.2.2.2.2.1) (σ.2.2.2.2.2.2.2.2.1) (σ.2.2.2.2.2.2.2.2.2.1) (σ.2.2.2.2.2.2.2.2.2.2.1) (σ.2.2.2.2.2.2.2.2.2.2.2.1) (σ.2.2.2.2.2.2.2.2.2.2.2.2.1) (σ.2.2.2.2.2.2.2.2.2.2.2.2.2.1) (σ.2.2.2.2.2.2.2.2.2.2.2.2.2.2)) nf (v4_49b, v5_49b, t_weight_49b, t_known_49b, t_hour_49b, t_swS_49b, t_swW_49b, t_waS_49b, t_spoons_49b, t_kind_49b, t_mark_49b, t_silver_49b, t_fresh_49b, t_texts_49b, tst_49b) = some (v4_49r, v5_49r, t_weight_49r, t_known_49r, t_hour_49r, t_swS_49r, t_swW_49r, t_waS_49r, t_spoons_49r, t_kind_49r, t_mark_49r, t_silver_49r, t_fresh_49r, t_texts_49r, tst_49r) → WW p l e ({ frames := 7, cells := 0, slots := 0, locals := 164 } : Room) s m args below meth c D A 0 0 Q (wX cA xd vd sd nd hd td ed kd images errors_49 fewest vspoon vmark vcount vbodies sbits slens snum h_weight h_known h_hour h_swS h_swW h_waS h_spoons h_kind h_mark h_silver h_fresh h_texts h_tape h_tapeCount h_z h_waiting h_waitingCount t_weight_49b t_known_49b t_hour_49b t_swS_49b t_swW_49b t_waS_49b t_spoons_49b t_kind_49b t_mark_49b t_silver_49b t_fresh_49b t_texts_49b t_tape t_tapeCount t_z t_waiting t_waitingCount e_weight e_known e_hour e_swS e_swW e_waS e_spoons e_kind e_mark e_silver e_fresh e_texts e_tape e_tapeCount e_z e_waiting e_waitingCount L tx tst_49b) 6 [(0, .ref (xd 0)), (2, .int v2_49), (3, .ref (sd (a).toNatClampNeg)), (4, .int v4_49b), (5, .int v5_49b)] 49 [] := by
      intro nf
      induction nf with
      | zero => intro v4_49b v5_49b t_weight_49b t_known_49b t_hour_49b t_swS_49b t_swW_49b t_waS_49b t_spoons_49b t_kind_49b t_mark_49b t_silver_49b t_fresh_49b t_texts_49b tst_49b hl; cases hl
      | succ nf ih =>
        intro v4_49b v5_49b t_weight_49b t_known_49b t_hour_49b t_swS_49b t_swW_49b t_waS_49b t_spoons_49b t_kind_49b t_mark_49b t_silver_49b t_fresh_49b t_texts_49b tst_49b hl
        obtain ⟨x, h, hl⟩ := lp_ex hl
        have h : fX11_which_49B v2_49 a errors_49 sbits slens snum h_weight h_known h_hour h_swS h_swW h_waS h_spoons h_kind h_mark h_silver h_fresh h_texts L tx v4_49b v5_49b t_weight_49b t_known_49b t_hour_49b t_swS_49b t_swW_49b t_waS_49b t_spoons_49b t_kind_49b t_mark_49b t_silver_49b t_fresh_49b t_texts_49b tst_49b = some x := h
        unfold fX11_which_49B at h
        have C_105 : ∀ (v4_105 : Int32) (v5_105 : Int32) (t_weight_105 : Nat → Int32) (t_known_105 : Int32) (t_hour_105 : Int32) (t_swS_105 : Nat → Int32) (t_swW_105 : Nat → Int32) (t_waS_105 : Nat → Int32) (t_spoons_105 : Int32) (t_kind_105 : Nat → Int32) (t_mark_105 : Nat → Int32) (t_silver_105 : Nat → Int32) (t_fresh_105 : Nat → Int64) (t_texts_105 : Nat → Option Nat) (tst_105 : Nat → Nat → Int32) (x : (Int32 × Int32 × (Nat → Int32) × Int32 × Int32 × (Nat → Int32) × (Nat → Int32) × (Nat → Int32) × Int32 × (Nat → Int32) × (Nat → Int32) × (Nat → Int32) × (Nat → Int64) × (Nat → Option Nat) × (Nat → Nat → Int32)) ⊕ (Int32 × Int32 × (Nat → Int32) × Int32 × Int32 × (Nat → Int32) × (Nat → Int32) × (Nat → Int32) × Int32 × (Nat → Int32) × (Nat → Int32) × (Nat → Int32) × (Nat → Int64) × (Nat → Option Nat) × (Nat → Nat → Int32))), fX11_which_105 v2_49 v4_105 v5_105 a errors_49 sbits slens snum h_weight h_known h_hour h_swS h_swW h_waS h_spoons h_kind h_mark h_silver h_fresh h_texts t_weight_105 t_known_105 t_hour_105 t_swS_105 t_swW_105 t_waS_105 t_spoons_105 t_kind_105 t_mark_105 t_silver_105 t_fresh_105 t_texts_105 L tx tst_105 = some x → lpk (fun σ : Int32 × Int32 × (Nat → Int32) × Int32 × Int32 × (Nat → Int32) × (Nat → Int32) × (Nat → Int32) × Int32 × (Nat → Int32) × (Nat → Int32) × (Nat → Int32) × (Nat → Int64) × (Nat → Option Nat) × (Nat → Nat → Int32) => fX11_which_49B v2_49 a errors_49 sbits slens snum h_weight h_known h_hour h_swS h_swW h_waS h_spoons h_kind h_mark h_silver h_fresh h_texts L tx (σ.1) (σ.2.1) (σ.2.2.1) (σ.2.2.2.1) (σ.2.2.2.2.1) (σ.2.2.2.2.2.1) (σ.2.2.2.2.2.2.1) (σ.2.2.2.2.2.2.2.1) (σ.2.2.2.2.2.2.2.2.1) (σ.2.2.2.2.2.2.2.2.2.1) (σ.2.2.2.2.2.2.2.2.2.2.1) (σ.2.2.2.2.2.2.2.2.2.2.2.1) (σ.2.2.2.2.2.2.2.2.2.2.2.2.1) (σ.2.2.2.2.2.2.2.2.2.2.2.2.2.1) (σ.2.2.2.2.2.2.2.2.2.2.2.2.2.2)) nf x = some (v4_49r, v5_49r, t_weight_49r, t_known_49r, t_hour_49r, t_swS_49r, t_swW_49r, t_waS_49r, t_spoons_49r, t_kind_49r, t_mark_49r, t_silver_49r, t_fresh_49r, t_texts_49r, tst_49r) → WW p l e ({ frames := 7, cells := 0, slots := 0, locals := 164 } : Room) s m args below meth c D A 0 0 Q (wX cA xd vd sd nd hd td ed kd images errors_49 fewest vspoon vmark vcount vbodies sbits slens snum h_weight h_known h_hour h_swS h_swW h_waS h_spoons h_kind h_mark h_silver h_fresh h_texts h_tape h_tapeCount h_z h_waiting h_waitingCount t_weight_105 t_known_105 t_hour_105 t_swS_105 t_swW_105 t_waS_105 t_spoons_105 t_kind_105 t_mark_105 t_silver_105 t_fresh_105 t_texts_105 t_tape t_tapeCount t_z t_waiting t_waitingCount e_weight e_known e_hour e_swS e_swW e_waS e_spoons e_kind e_mark e_silver e_fresh e_texts e_tape e_tapeCount e_z e_waiting e_waitingCount L tx tst_105) 6 [(0, .ref (xd 0)), (2, .int v2_49), (3, .ref (sd (a).toNatClampNeg)), (4, .int v4_105), (5, .int v5_105)] 105 [] := by
          intro v4_105 v5_105 t_weight_105 t_known_105 t_hour_105 t_swS_105 t_swW_105 t_waS_105 t_spoons_105 t_kind_105 t_mark_105 t_silver_105 t_fresh_105 t_texts_105 tst_105 x h hl
          unfold fX11_which_105 at h
          intro H locs ls hP hD hS hv
          obtain ⟨y_40, ey_40, h⟩ := bnd_ex h
          refine lv_iinc (v := y_40) (lv' := [(5, .int y_40), (0, .ref (xd 0)), (2, .int v2_49), (3, .ref (sd (a).toNatClampNeg)), (4, .int v4_105)]) hx hb dX11_which_105 hv (k := 4) rfl (by rw [ey_40]; rfl) (by decide) rfl (fun ls hv => ?_)
          refine lv_goto (tgt := 49) hx hb dX11_which_108 (by decide) ?_
          cases h
          exact ih v4_105 y_40 t_weight_105 t_known_105 t_hour_105 t_swS_105 t_swW_105 t_waS_105 t_spoons_105 t_kind_105 t_mark_105 t_silver_105 t_fresh_105 t_texts_105 tst_105 hl _ _ _ hP hD hS (lv_sub hv [1, 2, 3, 4, 0] rfl)
        intro H locs ls hP hD hS hv
        refine lv_iload hx hb dX11_which_49 (lv_at hv 4 rfl) ?_
        refine lv_bipush (v := (7 : Int32)) hx hb dX11_which_51 (by decide) ?_
        refine lv_icmp_ge (tgt := 111) hx hb dX11_which_53 (by decide) (fun c_13 => ?_) (fun c_13 => ?_)
        · have h := ite_t c_13 h
          cases h
          have hl : some (v4_49b, v5_49b, t_weight_49b, t_known_49b, t_hour_49b, t_swS_49b, t_swW_49b, t_waS_49b, t_spoons_49b, t_kind_49b, t_mark_49b, t_silver_49b, t_fresh_49b, t_texts_49b, tst_49b) = some (v4_49r, v5_49r, t_weight_49r, t_known_49r, t_hour_49r, t_swS_49r, t_swW_49r, t_waS_49r, t_spoons_49r, t_kind_49r, t_mark_49r, t_silver_49r, t_fresh_49r, t_texts_49r, tst_49r) := hl
          have hl := Option.some.inj hl
          have ee0 : v4_49b = v4_49r := congrArg (fun q => q.1) hl
          have ee1 : v5_49b = v5_49r := congrArg (fun q => q.2.1) hl
          have ee2 : t_weight_49b = t_weight_49r := congrArg (fun q => q.2.2.1) hl
          have ee3 : t_known_49b = t_known_49r := congrArg (fun q => q.2.2.2.1) hl
          have ee4 : t_hour_49b = t_hour_49r := congrArg (fun q => q.2.2.2.2.1) hl
          have ee5 : t_swS_49b = t_swS_49r := congrArg (fun q => q.2.2.2.2.2.1) hl
          have ee6 : t_swW_49b = t_swW_49r := congrArg (fun q => q.2.2.2.2.2.2.1) hl
          have ee7 : t_waS_49b = t_waS_49r := congrArg (fun q => q.2.2.2.2.2.2.2.1) hl
          have ee8 : t_spoons_49b = t_spoons_49r := congrArg (fun q => q.2.2.2.2.2.2.2.2.1) hl
          have ee9 : t_kind_49b = t_kind_49r := congrArg (fun q => q.2.2.2.2.2.2.2.2.2.1) hl
          have ee10 : t_mark_49b = t_mark_49r := congrArg (fun q => q.2.2.2.2.2.2.2.2.2.2.1) hl
          have ee11 : t_silver_49b = t_silver_49r := congrArg (fun q => q.2.2.2.2.2.2.2.2.2.2.2.1) hl
          have ee12 : t_fresh_49b = t_fresh_49r := congrArg (fun q => q.2.2.2.2.2.2.2.2.2.2.2.2.1) hl
          have ee13 : t_texts_49b = t_texts_49r := congrArg (fun q => q.2.2.2.2.2.2.2.2.2.2.2.2.2.1) hl
          have ee14 : tst_49b = tst_49r := congrArg (fun q => q.2.2.2.2.2.2.2.2.2.2.2.2.2.2) hl
          subst ee0
          subst ee1
          subst ee2
          subst ee3
          subst ee4
          subst ee5
          subst ee6
          subst ee7
          subst ee8
          subst ee9
          subst ee10
          subst ee11
          subst ee12
          subst ee13
          subst ee14
          exact LE _ _ _ hP hD hS (lv_sub hv [3] rfl)
        · have h := ite_f c_13 h
          refine lv_aload_n hx hb dX11_which_56 rfl (lv_at hv 0 rfl) ?_
          refine va_get (D := D) (ci := 11) (v := .ref (td 0)) (C := RX11) (T := TX11) (N := 9) hx hb hts in_11 hown hK hP 0 rfl rfl 1 (by decide) w_3 (fun _ h9 => h9) rfl dX11_which_57 ?_
          refine lv_aload_n hx hb dX11_which_60 rfl (lv_at hv 0 rfl) ?_
          refine va_get (D := D) (ci := 11) (v := .ref (hd 0)) (C := RX11) (T := TX11) (N := 9) hx hb hts in_11 hown hK hP 0 rfl rfl 0 (by decide) w_4 (fun _ h9 => h9) rfl dX11_which_61 ?_
          obtain ⟨⟨t_weight_14, t_known_15, t_hour_16, t_swS_17, t_swW_18, t_waS_19, t_spoons_20, t_kind_21, t_mark_22, t_silver_23, t_fresh_24, t_texts_25⟩, hf_26, h⟩ := bd_ex h
          have sb : Sb D A H (wHH cA td hd kd t_weight_49b t_known_49b t_hour_49b t_swS_49b t_swW_49b t_waS_49b t_spoons_49b t_kind_49b t_mark_49b t_silver_49b t_fresh_49b t_texts_49b t_tape t_tapeCount t_z t_waiting t_waitingCount h_weight h_known h_hour h_swS h_swW h_waS h_spoons h_kind h_mark h_silver h_fresh h_texts h_tape h_tapeCount h_z h_waiting h_waitingCount L tx tst_49b) := sbXth hP hD hS hA
          refine calV (va_runV (As := [.ref (hd 0)]) (rest := []) ⟨hx, hb, hml, hown, hts⟩ (c_X3_follow l G D cA td hd kd _ t_weight_49b t_known_49b t_hour_49b t_swS_49b t_swW_49b t_waS_49b t_spoons_49b t_kind_49b t_mark_49b t_silver_49b t_fresh_49b t_texts_49b t_tape t_tapeCount t_z t_waiting t_waitingCount h_weight h_known h_hour h_swS h_swW h_waS h_spoons h_kind h_mark h_silver h_fresh h_texts h_tape h_tapeCount h_z h_waiting h_waitingCount L tx tst_49b t_weight_14 t_known_15 t_hour_16 t_swS_17 t_swW_18 t_waS_19 t_spoons_20 t_kind_21 t_mark_22 t_silver_23 t_fresh_24 t_texts_25 hf_26) (cwV 1 hts gX11_which_X3_follow rfl rfl rfl (by decide +kernel) ⟨Nat.le_of_ble_eq_true rfl, Nat.le_of_ble_eq_true rfl⟩) (pvV hE hK hS sb (va_recv hK hP (ci := 3) (q0 := 26) rfl rfl)) rfl rfl hv.1 rfl (lv_room (Nat.le_of_ble_eq_true rfl)) dX11_which_64 ⟨Nat.le_of_ble_eq_true rfl, Nat.le_of_ble_eq_true rfl⟩) hS sb (jnXth hP hD) (fun H locs hP hD hS => ?_)
          have hP : va_P D vwCl (wX cA xd vd sd nd hd td ed kd images errors_49 fewest vspoon vmark vcount vbodies sbits slens snum h_weight h_known h_hour h_swS h_swW h_waS h_spoons h_kind h_mark h_silver h_fresh h_texts h_tape h_tapeCount h_z h_waiting h_waitingCount t_weight_14 t_known_15 t_hour_16 t_swS_17 t_swW_18 t_waS_19 t_spoons_20 t_kind_21 t_mark_22 t_silver_23 t_fresh_24 t_texts_25 t_tape t_tapeCount t_z t_waiting t_waitingCount e_weight e_known e_hour e_swS e_swW e_waS e_spoons e_kind e_mark e_silver e_fresh e_texts e_tape e_tapeCount e_z e_waiting e_waitingCount L tx tst_49b) H := hP
          have hD : va_D A (wX cA xd vd sd nd hd td ed kd images errors_49 fewest vspoon vmark vcount vbodies sbits slens snum h_weight h_known h_hour h_swS h_swW h_waS h_spoons h_kind h_mark h_silver h_fresh h_texts h_tape h_tapeCount h_z h_waiting h_waitingCount t_weight_14 t_known_15 t_hour_16 t_swS_17 t_swW_18 t_waS_19 t_spoons_20 t_kind_21 t_mark_22 t_silver_23 t_fresh_24 t_texts_25 t_tape t_tapeCount t_z t_waiting t_waitingCount e_weight e_known e_hour e_swS e_swW e_waS e_spoons e_kind e_mark e_silver e_fresh e_texts e_tape e_tapeCount e_z e_waiting e_waitingCount L tx tst_49b) := hD
          refine lv_aload_n hx hb dX11_which_67 rfl (lv_at hv 0 rfl) ?_
          refine va_get (D := D) (ci := 11) (v := .ref (td 0)) (C := RX11) (T := TX11) (N := 9) hx hb hts in_11 hown hK hP 0 rfl rfl 1 (by decide) w_3 (fun _ h9 => h9) rfl dX11_which_68 ?_
          refine va_get (D := D) (ci := 3) (v := .ref (td 9)) (C := RX3) (T := TX3) (N := 18) hx hb hts in_3 hown hK hP 26 rfl rfl 8 (by decide) w_5 (fun _ h9 => h9) rfl dX11_which_71 ?_
          refine lv_iload_n hx hb dX11_which_74 rfl (lv_at hv 1 rfl) ?_
          refine lv_iload hx hb dX11_which_75 (lv_at hv 4 rfl) ?_
          obtain ⟨c_27, h⟩ := ckI_ex h
          obtain ⟨t_kind_28, et_kind_28, h⟩ := bnd_ex h
          refine va_iast (D := D) hx hb hK hP hD hS 31 0 rfl rfl c_27 dX11_which_77 (fun H locs hP hD hS => ?_)
          rw [← et_kind_28] at hP hD
          have hP : va_P D vwCl (wX cA xd vd sd nd hd td ed kd images errors_49 fewest vspoon vmark vcount vbodies sbits slens snum h_weight h_known h_hour h_swS h_swW h_waS h_spoons h_kind h_mark h_silver h_fresh h_texts h_tape h_tapeCount h_z h_waiting h_waitingCount t_weight_14 t_known_15 t_hour_16 t_swS_17 t_swW_18 t_waS_19 t_spoons_20 t_kind_28 t_mark_22 t_silver_23 t_fresh_24 t_texts_25 t_tape t_tapeCount t_z t_waiting t_waitingCount e_weight e_known e_hour e_swS e_swW e_waS e_spoons e_kind e_mark e_silver e_fresh e_texts e_tape e_tapeCount e_z e_waiting e_waitingCount L tx tst_49b) H := hP
          have hD : va_D A (wX cA xd vd sd nd hd td ed kd images errors_49 fewest vspoon vmark vcount vbodies sbits slens snum h_weight h_known h_hour h_swS h_swW h_waS h_spoons h_kind h_mark h_silver h_fresh h_texts h_tape h_tapeCount h_z h_waiting h_waitingCount t_weight_14 t_known_15 t_hour_16 t_swS_17 t_swW_18 t_waS_19 t_spoons_20 t_kind_28 t_mark_22 t_silver_23 t_fresh_24 t_texts_25 t_tape t_tapeCount t_z t_waiting t_waitingCount e_weight e_known e_hour e_swS e_swW e_waS e_spoons e_kind e_mark e_silver e_fresh e_texts e_tape e_tapeCount e_z e_waiting e_waitingCount L tx tst_49b) := hD
          refine lv_aload_n hx hb dX11_which_78 rfl (lv_at hv 0 rfl) ?_
          refine va_get (D := D) (ci := 11) (v := .ref (td 0)) (C := RX11) (T := TX11) (N := 9) hx hb hts in_11 hown hK hP 0 rfl rfl 1 (by decide) w_3 (fun _ h9 => h9) rfl dX11_which_79 ?_
          refine lv_aload_n hx hb dX11_which_82 rfl (lv_at hv 2 rfl) ?_
          obtain ⟨c_29, h⟩ := ckI_ex h
          refine va_get (D := D) (ci := 7) (v := .ref (nd (a).toNatClampNeg)) (C := RX7) (T := TX7) (N := 3) hx hb hts in_7 hown hK hP (6 + (a).toNatClampNeg) (wX_so (vlt c_29)) rfl 2 (by decide) w_6 (fun _ h9 => h9) rfl dX11_which_83 ?_
          refine lv_aload_n hx hb dX11_which_86 rfl (lv_at hv 2 rfl) ?_
          obtain ⟨c_30, h⟩ := ckI_ex h
          refine va_get (D := D) (ci := 7) (v := .int (slens (a).toNatClampNeg)) (C := RX7) (T := TX7) (N := 3) hx hb hts in_7 hown hK hP (6 + (a).toNatClampNeg) (wX_so (vlt c_30)) rfl 1 (by decide) w_7 (fun _ h9 => h9) rfl dX11_which_87 ?_
          obtain ⟨c_31, h⟩ := ckI_ex h
          obtain ⟨⟨r_32, t_known_33, t_hour_34, t_silver_35, t_fresh_36, tst_37⟩, hf_38, h⟩ := bd_ex h
          have sb : Sb D A H (wHA cA td kd (nd (a).toNatClampNeg) 40 t_weight_14 t_known_15 t_hour_16 t_swS_17 t_swW_18 t_waS_19 t_spoons_20 t_kind_28 t_mark_22 t_silver_23 t_fresh_24 t_texts_25 t_tape t_tapeCount t_z t_waiting t_waitingCount (snum (a).toNatClampNeg) L tx tst_49b) := sbHAS (vlt c_31) hP hD hS hA
          refine calI (va_runV (As := [.ref (nd (a).toNatClampNeg), .int (slens (a).toNatClampNeg)]) (rest := []) ⟨hx, hb, hml, hown, hts⟩ (c_X3_unlikeSpreads l G D cA td kd (nd (a).toNatClampNeg) 40 _ t_weight_14 t_known_15 t_hour_16 t_swS_17 t_swW_18 t_waS_19 t_spoons_20 t_kind_28 t_mark_22 t_silver_23 t_fresh_24 t_texts_25 t_tape t_tapeCount t_z t_waiting t_waitingCount (snum (a).toNatClampNeg) L tx tst_49b (slens (a).toNatClampNeg) r_32 t_known_33 t_hour_34 t_silver_35 t_fresh_36 tst_37 hf_38) (cwV 2 hts gX11_which_X3_unlikeSpreads rfl rfl rfl (by decide +kernel) ⟨Nat.le_of_ble_eq_true rfl, Nat.le_of_ble_eq_true rfl⟩) (pvV hE hK hS sb (va_recv hK hP (ci := 3) (q0 := 26) rfl rfl)) rfl rfl hv.1 rfl (lv_room (Nat.le_of_ble_eq_true rfl)) dX11_which_90 ⟨Nat.le_of_ble_eq_true rfl, Nat.le_of_ble_eq_true rfl⟩) hS sb (jnHAS (vlt c_31) hP hD) (fun H locs hP hD hS => ?_)
          have hP : va_P D vwCl (wX cA xd vd sd nd hd td ed kd images errors_49 fewest vspoon vmark vcount vbodies sbits slens snum h_weight h_known h_hour h_swS h_swW h_waS h_spoons h_kind h_mark h_silver h_fresh h_texts h_tape h_tapeCount h_z h_waiting h_waitingCount t_weight_14 t_known_33 t_hour_34 t_swS_17 t_swW_18 t_waS_19 t_spoons_20 t_kind_28 t_mark_22 t_silver_35 t_fresh_36 t_texts_25 t_tape t_tapeCount t_z t_waiting t_waitingCount e_weight e_known e_hour e_swS e_swW e_waS e_spoons e_kind e_mark e_silver e_fresh e_texts e_tape e_tapeCount e_z e_waiting e_waitingCount L tx tst_37) H := hP
          have hD : va_D A (wX cA xd vd sd nd hd td ed kd images errors_49 fewest vspoon vmark vcount vbodies sbits slens snum h_weight h_known h_hour h_swS h_swW h_waS h_spoons h_kind h_mark h_silver h_fresh h_texts h_tape h_tapeCount h_z h_waiting h_waitingCount t_weight_14 t_known_33 t_hour_34 t_swS_17 t_swW_18 t_waS_19 t_spoons_20 t_kind_28 t_mark_22 t_silver_35 t_fresh_36 t_texts_25 t_tape t_tapeCount t_z t_waiting t_waitingCount e_weight e_known e_hour e_swS e_swW e_waS e_spoons e_kind e_mark e_silver e_fresh e_texts e_tape e_tapeCount e_z e_waiting e_waitingCount L tx tst_37) := hD
          refine lv_if_ge (tgt := 105) hx hb dX11_which_93 (by decide) (fun c_39 => ?_) (fun c_39 => ?_)
          · have h := ite_t c_39 h
            exact C_105 v4_49b v5_49b t_weight_14 t_known_33 t_hour_34 t_swS_17 t_swW_18 t_waS_19 t_spoons_20 t_kind_28 t_mark_22 t_silver_35 t_fresh_36 t_texts_25 tst_37 _ h hl _ _ _ hP hD hS (lv_sub hv [0, 1, 2, 3, 4] rfl)
          · have h := ite_f c_39 h
            refine lv_iload hx hb dX11_which_96 (lv_at hv 3 rfl) ?_
            refine lv_iconst (v := (1 : Int32)) hx hb dX11_which_98 (by decide) ?_
            refine lv_iload hx hb dX11_which_99 (lv_at hv 4 rfl) ?_
            refine lv_ishl hx hb dX11_which_101 ?_
            refine lv_ior hx hb dX11_which_102 ?_
            obtain ⟨y_41, ey_41, h⟩ := bnd_ex h
            refine lv_nm ey_41 ?_
            refine lv_istore (lv' := [(4, .int y_41), (0, .ref (xd 0)), (2, .int v2_49), (3, .ref (sd (a).toNatClampNeg)), (5, .int v5_49b)]) hx hb dX11_which_103 hv (by decide) rfl (fun ls hv => ?_)
            exact C_105 y_41 v5_49b t_weight_14 t_known_33 t_hour_34 t_swS_17 t_swW_18 t_waS_19 t_spoons_20 t_kind_28 t_mark_22 t_silver_35 t_fresh_36 t_texts_25 tst_37 _ h hl _ _ _ hP hD hS (lv_sub hv [1, 2, 3, 0, 4] rfl)
    exact LB FU v4_49 v5_49 t_weight_49 t_known_49 t_hour_49 t_swS_49 t_swW_49 t_waS_49 t_spoons_49 t_kind_49 t_mark_49 t_silver_49 t_fresh_49 t_texts_49 tst_49 ho
  have hP : va_P D vwCl (wX cA xd vd sd nd hd td ed kd images errors fewest vspoon vmark vcount vbodies sbits slens snum h_weight h_known h_hour h_swS h_swW h_waS h_spoons h_kind h_mark h_silver h_fresh h_texts h_tape h_tapeCount h_z h_waiting h_waitingCount t_weight t_known t_hour t_swS t_swW t_waS t_spoons t_kind t_mark t_silver t_fresh t_texts t_tape t_tapeCount t_z t_waiting t_waitingCount e_weight e_known e_hour e_swS e_swW e_waS e_spoons e_kind e_mark e_silver e_fresh e_texts e_tape e_tapeCount e_z e_waiting e_waitingCount L tx tst) H := hP
  unfold fX11_which at h
  refine lv_iload_n hx hb dX11_which_0 rfl (lv_at hv 1 rfl) ?_
  obtain ⟨r_1, hf_2, h⟩ := bd_ex h
  have sb := Sb.nil hP hD hS hA
  refine calI (va_runS (As := [.int a]) (rest := []) ⟨hx, hb, hml, hown, hts⟩ (c_X11_isSheet l G D cA  _ a r_1 hf_2) (va_cwS 1 hts gX11_which_X11_isSheet rfl rfl rfl (by decide +kernel) ⟨Nat.le_of_ble_eq_true rfl, Nat.le_of_ble_eq_true rfl⟩) (pvS hE hK hS sb) rfl rfl hv.1 rfl (lv_room (Nat.le_of_ble_eq_true rfl)) dX11_which_1 ⟨Nat.le_of_ble_eq_true rfl, Nat.le_of_ble_eq_true rfl⟩) hS sb (Jn.nil hP hD) (fun H locs hP hD hS => ?_)
  have hP : va_P D vwCl (wX cA xd vd sd nd hd td ed kd images errors fewest vspoon vmark vcount vbodies sbits slens snum h_weight h_known h_hour h_swS h_swW h_waS h_spoons h_kind h_mark h_silver h_fresh h_texts h_tape h_tapeCount h_z h_waiting h_waitingCount t_weight t_known t_hour t_swS t_swW t_waS t_spoons t_kind t_mark t_silver t_fresh t_texts t_tape t_tapeCount t_z t_waiting t_waitingCount e_weight e_known e_hour e_swS e_swW e_waS e_spoons e_kind e_mark e_silver e_fresh e_texts e_tape e_tapeCount e_z e_waiting e_waitingCount L tx tst) H := hP
  have hD : va_D A (wX cA xd vd sd nd hd td ed kd images errors fewest vspoon vmark vcount vbodies sbits slens snum h_weight h_known h_hour h_swS h_swW h_waS h_spoons h_kind h_mark h_silver h_fresh h_texts h_tape h_tapeCount h_z h_waiting h_waitingCount t_weight t_known t_hour t_swS t_swW t_waS t_spoons t_kind t_mark t_silver t_fresh t_texts t_tape t_tapeCount t_z t_waiting t_waitingCount e_weight e_known e_hour e_swS e_swW e_waS e_spoons e_kind e_mark e_silver e_fresh e_texts e_tape e_tapeCount e_z e_waiting e_waitingCount L tx tst) := hD
  refine lv_if_eq (tgt := 15) hx hb dX11_which_4 (by decide) (fun c_3 => ?_) (fun c_3 => ?_)
  · have h := ite_t c_3 h
    refine lv_aload_n hx hb dX11_which_15 rfl (lv_at hv 0 rfl) ?_
    refine lv_ldc (v := (-1000000001 : Int32)) hx hb hown w_0 dX11_which_16 ?_
    obtain ⟨⟨r_4, errors_5⟩, hf_6, h⟩ := bd_ex h
    have sb := Sb.same hP hD hS hA
    refine calI (va_runV (As := [.int (-1000000001 : Int32)]) (rest := []) ⟨hx, hb, hml, hown, hts⟩ (c_X11_refused l G D cA xd vd sd nd hd td ed kd _ images errors fewest vspoon vmark vcount vbodies sbits slens snum h_weight h_known h_hour h_swS h_swW h_waS h_spoons h_kind h_mark h_silver h_fresh h_texts h_tape h_tapeCount h_z h_waiting h_waitingCount t_weight t_known t_hour t_swS t_swW t_waS t_spoons t_kind t_mark t_silver t_fresh t_texts t_tape t_tapeCount t_z t_waiting t_waitingCount e_weight e_known e_hour e_swS e_swW e_waS e_spoons e_kind e_mark e_silver e_fresh e_texts e_tape e_tapeCount e_z e_waiting e_waitingCount L tx tst (-1000000001 : Int32) r_4 errors_5 hf_6) (cwV 1 hts gX11_which_X11_refused rfl rfl rfl (by decide +kernel) ⟨Nat.le_of_ble_eq_true rfl, Nat.le_of_ble_eq_true rfl⟩) (pvV hE hK hS sb (va_recv hK hP (ci := 11) (q0 := 0) rfl rfl)) rfl rfl hv.1 rfl (lv_room (Nat.le_of_ble_eq_true rfl)) dX11_which_18 ⟨Nat.le_of_ble_eq_true rfl, Nat.le_of_ble_eq_true rfl⟩) hS sb (Jn.same sb) (fun H locs hP hD hS => ?_)
    have hP : va_P D vwCl (wX cA xd vd sd nd hd td ed kd images errors_5 fewest vspoon vmark vcount vbodies sbits slens snum h_weight h_known h_hour h_swS h_swW h_waS h_spoons h_kind h_mark h_silver h_fresh h_texts h_tape h_tapeCount h_z h_waiting h_waitingCount t_weight t_known t_hour t_swS t_swW t_waS t_spoons t_kind t_mark t_silver t_fresh t_texts t_tape t_tapeCount t_z t_waiting t_waitingCount e_weight e_known e_hour e_swS e_swW e_waS e_spoons e_kind e_mark e_silver e_fresh e_texts e_tape e_tapeCount e_z e_waiting e_waitingCount L tx tst) H := hP
    have hD : va_D A (wX cA xd vd sd nd hd td ed kd images errors_5 fewest vspoon vmark vcount vbodies sbits slens snum h_weight h_known h_hour h_swS h_swW h_waS h_spoons h_kind h_mark h_silver h_fresh h_texts h_tape h_tapeCount h_z h_waiting h_waitingCount t_weight t_known t_hour t_swS t_swW t_waS t_spoons t_kind t_mark t_silver t_fresh t_texts t_tape t_tapeCount t_z t_waiting t_waitingCount e_weight e_known e_hour e_swS e_swW e_waS e_spoons e_kind e_mark e_silver e_fresh e_texts e_tape e_tapeCount e_z e_waiting e_waitingCount L tx tst) := hD
    have h := Option.some.inj h
    have ee0 : r_4 = rR := congrArg (fun q => q.1) h
    have ee1 : errors_5 = errorsR := congrArg (fun q => q.2.1) h
    have ee2 : t_weight = t_weightR := congrArg (fun q => q.2.2.1) h
    have ee3 : t_known = t_knownR := congrArg (fun q => q.2.2.2.1) h
    have ee4 : t_hour = t_hourR := congrArg (fun q => q.2.2.2.2.1) h
    have ee5 : t_swS = t_swSR := congrArg (fun q => q.2.2.2.2.2.1) h
    have ee6 : t_swW = t_swWR := congrArg (fun q => q.2.2.2.2.2.2.1) h
    have ee7 : t_waS = t_waSR := congrArg (fun q => q.2.2.2.2.2.2.2.1) h
    have ee8 : t_spoons = t_spoonsR := congrArg (fun q => q.2.2.2.2.2.2.2.2.1) h
    have ee9 : t_kind = t_kindR := congrArg (fun q => q.2.2.2.2.2.2.2.2.2.1) h
    have ee10 : t_mark = t_markR := congrArg (fun q => q.2.2.2.2.2.2.2.2.2.2.1) h
    have ee11 : t_silver = t_silverR := congrArg (fun q => q.2.2.2.2.2.2.2.2.2.2.2.1) h
    have ee12 : t_fresh = t_freshR := congrArg (fun q => q.2.2.2.2.2.2.2.2.2.2.2.2.1) h
    have ee13 : t_texts = t_textsR := congrArg (fun q => q.2.2.2.2.2.2.2.2.2.2.2.2.2.1) h
    have ee14 : tst = tstR := congrArg (fun q => q.2.2.2.2.2.2.2.2.2.2.2.2.2.2) h
    subst ee0
    subst ee1
    subst ee2
    subst ee3
    subst ee4
    subst ee5
    subst ee6
    subst ee7
    subst ee8
    subst ee9
    subst ee10
    subst ee11
    subst ee12
    subst ee13
    subst ee14
    rw [← hQ]
    exact retI hx hb hr hlk hK hP hD hS dX11_which_21 ⟨Nat.le_of_ble_eq_true rfl, Nat.le_of_ble_eq_true rfl⟩
  · have h := ite_f c_3 h
    refine lv_aload_n hx hb dX11_which_7 rfl (lv_at hv 0 rfl) ?_
    refine lv_iload_n hx hb dX11_which_8 rfl (lv_at hv 2 rfl) ?_
    obtain ⟨r_7, hf_8, h⟩ := bd_ex h
    have sb := Sb.same hP hD hS hA
    refine calI (va_runV (As := [.int b]) (rest := []) ⟨hx, hb, hml, hown, hts⟩ (c_X11_isSpoon l G D cA xd vd sd nd hd td ed kd _ images errors fewest vspoon vmark vcount vbodies sbits slens snum h_weight h_known h_hour h_swS h_swW h_waS h_spoons h_kind h_mark h_silver h_fresh h_texts h_tape h_tapeCount h_z h_waiting h_waitingCount t_weight t_known t_hour t_swS t_swW t_waS t_spoons t_kind t_mark t_silver t_fresh t_texts t_tape t_tapeCount t_z t_waiting t_waitingCount e_weight e_known e_hour e_swS e_swW e_waS e_spoons e_kind e_mark e_silver e_fresh e_texts e_tape e_tapeCount e_z e_waiting e_waitingCount L tx tst b r_7 hf_8) (cwV 1 hts gX11_which_X11_isSpoon rfl rfl rfl (by decide +kernel) ⟨Nat.le_of_ble_eq_true rfl, Nat.le_of_ble_eq_true rfl⟩) (pvV hE hK hS sb (va_recv hK hP (ci := 11) (q0 := 0) rfl rfl)) rfl rfl hv.1 rfl (lv_room (Nat.le_of_ble_eq_true rfl)) dX11_which_9 ⟨Nat.le_of_ble_eq_true rfl, Nat.le_of_ble_eq_true rfl⟩) hS sb (Jn.same sb) (fun H locs hP hD hS => ?_)
    have hP : va_P D vwCl (wX cA xd vd sd nd hd td ed kd images errors fewest vspoon vmark vcount vbodies sbits slens snum h_weight h_known h_hour h_swS h_swW h_waS h_spoons h_kind h_mark h_silver h_fresh h_texts h_tape h_tapeCount h_z h_waiting h_waitingCount t_weight t_known t_hour t_swS t_swW t_waS t_spoons t_kind t_mark t_silver t_fresh t_texts t_tape t_tapeCount t_z t_waiting t_waitingCount e_weight e_known e_hour e_swS e_swW e_waS e_spoons e_kind e_mark e_silver e_fresh e_texts e_tape e_tapeCount e_z e_waiting e_waitingCount L tx tst) H := hP
    have hD : va_D A (wX cA xd vd sd nd hd td ed kd images errors fewest vspoon vmark vcount vbodies sbits slens snum h_weight h_known h_hour h_swS h_swW h_waS h_spoons h_kind h_mark h_silver h_fresh h_texts h_tape h_tapeCount h_z h_waiting h_waitingCount t_weight t_known t_hour t_swS t_swW t_waS t_spoons t_kind t_mark t_silver t_fresh t_texts t_tape t_tapeCount t_z t_waiting t_waitingCount e_weight e_known e_hour e_swS e_swW e_waS e_spoons e_kind e_mark e_silver e_fresh e_texts e_tape e_tapeCount e_z e_waiting e_waitingCount L tx tst) := hD
    refine lv_if_ne (tgt := 22) hx hb dX11_which_12 (by decide) (fun c_9 => ?_) (fun c_9 => ?_)
    · have h := ite_f c_9 h
      refine lv_aload_n hx hb dX11_which_22 rfl (lv_at hv 0 rfl) ?_
      refine va_get (D := D) (ci := 11) (v := .ref (xd 1)) (C := RX11) (T := TX11) (N := 9) hx hb hts in_11 hown hK hP 0 rfl rfl 6 (by decide) w_1 (fun _ h9 => h9) rfl dX11_which_23 ?_
      refine lv_iload_n hx hb dX11_which_26 rfl (lv_at hv 1 rfl) ?_
      obtain ⟨c_10, h⟩ := ckI_ex h
      refine va_aldq (D := D) (f := fun j => some (sd j)) hx hb hK hP 1 4 rfl rfl c_10 dX11_which_27 ?_
      refine W.eq (g2 := F0 m 28 ls [.ref (sd (a).toNatClampNeg)]) rfl ?_
      refine lv_astore_n (lv' := [(3, .ref (sd (a).toNatClampNeg)), (0, .ref (xd 0)), (1, .int a), (2, .int b)]) hx hb dX11_which_28 rfl hv (by decide) rfl (fun ls hv => ?_)
      refine lv_aload_n hx hb dX11_which_29 rfl (lv_at hv 0 rfl) ?_
      obtain ⟨c_11, h⟩ := ckI_ex h
      refine va_get (D := D) (ci := 7) (v := .int (sbits (a).toNatClampNeg)) (C := RX7) (T := TX7) (N := 3) hx hb hts in_7 hown hK hP (6 + (a).toNatClampNeg) (wX_so (vlt c_11)) rfl 0 (by decide) w_2 (fun _ h9 => h9) rfl dX11_which_30 ?_
      refine lv_if_ne (tgt := 43) hx hb dX11_which_33 (by decide) (fun c_12 => ?_) (fun c_12 => ?_)
      · have h := ite_f c_12 h
        refine lv_iconst (v := (0 : Int32)) hx hb dX11_which_43 (by decide) ?_
        refine lv_istore (lv' := [(4, .int (0 : Int32)), (3, .ref (sd (a).toNatClampNeg)), (0, .ref (xd 0)), (1, .int a), (2, .int b)]) hx hb dX11_which_44 hv (by decide) rfl (fun ls hv => ?_)
        refine lv_iconst (v := (0 : Int32)) hx hb dX11_which_46 (by decide) ?_
        refine lv_istore (lv' := [(5, .int (0 : Int32)), (4, .int (0 : Int32)), (3, .ref (sd (a).toNatClampNeg)), (0, .ref (xd 0)), (1, .int a), (2, .int b)]) hx hb dX11_which_47 hv (by decide) rfl (fun ls hv => ?_)
        exact C_49 b (0 : Int32) (0 : Int32) errors t_weight t_known t_hour t_swS t_swW t_waS t_spoons t_kind t_mark t_silver t_fresh t_texts tst h _ _ _ hP hD hS (lv_sub hv [3, 5, 2, 1, 0] rfl)
      · have h := ite_t c_12 h
        refine lv_aload_n hx hb dX11_which_36 rfl (lv_at hv 1 rfl) ?_
        refine lv_ldc (v := (-1000000002 : Int32)) hx hb hown w_8 dX11_which_37 ?_
        obtain ⟨⟨r_42, errors_43⟩, hf_44, h⟩ := bd_ex h
        have sb := Sb.same hP hD hS hA
        refine calI (va_runV (As := [.int (-1000000002 : Int32)]) (rest := []) ⟨hx, hb, hml, hown, hts⟩ (c_X11_refused l G D cA xd vd sd nd hd td ed kd _ images errors fewest vspoon vmark vcount vbodies sbits slens snum h_weight h_known h_hour h_swS h_swW h_waS h_spoons h_kind h_mark h_silver h_fresh h_texts h_tape h_tapeCount h_z h_waiting h_waitingCount t_weight t_known t_hour t_swS t_swW t_waS t_spoons t_kind t_mark t_silver t_fresh t_texts t_tape t_tapeCount t_z t_waiting t_waitingCount e_weight e_known e_hour e_swS e_swW e_waS e_spoons e_kind e_mark e_silver e_fresh e_texts e_tape e_tapeCount e_z e_waiting e_waitingCount L tx tst (-1000000002 : Int32) r_42 errors_43 hf_44) (cwV 1 hts gX11_which_X11_refused rfl rfl rfl (by decide +kernel) ⟨Nat.le_of_ble_eq_true rfl, Nat.le_of_ble_eq_true rfl⟩) (pvV hE hK hS sb (va_recv hK hP (ci := 11) (q0 := 0) rfl rfl)) rfl rfl hv.1 rfl (lv_room (Nat.le_of_ble_eq_true rfl)) dX11_which_39 ⟨Nat.le_of_ble_eq_true rfl, Nat.le_of_ble_eq_true rfl⟩) hS sb (Jn.same sb) (fun H locs hP hD hS => ?_)
        have hP : va_P D vwCl (wX cA xd vd sd nd hd td ed kd images errors_43 fewest vspoon vmark vcount vbodies sbits slens snum h_weight h_known h_hour h_swS h_swW h_waS h_spoons h_kind h_mark h_silver h_fresh h_texts h_tape h_tapeCount h_z h_waiting h_waitingCount t_weight t_known t_hour t_swS t_swW t_waS t_spoons t_kind t_mark t_silver t_fresh t_texts t_tape t_tapeCount t_z t_waiting t_waitingCount e_weight e_known e_hour e_swS e_swW e_waS e_spoons e_kind e_mark e_silver e_fresh e_texts e_tape e_tapeCount e_z e_waiting e_waitingCount L tx tst) H := hP
        have hD : va_D A (wX cA xd vd sd nd hd td ed kd images errors_43 fewest vspoon vmark vcount vbodies sbits slens snum h_weight h_known h_hour h_swS h_swW h_waS h_spoons h_kind h_mark h_silver h_fresh h_texts h_tape h_tapeCount h_z h_waiting h_waitingCount t_weight t_known t_hour t_swS t_swW t_waS t_spoons t_kind t_mark t_silver t_fresh t_texts t_tape t_tapeCount t_z t_waiting t_waitingCount e_weight e_known e_hour e_swS e_swW e_waS e_spoons e_kind e_mark e_silver e_fresh e_texts e_tape e_tapeCount e_z e_waiting e_waitingCount L tx tst) := hD
        have h := Option.some.inj h
        have ee0 : r_42 = rR := congrArg (fun q => q.1) h
        have ee1 : errors_43 = errorsR := congrArg (fun q => q.2.1) h
        have ee2 : t_weight = t_weightR := congrArg (fun q => q.2.2.1) h
        have ee3 : t_known = t_knownR := congrArg (fun q => q.2.2.2.1) h
        have ee4 : t_hour = t_hourR := congrArg (fun q => q.2.2.2.2.1) h
        have ee5 : t_swS = t_swSR := congrArg (fun q => q.2.2.2.2.2.1) h
        have ee6 : t_swW = t_swWR := congrArg (fun q => q.2.2.2.2.2.2.1) h
        have ee7 : t_waS = t_waSR := congrArg (fun q => q.2.2.2.2.2.2.2.1) h
        have ee8 : t_spoons = t_spoonsR := congrArg (fun q => q.2.2.2.2.2.2.2.2.1) h
        have ee9 : t_kind = t_kindR := congrArg (fun q => q.2.2.2.2.2.2.2.2.2.1) h
        have ee10 : t_mark = t_markR := congrArg (fun q => q.2.2.2.2.2.2.2.2.2.2.1) h
        have ee11 : t_silver = t_silverR := congrArg (fun q => q.2.2.2.2.2.2.2.2.2.2.2.1) h
        have ee12 : t_fresh = t_freshR := congrArg (fun q => q.2.2.2.2.2.2.2.2.2.2.2.2.1) h
        have ee13 : t_texts = t_textsR := congrArg (fun q => q.2.2.2.2.2.2.2.2.2.2.2.2.2.1) h
        have ee14 : tst = tstR := congrArg (fun q => q.2.2.2.2.2.2.2.2.2.2.2.2.2.2) h
        subst ee0
        subst ee1
        subst ee2
        subst ee3
        subst ee4
        subst ee5
        subst ee6
        subst ee7
        subst ee8
        subst ee9
        subst ee10
        subst ee11
        subst ee12
        subst ee13
        subst ee14
        rw [← hQ]
        exact retI hx hb hr hlk hK hP hD hS dX11_which_42 ⟨Nat.le_of_ble_eq_true rfl, Nat.le_of_ble_eq_true rfl⟩
    · have h := ite_t c_9 h
      refine lv_aload_n hx hb dX11_which_15 rfl (lv_at hv 0 rfl) ?_
      refine lv_ldc (v := (-1000000001 : Int32)) hx hb hown w_0 dX11_which_16 ?_
      obtain ⟨⟨r_45, errors_46⟩, hf_47, h⟩ := bd_ex h
      have sb := Sb.same hP hD hS hA
      refine calI (va_runV (As := [.int (-1000000001 : Int32)]) (rest := []) ⟨hx, hb, hml, hown, hts⟩ (c_X11_refused l G D cA xd vd sd nd hd td ed kd _ images errors fewest vspoon vmark vcount vbodies sbits slens snum h_weight h_known h_hour h_swS h_swW h_waS h_spoons h_kind h_mark h_silver h_fresh h_texts h_tape h_tapeCount h_z h_waiting h_waitingCount t_weight t_known t_hour t_swS t_swW t_waS t_spoons t_kind t_mark t_silver t_fresh t_texts t_tape t_tapeCount t_z t_waiting t_waitingCount e_weight e_known e_hour e_swS e_swW e_waS e_spoons e_kind e_mark e_silver e_fresh e_texts e_tape e_tapeCount e_z e_waiting e_waitingCount L tx tst (-1000000001 : Int32) r_45 errors_46 hf_47) (cwV 1 hts gX11_which_X11_refused rfl rfl rfl (by decide +kernel) ⟨Nat.le_of_ble_eq_true rfl, Nat.le_of_ble_eq_true rfl⟩) (pvV hE hK hS sb (va_recv hK hP (ci := 11) (q0 := 0) rfl rfl)) rfl rfl hv.1 rfl (lv_room (Nat.le_of_ble_eq_true rfl)) dX11_which_18 ⟨Nat.le_of_ble_eq_true rfl, Nat.le_of_ble_eq_true rfl⟩) hS sb (Jn.same sb) (fun H locs hP hD hS => ?_)
      have hP : va_P D vwCl (wX cA xd vd sd nd hd td ed kd images errors_46 fewest vspoon vmark vcount vbodies sbits slens snum h_weight h_known h_hour h_swS h_swW h_waS h_spoons h_kind h_mark h_silver h_fresh h_texts h_tape h_tapeCount h_z h_waiting h_waitingCount t_weight t_known t_hour t_swS t_swW t_waS t_spoons t_kind t_mark t_silver t_fresh t_texts t_tape t_tapeCount t_z t_waiting t_waitingCount e_weight e_known e_hour e_swS e_swW e_waS e_spoons e_kind e_mark e_silver e_fresh e_texts e_tape e_tapeCount e_z e_waiting e_waitingCount L tx tst) H := hP
      have hD : va_D A (wX cA xd vd sd nd hd td ed kd images errors_46 fewest vspoon vmark vcount vbodies sbits slens snum h_weight h_known h_hour h_swS h_swW h_waS h_spoons h_kind h_mark h_silver h_fresh h_texts h_tape h_tapeCount h_z h_waiting h_waitingCount t_weight t_known t_hour t_swS t_swW t_waS t_spoons t_kind t_mark t_silver t_fresh t_texts t_tape t_tapeCount t_z t_waiting t_waitingCount e_weight e_known e_hour e_swS e_swW e_waS e_spoons e_kind e_mark e_silver e_fresh e_texts e_tape e_tapeCount e_z e_waiting e_waitingCount L tx tst) := hD
      have h := Option.some.inj h
      have ee0 : r_45 = rR := congrArg (fun q => q.1) h
      have ee1 : errors_46 = errorsR := congrArg (fun q => q.2.1) h
      have ee2 : t_weight = t_weightR := congrArg (fun q => q.2.2.1) h
      have ee3 : t_known = t_knownR := congrArg (fun q => q.2.2.2.1) h
      have ee4 : t_hour = t_hourR := congrArg (fun q => q.2.2.2.2.1) h
      have ee5 : t_swS = t_swSR := congrArg (fun q => q.2.2.2.2.2.1) h
      have ee6 : t_swW = t_swWR := congrArg (fun q => q.2.2.2.2.2.2.1) h
      have ee7 : t_waS = t_waSR := congrArg (fun q => q.2.2.2.2.2.2.2.1) h
      have ee8 : t_spoons = t_spoonsR := congrArg (fun q => q.2.2.2.2.2.2.2.2.1) h
      have ee9 : t_kind = t_kindR := congrArg (fun q => q.2.2.2.2.2.2.2.2.2.1) h
      have ee10 : t_mark = t_markR := congrArg (fun q => q.2.2.2.2.2.2.2.2.2.2.1) h
      have ee11 : t_silver = t_silverR := congrArg (fun q => q.2.2.2.2.2.2.2.2.2.2.2.1) h
      have ee12 : t_fresh = t_freshR := congrArg (fun q => q.2.2.2.2.2.2.2.2.2.2.2.2.1) h
      have ee13 : t_texts = t_textsR := congrArg (fun q => q.2.2.2.2.2.2.2.2.2.2.2.2.2.1) h
      have ee14 : tst = tstR := congrArg (fun q => q.2.2.2.2.2.2.2.2.2.2.2.2.2.2) h
      subst ee0
      subst ee1
      subst ee2
      subst ee3
      subst ee4
      subst ee5
      subst ee6
      subst ee7
      subst ee8
      subst ee9
      subst ee10
      subst ee11
      subst ee12
      subst ee13
      subst ee14
      rw [← hQ]
      exact retI hx hb hr hlk hK hP hD hS dX11_which_21 ⟨Nat.le_of_ble_eq_true rfl, Nat.le_of_ble_eq_true rfl⟩

def fX11_fewestSetsOf_51 (v1_18 : Int32) (v2_51 : Int32) (v3_51 : Int32) (fewest : Nat → Int32) (h_spoons : Int32) (h_fresh : Nat → Int64) : Option ((Int32 × Int32) ⊕ (Int32 × Int32)) :=
  bnd (v3_51 + (1 : Int32)) fun y_6 => some (.inl (v2_51, y_6))
def fX11_fewestSetsOf_18B (v1_18 : Int32) (fewest : Nat → Int32) (h_spoons : Int32) (h_fresh : Nat → Int64) (v2_18b : Int32) (v3_18b : Int32) : Option ((Int32 × Int32) ⊕ (Int32 × Int32)) :=
  (if v1_18 ≤ v3_18b then some (.inr (v2_18b, v3_18b)) else (if (v3_18b &&& (v1_18 ^^^ (-1 : Int32))) = 0 then ckI v3_18b 256 (ckI (v1_18 ^^^ v3_18b) 256 (bnd (jmin v2_18b ((fewest (v3_18b).toNatClampNeg) + (fewest ((v1_18 ^^^ v3_18b)).toNatClampNeg))) fun y_9 => fX11_fewestSetsOf_51 v1_18 y_9 v3_18b fewest h_spoons h_fresh)) else fX11_fewestSetsOf_51 v1_18 v2_18b v3_18b fewest h_spoons h_fresh))
def fX11_fewestSetsOf_18 (v1_18 : Int32) (v2_18 : Int32) (v3_18 : Int32) (fewest : Nat → Int32) (h_spoons : Int32) (h_fresh : Nat → Int64) : Option (Int32) :=
  bd (lp (fun σ : Int32 × Int32 => fX11_fewestSetsOf_18B v1_18 fewest h_spoons h_fresh (σ.1) (σ.2)) FU (v2_18, v3_18)) fun ρ => match ρ with | (v2_18r, v3_18r) => some v2_18r
def fX11_fewestSetsOf (a : Int32) (fewest : Nat → Int32) (h_spoons : Int32) (h_fresh : Nat → Int64) : Option (Int32) :=
  bd (fX3_clashes a h_spoons h_fresh) fun r_1 => (if r_1 = 0 then some (1 : Int32) else fX11_fewestSetsOf_18 a (8 : Int32) (1 : Int32) fewest h_spoons h_fresh)
set_option maxHeartbeats 4000000 in
set_option maxRecDepth 100000 in
theorem c_X11_fewestSetsOf (l : Launch) (G : Nat → Nat) (D : va_G) (cA : Nat → ClassId) (xd : Nat → Nat) (vd : Nat → Nat) (sd : Nat → Nat) (nd : Nat → Nat) (hd : Nat → Nat) (td : Nat → Nat) (ed : Nat → Nat) (kd : Nat → Nat) (sz : Nat) (images : Int32) (errors : Nat → Int32) (fewest : Nat → Int32) (vspoon : Int32) (vmark : Int32) (vcount : Int32) (vbodies : Nat → Int32) (sbits : Nat → Int32) (slens : Nat → Int32) (snum : Nat → Nat → Int32) (h_weight : Nat → Int32) (h_known : Int32) (h_hour : Int32) (h_swS : Nat → Int32) (h_swW : Nat → Int32) (h_waS : Nat → Int32) (h_spoons : Int32) (h_kind : Nat → Int32) (h_mark : Nat → Int32) (h_silver : Nat → Int32) (h_fresh : Nat → Int64) (h_texts : Nat → Option Nat) (h_tape : Nat → Int32) (h_tapeCount : Int32) (h_z : Int32) (h_waiting : Nat → Int32) (h_waitingCount : Int32) (t_weight : Nat → Int32) (t_known : Int32) (t_hour : Int32) (t_swS : Nat → Int32) (t_swW : Nat → Int32) (t_waS : Nat → Int32) (t_spoons : Int32) (t_kind : Nat → Int32) (t_mark : Nat → Int32) (t_silver : Nat → Int32) (t_fresh : Nat → Int64) (t_texts : Nat → Option Nat) (t_tape : Nat → Int32) (t_tapeCount : Int32) (t_z : Int32) (t_waiting : Nat → Int32) (t_waitingCount : Int32) (e_weight : Nat → Int32) (e_known : Int32) (e_hour : Int32) (e_swS : Nat → Int32) (e_swW : Nat → Int32) (e_waS : Nat → Int32) (e_spoons : Int32) (e_kind : Nat → Int32) (e_mark : Nat → Int32) (e_silver : Nat → Int32) (e_fresh : Nat → Int64) (e_texts : Nat → Option Nat) (e_tape : Nat → Int32) (e_tapeCount : Int32) (e_z : Int32) (e_waiting : Nat → Int32) (e_waitingCount : Int32) (L : List Nat) (tx : Nat → TXc) (tst : Nat → Nat → Int32) (a : Int32) (rR : Int32) (h : fX11_fewestSetsOf a fewest h_spoons h_fresh = some rR) : Met l yX11_fewestSetsOf wsX11_fewestSetsOf ({ frames := 4, cells := 0, slots := 0, locals := 91 } : Room) (PW G D (tyC cA) sz (wX cA xd vd sd nd hd td ed kd images errors fewest vspoon vmark vcount vbodies sbits slens snum h_weight h_known h_hour h_swS h_swW h_waS h_spoons h_kind h_mark h_silver h_fresh h_texts h_tape h_tapeCount h_z h_waiting h_waitingCount t_weight t_known t_hour t_swS t_swW t_waS t_spoons t_kind t_mark t_silver t_fresh t_texts t_tape t_tapeCount t_z t_waiting t_waitingCount e_weight e_known e_hour e_swS e_swW e_waS e_spoons e_kind e_mark e_silver e_fresh e_texts e_tape e_tapeCount e_z e_waiting e_waitingCount L tx tst) [.ref (xd 0), .int a]) (QI D (tyC cA) (va_A (wX cA xd vd sd nd hd td ed kd images errors fewest vspoon vmark vcount vbodies sbits slens snum h_weight h_known h_hour h_swS h_swW h_waS h_spoons h_kind h_mark h_silver h_fresh h_texts h_tape h_tapeCount h_z h_waiting h_waitingCount t_weight t_known t_hour t_swS t_swW t_waS t_spoons t_kind t_mark t_silver t_fresh t_texts t_tape t_tapeCount t_z t_waiting t_waitingCount e_weight e_known e_hour e_swS e_swW e_waS e_spoons e_kind e_mark e_silver e_fresh e_texts e_tape e_tapeCount e_z e_waiting e_waitingCount L tx tst) sz) rR (wX cA xd vd sd nd hd td ed kd images errors fewest vspoon vmark vcount vbodies sbits slens snum h_weight h_known h_hour h_swS h_swW h_waS h_spoons h_kind h_mark h_silver h_fresh h_texts h_tape h_tapeCount h_z h_waiting h_waitingCount t_weight t_known t_hour t_swS t_swW t_waS t_spoons t_kind t_mark t_silver t_fresh t_texts t_tape t_tapeCount t_z t_waiting t_waitingCount e_weight e_known e_hour e_swS e_swW e_waS e_spoons e_kind e_mark e_silver e_fresh e_texts e_tape e_tapeCount e_z e_waiting e_waitingCount L tx tst)) 0 0 (va_A (wX cA xd vd sd nd hd td ed kd images errors fewest vspoon vmark vcount vbodies sbits slens snum h_weight h_known h_hour h_swS h_swW h_waS h_spoons h_kind h_mark h_silver h_fresh h_texts h_tape h_tapeCount h_z h_waiting h_waitingCount t_weight t_known t_hour t_swS t_swW t_waS t_spoons t_kind t_mark t_silver t_fresh t_texts t_tape t_tapeCount t_z t_waiting t_waitingCount e_weight e_known e_hour e_swS e_swW e_waS e_spoons e_kind e_mark e_silver e_fresh e_texts e_tape e_tapeCount e_z e_waiting e_waitingCount L tx tst) sz) := by
  refine ent (cc := cX11_fewestSetsOf) (maxL := 4) (ret := (some .int)) (fun A => QI D (tyC cA) A rR (wX cA xd vd sd nd hd td ed kd images errors fewest vspoon vmark vcount vbodies sbits slens snum h_weight h_known h_hour h_swS h_swW h_waS h_spoons h_kind h_mark h_silver h_fresh h_texts h_tape h_tapeCount h_z h_waiting h_waitingCount t_weight t_known t_hour t_swS t_swW t_waS t_spoons t_kind t_mark t_silver t_fresh t_texts t_tape t_tapeCount t_z t_waiting t_waitingCount e_weight e_known e_hour e_swS e_swW e_waS e_spoons e_kind e_mark e_silver e_fresh e_texts e_tape e_tapeCount e_z e_waiting e_waitingCount L tx tst)) (by decide +kernel) rfl (Nat.le_of_ble_eq_true rfl) ?_
  intro p e s m args below meth c A ls H hx hb hml hr hlk hts hown hA hK hE hP hD hS hv hmm
  have hv : lv_has ls 4 [(0, .ref (xd 0)), (1, .int a)] := hv
  have in_11 : ∀ w ∈ u_ws RX11 TX11 9, w ∈ wsX11_fewestSetsOf := fun _ h => List.mem_cons_of_mem _ (List.mem_append_left _ (List.mem_append_right _ h))
  have w_0 := hts (.fieldLink RX11 39 "SpoonsLast" "house" "LSpoonsLast$House;") (List.mem_of_getElem? (i := 1) rfl)
  have w_1 := hts (.fieldLink RX11 67 "SpoonsLast" "fewest" "[I") (List.mem_of_getElem? (i := 2) rfl)
  have w_2 := hts (.methodLink RX11 285 Lib.Math.min.name) (List.mem_of_getElem? (i := 3) rfl)
  have w_3 := hts (.static Lib.Math.min.name) (List.mem_of_getElem? (i := 4) rfl)
  have w_4 := hts (.initialized "java/lang/Math") (List.mem_of_getElem? (i := 5) rfl)
  have w_5 := hts (.code Lib.Math.min.name Lib.Math.min.code 2 (some .int)) (List.mem_of_getElem? (i := 6) rfl)
  generalize hQ : MQ below _ args s 0 0 A = Q
  have C_18 : ∀ (v1_18 : Int32) (v2_18 : Int32) (v3_18 : Int32), fX11_fewestSetsOf_18 v1_18 v2_18 v3_18 fewest h_spoons h_fresh = some rR → WW p l e ({ frames := 4, cells := 0, slots := 0, locals := 91 } : Room) s m args below meth c D A 0 0 Q (wX cA xd vd sd nd hd td ed kd images errors fewest vspoon vmark vcount vbodies sbits slens snum h_weight h_known h_hour h_swS h_swW h_waS h_spoons h_kind h_mark h_silver h_fresh h_texts h_tape h_tapeCount h_z h_waiting h_waitingCount t_weight t_known t_hour t_swS t_swW t_waS t_spoons t_kind t_mark t_silver t_fresh t_texts t_tape t_tapeCount t_z t_waiting t_waitingCount e_weight e_known e_hour e_swS e_swW e_waS e_spoons e_kind e_mark e_silver e_fresh e_texts e_tape e_tapeCount e_z e_waiting e_waitingCount L tx tst) 4 [(0, .ref (xd 0)), (1, .int v1_18), (2, .int v2_18), (3, .int v3_18)] 18 [] := by
    intro v1_18 v2_18 v3_18 h
    unfold fX11_fewestSetsOf_18 at h
    obtain ⟨⟨v2_18r, v3_18r⟩, ho, h⟩ := bd_ex h
    have LE : WW p l e ({ frames := 4, cells := 0, slots := 0, locals := 91 } : Room) s m args below meth c D A 0 0 Q (wX cA xd vd sd nd hd td ed kd images errors fewest vspoon vmark vcount vbodies sbits slens snum h_weight h_known h_hour h_swS h_swW h_waS h_spoons h_kind h_mark h_silver h_fresh h_texts h_tape h_tapeCount h_z h_waiting h_waitingCount t_weight t_known t_hour t_swS t_swW t_waS t_spoons t_kind t_mark t_silver t_fresh t_texts t_tape t_tapeCount t_z t_waiting t_waitingCount e_weight e_known e_hour e_swS e_swW e_waS e_spoons e_kind e_mark e_silver e_fresh e_texts e_tape e_tapeCount e_z e_waiting e_waitingCount L tx tst) 4 [(2, .int v2_18r)] 57 [] := by
      intro H locs ls hP hD hS hv
      refine lv_iload_n hx hb dX11_fewestSetsOf_57 rfl (lv_at hv 0 rfl) ?_
      have h := Option.some.inj h
      have ee0 : v2_18r = rR := congrArg (fun q => q) h
      subst ee0
      rw [← hQ]
      exact retI hx hb hr hlk hK hP hD hS dX11_fewestSetsOf_58 ⟨Nat.le_of_ble_eq_true rfl, Nat.le_of_ble_eq_true rfl⟩
    have LB : ∀ (nf : Nat) (v2_18b : Int32) (v3_18b : Int32), lp (fun σ : Int32 × Int32 => fX11_fewestSetsOf_18B v1_18 fewest h_spoons h_fresh (σ.1) (σ.2)) nf (v2_18b, v3_18b) = some (v2_18r, v3_18r) → WW p l e ({ frames := 4, cells := 0, slots := 0, locals := 91 } : Room) s m args below meth c D A 0 0 Q (wX cA xd vd sd nd hd td ed kd images errors fewest vspoon vmark vcount vbodies sbits slens snum h_weight h_known h_hour h_swS h_swW h_waS h_spoons h_kind h_mark h_silver h_fresh h_texts h_tape h_tapeCount h_z h_waiting h_waitingCount t_weight t_known t_hour t_swS t_swW t_waS t_spoons t_kind t_mark t_silver t_fresh t_texts t_tape t_tapeCount t_z t_waiting t_waitingCount e_weight e_known e_hour e_swS e_swW e_waS e_spoons e_kind e_mark e_silver e_fresh e_texts e_tape e_tapeCount e_z e_waiting e_waitingCount L tx tst) 4 [(0, .ref (xd 0)), (1, .int v1_18), (2, .int v2_18b), (3, .int v3_18b)] 18 [] := by
      intro nf
      induction nf with
      | zero => intro v2_18b v3_18b hl; cases hl
      | succ nf ih =>
        intro v2_18b v3_18b hl
        obtain ⟨x, h, hl⟩ := lp_ex hl
        have h : fX11_fewestSetsOf_18B v1_18 fewest h_spoons h_fresh v2_18b v3_18b = some x := h
        unfold fX11_fewestSetsOf_18B at h
        have C_51 : ∀ (v2_51 : Int32) (v3_51 : Int32) (x : (Int32 × Int32) ⊕ (Int32 × Int32)), fX11_fewestSetsOf_51 v1_18 v2_51 v3_51 fewest h_spoons h_fresh = some x → lpk (fun σ : Int32 × Int32 => fX11_fewestSetsOf_18B v1_18 fewest h_spoons h_fresh (σ.1) (σ.2)) nf x = some (v2_18r, v3_18r) → WW p l e ({ frames := 4, cells := 0, slots := 0, locals := 91 } : Room) s m args below meth c D A 0 0 Q (wX cA xd vd sd nd hd td ed kd images errors fewest vspoon vmark vcount vbodies sbits slens snum h_weight h_known h_hour h_swS h_swW h_waS h_spoons h_kind h_mark h_silver h_fresh h_texts h_tape h_tapeCount h_z h_waiting h_waitingCount t_weight t_known t_hour t_swS t_swW t_waS t_spoons t_kind t_mark t_silver t_fresh t_texts t_tape t_tapeCount t_z t_waiting t_waitingCount e_weight e_known e_hour e_swS e_swW e_waS e_spoons e_kind e_mark e_silver e_fresh e_texts e_tape e_tapeCount e_z e_waiting e_waitingCount L tx tst) 4 [(0, .ref (xd 0)), (1, .int v1_18), (2, .int v2_51), (3, .int v3_51)] 51 [] := by
          intro v2_51 v3_51 x h hl
          unfold fX11_fewestSetsOf_51 at h
          intro H locs ls hP hD hS hv
          obtain ⟨y_6, ey_6, h⟩ := bnd_ex h
          refine lv_iinc (v := y_6) (lv' := [(3, .int y_6), (0, .ref (xd 0)), (1, .int v1_18), (2, .int v2_51)]) hx hb dX11_fewestSetsOf_51 hv (k := 3) rfl (by rw [ey_6]; rfl) (by decide) rfl (fun ls hv => ?_)
          refine lv_goto (tgt := 18) hx hb dX11_fewestSetsOf_54 (by decide) ?_
          cases h
          exact ih v2_51 y_6 hl _ _ _ hP hD hS (lv_sub hv [1, 2, 3, 0] rfl)
        intro H locs ls hP hD hS hv
        refine lv_iload_n hx hb dX11_fewestSetsOf_18 rfl (lv_at hv 3 rfl) ?_
        refine lv_iload_n hx hb dX11_fewestSetsOf_19 rfl (lv_at hv 1 rfl) ?_
        refine lv_icmp_ge (tgt := 57) hx hb dX11_fewestSetsOf_20 (by decide) (fun c_4 => ?_) (fun c_4 => ?_)
        · have h := ite_t c_4 h
          cases h
          have hl : some (v2_18b, v3_18b) = some (v2_18r, v3_18r) := hl
          have hl := Option.some.inj hl
          have ee0 : v2_18b = v2_18r := congrArg (fun q => q.1) hl
          have ee1 : v3_18b = v3_18r := congrArg (fun q => q.2) hl
          subst ee0
          subst ee1
          exact LE _ _ _ hP hD hS (lv_sub hv [2] rfl)
        · have h := ite_f c_4 h
          refine lv_iload_n hx hb dX11_fewestSetsOf_23 rfl (lv_at hv 3 rfl) ?_
          refine lv_iload_n hx hb dX11_fewestSetsOf_24 rfl (lv_at hv 1 rfl) ?_
          refine lv_iconst (v := (-1 : Int32)) hx hb dX11_fewestSetsOf_25 (by decide) ?_
          refine lv_ixor hx hb dX11_fewestSetsOf_26 ?_
          refine lv_iand hx hb dX11_fewestSetsOf_27 ?_
          refine lv_if_ne (tgt := 51) hx hb dX11_fewestSetsOf_28 (by decide) (fun c_5 => ?_) (fun c_5 => ?_)
          · have h := ite_f c_5 h
            exact C_51 v2_18b v3_18b _ h hl _ _ _ hP hD hS (lv_sub hv [0, 1, 2, 3] rfl)
          · have h := ite_t c_5 h
            refine lv_iload_n hx hb dX11_fewestSetsOf_31 rfl (lv_at hv 2 rfl) ?_
            refine lv_aload_n hx hb dX11_fewestSetsOf_32 rfl (lv_at hv 0 rfl) ?_
            refine va_get (D := D) (ci := 11) (v := .ref (xd 3)) (C := RX11) (T := TX11) (N := 9) hx hb hts in_11 hown hK hP 0 rfl rfl 8 (by decide) w_1 (fun _ h9 => h9) rfl dX11_fewestSetsOf_33 ?_
            refine lv_iload_n hx hb dX11_fewestSetsOf_36 rfl (lv_at hv 3 rfl) ?_
            obtain ⟨c_7, h⟩ := ckI_ex h
            refine va_iald (D := D) hx hb hK hP 3 0 rfl rfl c_7 dX11_fewestSetsOf_37 ?_
            refine lv_aload_n hx hb dX11_fewestSetsOf_38 rfl (lv_at hv 0 rfl) ?_
            refine va_get (D := D) (ci := 11) (v := .ref (xd 3)) (C := RX11) (T := TX11) (N := 9) hx hb hts in_11 hown hK hP 0 rfl rfl 8 (by decide) w_1 (fun _ h9 => h9) rfl dX11_fewestSetsOf_39 ?_
            refine lv_iload_n hx hb dX11_fewestSetsOf_42 rfl (lv_at hv 1 rfl) ?_
            refine lv_iload_n hx hb dX11_fewestSetsOf_43 rfl (lv_at hv 3 rfl) ?_
            refine lv_ixor hx hb dX11_fewestSetsOf_44 ?_
            obtain ⟨c_8, h⟩ := ckI_ex h
            refine va_iald (D := D) hx hb hK hP 3 0 rfl rfl c_8 dX11_fewestSetsOf_45 ?_
            refine lv_iadd hx hb dX11_fewestSetsOf_46 ?_
            refine va_mmin hx hb (hml.trans hv.1.symm) hown w_2 w_3 w_4 w_5 (Nat.le_of_ble_eq_true rfl) (Nat.le_of_ble_eq_true rfl) (Nat.le_of_ble_eq_true rfl) (Nat.le_of_ble_eq_true rfl) dX11_fewestSetsOf_47 ?_
            obtain ⟨y_9, ey_9, h⟩ := bnd_ex h
            refine lv_nm ey_9 ?_
            refine lv_istore_n (lv' := [(2, .int y_9), (0, .ref (xd 0)), (1, .int v1_18), (3, .int v3_18b)]) hx hb dX11_fewestSetsOf_50 rfl hv (by decide) rfl (fun ls hv => ?_)
            exact C_51 y_9 v3_18b _ h hl _ _ _ hP hD hS (lv_sub hv [1, 2, 0, 3] rfl)
    exact LB FU v2_18 v3_18 ho
  have hP : va_P D vwCl (wX cA xd vd sd nd hd td ed kd images errors fewest vspoon vmark vcount vbodies sbits slens snum h_weight h_known h_hour h_swS h_swW h_waS h_spoons h_kind h_mark h_silver h_fresh h_texts h_tape h_tapeCount h_z h_waiting h_waitingCount t_weight t_known t_hour t_swS t_swW t_waS t_spoons t_kind t_mark t_silver t_fresh t_texts t_tape t_tapeCount t_z t_waiting t_waitingCount e_weight e_known e_hour e_swS e_swW e_waS e_spoons e_kind e_mark e_silver e_fresh e_texts e_tape e_tapeCount e_z e_waiting e_waitingCount L tx tst) H := hP
  unfold fX11_fewestSetsOf at h
  refine lv_aload_n hx hb dX11_fewestSetsOf_0 rfl (lv_at hv 0 rfl) ?_
  refine va_get (D := D) (ci := 11) (v := .ref (hd 0)) (C := RX11) (T := TX11) (N := 9) hx hb hts in_11 hown hK hP 0 rfl rfl 0 (by decide) w_0 (fun _ h9 => h9) rfl dX11_fewestSetsOf_1 ?_
  refine lv_iload_n hx hb dX11_fewestSetsOf_4 rfl (lv_at hv 1 rfl) ?_
  obtain ⟨r_1, hf_2, h⟩ := bd_ex h
  have sb : Sb D A H (wH cA hd kd h_weight h_known h_hour h_swS h_swW h_waS h_spoons h_kind h_mark h_silver h_fresh h_texts h_tape h_tapeCount h_z h_waiting h_waitingCount L tx tst) := sbXh hP hD hS hA
  refine calI (va_runV (As := [.int a]) (rest := []) ⟨hx, hb, hml, hown, hts⟩ (c_X3_clashes l G D cA hd kd _ h_weight h_known h_hour h_swS h_swW h_waS h_spoons h_kind h_mark h_silver h_fresh h_texts h_tape h_tapeCount h_z h_waiting h_waitingCount L tx tst a r_1 hf_2) (cwV 1 hts gX11_fewestSetsOf_X3_clashes rfl rfl rfl (by decide +kernel) ⟨Nat.le_of_ble_eq_true rfl, Nat.le_of_ble_eq_true rfl⟩) (pvV hE hK hS sb (va_recv hK hP (ci := 3) (q0 := 14) rfl rfl)) rfl rfl hv.1 rfl (lv_room (Nat.le_of_ble_eq_true rfl)) dX11_fewestSetsOf_5 ⟨Nat.le_of_ble_eq_true rfl, Nat.le_of_ble_eq_true rfl⟩) hS sb (jnXh hP hD) (fun H locs hP hD hS => ?_)
  have hP : va_P D vwCl (wX cA xd vd sd nd hd td ed kd images errors fewest vspoon vmark vcount vbodies sbits slens snum h_weight h_known h_hour h_swS h_swW h_waS h_spoons h_kind h_mark h_silver h_fresh h_texts h_tape h_tapeCount h_z h_waiting h_waitingCount t_weight t_known t_hour t_swS t_swW t_waS t_spoons t_kind t_mark t_silver t_fresh t_texts t_tape t_tapeCount t_z t_waiting t_waitingCount e_weight e_known e_hour e_swS e_swW e_waS e_spoons e_kind e_mark e_silver e_fresh e_texts e_tape e_tapeCount e_z e_waiting e_waitingCount L tx tst) H := hP
  have hD : va_D A (wX cA xd vd sd nd hd td ed kd images errors fewest vspoon vmark vcount vbodies sbits slens snum h_weight h_known h_hour h_swS h_swW h_waS h_spoons h_kind h_mark h_silver h_fresh h_texts h_tape h_tapeCount h_z h_waiting h_waitingCount t_weight t_known t_hour t_swS t_swW t_waS t_spoons t_kind t_mark t_silver t_fresh t_texts t_tape t_tapeCount t_z t_waiting t_waitingCount e_weight e_known e_hour e_swS e_swW e_waS e_spoons e_kind e_mark e_silver e_fresh e_texts e_tape e_tapeCount e_z e_waiting e_waitingCount L tx tst) := hD
  refine lv_if_ne (tgt := 13) hx hb dX11_fewestSetsOf_8 (by decide) (fun c_3 => ?_) (fun c_3 => ?_)
  · have h := ite_f c_3 h
    refine lv_bipush (v := (8 : Int32)) hx hb dX11_fewestSetsOf_13 (by decide) ?_
    refine lv_istore_n (lv' := [(2, .int (8 : Int32)), (0, .ref (xd 0)), (1, .int a)]) hx hb dX11_fewestSetsOf_15 rfl hv (by decide) rfl (fun ls hv => ?_)
    refine lv_iconst (v := (1 : Int32)) hx hb dX11_fewestSetsOf_16 (by decide) ?_
    refine lv_istore_n (lv' := [(3, .int (1 : Int32)), (2, .int (8 : Int32)), (0, .ref (xd 0)), (1, .int a)]) hx hb dX11_fewestSetsOf_17 rfl hv (by decide) rfl (fun ls hv => ?_)
    exact C_18 a (8 : Int32) (1 : Int32) h _ _ _ hP hD hS (lv_sub hv [2, 3, 1, 0] rfl)
  · have h := ite_t c_3 h
    refine lv_iconst (v := (1 : Int32)) hx hb dX11_fewestSetsOf_11 (by decide) ?_
    have h := Option.some.inj h
    have ee0 : (1 : Int32) = rR := congrArg (fun q => q) h
    subst ee0
    rw [← hQ]
    exact retI hx hb hr hlk hK hP hD hS dX11_fewestSetsOf_12 ⟨Nat.le_of_ble_eq_true rfl, Nat.le_of_ble_eq_true rfl⟩

def fX11_washers_14B (v1_14 : Int32) (h_spoons : Int32) (h_fresh : Nat → Int64) (v2_14b : Int32) (fewest_14b : Nat → Int32) : Option ((Int32 × (Nat → Int32)) ⊕ (Int32 × (Nat → Int32))) :=
  (if v1_14 < v2_14b then some (.inr (v2_14b, fewest_14b)) else bd (fX11_fewestSetsOf v2_14b fewest_14b h_spoons h_fresh) fun r_4 => ckI v2_14b 256 (bnd (upd fewest_14b (v2_14b).toNatClampNeg r_4) fun fewest_7 => bnd (v2_14b + (1 : Int32)) fun y_8 => some (.inl (y_8, fewest_7))))
def fX11_washers_14 (v1_14 : Int32) (v2_14 : Int32) (fewest_14 : Nat → Int32) (h_spoons : Int32) (h_fresh : Nat → Int64) : Option (Int32 × (Nat → Int32)) :=
  bd (lp (fun σ : Int32 × (Nat → Int32) => fX11_washers_14B v1_14 h_spoons h_fresh (σ.1) (σ.2)) FU (v2_14, fewest_14)) fun ρ => match ρ with | (v2_14r, fewest_14r) => ckI v1_14 256 (some ((fewest_14r (v1_14).toNatClampNeg), fewest_14r))
def fX11_washers (fewest : Nat → Int32) (h_spoons : Int32) (h_fresh : Nat → Int64) : Option (Int32 × (Nat → Int32)) :=
  bnd (((1 : Int32) <<< (h_spoons &&& 31)) - (1 : Int32)) fun y_1 => fX11_washers_14 y_1 (1 : Int32) fewest h_spoons h_fresh
set_option maxHeartbeats 4000000 in
set_option maxRecDepth 100000 in
theorem c_X11_washers (l : Launch) (G : Nat → Nat) (D : va_G) (cA : Nat → ClassId) (xd : Nat → Nat) (vd : Nat → Nat) (sd : Nat → Nat) (nd : Nat → Nat) (hd : Nat → Nat) (td : Nat → Nat) (ed : Nat → Nat) (kd : Nat → Nat) (sz : Nat) (images : Int32) (errors : Nat → Int32) (fewest : Nat → Int32) (vspoon : Int32) (vmark : Int32) (vcount : Int32) (vbodies : Nat → Int32) (sbits : Nat → Int32) (slens : Nat → Int32) (snum : Nat → Nat → Int32) (h_weight : Nat → Int32) (h_known : Int32) (h_hour : Int32) (h_swS : Nat → Int32) (h_swW : Nat → Int32) (h_waS : Nat → Int32) (h_spoons : Int32) (h_kind : Nat → Int32) (h_mark : Nat → Int32) (h_silver : Nat → Int32) (h_fresh : Nat → Int64) (h_texts : Nat → Option Nat) (h_tape : Nat → Int32) (h_tapeCount : Int32) (h_z : Int32) (h_waiting : Nat → Int32) (h_waitingCount : Int32) (t_weight : Nat → Int32) (t_known : Int32) (t_hour : Int32) (t_swS : Nat → Int32) (t_swW : Nat → Int32) (t_waS : Nat → Int32) (t_spoons : Int32) (t_kind : Nat → Int32) (t_mark : Nat → Int32) (t_silver : Nat → Int32) (t_fresh : Nat → Int64) (t_texts : Nat → Option Nat) (t_tape : Nat → Int32) (t_tapeCount : Int32) (t_z : Int32) (t_waiting : Nat → Int32) (t_waitingCount : Int32) (e_weight : Nat → Int32) (e_known : Int32) (e_hour : Int32) (e_swS : Nat → Int32) (e_swW : Nat → Int32) (e_waS : Nat → Int32) (e_spoons : Int32) (e_kind : Nat → Int32) (e_mark : Nat → Int32) (e_silver : Nat → Int32) (e_fresh : Nat → Int64) (e_texts : Nat → Option Nat) (e_tape : Nat → Int32) (e_tapeCount : Int32) (e_z : Int32) (e_waiting : Nat → Int32) (e_waitingCount : Int32) (L : List Nat) (tx : Nat → TXc) (tst : Nat → Nat → Int32) (rR : Int32) (fewestR : Nat → Int32) (h : fX11_washers fewest h_spoons h_fresh = some (rR, fewestR)) : Met l yX11_washers wsX11_washers ({ frames := 5, cells := 0, slots := 0, locals := 114 } : Room) (PW G D (tyC cA) sz (wX cA xd vd sd nd hd td ed kd images errors fewest vspoon vmark vcount vbodies sbits slens snum h_weight h_known h_hour h_swS h_swW h_waS h_spoons h_kind h_mark h_silver h_fresh h_texts h_tape h_tapeCount h_z h_waiting h_waitingCount t_weight t_known t_hour t_swS t_swW t_waS t_spoons t_kind t_mark t_silver t_fresh t_texts t_tape t_tapeCount t_z t_waiting t_waitingCount e_weight e_known e_hour e_swS e_swW e_waS e_spoons e_kind e_mark e_silver e_fresh e_texts e_tape e_tapeCount e_z e_waiting e_waitingCount L tx tst) [.ref (xd 0)]) (QI D (tyC cA) (va_A (wX cA xd vd sd nd hd td ed kd images errors fewest vspoon vmark vcount vbodies sbits slens snum h_weight h_known h_hour h_swS h_swW h_waS h_spoons h_kind h_mark h_silver h_fresh h_texts h_tape h_tapeCount h_z h_waiting h_waitingCount t_weight t_known t_hour t_swS t_swW t_waS t_spoons t_kind t_mark t_silver t_fresh t_texts t_tape t_tapeCount t_z t_waiting t_waitingCount e_weight e_known e_hour e_swS e_swW e_waS e_spoons e_kind e_mark e_silver e_fresh e_texts e_tape e_tapeCount e_z e_waiting e_waitingCount L tx tst) sz) rR (wX cA xd vd sd nd hd td ed kd images errors fewestR vspoon vmark vcount vbodies sbits slens snum h_weight h_known h_hour h_swS h_swW h_waS h_spoons h_kind h_mark h_silver h_fresh h_texts h_tape h_tapeCount h_z h_waiting h_waitingCount t_weight t_known t_hour t_swS t_swW t_waS t_spoons t_kind t_mark t_silver t_fresh t_texts t_tape t_tapeCount t_z t_waiting t_waitingCount e_weight e_known e_hour e_swS e_swW e_waS e_spoons e_kind e_mark e_silver e_fresh e_texts e_tape e_tapeCount e_z e_waiting e_waitingCount L tx tst)) 0 0 (va_A (wX cA xd vd sd nd hd td ed kd images errors fewest vspoon vmark vcount vbodies sbits slens snum h_weight h_known h_hour h_swS h_swW h_waS h_spoons h_kind h_mark h_silver h_fresh h_texts h_tape h_tapeCount h_z h_waiting h_waitingCount t_weight t_known t_hour t_swS t_swW t_waS t_spoons t_kind t_mark t_silver t_fresh t_texts t_tape t_tapeCount t_z t_waiting t_waitingCount e_weight e_known e_hour e_swS e_swW e_waS e_spoons e_kind e_mark e_silver e_fresh e_texts e_tape e_tapeCount e_z e_waiting e_waitingCount L tx tst) sz) := by
  refine ent (cc := cX11_washers) (maxL := 3) (ret := (some .int)) (fun A => QI D (tyC cA) A rR (wX cA xd vd sd nd hd td ed kd images errors fewestR vspoon vmark vcount vbodies sbits slens snum h_weight h_known h_hour h_swS h_swW h_waS h_spoons h_kind h_mark h_silver h_fresh h_texts h_tape h_tapeCount h_z h_waiting h_waitingCount t_weight t_known t_hour t_swS t_swW t_waS t_spoons t_kind t_mark t_silver t_fresh t_texts t_tape t_tapeCount t_z t_waiting t_waitingCount e_weight e_known e_hour e_swS e_swW e_waS e_spoons e_kind e_mark e_silver e_fresh e_texts e_tape e_tapeCount e_z e_waiting e_waitingCount L tx tst)) (by decide +kernel) rfl (Nat.le_of_ble_eq_true rfl) ?_
  intro p e s m args below meth c A ls H hx hb hml hr hlk hts hown hA hK hE hP hD hS hv hmm
  have hv : lv_has ls 3 [(0, .ref (xd 0))] := hv
  have in_3 : ∀ w ∈ u_ws RX3 TX3 18, w ∈ wsX11_washers := fun _ h => List.mem_cons_of_mem _ (List.mem_append_right _ h)
  have in_11 : ∀ w ∈ u_ws RX11 TX11 9, w ∈ wsX11_washers := fun _ h => List.mem_cons_of_mem _ (List.mem_append_left _ (List.mem_append_right _ h))
  have w_0 := hts (.fieldLink RX11 39 "SpoonsLast" "house" "LSpoonsLast$House;") (List.mem_of_getElem? (i := 1) rfl)
  have w_1 := hts (.fieldLink RX11 111 "SpoonsLast$House" "spoons" "I") (List.mem_of_getElem? (i := 2) rfl)
  have w_2 := hts (.fieldLink RX11 67 "SpoonsLast" "fewest" "[I") (List.mem_of_getElem? (i := 3) rfl)
  generalize hQ : MQ below _ args s 0 0 A = Q
  have C_14 : ∀ (v1_14 : Int32) (v2_14 : Int32) (fewest_14 : Nat → Int32), fX11_washers_14 v1_14 v2_14 fewest_14 h_spoons h_fresh = some (rR, fewestR) → WW p l e ({ frames := 5, cells := 0, slots := 0, locals := 114 } : Room) s m args below meth c D A 0 0 Q (wX cA xd vd sd nd hd td ed kd images errors fewest_14 vspoon vmark vcount vbodies sbits slens snum h_weight h_known h_hour h_swS h_swW h_waS h_spoons h_kind h_mark h_silver h_fresh h_texts h_tape h_tapeCount h_z h_waiting h_waitingCount t_weight t_known t_hour t_swS t_swW t_waS t_spoons t_kind t_mark t_silver t_fresh t_texts t_tape t_tapeCount t_z t_waiting t_waitingCount e_weight e_known e_hour e_swS e_swW e_waS e_spoons e_kind e_mark e_silver e_fresh e_texts e_tape e_tapeCount e_z e_waiting e_waitingCount L tx tst) 3 [(0, .ref (xd 0)), (1, .int v1_14), (2, .int v2_14)] 14 [] := by
    intro v1_14 v2_14 fewest_14 h
    unfold fX11_washers_14 at h
    obtain ⟨⟨v2_14r, fewest_14r⟩, ho, h⟩ := bd_ex h
    have LE : WW p l e ({ frames := 5, cells := 0, slots := 0, locals := 114 } : Room) s m args below meth c D A 0 0 Q (wX cA xd vd sd nd hd td ed kd images errors fewest_14r vspoon vmark vcount vbodies sbits slens snum h_weight h_known h_hour h_swS h_swW h_waS h_spoons h_kind h_mark h_silver h_fresh h_texts h_tape h_tapeCount h_z h_waiting h_waitingCount t_weight t_known t_hour t_swS t_swW t_waS t_spoons t_kind t_mark t_silver t_fresh t_texts t_tape t_tapeCount t_z t_waiting t_waitingCount e_weight e_known e_hour e_swS e_swW e_waS e_spoons e_kind e_mark e_silver e_fresh e_texts e_tape e_tapeCount e_z e_waiting e_waitingCount L tx tst) 3 [(0, .ref (xd 0)), (1, .int v1_14)] 36 [] := by
      intro H locs ls hP hD hS hv
      refine lv_aload_n hx hb dX11_washers_36 rfl (lv_at hv 0 rfl) ?_
      refine va_get (D := D) (ci := 11) (v := .ref (xd 3)) (C := RX11) (T := TX11) (N := 9) hx hb hts in_11 hown hK hP 0 rfl rfl 8 (by decide) w_2 (fun _ h9 => h9) rfl dX11_washers_37 ?_
      refine lv_iload_n hx hb dX11_washers_40 rfl (lv_at hv 1 rfl) ?_
      obtain ⟨c_2, h⟩ := ckI_ex h
      refine va_iald (D := D) hx hb hK hP 3 0 rfl rfl c_2 dX11_washers_41 ?_
      have h := Option.some.inj h
      have ee0 : (fewest_14r (v1_14).toNatClampNeg) = rR := congrArg (fun q => q.1) h
      have ee1 : fewest_14r = fewestR := congrArg (fun q => q.2) h
      subst ee0
      subst ee1
      rw [← hQ]
      exact retI hx hb hr hlk hK hP hD hS dX11_washers_42 ⟨Nat.le_of_ble_eq_true rfl, Nat.le_of_ble_eq_true rfl⟩
    have LB : ∀ (nf : Nat) (v2_14b : Int32) (fewest_14b : Nat → Int32), lp (fun σ : Int32 × (Nat → Int32) => fX11_washers_14B v1_14 h_spoons h_fresh (σ.1) (σ.2)) nf (v2_14b, fewest_14b) = some (v2_14r, fewest_14r) → WW p l e ({ frames := 5, cells := 0, slots := 0, locals := 114 } : Room) s m args below meth c D A 0 0 Q (wX cA xd vd sd nd hd td ed kd images errors fewest_14b vspoon vmark vcount vbodies sbits slens snum h_weight h_known h_hour h_swS h_swW h_waS h_spoons h_kind h_mark h_silver h_fresh h_texts h_tape h_tapeCount h_z h_waiting h_waitingCount t_weight t_known t_hour t_swS t_swW t_waS t_spoons t_kind t_mark t_silver t_fresh t_texts t_tape t_tapeCount t_z t_waiting t_waitingCount e_weight e_known e_hour e_swS e_swW e_waS e_spoons e_kind e_mark e_silver e_fresh e_texts e_tape e_tapeCount e_z e_waiting e_waitingCount L tx tst) 3 [(0, .ref (xd 0)), (1, .int v1_14), (2, .int v2_14b)] 14 [] := by
      intro nf
      induction nf with
      | zero => intro v2_14b fewest_14b hl; cases hl
      | succ nf ih =>
        intro v2_14b fewest_14b hl
        obtain ⟨x, h, hl⟩ := lp_ex hl
        have h : fX11_washers_14B v1_14 h_spoons h_fresh v2_14b fewest_14b = some x := h
        unfold fX11_washers_14B at h
        intro H locs ls hP hD hS hv
        refine lv_iload_n hx hb dX11_washers_14 rfl (lv_at hv 2 rfl) ?_
        refine lv_iload_n hx hb dX11_washers_15 rfl (lv_at hv 1 rfl) ?_
        refine lv_icmp_gt (tgt := 36) hx hb dX11_washers_16 (by decide) (fun c_3 => ?_) (fun c_3 => ?_)
        · have h := ite_t c_3 h
          cases h
          have hl : some (v2_14b, fewest_14b) = some (v2_14r, fewest_14r) := hl
          have hl := Option.some.inj hl
          have ee0 : v2_14b = v2_14r := congrArg (fun q => q.1) hl
          have ee1 : fewest_14b = fewest_14r := congrArg (fun q => q.2) hl
          subst ee0
          subst ee1
          exact LE _ _ _ hP hD hS (lv_sub hv [0, 1] rfl)
        · have h := ite_f c_3 h
          refine lv_aload_n hx hb dX11_washers_19 rfl (lv_at hv 0 rfl) ?_
          refine va_get (D := D) (ci := 11) (v := .ref (xd 3)) (C := RX11) (T := TX11) (N := 9) hx hb hts in_11 hown hK hP 0 rfl rfl 8 (by decide) w_2 (fun _ h9 => h9) rfl dX11_washers_20 ?_
          refine lv_iload_n hx hb dX11_washers_23 rfl (lv_at hv 2 rfl) ?_
          refine lv_aload_n hx hb dX11_washers_24 rfl (lv_at hv 0 rfl) ?_
          refine lv_iload_n hx hb dX11_washers_25 rfl (lv_at hv 2 rfl) ?_
          obtain ⟨r_4, hf_5, h⟩ := bd_ex h
          have sb := Sb.same hP hD hS hA
          refine calI (va_runV (As := [.int v2_14b]) (rest := [.int v2_14b, .ref (xd 3)]) ⟨hx, hb, hml, hown, hts⟩ (c_X11_fewestSetsOf l G D cA xd vd sd nd hd td ed kd _ images errors fewest_14b vspoon vmark vcount vbodies sbits slens snum h_weight h_known h_hour h_swS h_swW h_waS h_spoons h_kind h_mark h_silver h_fresh h_texts h_tape h_tapeCount h_z h_waiting h_waitingCount t_weight t_known t_hour t_swS t_swW t_waS t_spoons t_kind t_mark t_silver t_fresh t_texts t_tape t_tapeCount t_z t_waiting t_waitingCount e_weight e_known e_hour e_swS e_swW e_waS e_spoons e_kind e_mark e_silver e_fresh e_texts e_tape e_tapeCount e_z e_waiting e_waitingCount L tx tst v2_14b r_4 hf_5) (cwV 1 hts gX11_washers_X11_fewestSetsOf rfl rfl rfl (by decide +kernel) ⟨Nat.le_of_ble_eq_true rfl, Nat.le_of_ble_eq_true rfl⟩) (pvV hE hK hS sb (va_recv hK hP (ci := 11) (q0 := 0) rfl rfl)) rfl rfl hv.1 rfl (lv_room (Nat.le_of_ble_eq_true rfl)) dX11_washers_26 ⟨Nat.le_of_ble_eq_true rfl, Nat.le_of_ble_eq_true rfl⟩) hS sb (Jn.same sb) (fun H locs hP hD hS => ?_)
          have hP : va_P D vwCl (wX cA xd vd sd nd hd td ed kd images errors fewest_14b vspoon vmark vcount vbodies sbits slens snum h_weight h_known h_hour h_swS h_swW h_waS h_spoons h_kind h_mark h_silver h_fresh h_texts h_tape h_tapeCount h_z h_waiting h_waitingCount t_weight t_known t_hour t_swS t_swW t_waS t_spoons t_kind t_mark t_silver t_fresh t_texts t_tape t_tapeCount t_z t_waiting t_waitingCount e_weight e_known e_hour e_swS e_swW e_waS e_spoons e_kind e_mark e_silver e_fresh e_texts e_tape e_tapeCount e_z e_waiting e_waitingCount L tx tst) H := hP
          have hD : va_D A (wX cA xd vd sd nd hd td ed kd images errors fewest_14b vspoon vmark vcount vbodies sbits slens snum h_weight h_known h_hour h_swS h_swW h_waS h_spoons h_kind h_mark h_silver h_fresh h_texts h_tape h_tapeCount h_z h_waiting h_waitingCount t_weight t_known t_hour t_swS t_swW t_waS t_spoons t_kind t_mark t_silver t_fresh t_texts t_tape t_tapeCount t_z t_waiting t_waitingCount e_weight e_known e_hour e_swS e_swW e_waS e_spoons e_kind e_mark e_silver e_fresh e_texts e_tape e_tapeCount e_z e_waiting e_waitingCount L tx tst) := hD
          obtain ⟨c_6, h⟩ := ckI_ex h
          obtain ⟨fewest_7, efewest_7, h⟩ := bnd_ex h
          refine va_iast (D := D) hx hb hK hP hD hS 3 0 rfl rfl c_6 dX11_washers_29 (fun H locs hP hD hS => ?_)
          rw [← efewest_7] at hP hD
          have hP : va_P D vwCl (wX cA xd vd sd nd hd td ed kd images errors fewest_7 vspoon vmark vcount vbodies sbits slens snum h_weight h_known h_hour h_swS h_swW h_waS h_spoons h_kind h_mark h_silver h_fresh h_texts h_tape h_tapeCount h_z h_waiting h_waitingCount t_weight t_known t_hour t_swS t_swW t_waS t_spoons t_kind t_mark t_silver t_fresh t_texts t_tape t_tapeCount t_z t_waiting t_waitingCount e_weight e_known e_hour e_swS e_swW e_waS e_spoons e_kind e_mark e_silver e_fresh e_texts e_tape e_tapeCount e_z e_waiting e_waitingCount L tx tst) H := hP
          have hD : va_D A (wX cA xd vd sd nd hd td ed kd images errors fewest_7 vspoon vmark vcount vbodies sbits slens snum h_weight h_known h_hour h_swS h_swW h_waS h_spoons h_kind h_mark h_silver h_fresh h_texts h_tape h_tapeCount h_z h_waiting h_waitingCount t_weight t_known t_hour t_swS t_swW t_waS t_spoons t_kind t_mark t_silver t_fresh t_texts t_tape t_tapeCount t_z t_waiting t_waitingCount e_weight e_known e_hour e_swS e_swW e_waS e_spoons e_kind e_mark e_silver e_fresh e_texts e_tape e_tapeCount e_z e_waiting e_waitingCount L tx tst) := hD
          obtain ⟨y_8, ey_8, h⟩ := bnd_ex h
          refine lv_iinc (v := y_8) (lv' := [(2, .int y_8), (0, .ref (xd 0)), (1, .int v1_14)]) hx hb dX11_washers_30 hv (k := 2) rfl (by rw [ey_8]; rfl) (by decide) rfl (fun ls hv => ?_)
          refine lv_goto (tgt := 14) hx hb dX11_washers_33 (by decide) ?_
          cases h
          exact ih y_8 fewest_7 hl _ _ _ hP hD hS (lv_sub hv [1, 2, 0] rfl)
    exact LB FU v2_14 fewest_14 ho
  have hP : va_P D vwCl (wX cA xd vd sd nd hd td ed kd images errors fewest vspoon vmark vcount vbodies sbits slens snum h_weight h_known h_hour h_swS h_swW h_waS h_spoons h_kind h_mark h_silver h_fresh h_texts h_tape h_tapeCount h_z h_waiting h_waitingCount t_weight t_known t_hour t_swS t_swW t_waS t_spoons t_kind t_mark t_silver t_fresh t_texts t_tape t_tapeCount t_z t_waiting t_waitingCount e_weight e_known e_hour e_swS e_swW e_waS e_spoons e_kind e_mark e_silver e_fresh e_texts e_tape e_tapeCount e_z e_waiting e_waitingCount L tx tst) H := hP
  unfold fX11_washers at h
  refine lv_iconst (v := (1 : Int32)) hx hb dX11_washers_0 (by decide) ?_
  refine lv_aload_n hx hb dX11_washers_1 rfl (lv_at hv 0 rfl) ?_
  refine va_get (D := D) (ci := 11) (v := .ref (hd 0)) (C := RX11) (T := TX11) (N := 9) hx hb hts in_11 hown hK hP 0 rfl rfl 0 (by decide) w_0 (fun _ h9 => h9) rfl dX11_washers_2 ?_
  refine va_get (D := D) (ci := 3) (v := .int h_spoons) (C := RX3) (T := TX3) (N := 18) hx hb hts in_3 hown hK hP 14 rfl rfl 7 (by decide) w_1 (fun _ h9 => h9) rfl dX11_washers_5 ?_
  refine lv_ishl hx hb dX11_washers_8 ?_
  refine lv_iconst (v := (1 : Int32)) hx hb dX11_washers_9 (by decide) ?_
  refine lv_isub hx hb dX11_washers_10 ?_
  obtain ⟨y_1, ey_1, h⟩ := bnd_ex h
  refine lv_nm ey_1 ?_
  refine lv_istore_n (lv' := [(1, .int y_1), (0, .ref (xd 0))]) hx hb dX11_washers_11 rfl hv (by decide) rfl (fun ls hv => ?_)
  refine lv_iconst (v := (1 : Int32)) hx hb dX11_washers_12 (by decide) ?_
  refine lv_istore_n (lv' := [(2, .int (1 : Int32)), (1, .int y_1), (0, .ref (xd 0))]) hx hb dX11_washers_13 rfl hv (by decide) rfl (fun ls hv => ?_)
  exact C_14 y_1 (1 : Int32) fewest h _ _ _ hP hD hS (lv_sub hv [2, 1, 0] rfl)

def fX11_telling_70 (v1_22 : Int32) (v2_70 : Int32) (v3_70 : Int32) (v4_70 : Int32) (errors_22 : Nat → Int32) (h_spoons : Int32) (h_fresh : Nat → Int64) : Option ((Int32 × Int32 × Int32) ⊕ (Int32 × Int32 × Int32)) :=
  bnd (v4_70 + (1 : Int32)) fun y_12 => some (.inl (v2_70, v3_70, y_12))
def fX11_telling_22B (v1_22 : Int32) (errors_22 : Nat → Int32) (h_spoons : Int32) (h_fresh : Nat → Int64) (v2_22b : Int32) (v3_22b : Int32) (v4_22b : Int32) : Option ((Int32 × Int32 × Int32) ⊕ (Int32 × Int32 × Int32)) :=
  (if ((1 : Int32) <<< (h_spoons &&& 31)) ≤ v4_22b then some (.inr (v2_22b, v3_22b, v4_22b)) else bd (fJ6_bitCount_0f7a4 v4_22b) fun r_9 => (if v3_22b ≤ r_9 then fX11_telling_70 v1_22 v2_22b v3_22b v4_22b errors_22 h_spoons h_fresh else bd (fX3_wordsOnAny v4_22b h_spoons h_fresh) fun r_13 => (if (v1_22 &&& (r_13 ^^^ (-1 : Int32))) = 0 then bd (fJ6_bitCount_0f7a4 v4_22b) fun r_16 => fX11_telling_70 v1_22 v4_22b r_16 v4_22b errors_22 h_spoons h_fresh else fX11_telling_70 v1_22 v2_22b v3_22b v4_22b errors_22 h_spoons h_fresh)))
def fX11_telling_22 (v1_22 : Int32) (v2_22 : Int32) (v3_22 : Int32) (v4_22 : Int32) (errors_22 : Nat → Int32) (h_spoons : Int32) (h_fresh : Nat → Int64) : Option (Int32 × (Nat → Int32)) :=
  bd (lp (fun σ : Int32 × Int32 × Int32 => fX11_telling_22B v1_22 errors_22 h_spoons h_fresh (σ.1) (σ.2.1) (σ.2.2)) FU (v2_22, v3_22, v4_22)) fun ρ => match ρ with | (v2_22r, v3_22r, v4_22r) => (if 0 ≤ v2_22r then some (v2_22r, errors_22) else bd (fX11_refused (-1000000002 : Int32) errors_22) fun (r_5, errors_6) => some (r_5, errors_6))
def fX11_telling (a : Int32) (errors : Nat → Int32) (h_spoons : Int32) (h_fresh : Nat → Int64) : Option (Int32 × (Nat → Int32)) :=
  bd (fX11_isSetOfWords a) fun r_1 => (if r_1 = 0 then bd (fX11_refused (-1000000001 : Int32) errors) fun (r_18, errors_19) => some (r_18, errors_19) else fX11_telling_22 a (-1 : Int32) (9 : Int32) (0 : Int32) errors h_spoons h_fresh)
set_option maxHeartbeats 4000000 in
set_option maxRecDepth 100000 in
theorem c_X11_telling (l : Launch) (G : Nat → Nat) (D : va_G) (cA : Nat → ClassId) (xd : Nat → Nat) (vd : Nat → Nat) (sd : Nat → Nat) (nd : Nat → Nat) (hd : Nat → Nat) (td : Nat → Nat) (ed : Nat → Nat) (kd : Nat → Nat) (sz : Nat) (images : Int32) (errors : Nat → Int32) (fewest : Nat → Int32) (vspoon : Int32) (vmark : Int32) (vcount : Int32) (vbodies : Nat → Int32) (sbits : Nat → Int32) (slens : Nat → Int32) (snum : Nat → Nat → Int32) (h_weight : Nat → Int32) (h_known : Int32) (h_hour : Int32) (h_swS : Nat → Int32) (h_swW : Nat → Int32) (h_waS : Nat → Int32) (h_spoons : Int32) (h_kind : Nat → Int32) (h_mark : Nat → Int32) (h_silver : Nat → Int32) (h_fresh : Nat → Int64) (h_texts : Nat → Option Nat) (h_tape : Nat → Int32) (h_tapeCount : Int32) (h_z : Int32) (h_waiting : Nat → Int32) (h_waitingCount : Int32) (t_weight : Nat → Int32) (t_known : Int32) (t_hour : Int32) (t_swS : Nat → Int32) (t_swW : Nat → Int32) (t_waS : Nat → Int32) (t_spoons : Int32) (t_kind : Nat → Int32) (t_mark : Nat → Int32) (t_silver : Nat → Int32) (t_fresh : Nat → Int64) (t_texts : Nat → Option Nat) (t_tape : Nat → Int32) (t_tapeCount : Int32) (t_z : Int32) (t_waiting : Nat → Int32) (t_waitingCount : Int32) (e_weight : Nat → Int32) (e_known : Int32) (e_hour : Int32) (e_swS : Nat → Int32) (e_swW : Nat → Int32) (e_waS : Nat → Int32) (e_spoons : Int32) (e_kind : Nat → Int32) (e_mark : Nat → Int32) (e_silver : Nat → Int32) (e_fresh : Nat → Int64) (e_texts : Nat → Option Nat) (e_tape : Nat → Int32) (e_tapeCount : Int32) (e_z : Int32) (e_waiting : Nat → Int32) (e_waitingCount : Int32) (L : List Nat) (tx : Nat → TXc) (tst : Nat → Nat → Int32) (a : Int32) (rR : Int32) (errorsR : Nat → Int32) (h : fX11_telling a errors h_spoons h_fresh = some (rR, errorsR)) : Met l yX11_telling wsX11_telling ({ frames := 4, cells := 0, slots := 0, locals := 90 } : Room) (PW G D (tyC cA) sz (wX cA xd vd sd nd hd td ed kd images errors fewest vspoon vmark vcount vbodies sbits slens snum h_weight h_known h_hour h_swS h_swW h_waS h_spoons h_kind h_mark h_silver h_fresh h_texts h_tape h_tapeCount h_z h_waiting h_waitingCount t_weight t_known t_hour t_swS t_swW t_waS t_spoons t_kind t_mark t_silver t_fresh t_texts t_tape t_tapeCount t_z t_waiting t_waitingCount e_weight e_known e_hour e_swS e_swW e_waS e_spoons e_kind e_mark e_silver e_fresh e_texts e_tape e_tapeCount e_z e_waiting e_waitingCount L tx tst) [.ref (xd 0), .int a]) (QI D (tyC cA) (va_A (wX cA xd vd sd nd hd td ed kd images errors fewest vspoon vmark vcount vbodies sbits slens snum h_weight h_known h_hour h_swS h_swW h_waS h_spoons h_kind h_mark h_silver h_fresh h_texts h_tape h_tapeCount h_z h_waiting h_waitingCount t_weight t_known t_hour t_swS t_swW t_waS t_spoons t_kind t_mark t_silver t_fresh t_texts t_tape t_tapeCount t_z t_waiting t_waitingCount e_weight e_known e_hour e_swS e_swW e_waS e_spoons e_kind e_mark e_silver e_fresh e_texts e_tape e_tapeCount e_z e_waiting e_waitingCount L tx tst) sz) rR (wX cA xd vd sd nd hd td ed kd images errorsR fewest vspoon vmark vcount vbodies sbits slens snum h_weight h_known h_hour h_swS h_swW h_waS h_spoons h_kind h_mark h_silver h_fresh h_texts h_tape h_tapeCount h_z h_waiting h_waitingCount t_weight t_known t_hour t_swS t_swW t_waS t_spoons t_kind t_mark t_silver t_fresh t_texts t_tape t_tapeCount t_z t_waiting t_waitingCount e_weight e_known e_hour e_swS e_swW e_waS e_spoons e_kind e_mark e_silver e_fresh e_texts e_tape e_tapeCount e_z e_waiting e_waitingCount L tx tst)) 0 0 (va_A (wX cA xd vd sd nd hd td ed kd images errors fewest vspoon vmark vcount vbodies sbits slens snum h_weight h_known h_hour h_swS h_swW h_waS h_spoons h_kind h_mark h_silver h_fresh h_texts h_tape h_tapeCount h_z h_waiting h_waitingCount t_weight t_known t_hour t_swS t_swW t_waS t_spoons t_kind t_mark t_silver t_fresh t_texts t_tape t_tapeCount t_z t_waiting t_waitingCount e_weight e_known e_hour e_swS e_swW e_waS e_spoons e_kind e_mark e_silver e_fresh e_texts e_tape e_tapeCount e_z e_waiting e_waitingCount L tx tst) sz) := by
  refine ent (cc := cX11_telling) (maxL := 5) (ret := (some .int)) (fun A => QI D (tyC cA) A rR (wX cA xd vd sd nd hd td ed kd images errorsR fewest vspoon vmark vcount vbodies sbits slens snum h_weight h_known h_hour h_swS h_swW h_waS h_spoons h_kind h_mark h_silver h_fresh h_texts h_tape h_tapeCount h_z h_waiting h_waitingCount t_weight t_known t_hour t_swS t_swW t_waS t_spoons t_kind t_mark t_silver t_fresh t_texts t_tape t_tapeCount t_z t_waiting t_waitingCount e_weight e_known e_hour e_swS e_swW e_waS e_spoons e_kind e_mark e_silver e_fresh e_texts e_tape e_tapeCount e_z e_waiting e_waitingCount L tx tst)) (by decide +kernel) rfl (Nat.le_of_ble_eq_true rfl) ?_
  intro p e s m args below meth c A ls H hx hb hml hr hlk hts hown hA hK hE hP hD hS hv hmm
  have hv : lv_has ls 5 [(0, .ref (xd 0)), (1, .int a)] := hv
  have in_3 : ∀ w ∈ u_ws RX3 TX3 18, w ∈ wsX11_telling := fun _ h => List.mem_cons_of_mem _ (List.mem_append_right _ h)
  have in_11 : ∀ w ∈ u_ws RX11 TX11 9, w ∈ wsX11_telling := fun _ h => List.mem_cons_of_mem _ (List.mem_append_left _ (List.mem_append_right _ h))
  have w_0 := hts (.constant RX11 204 (-1000000002)) (List.mem_of_getElem? (i := 4) rfl)
  have w_1 := hts (.fieldLink RX11 39 "SpoonsLast" "house" "LSpoonsLast$House;") (List.mem_of_getElem? (i := 2) rfl)
  have w_2 := hts (.fieldLink RX11 111 "SpoonsLast$House" "spoons" "I") (List.mem_of_getElem? (i := 3) rfl)
  have w_3 := hts (.constant RX11 78 (-1000000001)) (List.mem_of_getElem? (i := 1) rfl)
  generalize hQ : MQ below _ args s 0 0 A = Q
  have C_22 : ∀ (v1_22 : Int32) (v2_22 : Int32) (v3_22 : Int32) (v4_22 : Int32) (errors_22 : Nat → Int32), fX11_telling_22 v1_22 v2_22 v3_22 v4_22 errors_22 h_spoons h_fresh = some (rR, errorsR) → WW p l e ({ frames := 4, cells := 0, slots := 0, locals := 90 } : Room) s m args below meth c D A 0 0 Q (wX cA xd vd sd nd hd td ed kd images errors_22 fewest vspoon vmark vcount vbodies sbits slens snum h_weight h_known h_hour h_swS h_swW h_waS h_spoons h_kind h_mark h_silver h_fresh h_texts h_tape h_tapeCount h_z h_waiting h_waitingCount t_weight t_known t_hour t_swS t_swW t_waS t_spoons t_kind t_mark t_silver t_fresh t_texts t_tape t_tapeCount t_z t_waiting t_waitingCount e_weight e_known e_hour e_swS e_swW e_waS e_spoons e_kind e_mark e_silver e_fresh e_texts e_tape e_tapeCount e_z e_waiting e_waitingCount L tx tst) 5 [(0, .ref (xd 0)), (1, .int v1_22), (2, .int v2_22), (3, .int v3_22), (4, .int v4_22)] 22 [] := by
    intro v1_22 v2_22 v3_22 v4_22 errors_22 h
    unfold fX11_telling_22 at h
    obtain ⟨⟨v2_22r, v3_22r, v4_22r⟩, ho, h⟩ := bd_ex h
    have LE : WW p l e ({ frames := 4, cells := 0, slots := 0, locals := 90 } : Room) s m args below meth c D A 0 0 Q (wX cA xd vd sd nd hd td ed kd images errors_22 fewest vspoon vmark vcount vbodies sbits slens snum h_weight h_known h_hour h_swS h_swW h_waS h_spoons h_kind h_mark h_silver h_fresh h_texts h_tape h_tapeCount h_z h_waiting h_waitingCount t_weight t_known t_hour t_swS t_swW t_waS t_spoons t_kind t_mark t_silver t_fresh t_texts t_tape t_tapeCount t_z t_waiting t_waitingCount e_weight e_known e_hour e_swS e_swW e_waS e_spoons e_kind e_mark e_silver e_fresh e_texts e_tape e_tapeCount e_z e_waiting e_waitingCount L tx tst) 5 [(0, .ref (xd 0)), (2, .int v2_22r)] 76 [] := by
      intro H locs ls hP hD hS hv
      refine lv_iload_n hx hb dX11_telling_76 rfl (lv_at hv 1 rfl) ?_
      refine lv_if_ge (tgt := 89) hx hb dX11_telling_77 (by decide) (fun c_4 => ?_) (fun c_4 => ?_)
      · have h := ite_t c_4 h
        refine lv_iload_n hx hb dX11_telling_89 rfl (lv_at hv 1 rfl) ?_
        have h := Option.some.inj h
        have ee0 : v2_22r = rR := congrArg (fun q => q.1) h
        have ee1 : errors_22 = errorsR := congrArg (fun q => q.2) h
        subst ee0
        subst ee1
        rw [← hQ]
        exact retI hx hb hr hlk hK hP hD hS dX11_telling_90 ⟨Nat.le_of_ble_eq_true rfl, Nat.le_of_ble_eq_true rfl⟩
      · have h := ite_f c_4 h
        refine lv_aload_n hx hb dX11_telling_80 rfl (lv_at hv 0 rfl) ?_
        refine lv_ldc (v := (-1000000002 : Int32)) hx hb hown w_0 dX11_telling_81 ?_
        obtain ⟨⟨r_5, errors_6⟩, hf_7, h⟩ := bd_ex h
        have sb := Sb.same hP hD hS hA
        refine calI (va_runV (As := [.int (-1000000002 : Int32)]) (rest := []) ⟨hx, hb, hml, hown, hts⟩ (c_X11_refused l G D cA xd vd sd nd hd td ed kd _ images errors_22 fewest vspoon vmark vcount vbodies sbits slens snum h_weight h_known h_hour h_swS h_swW h_waS h_spoons h_kind h_mark h_silver h_fresh h_texts h_tape h_tapeCount h_z h_waiting h_waitingCount t_weight t_known t_hour t_swS t_swW t_waS t_spoons t_kind t_mark t_silver t_fresh t_texts t_tape t_tapeCount t_z t_waiting t_waitingCount e_weight e_known e_hour e_swS e_swW e_waS e_spoons e_kind e_mark e_silver e_fresh e_texts e_tape e_tapeCount e_z e_waiting e_waitingCount L tx tst (-1000000002 : Int32) r_5 errors_6 hf_7) (cwV 1 hts gX11_telling_X11_refused rfl rfl rfl (by decide +kernel) ⟨Nat.le_of_ble_eq_true rfl, Nat.le_of_ble_eq_true rfl⟩) (pvV hE hK hS sb (va_recv hK hP (ci := 11) (q0 := 0) rfl rfl)) rfl rfl hv.1 rfl (lv_room (Nat.le_of_ble_eq_true rfl)) dX11_telling_83 ⟨Nat.le_of_ble_eq_true rfl, Nat.le_of_ble_eq_true rfl⟩) hS sb (Jn.same sb) (fun H locs hP hD hS => ?_)
        have hP : va_P D vwCl (wX cA xd vd sd nd hd td ed kd images errors_6 fewest vspoon vmark vcount vbodies sbits slens snum h_weight h_known h_hour h_swS h_swW h_waS h_spoons h_kind h_mark h_silver h_fresh h_texts h_tape h_tapeCount h_z h_waiting h_waitingCount t_weight t_known t_hour t_swS t_swW t_waS t_spoons t_kind t_mark t_silver t_fresh t_texts t_tape t_tapeCount t_z t_waiting t_waitingCount e_weight e_known e_hour e_swS e_swW e_waS e_spoons e_kind e_mark e_silver e_fresh e_texts e_tape e_tapeCount e_z e_waiting e_waitingCount L tx tst) H := hP
        have hD : va_D A (wX cA xd vd sd nd hd td ed kd images errors_6 fewest vspoon vmark vcount vbodies sbits slens snum h_weight h_known h_hour h_swS h_swW h_waS h_spoons h_kind h_mark h_silver h_fresh h_texts h_tape h_tapeCount h_z h_waiting h_waitingCount t_weight t_known t_hour t_swS t_swW t_waS t_spoons t_kind t_mark t_silver t_fresh t_texts t_tape t_tapeCount t_z t_waiting t_waitingCount e_weight e_known e_hour e_swS e_swW e_waS e_spoons e_kind e_mark e_silver e_fresh e_texts e_tape e_tapeCount e_z e_waiting e_waitingCount L tx tst) := hD
        refine lv_goto (tgt := 90) hx hb dX11_telling_86 (by decide) ?_
        have h := Option.some.inj h
        have ee0 : r_5 = rR := congrArg (fun q => q.1) h
        have ee1 : errors_6 = errorsR := congrArg (fun q => q.2) h
        subst ee0
        subst ee1
        rw [← hQ]
        exact retI hx hb hr hlk hK hP hD hS dX11_telling_90 ⟨Nat.le_of_ble_eq_true rfl, Nat.le_of_ble_eq_true rfl⟩
    have LB : ∀ (nf : Nat) (v2_22b : Int32) (v3_22b : Int32) (v4_22b : Int32), lp (fun σ : Int32 × Int32 × Int32 => fX11_telling_22B v1_22 errors_22 h_spoons h_fresh (σ.1) (σ.2.1) (σ.2.2)) nf (v2_22b, v3_22b, v4_22b) = some (v2_22r, v3_22r, v4_22r) → WW p l e ({ frames := 4, cells := 0, slots := 0, locals := 90 } : Room) s m args below meth c D A 0 0 Q (wX cA xd vd sd nd hd td ed kd images errors_22 fewest vspoon vmark vcount vbodies sbits slens snum h_weight h_known h_hour h_swS h_swW h_waS h_spoons h_kind h_mark h_silver h_fresh h_texts h_tape h_tapeCount h_z h_waiting h_waitingCount t_weight t_known t_hour t_swS t_swW t_waS t_spoons t_kind t_mark t_silver t_fresh t_texts t_tape t_tapeCount t_z t_waiting t_waitingCount e_weight e_known e_hour e_swS e_swW e_waS e_spoons e_kind e_mark e_silver e_fresh e_texts e_tape e_tapeCount e_z e_waiting e_waitingCount L tx tst) 5 [(0, .ref (xd 0)), (1, .int v1_22), (2, .int v2_22b), (3, .int v3_22b), (4, .int v4_22b)] 22 [] := by
      intro nf
      induction nf with
      | zero => intro v2_22b v3_22b v4_22b hl; cases hl
      | succ nf ih =>
        intro v2_22b v3_22b v4_22b hl
        obtain ⟨x, h, hl⟩ := lp_ex hl
        have h : fX11_telling_22B v1_22 errors_22 h_spoons h_fresh v2_22b v3_22b v4_22b = some x := h
        unfold fX11_telling_22B at h
        have C_70 : ∀ (v2_70 : Int32) (v3_70 : Int32) (v4_70 : Int32) (x : (Int32 × Int32 × Int32) ⊕ (Int32 × Int32 × Int32)), fX11_telling_70 v1_22 v2_70 v3_70 v4_70 errors_22 h_spoons h_fresh = some x → lpk (fun σ : Int32 × Int32 × Int32 => fX11_telling_22B v1_22 errors_22 h_spoons h_fresh (σ.1) (σ.2.1) (σ.2.2)) nf x = some (v2_22r, v3_22r, v4_22r) → WW p l e ({ frames := 4, cells := 0, slots := 0, locals := 90 } : Room) s m args below meth c D A 0 0 Q (wX cA xd vd sd nd hd td ed kd images errors_22 fewest vspoon vmark vcount vbodies sbits slens snum h_weight h_known h_hour h_swS h_swW h_waS h_spoons h_kind h_mark h_silver h_fresh h_texts h_tape h_tapeCount h_z h_waiting h_waitingCount t_weight t_known t_hour t_swS t_swW t_waS t_spoons t_kind t_mark t_silver t_fresh t_texts t_tape t_tapeCount t_z t_waiting t_waitingCount e_weight e_known e_hour e_swS e_swW e_waS e_spoons e_kind e_mark e_silver e_fresh e_texts e_tape e_tapeCount e_z e_waiting e_waitingCount L tx tst) 5 [(0, .ref (xd 0)), (1, .int v1_22), (2, .int v2_70), (3, .int v3_70), (4, .int v4_70)] 70 [] := by
          intro v2_70 v3_70 v4_70 x h hl
          unfold fX11_telling_70 at h
          intro H locs ls hP hD hS hv
          obtain ⟨y_12, ey_12, h⟩ := bnd_ex h
          refine lv_iinc (v := y_12) (lv' := [(4, .int y_12), (0, .ref (xd 0)), (1, .int v1_22), (2, .int v2_70), (3, .int v3_70)]) hx hb dX11_telling_70 hv (k := 4) rfl (by rw [ey_12]; rfl) (by decide) rfl (fun ls hv => ?_)
          refine lv_goto (tgt := 22) hx hb dX11_telling_73 (by decide) ?_
          cases h
          exact ih v2_70 v3_70 y_12 hl _ _ _ hP hD hS (lv_sub hv [1, 2, 3, 4, 0] rfl)
        intro H locs ls hP hD hS hv
        refine lv_iload hx hb dX11_telling_22 (lv_at hv 4 rfl) ?_
        refine lv_iconst (v := (1 : Int32)) hx hb dX11_telling_24 (by decide) ?_
        refine lv_aload_n hx hb dX11_telling_25 rfl (lv_at hv 0 rfl) ?_
        refine va_get (D := D) (ci := 11) (v := .ref (hd 0)) (C := RX11) (T := TX11) (N := 9) hx hb hts in_11 hown hK hP 0 rfl rfl 0 (by decide) w_1 (fun _ h9 => h9) rfl dX11_telling_26 ?_
        refine va_get (D := D) (ci := 3) (v := .int h_spoons) (C := RX3) (T := TX3) (N := 18) hx hb hts in_3 hown hK hP 14 rfl rfl 7 (by decide) w_2 (fun _ h9 => h9) rfl dX11_telling_29 ?_
        refine lv_ishl hx hb dX11_telling_32 ?_
        refine lv_icmp_ge (tgt := 76) hx hb dX11_telling_33 (by decide) (fun c_8 => ?_) (fun c_8 => ?_)
        · have h := ite_t c_8 h
          cases h
          have hl : some (v2_22b, v3_22b, v4_22b) = some (v2_22r, v3_22r, v4_22r) := hl
          have hl := Option.some.inj hl
          have ee0 : v2_22b = v2_22r := congrArg (fun q => q.1) hl
          have ee1 : v3_22b = v3_22r := congrArg (fun q => q.2.1) hl
          have ee2 : v4_22b = v4_22r := congrArg (fun q => q.2.2) hl
          subst ee0
          subst ee1
          subst ee2
          exact LE _ _ _ hP hD hS (lv_sub hv [0, 2] rfl)
        · have h := ite_f c_8 h
          refine lv_iload hx hb dX11_telling_36 (lv_at hv 4 rfl) ?_
          obtain ⟨r_9, hf_10, h⟩ := bd_ex h
          have sb := Sb.nil hP hD hS hA
          refine calI (va_runS (As := [.int v4_22b]) (rest := []) ⟨hx, hb, hml, hown, hts⟩ (c_J6_bitCount_0f7a4 l G D cA  _ v4_22b r_9 hf_10) (va_cwS 1 hts gX11_telling_J6_bitCount_0f7a4 rfl rfl rfl (by decide +kernel) ⟨Nat.le_of_ble_eq_true rfl, Nat.le_of_ble_eq_true rfl⟩) (pvS hE hK hS sb) rfl rfl hv.1 rfl (lv_room (Nat.le_of_ble_eq_true rfl)) dX11_telling_38 ⟨Nat.le_of_ble_eq_true rfl, Nat.le_of_ble_eq_true rfl⟩) hS sb (Jn.nil hP hD) (fun H locs hP hD hS => ?_)
          have hP : va_P D vwCl (wX cA xd vd sd nd hd td ed kd images errors_22 fewest vspoon vmark vcount vbodies sbits slens snum h_weight h_known h_hour h_swS h_swW h_waS h_spoons h_kind h_mark h_silver h_fresh h_texts h_tape h_tapeCount h_z h_waiting h_waitingCount t_weight t_known t_hour t_swS t_swW t_waS t_spoons t_kind t_mark t_silver t_fresh t_texts t_tape t_tapeCount t_z t_waiting t_waitingCount e_weight e_known e_hour e_swS e_swW e_waS e_spoons e_kind e_mark e_silver e_fresh e_texts e_tape e_tapeCount e_z e_waiting e_waitingCount L tx tst) H := hP
          have hD : va_D A (wX cA xd vd sd nd hd td ed kd images errors_22 fewest vspoon vmark vcount vbodies sbits slens snum h_weight h_known h_hour h_swS h_swW h_waS h_spoons h_kind h_mark h_silver h_fresh h_texts h_tape h_tapeCount h_z h_waiting h_waitingCount t_weight t_known t_hour t_swS t_swW t_waS t_spoons t_kind t_mark t_silver t_fresh t_texts t_tape t_tapeCount t_z t_waiting t_waitingCount e_weight e_known e_hour e_swS e_swW e_waS e_spoons e_kind e_mark e_silver e_fresh e_texts e_tape e_tapeCount e_z e_waiting e_waitingCount L tx tst) := hD
          refine lv_iload_n hx hb dX11_telling_41 rfl (lv_at hv 3 rfl) ?_
          refine lv_icmp_ge (tgt := 70) hx hb dX11_telling_42 (by decide) (fun c_11 => ?_) (fun c_11 => ?_)
          · have h := ite_t c_11 h
            exact C_70 v2_22b v3_22b v4_22b _ h hl _ _ _ hP hD hS (lv_sub hv [0, 1, 2, 3, 4] rfl)
          · have h := ite_f c_11 h
            refine lv_iload_n hx hb dX11_telling_45 rfl (lv_at hv 1 rfl) ?_
            refine lv_aload_n hx hb dX11_telling_46 rfl (lv_at hv 0 rfl) ?_
            refine va_get (D := D) (ci := 11) (v := .ref (hd 0)) (C := RX11) (T := TX11) (N := 9) hx hb hts in_11 hown hK hP 0 rfl rfl 0 (by decide) w_1 (fun _ h9 => h9) rfl dX11_telling_47 ?_
            refine lv_iload hx hb dX11_telling_50 (lv_at hv 4 rfl) ?_
            obtain ⟨r_13, hf_14, h⟩ := bd_ex h
            have sb : Sb D A H (wH cA hd kd h_weight h_known h_hour h_swS h_swW h_waS h_spoons h_kind h_mark h_silver h_fresh h_texts h_tape h_tapeCount h_z h_waiting h_waitingCount L tx tst) := sbXh hP hD hS hA
            refine calI (va_runV (As := [.int v4_22b]) (rest := [.int v1_22]) ⟨hx, hb, hml, hown, hts⟩ (c_X3_wordsOnAny l G D cA hd kd _ h_weight h_known h_hour h_swS h_swW h_waS h_spoons h_kind h_mark h_silver h_fresh h_texts h_tape h_tapeCount h_z h_waiting h_waitingCount L tx tst v4_22b r_13 hf_14) (cwV 1 hts gX11_telling_X3_wordsOnAny rfl rfl rfl (by decide +kernel) ⟨Nat.le_of_ble_eq_true rfl, Nat.le_of_ble_eq_true rfl⟩) (pvV hE hK hS sb (va_recv hK hP (ci := 3) (q0 := 14) rfl rfl)) rfl rfl hv.1 rfl (lv_room (Nat.le_of_ble_eq_true rfl)) dX11_telling_52 ⟨Nat.le_of_ble_eq_true rfl, Nat.le_of_ble_eq_true rfl⟩) hS sb (jnXh hP hD) (fun H locs hP hD hS => ?_)
            have hP : va_P D vwCl (wX cA xd vd sd nd hd td ed kd images errors_22 fewest vspoon vmark vcount vbodies sbits slens snum h_weight h_known h_hour h_swS h_swW h_waS h_spoons h_kind h_mark h_silver h_fresh h_texts h_tape h_tapeCount h_z h_waiting h_waitingCount t_weight t_known t_hour t_swS t_swW t_waS t_spoons t_kind t_mark t_silver t_fresh t_texts t_tape t_tapeCount t_z t_waiting t_waitingCount e_weight e_known e_hour e_swS e_swW e_waS e_spoons e_kind e_mark e_silver e_fresh e_texts e_tape e_tapeCount e_z e_waiting e_waitingCount L tx tst) H := hP
            have hD : va_D A (wX cA xd vd sd nd hd td ed kd images errors_22 fewest vspoon vmark vcount vbodies sbits slens snum h_weight h_known h_hour h_swS h_swW h_waS h_spoons h_kind h_mark h_silver h_fresh h_texts h_tape h_tapeCount h_z h_waiting h_waitingCount t_weight t_known t_hour t_swS t_swW t_waS t_spoons t_kind t_mark t_silver t_fresh t_texts t_tape t_tapeCount t_z t_waiting t_waitingCount e_weight e_known e_hour e_swS e_swW e_waS e_spoons e_kind e_mark e_silver e_fresh e_texts e_tape e_tapeCount e_z e_waiting e_waitingCount L tx tst) := hD
            refine lv_iconst (v := (-1 : Int32)) hx hb dX11_telling_55 (by decide) ?_
            refine lv_ixor hx hb dX11_telling_56 ?_
            refine lv_iand hx hb dX11_telling_57 ?_
            refine lv_if_ne (tgt := 70) hx hb dX11_telling_58 (by decide) (fun c_15 => ?_) (fun c_15 => ?_)
            · have h := ite_f c_15 h
              exact C_70 v2_22b v3_22b v4_22b _ h hl _ _ _ hP hD hS (lv_sub hv [0, 1, 2, 3, 4] rfl)
            · have h := ite_t c_15 h
              refine lv_iload hx hb dX11_telling_61 (lv_at hv 4 rfl) ?_
              obtain ⟨r_16, hf_17, h⟩ := bd_ex h
              have sb := Sb.nil hP hD hS hA
              refine calI (va_runS (As := [.int v4_22b]) (rest := []) ⟨hx, hb, hml, hown, hts⟩ (c_J6_bitCount_0f7a4 l G D cA  _ v4_22b r_16 hf_17) (va_cwS 1 hts gX11_telling_J6_bitCount_0f7a4 rfl rfl rfl (by decide +kernel) ⟨Nat.le_of_ble_eq_true rfl, Nat.le_of_ble_eq_true rfl⟩) (pvS hE hK hS sb) rfl rfl hv.1 rfl (lv_room (Nat.le_of_ble_eq_true rfl)) dX11_telling_63 ⟨Nat.le_of_ble_eq_true rfl, Nat.le_of_ble_eq_true rfl⟩) hS sb (Jn.nil hP hD) (fun H locs hP hD hS => ?_)
              have hP : va_P D vwCl (wX cA xd vd sd nd hd td ed kd images errors_22 fewest vspoon vmark vcount vbodies sbits slens snum h_weight h_known h_hour h_swS h_swW h_waS h_spoons h_kind h_mark h_silver h_fresh h_texts h_tape h_tapeCount h_z h_waiting h_waitingCount t_weight t_known t_hour t_swS t_swW t_waS t_spoons t_kind t_mark t_silver t_fresh t_texts t_tape t_tapeCount t_z t_waiting t_waitingCount e_weight e_known e_hour e_swS e_swW e_waS e_spoons e_kind e_mark e_silver e_fresh e_texts e_tape e_tapeCount e_z e_waiting e_waitingCount L tx tst) H := hP
              have hD : va_D A (wX cA xd vd sd nd hd td ed kd images errors_22 fewest vspoon vmark vcount vbodies sbits slens snum h_weight h_known h_hour h_swS h_swW h_waS h_spoons h_kind h_mark h_silver h_fresh h_texts h_tape h_tapeCount h_z h_waiting h_waitingCount t_weight t_known t_hour t_swS t_swW t_waS t_spoons t_kind t_mark t_silver t_fresh t_texts t_tape t_tapeCount t_z t_waiting t_waitingCount e_weight e_known e_hour e_swS e_swW e_waS e_spoons e_kind e_mark e_silver e_fresh e_texts e_tape e_tapeCount e_z e_waiting e_waitingCount L tx tst) := hD
              refine lv_istore_n (lv' := [(3, .int r_16), (0, .ref (xd 0)), (1, .int v1_22), (2, .int v2_22b), (4, .int v4_22b)]) hx hb dX11_telling_66 rfl hv (by decide) rfl (fun ls hv => ?_)
              refine lv_iload hx hb dX11_telling_67 (lv_at hv 4 rfl) ?_
              refine lv_istore_n (lv' := [(2, .int v4_22b), (3, .int r_16), (0, .ref (xd 0)), (1, .int v1_22), (4, .int v4_22b)]) hx hb dX11_telling_69 rfl hv (by decide) rfl (fun ls hv => ?_)
              exact C_70 v4_22b r_16 v4_22b _ h hl _ _ _ hP hD hS (lv_sub hv [2, 3, 0, 1, 4] rfl)
    exact LB FU v2_22 v3_22 v4_22 ho
  have hP : va_P D vwCl (wX cA xd vd sd nd hd td ed kd images errors fewest vspoon vmark vcount vbodies sbits slens snum h_weight h_known h_hour h_swS h_swW h_waS h_spoons h_kind h_mark h_silver h_fresh h_texts h_tape h_tapeCount h_z h_waiting h_waitingCount t_weight t_known t_hour t_swS t_swW t_waS t_spoons t_kind t_mark t_silver t_fresh t_texts t_tape t_tapeCount t_z t_waiting t_waitingCount e_weight e_known e_hour e_swS e_swW e_waS e_spoons e_kind e_mark e_silver e_fresh e_texts e_tape e_tapeCount e_z e_waiting e_waitingCount L tx tst) H := hP
  unfold fX11_telling at h
  refine lv_iload_n hx hb dX11_telling_0 rfl (lv_at hv 1 rfl) ?_
  obtain ⟨r_1, hf_2, h⟩ := bd_ex h
  have sb := Sb.nil hP hD hS hA
  refine calI (va_runS (As := [.int a]) (rest := []) ⟨hx, hb, hml, hown, hts⟩ (c_X11_isSetOfWords l G D cA  _ a r_1 hf_2) (va_cwS 1 hts gX11_telling_X11_isSetOfWords rfl rfl rfl (by decide +kernel) ⟨Nat.le_of_ble_eq_true rfl, Nat.le_of_ble_eq_true rfl⟩) (pvS hE hK hS sb) rfl rfl hv.1 rfl (lv_room (Nat.le_of_ble_eq_true rfl)) dX11_telling_1 ⟨Nat.le_of_ble_eq_true rfl, Nat.le_of_ble_eq_true rfl⟩) hS sb (Jn.nil hP hD) (fun H locs hP hD hS => ?_)
  have hP : va_P D vwCl (wX cA xd vd sd nd hd td ed kd images errors fewest vspoon vmark vcount vbodies sbits slens snum h_weight h_known h_hour h_swS h_swW h_waS h_spoons h_kind h_mark h_silver h_fresh h_texts h_tape h_tapeCount h_z h_waiting h_waitingCount t_weight t_known t_hour t_swS t_swW t_waS t_spoons t_kind t_mark t_silver t_fresh t_texts t_tape t_tapeCount t_z t_waiting t_waitingCount e_weight e_known e_hour e_swS e_swW e_waS e_spoons e_kind e_mark e_silver e_fresh e_texts e_tape e_tapeCount e_z e_waiting e_waitingCount L tx tst) H := hP
  have hD : va_D A (wX cA xd vd sd nd hd td ed kd images errors fewest vspoon vmark vcount vbodies sbits slens snum h_weight h_known h_hour h_swS h_swW h_waS h_spoons h_kind h_mark h_silver h_fresh h_texts h_tape h_tapeCount h_z h_waiting h_waitingCount t_weight t_known t_hour t_swS t_swW t_waS t_spoons t_kind t_mark t_silver t_fresh t_texts t_tape t_tapeCount t_z t_waiting t_waitingCount e_weight e_known e_hour e_swS e_swW e_waS e_spoons e_kind e_mark e_silver e_fresh e_texts e_tape e_tapeCount e_z e_waiting e_waitingCount L tx tst) := hD
  refine lv_if_ne (tgt := 14) hx hb dX11_telling_4 (by decide) (fun c_3 => ?_) (fun c_3 => ?_)
  · have h := ite_f c_3 h
    refine lv_iconst (v := (-1 : Int32)) hx hb dX11_telling_14 (by decide) ?_
    refine lv_istore_n (lv' := [(2, .int (-1 : Int32)), (0, .ref (xd 0)), (1, .int a)]) hx hb dX11_telling_15 rfl hv (by decide) rfl (fun ls hv => ?_)
    refine lv_bipush (v := (9 : Int32)) hx hb dX11_telling_16 (by decide) ?_
    refine lv_istore_n (lv' := [(3, .int (9 : Int32)), (2, .int (-1 : Int32)), (0, .ref (xd 0)), (1, .int a)]) hx hb dX11_telling_18 rfl hv (by decide) rfl (fun ls hv => ?_)
    refine lv_iconst (v := (0 : Int32)) hx hb dX11_telling_19 (by decide) ?_
    refine lv_istore (lv' := [(4, .int (0 : Int32)), (3, .int (9 : Int32)), (2, .int (-1 : Int32)), (0, .ref (xd 0)), (1, .int a)]) hx hb dX11_telling_20 hv (by decide) rfl (fun ls hv => ?_)
    exact C_22 a (-1 : Int32) (9 : Int32) (0 : Int32) errors h _ _ _ hP hD hS (lv_sub hv [3, 4, 2, 1, 0] rfl)
  · have h := ite_t c_3 h
    refine lv_aload_n hx hb dX11_telling_7 rfl (lv_at hv 0 rfl) ?_
    refine lv_ldc (v := (-1000000001 : Int32)) hx hb hown w_3 dX11_telling_8 ?_
    obtain ⟨⟨r_18, errors_19⟩, hf_20, h⟩ := bd_ex h
    have sb := Sb.same hP hD hS hA
    refine calI (va_runV (As := [.int (-1000000001 : Int32)]) (rest := []) ⟨hx, hb, hml, hown, hts⟩ (c_X11_refused l G D cA xd vd sd nd hd td ed kd _ images errors fewest vspoon vmark vcount vbodies sbits slens snum h_weight h_known h_hour h_swS h_swW h_waS h_spoons h_kind h_mark h_silver h_fresh h_texts h_tape h_tapeCount h_z h_waiting h_waitingCount t_weight t_known t_hour t_swS t_swW t_waS t_spoons t_kind t_mark t_silver t_fresh t_texts t_tape t_tapeCount t_z t_waiting t_waitingCount e_weight e_known e_hour e_swS e_swW e_waS e_spoons e_kind e_mark e_silver e_fresh e_texts e_tape e_tapeCount e_z e_waiting e_waitingCount L tx tst (-1000000001 : Int32) r_18 errors_19 hf_20) (cwV 1 hts gX11_telling_X11_refused rfl rfl rfl (by decide +kernel) ⟨Nat.le_of_ble_eq_true rfl, Nat.le_of_ble_eq_true rfl⟩) (pvV hE hK hS sb (va_recv hK hP (ci := 11) (q0 := 0) rfl rfl)) rfl rfl hv.1 rfl (lv_room (Nat.le_of_ble_eq_true rfl)) dX11_telling_10 ⟨Nat.le_of_ble_eq_true rfl, Nat.le_of_ble_eq_true rfl⟩) hS sb (Jn.same sb) (fun H locs hP hD hS => ?_)
    have hP : va_P D vwCl (wX cA xd vd sd nd hd td ed kd images errors_19 fewest vspoon vmark vcount vbodies sbits slens snum h_weight h_known h_hour h_swS h_swW h_waS h_spoons h_kind h_mark h_silver h_fresh h_texts h_tape h_tapeCount h_z h_waiting h_waitingCount t_weight t_known t_hour t_swS t_swW t_waS t_spoons t_kind t_mark t_silver t_fresh t_texts t_tape t_tapeCount t_z t_waiting t_waitingCount e_weight e_known e_hour e_swS e_swW e_waS e_spoons e_kind e_mark e_silver e_fresh e_texts e_tape e_tapeCount e_z e_waiting e_waitingCount L tx tst) H := hP
    have hD : va_D A (wX cA xd vd sd nd hd td ed kd images errors_19 fewest vspoon vmark vcount vbodies sbits slens snum h_weight h_known h_hour h_swS h_swW h_waS h_spoons h_kind h_mark h_silver h_fresh h_texts h_tape h_tapeCount h_z h_waiting h_waitingCount t_weight t_known t_hour t_swS t_swW t_waS t_spoons t_kind t_mark t_silver t_fresh t_texts t_tape t_tapeCount t_z t_waiting t_waitingCount e_weight e_known e_hour e_swS e_swW e_waS e_spoons e_kind e_mark e_silver e_fresh e_texts e_tape e_tapeCount e_z e_waiting e_waitingCount L tx tst) := hD
    have h := Option.some.inj h
    have ee0 : r_18 = rR := congrArg (fun q => q.1) h
    have ee1 : errors_19 = errorsR := congrArg (fun q => q.2) h
    subst ee0
    subst ee1
    rw [← hQ]
    exact retI hx hb hr hlk hK hP hD hS dX11_telling_13 ⟨Nat.le_of_ble_eq_true rfl, Nat.le_of_ble_eq_true rfl⟩

def fX11_gossip (n : Int32) (errors : Nat → Int32) (h_weight : Nat → Int32) (h_known : Int32) (h_hour : Int32) (h_swS : Nat → Int32) (h_swW : Nat → Int32) (h_waS : Nat → Int32) (h_spoons : Int32) (h_kind : Nat → Int32) (h_mark : Nat → Int32) (h_silver : Nat → Int32) (h_fresh : Nat → Int64) (h_texts : Nat → Option Nat) (t_weight : Nat → Int32) (t_known : Int32) (t_hour : Int32) (t_swS : Nat → Int32) (t_swW : Nat → Int32) (t_waS : Nat → Int32) (t_spoons : Int32) (t_kind : Nat → Int32) (t_mark : Nat → Int32) (t_silver : Nat → Int32) (t_fresh : Nat → Int64) (t_texts : Nat → Option Nat) (L : List Nat) (tx : Nat → TXc) (tst : Nat → Nat → Int32) : Option (Int32 × (Nat → Int32) × (Nat → Int32) × Int32 × Int32 × (Nat → Int32) × (Nat → Int32) × (Nat → Int32) × Int32 × (Nat → Int32) × (Nat → Int32) × (Nat → Int32) × (Nat → Int64) × (Nat → Option Nat) × (Nat → Nat → Int32)) :=
  bd (fX11_isBehind n) fun r_1 => (if r_1 = 0 then bd (fX11_refused (-1000000001 : Int32) errors) fun (r_25, errors_26) => some (r_25, errors_26, t_weight, t_known, t_hour, t_swS, t_swW, t_waS, t_spoons, t_kind, t_mark, t_silver, t_fresh, t_texts, tst) else bd (fX3_follow t_weight t_known t_hour t_swS t_swW t_waS t_spoons t_kind t_mark t_silver t_fresh t_texts h_weight h_known h_hour h_swS h_swW h_waS h_spoons h_kind h_mark h_silver h_fresh h_texts L) fun (t_weight_4, t_known_5, t_hour_6, t_swS_7, t_swW_8, t_waS_9, t_spoons_10, t_kind_11, t_mark_12, t_silver_13, t_fresh_14, t_texts_15) => bd (fX3_passHours n t_weight_4 t_known_5 t_hour_6 t_swS_7 t_swW_8 t_waS_9 t_spoons_10 t_kind_11 t_mark_12 t_silver_13 t_fresh_14 t_texts_15 L tx tst) fun (t_known_17, t_hour_18, t_silver_19, t_fresh_20, tst_21) => bd (fX3_weightOf t_known_17 t_weight_4) fun r_23 => some (r_23, errors, t_weight_4, t_known_17, t_hour_18, t_swS_7, t_swW_8, t_waS_9, t_spoons_10, t_kind_11, t_mark_12, t_silver_19, t_fresh_20, t_texts_15, tst_21))
set_option maxHeartbeats 4000000 in
set_option maxRecDepth 100000 in
theorem c_X11_gossip (l : Launch) (G : Nat → Nat) (D : va_G) (cA : Nat → ClassId) (xd : Nat → Nat) (vd : Nat → Nat) (sd : Nat → Nat) (nd : Nat → Nat) (hd : Nat → Nat) (td : Nat → Nat) (ed : Nat → Nat) (kd : Nat → Nat) (sz : Nat) (images : Int32) (errors : Nat → Int32) (fewest : Nat → Int32) (vspoon : Int32) (vmark : Int32) (vcount : Int32) (vbodies : Nat → Int32) (sbits : Nat → Int32) (slens : Nat → Int32) (snum : Nat → Nat → Int32) (h_weight : Nat → Int32) (h_known : Int32) (h_hour : Int32) (h_swS : Nat → Int32) (h_swW : Nat → Int32) (h_waS : Nat → Int32) (h_spoons : Int32) (h_kind : Nat → Int32) (h_mark : Nat → Int32) (h_silver : Nat → Int32) (h_fresh : Nat → Int64) (h_texts : Nat → Option Nat) (h_tape : Nat → Int32) (h_tapeCount : Int32) (h_z : Int32) (h_waiting : Nat → Int32) (h_waitingCount : Int32) (t_weight : Nat → Int32) (t_known : Int32) (t_hour : Int32) (t_swS : Nat → Int32) (t_swW : Nat → Int32) (t_waS : Nat → Int32) (t_spoons : Int32) (t_kind : Nat → Int32) (t_mark : Nat → Int32) (t_silver : Nat → Int32) (t_fresh : Nat → Int64) (t_texts : Nat → Option Nat) (t_tape : Nat → Int32) (t_tapeCount : Int32) (t_z : Int32) (t_waiting : Nat → Int32) (t_waitingCount : Int32) (e_weight : Nat → Int32) (e_known : Int32) (e_hour : Int32) (e_swS : Nat → Int32) (e_swW : Nat → Int32) (e_waS : Nat → Int32) (e_spoons : Int32) (e_kind : Nat → Int32) (e_mark : Nat → Int32) (e_silver : Nat → Int32) (e_fresh : Nat → Int64) (e_texts : Nat → Option Nat) (e_tape : Nat → Int32) (e_tapeCount : Int32) (e_z : Int32) (e_waiting : Nat → Int32) (e_waitingCount : Int32) (L : List Nat) (tx : Nat → TXc) (tst : Nat → Nat → Int32) (n : Int32) (rR : Int32) (errorsR : Nat → Int32) (t_weightR : Nat → Int32) (t_knownR : Int32) (t_hourR : Int32) (t_swSR : Nat → Int32) (t_swWR : Nat → Int32) (t_waSR : Nat → Int32) (t_spoonsR : Int32) (t_kindR : Nat → Int32) (t_markR : Nat → Int32) (t_silverR : Nat → Int32) (t_freshR : Nat → Int64) (t_textsR : Nat → Option Nat) (tstR : Nat → Nat → Int32) (h : fX11_gossip n errors h_weight h_known h_hour h_swS h_swW h_waS h_spoons h_kind h_mark h_silver h_fresh h_texts t_weight t_known t_hour t_swS t_swW t_waS t_spoons t_kind t_mark t_silver t_fresh t_texts L tx tst = some (rR, errorsR, t_weightR, t_knownR, t_hourR, t_swSR, t_swWR, t_waSR, t_spoonsR, t_kindR, t_markR, t_silverR, t_freshR, t_textsR, tstR)) : Met l yX11_gossip wsX11_gossip ({ frames := 6, cells := 0, slots := 0, locals := 141 } : Room) (PW G D (tyC cA) sz (wX cA xd vd sd nd hd td ed kd images errors fewest vspoon vmark vcount vbodies sbits slens snum h_weight h_known h_hour h_swS h_swW h_waS h_spoons h_kind h_mark h_silver h_fresh h_texts h_tape h_tapeCount h_z h_waiting h_waitingCount t_weight t_known t_hour t_swS t_swW t_waS t_spoons t_kind t_mark t_silver t_fresh t_texts t_tape t_tapeCount t_z t_waiting t_waitingCount e_weight e_known e_hour e_swS e_swW e_waS e_spoons e_kind e_mark e_silver e_fresh e_texts e_tape e_tapeCount e_z e_waiting e_waitingCount L tx tst) [.ref (xd 0), .int n]) (QI D (tyC cA) (va_A (wX cA xd vd sd nd hd td ed kd images errors fewest vspoon vmark vcount vbodies sbits slens snum h_weight h_known h_hour h_swS h_swW h_waS h_spoons h_kind h_mark h_silver h_fresh h_texts h_tape h_tapeCount h_z h_waiting h_waitingCount t_weight t_known t_hour t_swS t_swW t_waS t_spoons t_kind t_mark t_silver t_fresh t_texts t_tape t_tapeCount t_z t_waiting t_waitingCount e_weight e_known e_hour e_swS e_swW e_waS e_spoons e_kind e_mark e_silver e_fresh e_texts e_tape e_tapeCount e_z e_waiting e_waitingCount L tx tst) sz) rR (wX cA xd vd sd nd hd td ed kd images errorsR fewest vspoon vmark vcount vbodies sbits slens snum h_weight h_known h_hour h_swS h_swW h_waS h_spoons h_kind h_mark h_silver h_fresh h_texts h_tape h_tapeCount h_z h_waiting h_waitingCount t_weightR t_knownR t_hourR t_swSR t_swWR t_waSR t_spoonsR t_kindR t_markR t_silverR t_freshR t_textsR t_tape t_tapeCount t_z t_waiting t_waitingCount e_weight e_known e_hour e_swS e_swW e_waS e_spoons e_kind e_mark e_silver e_fresh e_texts e_tape e_tapeCount e_z e_waiting e_waitingCount L tx tstR)) 0 0 (va_A (wX cA xd vd sd nd hd td ed kd images errors fewest vspoon vmark vcount vbodies sbits slens snum h_weight h_known h_hour h_swS h_swW h_waS h_spoons h_kind h_mark h_silver h_fresh h_texts h_tape h_tapeCount h_z h_waiting h_waitingCount t_weight t_known t_hour t_swS t_swW t_waS t_spoons t_kind t_mark t_silver t_fresh t_texts t_tape t_tapeCount t_z t_waiting t_waitingCount e_weight e_known e_hour e_swS e_swW e_waS e_spoons e_kind e_mark e_silver e_fresh e_texts e_tape e_tapeCount e_z e_waiting e_waitingCount L tx tst) sz) := by
  refine ent (cc := cX11_gossip) (maxL := 2) (ret := (some .int)) (fun A => QI D (tyC cA) A rR (wX cA xd vd sd nd hd td ed kd images errorsR fewest vspoon vmark vcount vbodies sbits slens snum h_weight h_known h_hour h_swS h_swW h_waS h_spoons h_kind h_mark h_silver h_fresh h_texts h_tape h_tapeCount h_z h_waiting h_waitingCount t_weightR t_knownR t_hourR t_swSR t_swWR t_waSR t_spoonsR t_kindR t_markR t_silverR t_freshR t_textsR t_tape t_tapeCount t_z t_waiting t_waitingCount e_weight e_known e_hour e_swS e_swW e_waS e_spoons e_kind e_mark e_silver e_fresh e_texts e_tape e_tapeCount e_z e_waiting e_waitingCount L tx tstR)) (by decide +kernel) rfl (Nat.le_of_ble_eq_true rfl) ?_
  intro p e s m args below meth c A ls H hx hb hml hr hlk hts hown hA hK hE hP hD hS hv hmm
  have hv : lv_has ls 2 [(0, .ref (xd 0)), (1, .int n)] := hv
  have in_3 : ∀ w ∈ u_ws RX3 TX3 18, w ∈ wsX11_gossip := fun _ h => List.mem_cons_of_mem _ (List.mem_append_left _ (List.mem_append_right _ h))
  have in_11 : ∀ w ∈ u_ws RX11 TX11 9, w ∈ wsX11_gossip := fun _ h => List.mem_cons_of_mem _ (List.mem_append_left _ (List.mem_append_left _ (List.mem_append_right _ h)))
  have w_0 := hts (.fieldLink RX11 43 "SpoonsLast" "thought" "LSpoonsLast$House;") (List.mem_of_getElem? (i := 2) rfl)
  have w_1 := hts (.fieldLink RX11 39 "SpoonsLast" "house" "LSpoonsLast$House;") (List.mem_of_getElem? (i := 3) rfl)
  have w_2 := hts (.fieldLink RX11 86 "SpoonsLast$House" "known" "I") (List.mem_of_getElem? (i := 4) rfl)
  have w_3 := hts (.constant RX11 78 (-1000000001)) (List.mem_of_getElem? (i := 1) rfl)
  generalize hQ : MQ below _ args s 0 0 A = Q
  have hP : va_P D vwCl (wX cA xd vd sd nd hd td ed kd images errors fewest vspoon vmark vcount vbodies sbits slens snum h_weight h_known h_hour h_swS h_swW h_waS h_spoons h_kind h_mark h_silver h_fresh h_texts h_tape h_tapeCount h_z h_waiting h_waitingCount t_weight t_known t_hour t_swS t_swW t_waS t_spoons t_kind t_mark t_silver t_fresh t_texts t_tape t_tapeCount t_z t_waiting t_waitingCount e_weight e_known e_hour e_swS e_swW e_waS e_spoons e_kind e_mark e_silver e_fresh e_texts e_tape e_tapeCount e_z e_waiting e_waitingCount L tx tst) H := hP
  unfold fX11_gossip at h
  refine lv_iload_n hx hb dX11_gossip_0 rfl (lv_at hv 1 rfl) ?_
  obtain ⟨r_1, hf_2, h⟩ := bd_ex h
  have sb := Sb.nil hP hD hS hA
  refine calI (va_runS (As := [.int n]) (rest := []) ⟨hx, hb, hml, hown, hts⟩ (c_X11_isBehind l G D cA  _ n r_1 hf_2) (va_cwS 1 hts gX11_gossip_X11_isBehind rfl rfl rfl (by decide +kernel) ⟨Nat.le_of_ble_eq_true rfl, Nat.le_of_ble_eq_true rfl⟩) (pvS hE hK hS sb) rfl rfl hv.1 rfl (lv_room (Nat.le_of_ble_eq_true rfl)) dX11_gossip_1 ⟨Nat.le_of_ble_eq_true rfl, Nat.le_of_ble_eq_true rfl⟩) hS sb (Jn.nil hP hD) (fun H locs hP hD hS => ?_)
  have hP : va_P D vwCl (wX cA xd vd sd nd hd td ed kd images errors fewest vspoon vmark vcount vbodies sbits slens snum h_weight h_known h_hour h_swS h_swW h_waS h_spoons h_kind h_mark h_silver h_fresh h_texts h_tape h_tapeCount h_z h_waiting h_waitingCount t_weight t_known t_hour t_swS t_swW t_waS t_spoons t_kind t_mark t_silver t_fresh t_texts t_tape t_tapeCount t_z t_waiting t_waitingCount e_weight e_known e_hour e_swS e_swW e_waS e_spoons e_kind e_mark e_silver e_fresh e_texts e_tape e_tapeCount e_z e_waiting e_waitingCount L tx tst) H := hP
  have hD : va_D A (wX cA xd vd sd nd hd td ed kd images errors fewest vspoon vmark vcount vbodies sbits slens snum h_weight h_known h_hour h_swS h_swW h_waS h_spoons h_kind h_mark h_silver h_fresh h_texts h_tape h_tapeCount h_z h_waiting h_waitingCount t_weight t_known t_hour t_swS t_swW t_waS t_spoons t_kind t_mark t_silver t_fresh t_texts t_tape t_tapeCount t_z t_waiting t_waitingCount e_weight e_known e_hour e_swS e_swW e_waS e_spoons e_kind e_mark e_silver e_fresh e_texts e_tape e_tapeCount e_z e_waiting e_waitingCount L tx tst) := hD
  refine lv_if_ne (tgt := 14) hx hb dX11_gossip_4 (by decide) (fun c_3 => ?_) (fun c_3 => ?_)
  · have h := ite_f c_3 h
    refine lv_aload_n hx hb dX11_gossip_14 rfl (lv_at hv 0 rfl) ?_
    refine va_get (D := D) (ci := 11) (v := .ref (td 0)) (C := RX11) (T := TX11) (N := 9) hx hb hts in_11 hown hK hP 0 rfl rfl 1 (by decide) w_0 (fun _ h9 => h9) rfl dX11_gossip_15 ?_
    refine lv_aload_n hx hb dX11_gossip_18 rfl (lv_at hv 0 rfl) ?_
    refine va_get (D := D) (ci := 11) (v := .ref (hd 0)) (C := RX11) (T := TX11) (N := 9) hx hb hts in_11 hown hK hP 0 rfl rfl 0 (by decide) w_1 (fun _ h9 => h9) rfl dX11_gossip_19 ?_
    obtain ⟨⟨t_weight_4, t_known_5, t_hour_6, t_swS_7, t_swW_8, t_waS_9, t_spoons_10, t_kind_11, t_mark_12, t_silver_13, t_fresh_14, t_texts_15⟩, hf_16, h⟩ := bd_ex h
    have sb : Sb D A H (wHH cA td hd kd t_weight t_known t_hour t_swS t_swW t_waS t_spoons t_kind t_mark t_silver t_fresh t_texts t_tape t_tapeCount t_z t_waiting t_waitingCount h_weight h_known h_hour h_swS h_swW h_waS h_spoons h_kind h_mark h_silver h_fresh h_texts h_tape h_tapeCount h_z h_waiting h_waitingCount L tx tst) := sbXth hP hD hS hA
    refine calV (va_runV (As := [.ref (hd 0)]) (rest := []) ⟨hx, hb, hml, hown, hts⟩ (c_X3_follow l G D cA td hd kd _ t_weight t_known t_hour t_swS t_swW t_waS t_spoons t_kind t_mark t_silver t_fresh t_texts t_tape t_tapeCount t_z t_waiting t_waitingCount h_weight h_known h_hour h_swS h_swW h_waS h_spoons h_kind h_mark h_silver h_fresh h_texts h_tape h_tapeCount h_z h_waiting h_waitingCount L tx tst t_weight_4 t_known_5 t_hour_6 t_swS_7 t_swW_8 t_waS_9 t_spoons_10 t_kind_11 t_mark_12 t_silver_13 t_fresh_14 t_texts_15 hf_16) (cwV 1 hts gX11_gossip_X3_follow rfl rfl rfl (by decide +kernel) ⟨Nat.le_of_ble_eq_true rfl, Nat.le_of_ble_eq_true rfl⟩) (pvV hE hK hS sb (va_recv hK hP (ci := 3) (q0 := 26) rfl rfl)) rfl rfl hv.1 rfl (lv_room (Nat.le_of_ble_eq_true rfl)) dX11_gossip_22 ⟨Nat.le_of_ble_eq_true rfl, Nat.le_of_ble_eq_true rfl⟩) hS sb (jnXth hP hD) (fun H locs hP hD hS => ?_)
    have hP : va_P D vwCl (wX cA xd vd sd nd hd td ed kd images errors fewest vspoon vmark vcount vbodies sbits slens snum h_weight h_known h_hour h_swS h_swW h_waS h_spoons h_kind h_mark h_silver h_fresh h_texts h_tape h_tapeCount h_z h_waiting h_waitingCount t_weight_4 t_known_5 t_hour_6 t_swS_7 t_swW_8 t_waS_9 t_spoons_10 t_kind_11 t_mark_12 t_silver_13 t_fresh_14 t_texts_15 t_tape t_tapeCount t_z t_waiting t_waitingCount e_weight e_known e_hour e_swS e_swW e_waS e_spoons e_kind e_mark e_silver e_fresh e_texts e_tape e_tapeCount e_z e_waiting e_waitingCount L tx tst) H := hP
    have hD : va_D A (wX cA xd vd sd nd hd td ed kd images errors fewest vspoon vmark vcount vbodies sbits slens snum h_weight h_known h_hour h_swS h_swW h_waS h_spoons h_kind h_mark h_silver h_fresh h_texts h_tape h_tapeCount h_z h_waiting h_waitingCount t_weight_4 t_known_5 t_hour_6 t_swS_7 t_swW_8 t_waS_9 t_spoons_10 t_kind_11 t_mark_12 t_silver_13 t_fresh_14 t_texts_15 t_tape t_tapeCount t_z t_waiting t_waitingCount e_weight e_known e_hour e_swS e_swW e_waS e_spoons e_kind e_mark e_silver e_fresh e_texts e_tape e_tapeCount e_z e_waiting e_waitingCount L tx tst) := hD
    refine lv_aload_n hx hb dX11_gossip_25 rfl (lv_at hv 0 rfl) ?_
    refine va_get (D := D) (ci := 11) (v := .ref (td 0)) (C := RX11) (T := TX11) (N := 9) hx hb hts in_11 hown hK hP 0 rfl rfl 1 (by decide) w_0 (fun _ h9 => h9) rfl dX11_gossip_26 ?_
    refine lv_iload_n hx hb dX11_gossip_29 rfl (lv_at hv 1 rfl) ?_
    obtain ⟨⟨t_known_17, t_hour_18, t_silver_19, t_fresh_20, tst_21⟩, hf_22, h⟩ := bd_ex h
    have sb : Sb D A H (wH cA td kd t_weight_4 t_known_5 t_hour_6 t_swS_7 t_swW_8 t_waS_9 t_spoons_10 t_kind_11 t_mark_12 t_silver_13 t_fresh_14 t_texts_15 t_tape t_tapeCount t_z t_waiting t_waitingCount L tx tst) := sbXt hP hD hS hA
    refine calV (va_runV (As := [.int n]) (rest := []) ⟨hx, hb, hml, hown, hts⟩ (c_X3_passHours l G D cA td kd _ t_weight_4 t_known_5 t_hour_6 t_swS_7 t_swW_8 t_waS_9 t_spoons_10 t_kind_11 t_mark_12 t_silver_13 t_fresh_14 t_texts_15 t_tape t_tapeCount t_z t_waiting t_waitingCount L tx tst n t_known_17 t_hour_18 t_silver_19 t_fresh_20 tst_21 hf_22) (cwV 1 hts gX11_gossip_X3_passHours rfl rfl rfl (by decide +kernel) ⟨Nat.le_of_ble_eq_true rfl, Nat.le_of_ble_eq_true rfl⟩) (pvV hE hK hS sb (va_recv hK hP (ci := 3) (q0 := 26) rfl rfl)) rfl rfl hv.1 rfl (lv_room (Nat.le_of_ble_eq_true rfl)) dX11_gossip_30 ⟨Nat.le_of_ble_eq_true rfl, Nat.le_of_ble_eq_true rfl⟩) hS sb (jnXt hP hD) (fun H locs hP hD hS => ?_)
    have hP : va_P D vwCl (wX cA xd vd sd nd hd td ed kd images errors fewest vspoon vmark vcount vbodies sbits slens snum h_weight h_known h_hour h_swS h_swW h_waS h_spoons h_kind h_mark h_silver h_fresh h_texts h_tape h_tapeCount h_z h_waiting h_waitingCount t_weight_4 t_known_17 t_hour_18 t_swS_7 t_swW_8 t_waS_9 t_spoons_10 t_kind_11 t_mark_12 t_silver_19 t_fresh_20 t_texts_15 t_tape t_tapeCount t_z t_waiting t_waitingCount e_weight e_known e_hour e_swS e_swW e_waS e_spoons e_kind e_mark e_silver e_fresh e_texts e_tape e_tapeCount e_z e_waiting e_waitingCount L tx tst_21) H := hP
    have hD : va_D A (wX cA xd vd sd nd hd td ed kd images errors fewest vspoon vmark vcount vbodies sbits slens snum h_weight h_known h_hour h_swS h_swW h_waS h_spoons h_kind h_mark h_silver h_fresh h_texts h_tape h_tapeCount h_z h_waiting h_waitingCount t_weight_4 t_known_17 t_hour_18 t_swS_7 t_swW_8 t_waS_9 t_spoons_10 t_kind_11 t_mark_12 t_silver_19 t_fresh_20 t_texts_15 t_tape t_tapeCount t_z t_waiting t_waitingCount e_weight e_known e_hour e_swS e_swW e_waS e_spoons e_kind e_mark e_silver e_fresh e_texts e_tape e_tapeCount e_z e_waiting e_waitingCount L tx tst_21) := hD
    refine lv_aload_n hx hb dX11_gossip_33 rfl (lv_at hv 0 rfl) ?_
    refine va_get (D := D) (ci := 11) (v := .ref (td 0)) (C := RX11) (T := TX11) (N := 9) hx hb hts in_11 hown hK hP 0 rfl rfl 1 (by decide) w_0 (fun _ h9 => h9) rfl dX11_gossip_34 ?_
    refine lv_aload_n hx hb dX11_gossip_37 rfl (lv_at hv 0 rfl) ?_
    refine va_get (D := D) (ci := 11) (v := .ref (td 0)) (C := RX11) (T := TX11) (N := 9) hx hb hts in_11 hown hK hP 0 rfl rfl 1 (by decide) w_0 (fun _ h9 => h9) rfl dX11_gossip_38 ?_
    refine va_get (D := D) (ci := 3) (v := .int t_known_17) (C := RX3) (T := TX3) (N := 18) hx hb hts in_3 hown hK hP 26 rfl rfl 2 (by decide) w_2 (fun _ h9 => h9) rfl dX11_gossip_41 ?_
    obtain ⟨r_23, hf_24, h⟩ := bd_ex h
    have sb : Sb D A H (wH cA td kd t_weight_4 t_known_17 t_hour_18 t_swS_7 t_swW_8 t_waS_9 t_spoons_10 t_kind_11 t_mark_12 t_silver_19 t_fresh_20 t_texts_15 t_tape t_tapeCount t_z t_waiting t_waitingCount L tx tst_21) := sbXt hP hD hS hA
    refine calI (va_runV (As := [.int t_known_17]) (rest := []) ⟨hx, hb, hml, hown, hts⟩ (c_X3_weightOf l G D cA td kd _ t_weight_4 t_known_17 t_hour_18 t_swS_7 t_swW_8 t_waS_9 t_spoons_10 t_kind_11 t_mark_12 t_silver_19 t_fresh_20 t_texts_15 t_tape t_tapeCount t_z t_waiting t_waitingCount L tx tst_21 t_known_17 r_23 hf_24) (cwV 1 hts gX11_gossip_X3_weightOf rfl rfl rfl (by decide +kernel) ⟨Nat.le_of_ble_eq_true rfl, Nat.le_of_ble_eq_true rfl⟩) (pvV hE hK hS sb (va_recv hK hP (ci := 3) (q0 := 26) rfl rfl)) rfl rfl hv.1 rfl (lv_room (Nat.le_of_ble_eq_true rfl)) dX11_gossip_44 ⟨Nat.le_of_ble_eq_true rfl, Nat.le_of_ble_eq_true rfl⟩) hS sb (jnXt hP hD) (fun H locs hP hD hS => ?_)
    have hP : va_P D vwCl (wX cA xd vd sd nd hd td ed kd images errors fewest vspoon vmark vcount vbodies sbits slens snum h_weight h_known h_hour h_swS h_swW h_waS h_spoons h_kind h_mark h_silver h_fresh h_texts h_tape h_tapeCount h_z h_waiting h_waitingCount t_weight_4 t_known_17 t_hour_18 t_swS_7 t_swW_8 t_waS_9 t_spoons_10 t_kind_11 t_mark_12 t_silver_19 t_fresh_20 t_texts_15 t_tape t_tapeCount t_z t_waiting t_waitingCount e_weight e_known e_hour e_swS e_swW e_waS e_spoons e_kind e_mark e_silver e_fresh e_texts e_tape e_tapeCount e_z e_waiting e_waitingCount L tx tst_21) H := hP
    have hD : va_D A (wX cA xd vd sd nd hd td ed kd images errors fewest vspoon vmark vcount vbodies sbits slens snum h_weight h_known h_hour h_swS h_swW h_waS h_spoons h_kind h_mark h_silver h_fresh h_texts h_tape h_tapeCount h_z h_waiting h_waitingCount t_weight_4 t_known_17 t_hour_18 t_swS_7 t_swW_8 t_waS_9 t_spoons_10 t_kind_11 t_mark_12 t_silver_19 t_fresh_20 t_texts_15 t_tape t_tapeCount t_z t_waiting t_waitingCount e_weight e_known e_hour e_swS e_swW e_waS e_spoons e_kind e_mark e_silver e_fresh e_texts e_tape e_tapeCount e_z e_waiting e_waitingCount L tx tst_21) := hD
    have h := Option.some.inj h
    have ee0 : r_23 = rR := congrArg (fun q => q.1) h
    have ee1 : errors = errorsR := congrArg (fun q => q.2.1) h
    have ee2 : t_weight_4 = t_weightR := congrArg (fun q => q.2.2.1) h
    have ee3 : t_known_17 = t_knownR := congrArg (fun q => q.2.2.2.1) h
    have ee4 : t_hour_18 = t_hourR := congrArg (fun q => q.2.2.2.2.1) h
    have ee5 : t_swS_7 = t_swSR := congrArg (fun q => q.2.2.2.2.2.1) h
    have ee6 : t_swW_8 = t_swWR := congrArg (fun q => q.2.2.2.2.2.2.1) h
    have ee7 : t_waS_9 = t_waSR := congrArg (fun q => q.2.2.2.2.2.2.2.1) h
    have ee8 : t_spoons_10 = t_spoonsR := congrArg (fun q => q.2.2.2.2.2.2.2.2.1) h
    have ee9 : t_kind_11 = t_kindR := congrArg (fun q => q.2.2.2.2.2.2.2.2.2.1) h
    have ee10 : t_mark_12 = t_markR := congrArg (fun q => q.2.2.2.2.2.2.2.2.2.2.1) h
    have ee11 : t_silver_19 = t_silverR := congrArg (fun q => q.2.2.2.2.2.2.2.2.2.2.2.1) h
    have ee12 : t_fresh_20 = t_freshR := congrArg (fun q => q.2.2.2.2.2.2.2.2.2.2.2.2.1) h
    have ee13 : t_texts_15 = t_textsR := congrArg (fun q => q.2.2.2.2.2.2.2.2.2.2.2.2.2.1) h
    have ee14 : tst_21 = tstR := congrArg (fun q => q.2.2.2.2.2.2.2.2.2.2.2.2.2.2) h
    subst ee0
    subst ee1
    subst ee2
    subst ee3
    subst ee4
    subst ee5
    subst ee6
    subst ee7
    subst ee8
    subst ee9
    subst ee10
    subst ee11
    subst ee12
    subst ee13
    subst ee14
    rw [← hQ]
    exact retI hx hb hr hlk hK hP hD hS dX11_gossip_47 ⟨Nat.le_of_ble_eq_true rfl, Nat.le_of_ble_eq_true rfl⟩
  · have h := ite_t c_3 h
    refine lv_aload_n hx hb dX11_gossip_7 rfl (lv_at hv 0 rfl) ?_
    refine lv_ldc (v := (-1000000001 : Int32)) hx hb hown w_3 dX11_gossip_8 ?_
    obtain ⟨⟨r_25, errors_26⟩, hf_27, h⟩ := bd_ex h
    have sb := Sb.same hP hD hS hA
    refine calI (va_runV (As := [.int (-1000000001 : Int32)]) (rest := []) ⟨hx, hb, hml, hown, hts⟩ (c_X11_refused l G D cA xd vd sd nd hd td ed kd _ images errors fewest vspoon vmark vcount vbodies sbits slens snum h_weight h_known h_hour h_swS h_swW h_waS h_spoons h_kind h_mark h_silver h_fresh h_texts h_tape h_tapeCount h_z h_waiting h_waitingCount t_weight t_known t_hour t_swS t_swW t_waS t_spoons t_kind t_mark t_silver t_fresh t_texts t_tape t_tapeCount t_z t_waiting t_waitingCount e_weight e_known e_hour e_swS e_swW e_waS e_spoons e_kind e_mark e_silver e_fresh e_texts e_tape e_tapeCount e_z e_waiting e_waitingCount L tx tst (-1000000001 : Int32) r_25 errors_26 hf_27) (cwV 1 hts gX11_gossip_X11_refused rfl rfl rfl (by decide +kernel) ⟨Nat.le_of_ble_eq_true rfl, Nat.le_of_ble_eq_true rfl⟩) (pvV hE hK hS sb (va_recv hK hP (ci := 11) (q0 := 0) rfl rfl)) rfl rfl hv.1 rfl (lv_room (Nat.le_of_ble_eq_true rfl)) dX11_gossip_10 ⟨Nat.le_of_ble_eq_true rfl, Nat.le_of_ble_eq_true rfl⟩) hS sb (Jn.same sb) (fun H locs hP hD hS => ?_)
    have hP : va_P D vwCl (wX cA xd vd sd nd hd td ed kd images errors_26 fewest vspoon vmark vcount vbodies sbits slens snum h_weight h_known h_hour h_swS h_swW h_waS h_spoons h_kind h_mark h_silver h_fresh h_texts h_tape h_tapeCount h_z h_waiting h_waitingCount t_weight t_known t_hour t_swS t_swW t_waS t_spoons t_kind t_mark t_silver t_fresh t_texts t_tape t_tapeCount t_z t_waiting t_waitingCount e_weight e_known e_hour e_swS e_swW e_waS e_spoons e_kind e_mark e_silver e_fresh e_texts e_tape e_tapeCount e_z e_waiting e_waitingCount L tx tst) H := hP
    have hD : va_D A (wX cA xd vd sd nd hd td ed kd images errors_26 fewest vspoon vmark vcount vbodies sbits slens snum h_weight h_known h_hour h_swS h_swW h_waS h_spoons h_kind h_mark h_silver h_fresh h_texts h_tape h_tapeCount h_z h_waiting h_waitingCount t_weight t_known t_hour t_swS t_swW t_waS t_spoons t_kind t_mark t_silver t_fresh t_texts t_tape t_tapeCount t_z t_waiting t_waitingCount e_weight e_known e_hour e_swS e_swW e_waS e_spoons e_kind e_mark e_silver e_fresh e_texts e_tape e_tapeCount e_z e_waiting e_waitingCount L tx tst) := hD
    have h := Option.some.inj h
    have ee0 : r_25 = rR := congrArg (fun q => q.1) h
    have ee1 : errors_26 = errorsR := congrArg (fun q => q.2.1) h
    have ee2 : t_weight = t_weightR := congrArg (fun q => q.2.2.1) h
    have ee3 : t_known = t_knownR := congrArg (fun q => q.2.2.2.1) h
    have ee4 : t_hour = t_hourR := congrArg (fun q => q.2.2.2.2.1) h
    have ee5 : t_swS = t_swSR := congrArg (fun q => q.2.2.2.2.2.1) h
    have ee6 : t_swW = t_swWR := congrArg (fun q => q.2.2.2.2.2.2.1) h
    have ee7 : t_waS = t_waSR := congrArg (fun q => q.2.2.2.2.2.2.2.1) h
    have ee8 : t_spoons = t_spoonsR := congrArg (fun q => q.2.2.2.2.2.2.2.2.1) h
    have ee9 : t_kind = t_kindR := congrArg (fun q => q.2.2.2.2.2.2.2.2.2.1) h
    have ee10 : t_mark = t_markR := congrArg (fun q => q.2.2.2.2.2.2.2.2.2.2.1) h
    have ee11 : t_silver = t_silverR := congrArg (fun q => q.2.2.2.2.2.2.2.2.2.2.2.1) h
    have ee12 : t_fresh = t_freshR := congrArg (fun q => q.2.2.2.2.2.2.2.2.2.2.2.2.1) h
    have ee13 : t_texts = t_textsR := congrArg (fun q => q.2.2.2.2.2.2.2.2.2.2.2.2.2.1) h
    have ee14 : tst = tstR := congrArg (fun q => q.2.2.2.2.2.2.2.2.2.2.2.2.2.2) h
    subst ee0
    subst ee1
    subst ee2
    subst ee3
    subst ee4
    subst ee5
    subst ee6
    subst ee7
    subst ee8
    subst ee9
    subst ee10
    subst ee11
    subst ee12
    subst ee13
    subst ee14
    rw [← hQ]
    exact retI hx hb hr hlk hK hP hD hS dX11_gossip_13 ⟨Nat.le_of_ble_eq_true rfl, Nat.le_of_ble_eq_true rfl⟩

def fX11_much_19B (v1_19 : Int32) (errors_19 : Nat → Int32) (h_spoons : Int32) (h_fresh : Nat → Int64) (v2_19b : Int32) (v3_19b : Int32) : Option ((Int32 × Int32) ⊕ (Int32 × Int32)) :=
  (if (12 : Int32) ≤ v3_19b then some (.inr (v2_19b, v3_19b)) else ckI v1_19 8 (bd (fX3_freshIn (h_fresh (v1_19).toNatClampNeg) v3_19b) fun r_6 => bnd (jmax v2_19b r_6) fun y_8 => bnd (v3_19b + (1 : Int32)) fun y_9 => some (.inl (y_8, y_9))))
def fX11_much_19 (v1_19 : Int32) (v2_19 : Int32) (v3_19 : Int32) (errors_19 : Nat → Int32) (h_spoons : Int32) (h_fresh : Nat → Int64) : Option (Int32 × (Nat → Int32)) :=
  bd (lp (fun σ : Int32 × Int32 => fX11_much_19B v1_19 errors_19 h_spoons h_fresh (σ.1) (σ.2)) FU (v2_19, v3_19)) fun ρ => match ρ with | (v2_19r, v3_19r) => some (v2_19r, errors_19)
def fX11_much (a : Int32) (errors : Nat → Int32) (h_spoons : Int32) (h_fresh : Nat → Int64) : Option (Int32 × (Nat → Int32)) :=
  bd (fX11_isSpoon a h_spoons) fun r_1 => (if r_1 = 0 then bd (fX11_refused (-1000000001 : Int32) errors) fun (r_10, errors_11) => some (r_10, errors_11) else fX11_much_19 a (0 : Int32) (0 : Int32) errors h_spoons h_fresh)
set_option maxHeartbeats 4000000 in
set_option maxRecDepth 100000 in
theorem c_X11_much (l : Launch) (G : Nat → Nat) (D : va_G) (cA : Nat → ClassId) (xd : Nat → Nat) (vd : Nat → Nat) (sd : Nat → Nat) (nd : Nat → Nat) (hd : Nat → Nat) (td : Nat → Nat) (ed : Nat → Nat) (kd : Nat → Nat) (sz : Nat) (images : Int32) (errors : Nat → Int32) (fewest : Nat → Int32) (vspoon : Int32) (vmark : Int32) (vcount : Int32) (vbodies : Nat → Int32) (sbits : Nat → Int32) (slens : Nat → Int32) (snum : Nat → Nat → Int32) (h_weight : Nat → Int32) (h_known : Int32) (h_hour : Int32) (h_swS : Nat → Int32) (h_swW : Nat → Int32) (h_waS : Nat → Int32) (h_spoons : Int32) (h_kind : Nat → Int32) (h_mark : Nat → Int32) (h_silver : Nat → Int32) (h_fresh : Nat → Int64) (h_texts : Nat → Option Nat) (h_tape : Nat → Int32) (h_tapeCount : Int32) (h_z : Int32) (h_waiting : Nat → Int32) (h_waitingCount : Int32) (t_weight : Nat → Int32) (t_known : Int32) (t_hour : Int32) (t_swS : Nat → Int32) (t_swW : Nat → Int32) (t_waS : Nat → Int32) (t_spoons : Int32) (t_kind : Nat → Int32) (t_mark : Nat → Int32) (t_silver : Nat → Int32) (t_fresh : Nat → Int64) (t_texts : Nat → Option Nat) (t_tape : Nat → Int32) (t_tapeCount : Int32) (t_z : Int32) (t_waiting : Nat → Int32) (t_waitingCount : Int32) (e_weight : Nat → Int32) (e_known : Int32) (e_hour : Int32) (e_swS : Nat → Int32) (e_swW : Nat → Int32) (e_waS : Nat → Int32) (e_spoons : Int32) (e_kind : Nat → Int32) (e_mark : Nat → Int32) (e_silver : Nat → Int32) (e_fresh : Nat → Int64) (e_texts : Nat → Option Nat) (e_tape : Nat → Int32) (e_tapeCount : Int32) (e_z : Int32) (e_waiting : Nat → Int32) (e_waitingCount : Int32) (L : List Nat) (tx : Nat → TXc) (tst : Nat → Nat → Int32) (a : Int32) (rR : Int32) (errorsR : Nat → Int32) (h : fX11_much a errors h_spoons h_fresh = some (rR, errorsR)) : Met l yX11_much wsX11_much ({ frames := 2, cells := 0, slots := 0, locals := 43 } : Room) (PW G D (tyC cA) sz (wX cA xd vd sd nd hd td ed kd images errors fewest vspoon vmark vcount vbodies sbits slens snum h_weight h_known h_hour h_swS h_swW h_waS h_spoons h_kind h_mark h_silver h_fresh h_texts h_tape h_tapeCount h_z h_waiting h_waitingCount t_weight t_known t_hour t_swS t_swW t_waS t_spoons t_kind t_mark t_silver t_fresh t_texts t_tape t_tapeCount t_z t_waiting t_waitingCount e_weight e_known e_hour e_swS e_swW e_waS e_spoons e_kind e_mark e_silver e_fresh e_texts e_tape e_tapeCount e_z e_waiting e_waitingCount L tx tst) [.ref (xd 0), .int a]) (QI D (tyC cA) (va_A (wX cA xd vd sd nd hd td ed kd images errors fewest vspoon vmark vcount vbodies sbits slens snum h_weight h_known h_hour h_swS h_swW h_waS h_spoons h_kind h_mark h_silver h_fresh h_texts h_tape h_tapeCount h_z h_waiting h_waitingCount t_weight t_known t_hour t_swS t_swW t_waS t_spoons t_kind t_mark t_silver t_fresh t_texts t_tape t_tapeCount t_z t_waiting t_waitingCount e_weight e_known e_hour e_swS e_swW e_waS e_spoons e_kind e_mark e_silver e_fresh e_texts e_tape e_tapeCount e_z e_waiting e_waitingCount L tx tst) sz) rR (wX cA xd vd sd nd hd td ed kd images errorsR fewest vspoon vmark vcount vbodies sbits slens snum h_weight h_known h_hour h_swS h_swW h_waS h_spoons h_kind h_mark h_silver h_fresh h_texts h_tape h_tapeCount h_z h_waiting h_waitingCount t_weight t_known t_hour t_swS t_swW t_waS t_spoons t_kind t_mark t_silver t_fresh t_texts t_tape t_tapeCount t_z t_waiting t_waitingCount e_weight e_known e_hour e_swS e_swW e_waS e_spoons e_kind e_mark e_silver e_fresh e_texts e_tape e_tapeCount e_z e_waiting e_waitingCount L tx tst)) 0 0 (va_A (wX cA xd vd sd nd hd td ed kd images errors fewest vspoon vmark vcount vbodies sbits slens snum h_weight h_known h_hour h_swS h_swW h_waS h_spoons h_kind h_mark h_silver h_fresh h_texts h_tape h_tapeCount h_z h_waiting h_waitingCount t_weight t_known t_hour t_swS t_swW t_waS t_spoons t_kind t_mark t_silver t_fresh t_texts t_tape t_tapeCount t_z t_waiting t_waitingCount e_weight e_known e_hour e_swS e_swW e_waS e_spoons e_kind e_mark e_silver e_fresh e_texts e_tape e_tapeCount e_z e_waiting e_waitingCount L tx tst) sz) := by
  refine ent (cc := cX11_much) (maxL := 4) (ret := (some .int)) (fun A => QI D (tyC cA) A rR (wX cA xd vd sd nd hd td ed kd images errorsR fewest vspoon vmark vcount vbodies sbits slens snum h_weight h_known h_hour h_swS h_swW h_waS h_spoons h_kind h_mark h_silver h_fresh h_texts h_tape h_tapeCount h_z h_waiting h_waitingCount t_weight t_known t_hour t_swS t_swW t_waS t_spoons t_kind t_mark t_silver t_fresh t_texts t_tape t_tapeCount t_z t_waiting t_waitingCount e_weight e_known e_hour e_swS e_swW e_waS e_spoons e_kind e_mark e_silver e_fresh e_texts e_tape e_tapeCount e_z e_waiting e_waitingCount L tx tst)) (by decide +kernel) rfl (Nat.le_of_ble_eq_true rfl) ?_
  intro p e s m args below meth c A ls H hx hb hml hr hlk hts hown hA hK hE hP hD hS hv hmm
  have hv : lv_has ls 4 [(0, .ref (xd 0)), (1, .int a)] := hv
  have in_3 : ∀ w ∈ u_ws RX3 TX3 18, w ∈ wsX11_much := fun _ h => List.mem_cons_of_mem _ (List.mem_append_right _ h)
  have in_11 : ∀ w ∈ u_ws RX11 TX11 9, w ∈ wsX11_much := fun _ h => List.mem_cons_of_mem _ (List.mem_append_left _ (List.mem_append_right _ h))
  have w_0 := hts (.fieldLink RX11 39 "SpoonsLast" "house" "LSpoonsLast$House;") (List.mem_of_getElem? (i := 2) rfl)
  have w_1 := hts (.fieldLink RX11 124 "SpoonsLast$House" "fresh" "[J") (List.mem_of_getElem? (i := 3) rfl)
  have w_2 := hts (.methodLink RX11 230 Lib.Math.max.name) (List.mem_of_getElem? (i := 4) rfl)
  have w_3 := hts (.static Lib.Math.max.name) (List.mem_of_getElem? (i := 5) rfl)
  have w_4 := hts (.initialized "java/lang/Math") (List.mem_of_getElem? (i := 6) rfl)
  have w_5 := hts (.code Lib.Math.max.name Lib.Math.max.code 2 (some .int)) (List.mem_of_getElem? (i := 7) rfl)
  have w_6 := hts (.constant RX11 78 (-1000000001)) (List.mem_of_getElem? (i := 1) rfl)
  generalize hQ : MQ below _ args s 0 0 A = Q
  have C_19 : ∀ (v1_19 : Int32) (v2_19 : Int32) (v3_19 : Int32) (errors_19 : Nat → Int32), fX11_much_19 v1_19 v2_19 v3_19 errors_19 h_spoons h_fresh = some (rR, errorsR) → WW p l e ({ frames := 2, cells := 0, slots := 0, locals := 43 } : Room) s m args below meth c D A 0 0 Q (wX cA xd vd sd nd hd td ed kd images errors_19 fewest vspoon vmark vcount vbodies sbits slens snum h_weight h_known h_hour h_swS h_swW h_waS h_spoons h_kind h_mark h_silver h_fresh h_texts h_tape h_tapeCount h_z h_waiting h_waitingCount t_weight t_known t_hour t_swS t_swW t_waS t_spoons t_kind t_mark t_silver t_fresh t_texts t_tape t_tapeCount t_z t_waiting t_waitingCount e_weight e_known e_hour e_swS e_swW e_waS e_spoons e_kind e_mark e_silver e_fresh e_texts e_tape e_tapeCount e_z e_waiting e_waitingCount L tx tst) 4 [(0, .ref (xd 0)), (1, .int v1_19), (2, .int v2_19), (3, .int v3_19)] 19 [] := by
    intro v1_19 v2_19 v3_19 errors_19 h
    unfold fX11_much_19 at h
    obtain ⟨⟨v2_19r, v3_19r⟩, ho, h⟩ := bd_ex h
    have LE : WW p l e ({ frames := 2, cells := 0, slots := 0, locals := 43 } : Room) s m args below meth c D A 0 0 Q (wX cA xd vd sd nd hd td ed kd images errors_19 fewest vspoon vmark vcount vbodies sbits slens snum h_weight h_known h_hour h_swS h_swW h_waS h_spoons h_kind h_mark h_silver h_fresh h_texts h_tape h_tapeCount h_z h_waiting h_waitingCount t_weight t_known t_hour t_swS t_swW t_waS t_spoons t_kind t_mark t_silver t_fresh t_texts t_tape t_tapeCount t_z t_waiting t_waitingCount e_weight e_known e_hour e_swS e_swW e_waS e_spoons e_kind e_mark e_silver e_fresh e_texts e_tape e_tapeCount e_z e_waiting e_waitingCount L tx tst) 4 [(2, .int v2_19r)] 49 [] := by
      intro H locs ls hP hD hS hv
      refine lv_iload_n hx hb dX11_much_49 rfl (lv_at hv 0 rfl) ?_
      have h := Option.some.inj h
      have ee0 : v2_19r = rR := congrArg (fun q => q.1) h
      have ee1 : errors_19 = errorsR := congrArg (fun q => q.2) h
      subst ee0
      subst ee1
      rw [← hQ]
      exact retI hx hb hr hlk hK hP hD hS dX11_much_50 ⟨Nat.le_of_ble_eq_true rfl, Nat.le_of_ble_eq_true rfl⟩
    have LB : ∀ (nf : Nat) (v2_19b : Int32) (v3_19b : Int32), lp (fun σ : Int32 × Int32 => fX11_much_19B v1_19 errors_19 h_spoons h_fresh (σ.1) (σ.2)) nf (v2_19b, v3_19b) = some (v2_19r, v3_19r) → WW p l e ({ frames := 2, cells := 0, slots := 0, locals := 43 } : Room) s m args below meth c D A 0 0 Q (wX cA xd vd sd nd hd td ed kd images errors_19 fewest vspoon vmark vcount vbodies sbits slens snum h_weight h_known h_hour h_swS h_swW h_waS h_spoons h_kind h_mark h_silver h_fresh h_texts h_tape h_tapeCount h_z h_waiting h_waitingCount t_weight t_known t_hour t_swS t_swW t_waS t_spoons t_kind t_mark t_silver t_fresh t_texts t_tape t_tapeCount t_z t_waiting t_waitingCount e_weight e_known e_hour e_swS e_swW e_waS e_spoons e_kind e_mark e_silver e_fresh e_texts e_tape e_tapeCount e_z e_waiting e_waitingCount L tx tst) 4 [(0, .ref (xd 0)), (1, .int v1_19), (2, .int v2_19b), (3, .int v3_19b)] 19 [] := by
      intro nf
      induction nf with
      | zero => intro v2_19b v3_19b hl; cases hl
      | succ nf ih =>
        intro v2_19b v3_19b hl
        obtain ⟨x, h, hl⟩ := lp_ex hl
        have h : fX11_much_19B v1_19 errors_19 h_spoons h_fresh v2_19b v3_19b = some x := h
        unfold fX11_much_19B at h
        intro H locs ls hP hD hS hv
        refine lv_iload_n hx hb dX11_much_19 rfl (lv_at hv 3 rfl) ?_
        refine lv_bipush (v := (12 : Int32)) hx hb dX11_much_20 (by decide) ?_
        refine lv_icmp_ge (tgt := 49) hx hb dX11_much_22 (by decide) (fun c_4 => ?_) (fun c_4 => ?_)
        · have h := ite_t c_4 h
          cases h
          have hl : some (v2_19b, v3_19b) = some (v2_19r, v3_19r) := hl
          have hl := Option.some.inj hl
          have ee0 : v2_19b = v2_19r := congrArg (fun q => q.1) hl
          have ee1 : v3_19b = v3_19r := congrArg (fun q => q.2) hl
          subst ee0
          subst ee1
          exact LE _ _ _ hP hD hS (lv_sub hv [2] rfl)
        · have h := ite_f c_4 h
          refine lv_iload_n hx hb dX11_much_25 rfl (lv_at hv 2 rfl) ?_
          refine lv_aload_n hx hb dX11_much_26 rfl (lv_at hv 0 rfl) ?_
          refine va_get (D := D) (ci := 11) (v := .ref (hd 0)) (C := RX11) (T := TX11) (N := 9) hx hb hts in_11 hown hK hP 0 rfl rfl 0 (by decide) w_0 (fun _ h9 => h9) rfl dX11_much_27 ?_
          refine va_get (D := D) (ci := 3) (v := .ref (hd 12)) (C := RX3) (T := TX3) (N := 18) hx hb hts in_3 hown hK hP 14 rfl rfl 11 (by decide) w_1 (fun _ h9 => h9) rfl dX11_much_30 ?_
          refine lv_iload_n hx hb dX11_much_33 rfl (lv_at hv 1 rfl) ?_
          obtain ⟨c_5, h⟩ := ckI_ex h
          refine va_lald (D := D) hx hb hK hP 22 1 rfl rfl c_5 dX11_much_34 ?_
          refine lv_iload_n hx hb dX11_much_35 rfl (lv_at hv 3 rfl) ?_
          obtain ⟨r_6, hf_7, h⟩ := bd_ex h
          have sb := Sb.nil hP hD hS hA
          refine calI (va_runS (As := [.long (h_fresh (v1_19).toNatClampNeg), .int v3_19b]) (rest := [.int v2_19b]) ⟨hx, hb, hml, hown, hts⟩ (c_X3_freshIn l G D cA  _ (h_fresh (v1_19).toNatClampNeg) v3_19b r_6 hf_7) (va_cwS 2 hts gX11_much_X3_freshIn rfl rfl rfl (by decide +kernel) ⟨Nat.le_of_ble_eq_true rfl, Nat.le_of_ble_eq_true rfl⟩) (pvS hE hK hS sb) rfl rfl hv.1 rfl (lv_room (Nat.le_of_ble_eq_true rfl)) dX11_much_36 ⟨Nat.le_of_ble_eq_true rfl, Nat.le_of_ble_eq_true rfl⟩) hS sb (Jn.nil hP hD) (fun H locs hP hD hS => ?_)
          have hP : va_P D vwCl (wX cA xd vd sd nd hd td ed kd images errors_19 fewest vspoon vmark vcount vbodies sbits slens snum h_weight h_known h_hour h_swS h_swW h_waS h_spoons h_kind h_mark h_silver h_fresh h_texts h_tape h_tapeCount h_z h_waiting h_waitingCount t_weight t_known t_hour t_swS t_swW t_waS t_spoons t_kind t_mark t_silver t_fresh t_texts t_tape t_tapeCount t_z t_waiting t_waitingCount e_weight e_known e_hour e_swS e_swW e_waS e_spoons e_kind e_mark e_silver e_fresh e_texts e_tape e_tapeCount e_z e_waiting e_waitingCount L tx tst) H := hP
          have hD : va_D A (wX cA xd vd sd nd hd td ed kd images errors_19 fewest vspoon vmark vcount vbodies sbits slens snum h_weight h_known h_hour h_swS h_swW h_waS h_spoons h_kind h_mark h_silver h_fresh h_texts h_tape h_tapeCount h_z h_waiting h_waitingCount t_weight t_known t_hour t_swS t_swW t_waS t_spoons t_kind t_mark t_silver t_fresh t_texts t_tape t_tapeCount t_z t_waiting t_waitingCount e_weight e_known e_hour e_swS e_swW e_waS e_spoons e_kind e_mark e_silver e_fresh e_texts e_tape e_tapeCount e_z e_waiting e_waitingCount L tx tst) := hD
          refine va_mmax hx hb (hml.trans hv.1.symm) hown w_2 w_3 w_4 w_5 (Nat.le_of_ble_eq_true rfl) (Nat.le_of_ble_eq_true rfl) (Nat.le_of_ble_eq_true rfl) (Nat.le_of_ble_eq_true rfl) dX11_much_39 ?_
          obtain ⟨y_8, ey_8, h⟩ := bnd_ex h
          refine lv_nm ey_8 ?_
          refine lv_istore_n (lv' := [(2, .int y_8), (0, .ref (xd 0)), (1, .int v1_19), (3, .int v3_19b)]) hx hb dX11_much_42 rfl hv (by decide) rfl (fun ls hv => ?_)
          obtain ⟨y_9, ey_9, h⟩ := bnd_ex h
          refine lv_iinc (v := y_9) (lv' := [(3, .int y_9), (2, .int y_8), (0, .ref (xd 0)), (1, .int v1_19)]) hx hb dX11_much_43 hv (k := 3) rfl (by rw [ey_9]; rfl) (by decide) rfl (fun ls hv => ?_)
          refine lv_goto (tgt := 19) hx hb dX11_much_46 (by decide) ?_
          cases h
          exact ih y_8 y_9 hl _ _ _ hP hD hS (lv_sub hv [2, 3, 1, 0] rfl)
    exact LB FU v2_19 v3_19 ho
  have hP : va_P D vwCl (wX cA xd vd sd nd hd td ed kd images errors fewest vspoon vmark vcount vbodies sbits slens snum h_weight h_known h_hour h_swS h_swW h_waS h_spoons h_kind h_mark h_silver h_fresh h_texts h_tape h_tapeCount h_z h_waiting h_waitingCount t_weight t_known t_hour t_swS t_swW t_waS t_spoons t_kind t_mark t_silver t_fresh t_texts t_tape t_tapeCount t_z t_waiting t_waitingCount e_weight e_known e_hour e_swS e_swW e_waS e_spoons e_kind e_mark e_silver e_fresh e_texts e_tape e_tapeCount e_z e_waiting e_waitingCount L tx tst) H := hP
  unfold fX11_much at h
  refine lv_aload_n hx hb dX11_much_0 rfl (lv_at hv 0 rfl) ?_
  refine lv_iload_n hx hb dX11_much_1 rfl (lv_at hv 1 rfl) ?_
  obtain ⟨r_1, hf_2, h⟩ := bd_ex h
  have sb := Sb.same hP hD hS hA
  refine calI (va_runV (As := [.int a]) (rest := []) ⟨hx, hb, hml, hown, hts⟩ (c_X11_isSpoon l G D cA xd vd sd nd hd td ed kd _ images errors fewest vspoon vmark vcount vbodies sbits slens snum h_weight h_known h_hour h_swS h_swW h_waS h_spoons h_kind h_mark h_silver h_fresh h_texts h_tape h_tapeCount h_z h_waiting h_waitingCount t_weight t_known t_hour t_swS t_swW t_waS t_spoons t_kind t_mark t_silver t_fresh t_texts t_tape t_tapeCount t_z t_waiting t_waitingCount e_weight e_known e_hour e_swS e_swW e_waS e_spoons e_kind e_mark e_silver e_fresh e_texts e_tape e_tapeCount e_z e_waiting e_waitingCount L tx tst a r_1 hf_2) (cwV 1 hts gX11_much_X11_isSpoon rfl rfl rfl (by decide +kernel) ⟨Nat.le_of_ble_eq_true rfl, Nat.le_of_ble_eq_true rfl⟩) (pvV hE hK hS sb (va_recv hK hP (ci := 11) (q0 := 0) rfl rfl)) rfl rfl hv.1 rfl (lv_room (Nat.le_of_ble_eq_true rfl)) dX11_much_2 ⟨Nat.le_of_ble_eq_true rfl, Nat.le_of_ble_eq_true rfl⟩) hS sb (Jn.same sb) (fun H locs hP hD hS => ?_)
  have hP : va_P D vwCl (wX cA xd vd sd nd hd td ed kd images errors fewest vspoon vmark vcount vbodies sbits slens snum h_weight h_known h_hour h_swS h_swW h_waS h_spoons h_kind h_mark h_silver h_fresh h_texts h_tape h_tapeCount h_z h_waiting h_waitingCount t_weight t_known t_hour t_swS t_swW t_waS t_spoons t_kind t_mark t_silver t_fresh t_texts t_tape t_tapeCount t_z t_waiting t_waitingCount e_weight e_known e_hour e_swS e_swW e_waS e_spoons e_kind e_mark e_silver e_fresh e_texts e_tape e_tapeCount e_z e_waiting e_waitingCount L tx tst) H := hP
  have hD : va_D A (wX cA xd vd sd nd hd td ed kd images errors fewest vspoon vmark vcount vbodies sbits slens snum h_weight h_known h_hour h_swS h_swW h_waS h_spoons h_kind h_mark h_silver h_fresh h_texts h_tape h_tapeCount h_z h_waiting h_waitingCount t_weight t_known t_hour t_swS t_swW t_waS t_spoons t_kind t_mark t_silver t_fresh t_texts t_tape t_tapeCount t_z t_waiting t_waitingCount e_weight e_known e_hour e_swS e_swW e_waS e_spoons e_kind e_mark e_silver e_fresh e_texts e_tape e_tapeCount e_z e_waiting e_waitingCount L tx tst) := hD
  refine lv_if_ne (tgt := 15) hx hb dX11_much_5 (by decide) (fun c_3 => ?_) (fun c_3 => ?_)
  · have h := ite_f c_3 h
    refine lv_iconst (v := (0 : Int32)) hx hb dX11_much_15 (by decide) ?_
    refine lv_istore_n (lv' := [(2, .int (0 : Int32)), (0, .ref (xd 0)), (1, .int a)]) hx hb dX11_much_16 rfl hv (by decide) rfl (fun ls hv => ?_)
    refine lv_iconst (v := (0 : Int32)) hx hb dX11_much_17 (by decide) ?_
    refine lv_istore_n (lv' := [(3, .int (0 : Int32)), (2, .int (0 : Int32)), (0, .ref (xd 0)), (1, .int a)]) hx hb dX11_much_18 rfl hv (by decide) rfl (fun ls hv => ?_)
    exact C_19 a (0 : Int32) (0 : Int32) errors h _ _ _ hP hD hS (lv_sub hv [2, 3, 1, 0] rfl)
  · have h := ite_t c_3 h
    refine lv_aload_n hx hb dX11_much_8 rfl (lv_at hv 0 rfl) ?_
    refine lv_ldc (v := (-1000000001 : Int32)) hx hb hown w_6 dX11_much_9 ?_
    obtain ⟨⟨r_10, errors_11⟩, hf_12, h⟩ := bd_ex h
    have sb := Sb.same hP hD hS hA
    refine calI (va_runV (As := [.int (-1000000001 : Int32)]) (rest := []) ⟨hx, hb, hml, hown, hts⟩ (c_X11_refused l G D cA xd vd sd nd hd td ed kd _ images errors fewest vspoon vmark vcount vbodies sbits slens snum h_weight h_known h_hour h_swS h_swW h_waS h_spoons h_kind h_mark h_silver h_fresh h_texts h_tape h_tapeCount h_z h_waiting h_waitingCount t_weight t_known t_hour t_swS t_swW t_waS t_spoons t_kind t_mark t_silver t_fresh t_texts t_tape t_tapeCount t_z t_waiting t_waitingCount e_weight e_known e_hour e_swS e_swW e_waS e_spoons e_kind e_mark e_silver e_fresh e_texts e_tape e_tapeCount e_z e_waiting e_waitingCount L tx tst (-1000000001 : Int32) r_10 errors_11 hf_12) (cwV 1 hts gX11_much_X11_refused rfl rfl rfl (by decide +kernel) ⟨Nat.le_of_ble_eq_true rfl, Nat.le_of_ble_eq_true rfl⟩) (pvV hE hK hS sb (va_recv hK hP (ci := 11) (q0 := 0) rfl rfl)) rfl rfl hv.1 rfl (lv_room (Nat.le_of_ble_eq_true rfl)) dX11_much_11 ⟨Nat.le_of_ble_eq_true rfl, Nat.le_of_ble_eq_true rfl⟩) hS sb (Jn.same sb) (fun H locs hP hD hS => ?_)
    have hP : va_P D vwCl (wX cA xd vd sd nd hd td ed kd images errors_11 fewest vspoon vmark vcount vbodies sbits slens snum h_weight h_known h_hour h_swS h_swW h_waS h_spoons h_kind h_mark h_silver h_fresh h_texts h_tape h_tapeCount h_z h_waiting h_waitingCount t_weight t_known t_hour t_swS t_swW t_waS t_spoons t_kind t_mark t_silver t_fresh t_texts t_tape t_tapeCount t_z t_waiting t_waitingCount e_weight e_known e_hour e_swS e_swW e_waS e_spoons e_kind e_mark e_silver e_fresh e_texts e_tape e_tapeCount e_z e_waiting e_waitingCount L tx tst) H := hP
    have hD : va_D A (wX cA xd vd sd nd hd td ed kd images errors_11 fewest vspoon vmark vcount vbodies sbits slens snum h_weight h_known h_hour h_swS h_swW h_waS h_spoons h_kind h_mark h_silver h_fresh h_texts h_tape h_tapeCount h_z h_waiting h_waitingCount t_weight t_known t_hour t_swS t_swW t_waS t_spoons t_kind t_mark t_silver t_fresh t_texts t_tape t_tapeCount t_z t_waiting t_waitingCount e_weight e_known e_hour e_swS e_swW e_waS e_spoons e_kind e_mark e_silver e_fresh e_texts e_tape e_tapeCount e_z e_waiting e_waitingCount L tx tst) := hD
    have h := Option.some.inj h
    have ee0 : r_10 = rR := congrArg (fun q => q.1) h
    have ee1 : errors_11 = errorsR := congrArg (fun q => q.2) h
    subst ee0
    subst ee1
    rw [← hQ]
    exact retI hx hb hr hlk hK hP hD hS dX11_much_14 ⟨Nat.le_of_ble_eq_true rfl, Nat.le_of_ble_eq_true rfl⟩

def fX11_odds_26 (errors_26 : Nat → Int32) (h_weight : Nat → Int32) (h_known : Int32) (h_hour : Int32) (h_swS : Nat → Int32) (h_swW : Nat → Int32) (h_waS : Nat → Int32) (h_spoons : Int32) (h_kind : Nat → Int32) (h_mark : Nat → Int32) (h_silver : Nat → Int32) (h_fresh : Nat → Int64) (h_texts : Nat → Option Nat) (t_weight_26 : Nat → Int32) (t_known_26 : Int32) (t_hour_26 : Int32) (t_swS_26 : Nat → Int32) (t_swW_26 : Nat → Int32) (t_waS_26 : Nat → Int32) (t_spoons_26 : Int32) (t_kind_26 : Nat → Int32) (t_mark_26 : Nat → Int32) (t_silver_26 : Nat → Int32) (t_fresh_26 : Nat → Int64) (t_texts_26 : Nat → Option Nat) (L : List Nat) (tx : Nat → TXc) (tst_26 : Nat → Nat → Int32) : Option (Int32 × (Nat → Int32) × (Nat → Int32) × Int32 × Int32 × (Nat → Int32) × (Nat → Int32) × (Nat → Int32) × Int32 × (Nat → Int32) × (Nat → Int32) × (Nat → Int32) × (Nat → Int64) × (Nat → Option Nat) × (Nat → Nat → Int32)) :=
  bd (fX11_refused (-1000000001 : Int32) errors_26) fun (r_4, errors_5) => some (r_4, errors_5, t_weight_26, t_known_26, t_hour_26, t_swS_26, t_swW_26, t_waS_26, t_spoons_26, t_kind_26, t_mark_26, t_silver_26, t_fresh_26, t_texts_26, tst_26)
def fX11_odds_96 (v1_39 : Int32) (v2_39 : Int32) (v3_39 : Int32) (v4_96 : Int32) (v5_96 : Int32) (errors_39 : Nat → Int32) (h_weight : Nat → Int32) (h_known : Int32) (h_hour : Int32) (h_swS : Nat → Int32) (h_swW : Nat → Int32) (h_waS : Nat → Int32) (h_spoons : Int32) (h_kind : Nat → Int32) (h_mark : Nat → Int32) (h_silver : Nat → Int32) (h_fresh : Nat → Int64) (h_texts : Nat → Option Nat) (t_weight_96 : Nat → Int32) (t_known_96 : Int32) (t_hour_96 : Int32) (t_swS_96 : Nat → Int32) (t_swW_96 : Nat → Int32) (t_waS_96 : Nat → Int32) (t_spoons_96 : Int32) (t_kind_96 : Nat → Int32) (t_mark_96 : Nat → Int32) (t_silver_96 : Nat → Int32) (t_fresh_96 : Nat → Int64) (t_texts_96 : Nat → Option Nat) (L : List Nat) (tx : Nat → TXc) (tst_96 : Nat → Nat → Int32) : Option ((Int32 × Int32 × (Nat → Int32) × Int32 × Int32 × (Nat → Int32) × (Nat → Int32) × (Nat → Int32) × Int32 × (Nat → Int32) × (Nat → Int32) × (Nat → Int32) × (Nat → Int64) × (Nat → Option Nat) × (Nat → Nat → Int32)) ⊕ (Int32 × Int32 × (Nat → Int32) × Int32 × Int32 × (Nat → Int32) × (Nat → Int32) × (Nat → Int32) × Int32 × (Nat → Int32) × (Nat → Int32) × (Nat → Int32) × (Nat → Int64) × (Nat → Option Nat) × (Nat → Nat → Int32))) :=
  bnd (v5_96 + (1 : Int32)) fun y_45 => some (.inl (v4_96, y_45, t_weight_96, t_known_96, t_hour_96, t_swS_96, t_swW_96, t_waS_96, t_spoons_96, t_kind_96, t_mark_96, t_silver_96, t_fresh_96, t_texts_96, tst_96))
def fX11_odds_39B (v1_39 : Int32) (v2_39 : Int32) (v3_39 : Int32) (errors_39 : Nat → Int32) (h_weight : Nat → Int32) (h_known : Int32) (h_hour : Int32) (h_swS : Nat → Int32) (h_swW : Nat → Int32) (h_waS : Nat → Int32) (h_spoons : Int32) (h_kind : Nat → Int32) (h_mark : Nat → Int32) (h_silver : Nat → Int32) (h_fresh : Nat → Int64) (h_texts : Nat → Option Nat) (L : List Nat) (tx : Nat → TXc) (v4_39b : Int32) (v5_39b : Int32) (t_weight_39b : Nat → Int32) (t_known_39b : Int32) (t_hour_39b : Int32) (t_swS_39b : Nat → Int32) (t_swW_39b : Nat → Int32) (t_waS_39b : Nat → Int32) (t_spoons_39b : Int32) (t_kind_39b : Nat → Int32) (t_mark_39b : Nat → Int32) (t_silver_39b : Nat → Int32) (t_fresh_39b : Nat → Int64) (t_texts_39b : Nat → Option Nat) (tst_39b : Nat → Nat → Int32) : Option ((Int32 × Int32 × (Nat → Int32) × Int32 × Int32 × (Nat → Int32) × (Nat → Int32) × (Nat → Int32) × Int32 × (Nat → Int32) × (Nat → Int32) × (Nat → Int32) × (Nat → Int64) × (Nat → Option Nat) × (Nat → Nat → Int32)) ⊕ (Int32 × Int32 × (Nat → Int32) × Int32 × Int32 × (Nat → Int32) × (Nat → Int32) × (Nat → Int32) × Int32 × (Nat → Int32) × (Nat → Int32) × (Nat → Int32) × (Nat → Int64) × (Nat → Option Nat) × (Nat → Nat → Int32))) :=
  (if (12 : Int32) ≤ v5_39b then some (.inr (v4_39b, v5_39b, t_weight_39b, t_known_39b, t_hour_39b, t_swS_39b, t_swW_39b, t_waS_39b, t_spoons_39b, t_kind_39b, t_mark_39b, t_silver_39b, t_fresh_39b, t_texts_39b, tst_39b)) else bd (fX3_follow t_weight_39b t_known_39b t_hour_39b t_swS_39b t_swW_39b t_waS_39b t_spoons_39b t_kind_39b t_mark_39b t_silver_39b t_fresh_39b t_texts_39b h_weight h_known h_hour h_swS h_swW h_waS h_spoons h_kind h_mark h_silver h_fresh h_texts L) fun (t_weight_19, t_known_20, t_hour_21, t_swS_22, t_swW_23, t_waS_24, t_spoons_25, t_kind_26, t_mark_27, t_silver_28, t_fresh_29, t_texts_30) => bd (fX3_swallowPlace t_hour_21) fun r_32 => ckI r_32 6 (bnd (upd t_swW_23 (r_32).toNatClampNeg v5_39b) fun t_swW_35 => bd (fX3_passHours v1_39 t_weight_19 t_known_20 t_hour_21 t_swS_22 t_swW_35 t_waS_24 t_spoons_25 t_kind_26 t_mark_27 t_silver_28 t_fresh_29 t_texts_30 L tx tst_39b) fun (t_known_36, t_hour_37, t_silver_38, t_fresh_39, tst_40) => bd (fX3_knows v2_39 t_known_36) fun r_42 => (if r_42 = 0 then fX11_odds_96 v1_39 v2_39 v3_39 v4_39b v5_39b errors_39 h_weight h_known h_hour h_swS h_swW h_waS h_spoons h_kind h_mark h_silver h_fresh h_texts t_weight_19 t_known_36 t_hour_37 t_swS_22 t_swW_35 t_waS_24 t_spoons_25 t_kind_26 t_mark_27 t_silver_38 t_fresh_39 t_texts_30 L tx tst_40 else bnd (v4_39b + (1 : Int32)) fun y_46 => fX11_odds_96 v1_39 v2_39 v3_39 y_46 v5_39b errors_39 h_weight h_known h_hour h_swS h_swW h_waS h_spoons h_kind h_mark h_silver h_fresh h_texts t_weight_19 t_known_36 t_hour_37 t_swS_22 t_swW_35 t_waS_24 t_spoons_25 t_kind_26 t_mark_27 t_silver_38 t_fresh_39 t_texts_30 L tx tst_40)))
def fX11_odds_39 (v1_39 : Int32) (v2_39 : Int32) (v3_39 : Int32) (v4_39 : Int32) (v5_39 : Int32) (errors_39 : Nat → Int32) (h_weight : Nat → Int32) (h_known : Int32) (h_hour : Int32) (h_swS : Nat → Int32) (h_swW : Nat → Int32) (h_waS : Nat → Int32) (h_spoons : Int32) (h_kind : Nat → Int32) (h_mark : Nat → Int32) (h_silver : Nat → Int32) (h_fresh : Nat → Int64) (h_texts : Nat → Option Nat) (t_weight_39 : Nat → Int32) (t_known_39 : Int32) (t_hour_39 : Int32) (t_swS_39 : Nat → Int32) (t_swW_39 : Nat → Int32) (t_waS_39 : Nat → Int32) (t_spoons_39 : Int32) (t_kind_39 : Nat → Int32) (t_mark_39 : Nat → Int32) (t_silver_39 : Nat → Int32) (t_fresh_39 : Nat → Int64) (t_texts_39 : Nat → Option Nat) (L : List Nat) (tx : Nat → TXc) (tst_39 : Nat → Nat → Int32) : Option (Int32 × (Nat → Int32) × (Nat → Int32) × Int32 × Int32 × (Nat → Int32) × (Nat → Int32) × (Nat → Int32) × Int32 × (Nat → Int32) × (Nat → Int32) × (Nat → Int32) × (Nat → Int64) × (Nat → Option Nat) × (Nat → Nat → Int32)) :=
  bd (lp (fun σ : Int32 × Int32 × (Nat → Int32) × Int32 × Int32 × (Nat → Int32) × (Nat → Int32) × (Nat → Int32) × Int32 × (Nat → Int32) × (Nat → Int32) × (Nat → Int32) × (Nat → Int64) × (Nat → Option Nat) × (Nat → Nat → Int32) => fX11_odds_39B v1_39 v2_39 v3_39 errors_39 h_weight h_known h_hour h_swS h_swW h_waS h_spoons h_kind h_mark h_silver h_fresh h_texts L tx (σ.1) (σ.2.1) (σ.2.2.1) (σ.2.2.2.1) (σ.2.2.2.2.1) (σ.2.2.2.2.2.1) (σ.2.2.2.2.2.2.1) (σ.2.2.2.2.2.2.2.1) (σ.2.2.2.2.2.2.2.2.1) (σ.2.2.2.2.2.2.2.2.2.1) (σ.2.2.2.2.2.2.2.2.2.2.1) (σ.2.2.2.2.2.2.2.2.2.2.2.1) (σ.2.2.2.2.2.2.2.2.2.2.2.2.1) (σ.2.2.2.2.2.2.2.2.2.2.2.2.2.1) (σ.2.2.2.2.2.2.2.2.2.2.2.2.2.2)) FU (v4_39, v5_39, t_weight_39, t_known_39, t_hour_39, t_swS_39, t_swW_39, t_waS_39, t_spoons_39, t_kind_39, t_mark_39, t_silver_39, t_fresh_39, t_texts_39, tst_39)) fun ρ => match ρ with | (v4_39r, v5_39r, t_weight_39r, t_known_39r, t_hour_39r, t_swS_39r, t_swW_39r, t_waS_39r, t_spoons_39r, t_kind_39r, t_mark_39r, t_silver_39r, t_fresh_39r, t_texts_39r, tst_39r) => bd (fX11_commonPart v4_39r (12 : Int32)) fun r_13 => (if v3_39 = 0 then ck (¬ r_13 = 0) (some ((v4_39r / r_13), errors_39, t_weight_39r, t_known_39r, t_hour_39r, t_swS_39r, t_swW_39r, t_waS_39r, t_spoons_39r, t_kind_39r, t_mark_39r, t_silver_39r, t_fresh_39r, t_texts_39r, tst_39r)) else ck (¬ r_13 = 0) (some (((12 : Int32) / r_13), errors_39, t_weight_39r, t_known_39r, t_hour_39r, t_swS_39r, t_swW_39r, t_waS_39r, t_spoons_39r, t_kind_39r, t_mark_39r, t_silver_39r, t_fresh_39r, t_texts_39r, tst_39r)))
def fX11_odds (n : Int32) (a : Int32) (b : Int32) (errors : Nat → Int32) (h_weight : Nat → Int32) (h_known : Int32) (h_hour : Int32) (h_swS : Nat → Int32) (h_swW : Nat → Int32) (h_waS : Nat → Int32) (h_spoons : Int32) (h_kind : Nat → Int32) (h_mark : Nat → Int32) (h_silver : Nat → Int32) (h_fresh : Nat → Int64) (h_texts : Nat → Option Nat) (t_weight : Nat → Int32) (t_known : Int32) (t_hour : Int32) (t_swS : Nat → Int32) (t_swW : Nat → Int32) (t_waS : Nat → Int32) (t_spoons : Int32) (t_kind : Nat → Int32) (t_mark : Nat → Int32) (t_silver : Nat → Int32) (t_fresh : Nat → Int64) (t_texts : Nat → Option Nat) (L : List Nat) (tx : Nat → TXc) (tst : Nat → Nat → Int32) : Option (Int32 × (Nat → Int32) × (Nat → Int32) × Int32 × Int32 × (Nat → Int32) × (Nat → Int32) × (Nat → Int32) × Int32 × (Nat → Int32) × (Nat → Int32) × (Nat → Int32) × (Nat → Int64) × (Nat → Option Nat) × (Nat → Nat → Int32)) :=
  bd (fX11_within n (0 : Int32) (30 : Int32)) fun r_1 => (if r_1 = 0 then fX11_odds_26 errors h_weight h_known h_hour h_swS h_swW h_waS h_spoons h_kind h_mark h_silver h_fresh h_texts t_weight t_known t_hour t_swS t_swW t_waS t_spoons t_kind t_mark t_silver t_fresh t_texts L tx tst else bd (fX11_isWord a) fun r_7 => (if r_7 = 0 then fX11_odds_26 errors h_weight h_known h_hour h_swS h_swW h_waS h_spoons h_kind h_mark h_silver h_fresh h_texts t_weight t_known t_hour t_swS t_swW t_waS t_spoons t_kind t_mark t_silver t_fresh t_texts L tx tst else bd (fX11_within b (0 : Int32) (1 : Int32)) fun r_10 => (if r_10 = 0 then fX11_odds_26 errors h_weight h_known h_hour h_swS h_swW h_waS h_spoons h_kind h_mark h_silver h_fresh h_texts t_weight t_known t_hour t_swS t_swW t_waS t_spoons t_kind t_mark t_silver t_fresh t_texts L tx tst else fX11_odds_39 n a b (0 : Int32) (0 : Int32) errors h_weight h_known h_hour h_swS h_swW h_waS h_spoons h_kind h_mark h_silver h_fresh h_texts t_weight t_known t_hour t_swS t_swW t_waS t_spoons t_kind t_mark t_silver t_fresh t_texts L tx tst)))
set_option maxHeartbeats 4000000 in
set_option maxRecDepth 100000 in
theorem c_X11_odds (l : Launch) (G : Nat → Nat) (D : va_G) (cA : Nat → ClassId) (xd : Nat → Nat) (vd : Nat → Nat) (sd : Nat → Nat) (nd : Nat → Nat) (hd : Nat → Nat) (td : Nat → Nat) (ed : Nat → Nat) (kd : Nat → Nat) (sz : Nat) (images : Int32) (errors : Nat → Int32) (fewest : Nat → Int32) (vspoon : Int32) (vmark : Int32) (vcount : Int32) (vbodies : Nat → Int32) (sbits : Nat → Int32) (slens : Nat → Int32) (snum : Nat → Nat → Int32) (h_weight : Nat → Int32) (h_known : Int32) (h_hour : Int32) (h_swS : Nat → Int32) (h_swW : Nat → Int32) (h_waS : Nat → Int32) (h_spoons : Int32) (h_kind : Nat → Int32) (h_mark : Nat → Int32) (h_silver : Nat → Int32) (h_fresh : Nat → Int64) (h_texts : Nat → Option Nat) (h_tape : Nat → Int32) (h_tapeCount : Int32) (h_z : Int32) (h_waiting : Nat → Int32) (h_waitingCount : Int32) (t_weight : Nat → Int32) (t_known : Int32) (t_hour : Int32) (t_swS : Nat → Int32) (t_swW : Nat → Int32) (t_waS : Nat → Int32) (t_spoons : Int32) (t_kind : Nat → Int32) (t_mark : Nat → Int32) (t_silver : Nat → Int32) (t_fresh : Nat → Int64) (t_texts : Nat → Option Nat) (t_tape : Nat → Int32) (t_tapeCount : Int32) (t_z : Int32) (t_waiting : Nat → Int32) (t_waitingCount : Int32) (e_weight : Nat → Int32) (e_known : Int32) (e_hour : Int32) (e_swS : Nat → Int32) (e_swW : Nat → Int32) (e_waS : Nat → Int32) (e_spoons : Int32) (e_kind : Nat → Int32) (e_mark : Nat → Int32) (e_silver : Nat → Int32) (e_fresh : Nat → Int64) (e_texts : Nat → Option Nat) (e_tape : Nat → Int32) (e_tapeCount : Int32) (e_z : Int32) (e_waiting : Nat → Int32) (e_waitingCount : Int32) (L : List Nat) (tx : Nat → TXc) (tst : Nat → Nat → Int32) (n : Int32) (a : Int32) (b : Int32) (rR : Int32) (errorsR : Nat → Int32) (t_weightR : Nat → Int32) (t_knownR : Int32) (t_hourR : Int32) (t_swSR : Nat → Int32) (t_swWR : Nat → Int32) (t_waSR : Nat → Int32) (t_spoonsR : Int32) (t_kindR : Nat → Int32) (t_markR : Nat → Int32) (t_silverR : Nat → Int32) (t_freshR : Nat → Int64) (t_textsR : Nat → Option Nat) (tstR : Nat → Nat → Int32) (h : fX11_odds n a b errors h_weight h_known h_hour h_swS h_swW h_waS h_spoons h_kind h_mark h_silver h_fresh h_texts t_weight t_known t_hour t_swS t_swW t_waS t_spoons t_kind t_mark t_silver t_fresh t_texts L tx tst = some (rR, errorsR, t_weightR, t_knownR, t_hourR, t_swSR, t_swWR, t_waSR, t_spoonsR, t_kindR, t_markR, t_silverR, t_freshR, t_textsR, tstR)) : Met l yX11_odds wsX11_odds ({ frames := 6, cells := 0, slots := 0, locals := 141 } : Room) (PW G D (tyC cA) sz (wX cA xd vd sd nd hd td ed kd images errors fewest vspoon vmark vcount vbodies sbits slens snum h_weight h_known h_hour h_swS h_swW h_waS h_spoons h_kind h_mark h_silver h_fresh h_texts h_tape h_tapeCount h_z h_waiting h_waitingCount t_weight t_known t_hour t_swS t_swW t_waS t_spoons t_kind t_mark t_silver t_fresh t_texts t_tape t_tapeCount t_z t_waiting t_waitingCount e_weight e_known e_hour e_swS e_swW e_waS e_spoons e_kind e_mark e_silver e_fresh e_texts e_tape e_tapeCount e_z e_waiting e_waitingCount L tx tst) [.ref (xd 0), .int n, .int a, .int b]) (QI D (tyC cA) (va_A (wX cA xd vd sd nd hd td ed kd images errors fewest vspoon vmark vcount vbodies sbits slens snum h_weight h_known h_hour h_swS h_swW h_waS h_spoons h_kind h_mark h_silver h_fresh h_texts h_tape h_tapeCount h_z h_waiting h_waitingCount t_weight t_known t_hour t_swS t_swW t_waS t_spoons t_kind t_mark t_silver t_fresh t_texts t_tape t_tapeCount t_z t_waiting t_waitingCount e_weight e_known e_hour e_swS e_swW e_waS e_spoons e_kind e_mark e_silver e_fresh e_texts e_tape e_tapeCount e_z e_waiting e_waitingCount L tx tst) sz) rR (wX cA xd vd sd nd hd td ed kd images errorsR fewest vspoon vmark vcount vbodies sbits slens snum h_weight h_known h_hour h_swS h_swW h_waS h_spoons h_kind h_mark h_silver h_fresh h_texts h_tape h_tapeCount h_z h_waiting h_waitingCount t_weightR t_knownR t_hourR t_swSR t_swWR t_waSR t_spoonsR t_kindR t_markR t_silverR t_freshR t_textsR t_tape t_tapeCount t_z t_waiting t_waitingCount e_weight e_known e_hour e_swS e_swW e_waS e_spoons e_kind e_mark e_silver e_fresh e_texts e_tape e_tapeCount e_z e_waiting e_waitingCount L tx tstR)) 0 0 (va_A (wX cA xd vd sd nd hd td ed kd images errors fewest vspoon vmark vcount vbodies sbits slens snum h_weight h_known h_hour h_swS h_swW h_waS h_spoons h_kind h_mark h_silver h_fresh h_texts h_tape h_tapeCount h_z h_waiting h_waitingCount t_weight t_known t_hour t_swS t_swW t_waS t_spoons t_kind t_mark t_silver t_fresh t_texts t_tape t_tapeCount t_z t_waiting t_waitingCount e_weight e_known e_hour e_swS e_swW e_waS e_spoons e_kind e_mark e_silver e_fresh e_texts e_tape e_tapeCount e_z e_waiting e_waitingCount L tx tst) sz) := by
  refine ent (cc := cX11_odds) (maxL := 6) (ret := (some .int)) (fun A => QI D (tyC cA) A rR (wX cA xd vd sd nd hd td ed kd images errorsR fewest vspoon vmark vcount vbodies sbits slens snum h_weight h_known h_hour h_swS h_swW h_waS h_spoons h_kind h_mark h_silver h_fresh h_texts h_tape h_tapeCount h_z h_waiting h_waitingCount t_weightR t_knownR t_hourR t_swSR t_swWR t_waSR t_spoonsR t_kindR t_markR t_silverR t_freshR t_textsR t_tape t_tapeCount t_z t_waiting t_waitingCount e_weight e_known e_hour e_swS e_swW e_waS e_spoons e_kind e_mark e_silver e_fresh e_texts e_tape e_tapeCount e_z e_waiting e_waitingCount L tx tstR)) (by decide +kernel) rfl (Nat.le_of_ble_eq_true rfl) ?_
  intro p e s m args below meth c A ls H hx hb hml hr hlk hts hown hA hK hE hP hD hS hv hmm
  have hv : lv_has ls 6 [(0, .ref (xd 0)), (1, .int n), (2, .int a), (3, .int b)] := hv
  have in_3 : ∀ w ∈ u_ws RX3 TX3 18, w ∈ wsX11_odds := fun _ h => List.mem_cons_of_mem _ (List.mem_append_left _ (List.mem_append_right _ h))
  have in_11 : ∀ w ∈ u_ws RX11 TX11 9, w ∈ wsX11_odds := fun _ h => List.mem_cons_of_mem _ (List.mem_append_left _ (List.mem_append_left _ (List.mem_append_right _ h)))
  have w_0 := hts (.constant RX11 78 (-1000000001)) (List.mem_of_getElem? (i := 1) rfl)
  have w_1 := hts (.fieldLink RX11 43 "SpoonsLast" "thought" "LSpoonsLast$House;") (List.mem_of_getElem? (i := 2) rfl)
  have w_2 := hts (.fieldLink RX11 39 "SpoonsLast" "house" "LSpoonsLast$House;") (List.mem_of_getElem? (i := 3) rfl)
  have w_3 := hts (.fieldLink RX11 105 "SpoonsLast$House" "swallowWord" "[I") (List.mem_of_getElem? (i := 4) rfl)
  generalize hQ : MQ below _ args s 0 0 A = Q
  have C_26 : ∀ (errors_26 : Nat → Int32) (t_weight_26 : Nat → Int32) (t_known_26 : Int32) (t_hour_26 : Int32) (t_swS_26 : Nat → Int32) (t_swW_26 : Nat → Int32) (t_waS_26 : Nat → Int32) (t_spoons_26 : Int32) (t_kind_26 : Nat → Int32) (t_mark_26 : Nat → Int32) (t_silver_26 : Nat → Int32) (t_fresh_26 : Nat → Int64) (t_texts_26 : Nat → Option Nat) (tst_26 : Nat → Nat → Int32), fX11_odds_26 errors_26 h_weight h_known h_hour h_swS h_swW h_waS h_spoons h_kind h_mark h_silver h_fresh h_texts t_weight_26 t_known_26 t_hour_26 t_swS_26 t_swW_26 t_waS_26 t_spoons_26 t_kind_26 t_mark_26 t_silver_26 t_fresh_26 t_texts_26 L tx tst_26 = some (rR, errorsR, t_weightR, t_knownR, t_hourR, t_swSR, t_swWR, t_waSR, t_spoonsR, t_kindR, t_markR, t_silverR, t_freshR, t_textsR, tstR) → WW p l e ({ frames := 6, cells := 0, slots := 0, locals := 141 } : Room) s m args below meth c D A 0 0 Q (wX cA xd vd sd nd hd td ed kd images errors_26 fewest vspoon vmark vcount vbodies sbits slens snum h_weight h_known h_hour h_swS h_swW h_waS h_spoons h_kind h_mark h_silver h_fresh h_texts h_tape h_tapeCount h_z h_waiting h_waitingCount t_weight_26 t_known_26 t_hour_26 t_swS_26 t_swW_26 t_waS_26 t_spoons_26 t_kind_26 t_mark_26 t_silver_26 t_fresh_26 t_texts_26 t_tape t_tapeCount t_z t_waiting t_waitingCount e_weight e_known e_hour e_swS e_swW e_waS e_spoons e_kind e_mark e_silver e_fresh e_texts e_tape e_tapeCount e_z e_waiting e_waitingCount L tx tst_26) 6 [(0, .ref (xd 0))] 26 [] := by
    intro errors_26 t_weight_26 t_known_26 t_hour_26 t_swS_26 t_swW_26 t_waS_26 t_spoons_26 t_kind_26 t_mark_26 t_silver_26 t_fresh_26 t_texts_26 tst_26 h
    unfold fX11_odds_26 at h
    intro H locs ls hP hD hS hv
    refine lv_aload_n hx hb dX11_odds_26 rfl (lv_at hv 0 rfl) ?_
    refine lv_ldc (v := (-1000000001 : Int32)) hx hb hown w_0 dX11_odds_27 ?_
    obtain ⟨⟨r_4, errors_5⟩, hf_6, h⟩ := bd_ex h
    have sb := Sb.same hP hD hS hA
    refine calI (va_runV (As := [.int (-1000000001 : Int32)]) (rest := []) ⟨hx, hb, hml, hown, hts⟩ (c_X11_refused l G D cA xd vd sd nd hd td ed kd _ images errors_26 fewest vspoon vmark vcount vbodies sbits slens snum h_weight h_known h_hour h_swS h_swW h_waS h_spoons h_kind h_mark h_silver h_fresh h_texts h_tape h_tapeCount h_z h_waiting h_waitingCount t_weight_26 t_known_26 t_hour_26 t_swS_26 t_swW_26 t_waS_26 t_spoons_26 t_kind_26 t_mark_26 t_silver_26 t_fresh_26 t_texts_26 t_tape t_tapeCount t_z t_waiting t_waitingCount e_weight e_known e_hour e_swS e_swW e_waS e_spoons e_kind e_mark e_silver e_fresh e_texts e_tape e_tapeCount e_z e_waiting e_waitingCount L tx tst_26 (-1000000001 : Int32) r_4 errors_5 hf_6) (cwV 1 hts gX11_odds_X11_refused rfl rfl rfl (by decide +kernel) ⟨Nat.le_of_ble_eq_true rfl, Nat.le_of_ble_eq_true rfl⟩) (pvV hE hK hS sb (va_recv hK hP (ci := 11) (q0 := 0) rfl rfl)) rfl rfl hv.1 rfl (lv_room (Nat.le_of_ble_eq_true rfl)) dX11_odds_29 ⟨Nat.le_of_ble_eq_true rfl, Nat.le_of_ble_eq_true rfl⟩) hS sb (Jn.same sb) (fun H locs hP hD hS => ?_)
    have hP : va_P D vwCl (wX cA xd vd sd nd hd td ed kd images errors_5 fewest vspoon vmark vcount vbodies sbits slens snum h_weight h_known h_hour h_swS h_swW h_waS h_spoons h_kind h_mark h_silver h_fresh h_texts h_tape h_tapeCount h_z h_waiting h_waitingCount t_weight_26 t_known_26 t_hour_26 t_swS_26 t_swW_26 t_waS_26 t_spoons_26 t_kind_26 t_mark_26 t_silver_26 t_fresh_26 t_texts_26 t_tape t_tapeCount t_z t_waiting t_waitingCount e_weight e_known e_hour e_swS e_swW e_waS e_spoons e_kind e_mark e_silver e_fresh e_texts e_tape e_tapeCount e_z e_waiting e_waitingCount L tx tst_26) H := hP
    have hD : va_D A (wX cA xd vd sd nd hd td ed kd images errors_5 fewest vspoon vmark vcount vbodies sbits slens snum h_weight h_known h_hour h_swS h_swW h_waS h_spoons h_kind h_mark h_silver h_fresh h_texts h_tape h_tapeCount h_z h_waiting h_waitingCount t_weight_26 t_known_26 t_hour_26 t_swS_26 t_swW_26 t_waS_26 t_spoons_26 t_kind_26 t_mark_26 t_silver_26 t_fresh_26 t_texts_26 t_tape t_tapeCount t_z t_waiting t_waitingCount e_weight e_known e_hour e_swS e_swW e_waS e_spoons e_kind e_mark e_silver e_fresh e_texts e_tape e_tapeCount e_z e_waiting e_waitingCount L tx tst_26) := hD
    have h := Option.some.inj h
    have ee0 : r_4 = rR := congrArg (fun q => q.1) h
    have ee1 : errors_5 = errorsR := congrArg (fun q => q.2.1) h
    have ee2 : t_weight_26 = t_weightR := congrArg (fun q => q.2.2.1) h
    have ee3 : t_known_26 = t_knownR := congrArg (fun q => q.2.2.2.1) h
    have ee4 : t_hour_26 = t_hourR := congrArg (fun q => q.2.2.2.2.1) h
    have ee5 : t_swS_26 = t_swSR := congrArg (fun q => q.2.2.2.2.2.1) h
    have ee6 : t_swW_26 = t_swWR := congrArg (fun q => q.2.2.2.2.2.2.1) h
    have ee7 : t_waS_26 = t_waSR := congrArg (fun q => q.2.2.2.2.2.2.2.1) h
    have ee8 : t_spoons_26 = t_spoonsR := congrArg (fun q => q.2.2.2.2.2.2.2.2.1) h
    have ee9 : t_kind_26 = t_kindR := congrArg (fun q => q.2.2.2.2.2.2.2.2.2.1) h
    have ee10 : t_mark_26 = t_markR := congrArg (fun q => q.2.2.2.2.2.2.2.2.2.2.1) h
    have ee11 : t_silver_26 = t_silverR := congrArg (fun q => q.2.2.2.2.2.2.2.2.2.2.2.1) h
    have ee12 : t_fresh_26 = t_freshR := congrArg (fun q => q.2.2.2.2.2.2.2.2.2.2.2.2.1) h
    have ee13 : t_texts_26 = t_textsR := congrArg (fun q => q.2.2.2.2.2.2.2.2.2.2.2.2.2.1) h
    have ee14 : tst_26 = tstR := congrArg (fun q => q.2.2.2.2.2.2.2.2.2.2.2.2.2.2) h
    subst ee0
    subst ee1
    subst ee2
    subst ee3
    subst ee4
    subst ee5
    subst ee6
    subst ee7
    subst ee8
    subst ee9
    subst ee10
    subst ee11
    subst ee12
    subst ee13
    subst ee14
    rw [← hQ]
    exact retI hx hb hr hlk hK hP hD hS dX11_odds_32 ⟨Nat.le_of_ble_eq_true rfl, Nat.le_of_ble_eq_true rfl⟩
  have C_39 : ∀ (v1_39 : Int32) (v2_39 : Int32) (v3_39 : Int32) (v4_39 : Int32) (v5_39 : Int32) (errors_39 : Nat → Int32) (t_weight_39 : Nat → Int32) (t_known_39 : Int32) (t_hour_39 : Int32) (t_swS_39 : Nat → Int32) (t_swW_39 : Nat → Int32) (t_waS_39 : Nat → Int32) (t_spoons_39 : Int32) (t_kind_39 : Nat → Int32) (t_mark_39 : Nat → Int32) (t_silver_39 : Nat → Int32) (t_fresh_39 : Nat → Int64) (t_texts_39 : Nat → Option Nat) (tst_39 : Nat → Nat → Int32), fX11_odds_39 v1_39 v2_39 v3_39 v4_39 v5_39 errors_39 h_weight h_known h_hour h_swS h_swW h_waS h_spoons h_kind h_mark h_silver h_fresh h_texts t_weight_39 t_known_39 t_hour_39 t_swS_39 t_swW_39 t_waS_39 t_spoons_39 t_kind_39 t_mark_39 t_silver_39 t_fresh_39 t_texts_39 L tx tst_39 = some (rR, errorsR, t_weightR, t_knownR, t_hourR, t_swSR, t_swWR, t_waSR, t_spoonsR, t_kindR, t_markR, t_silverR, t_freshR, t_textsR, tstR) → WW p l e ({ frames := 6, cells := 0, slots := 0, locals := 141 } : Room) s m args below meth c D A 0 0 Q (wX cA xd vd sd nd hd td ed kd images errors_39 fewest vspoon vmark vcount vbodies sbits slens snum h_weight h_known h_hour h_swS h_swW h_waS h_spoons h_kind h_mark h_silver h_fresh h_texts h_tape h_tapeCount h_z h_waiting h_waitingCount t_weight_39 t_known_39 t_hour_39 t_swS_39 t_swW_39 t_waS_39 t_spoons_39 t_kind_39 t_mark_39 t_silver_39 t_fresh_39 t_texts_39 t_tape t_tapeCount t_z t_waiting t_waitingCount e_weight e_known e_hour e_swS e_swW e_waS e_spoons e_kind e_mark e_silver e_fresh e_texts e_tape e_tapeCount e_z e_waiting e_waitingCount L tx tst_39) 6 [(0, .ref (xd 0)), (1, .int v1_39), (2, .int v2_39), (3, .int v3_39), (4, .int v4_39), (5, .int v5_39)] 39 [] := by
    intro v1_39 v2_39 v3_39 v4_39 v5_39 errors_39 t_weight_39 t_known_39 t_hour_39 t_swS_39 t_swW_39 t_waS_39 t_spoons_39 t_kind_39 t_mark_39 t_silver_39 t_fresh_39 t_texts_39 tst_39 h
    unfold fX11_odds_39 at h
    obtain ⟨⟨v4_39r, v5_39r, t_weight_39r, t_known_39r, t_hour_39r, t_swS_39r, t_swW_39r, t_waS_39r, t_spoons_39r, t_kind_39r, t_mark_39r, t_silver_39r, t_fresh_39r, t_texts_39r, tst_39r⟩, ho, h⟩ := bd_ex h
    have LE : WW p l e ({ frames := 6, cells := 0, slots := 0, locals := 141 } : Room) s m args below meth c D A 0 0 Q (wX cA xd vd sd nd hd td ed kd images errors_39 fewest vspoon vmark vcount vbodies sbits slens snum h_weight h_known h_hour h_swS h_swW h_waS h_spoons h_kind h_mark h_silver h_fresh h_texts h_tape h_tapeCount h_z h_waiting h_waitingCount t_weight_39r t_known_39r t_hour_39r t_swS_39r t_swW_39r t_waS_39r t_spoons_39r t_kind_39r t_mark_39r t_silver_39r t_fresh_39r t_texts_39r t_tape t_tapeCount t_z t_waiting t_waitingCount e_weight e_known e_hour e_swS e_swW e_waS e_spoons e_kind e_mark e_silver e_fresh e_texts e_tape e_tapeCount e_z e_waiting e_waitingCount L tx tst_39r) 6 [(3, .int v3_39), (4, .int v4_39r)] 102 [] := by
      intro H locs ls hP hD hS hv
      refine lv_iload hx hb dX11_odds_102 (lv_at hv 1 rfl) ?_
      refine lv_bipush (v := (12 : Int32)) hx hb dX11_odds_104 (by decide) ?_
      obtain ⟨r_13, hf_14, h⟩ := bd_ex h
      have sb := Sb.nil hP hD hS hA
      refine calI (va_runS (As := [.int v4_39r, .int (12 : Int32)]) (rest := []) ⟨hx, hb, hml, hown, hts⟩ (c_X11_commonPart l G D cA  _ v4_39r (12 : Int32) r_13 hf_14) (va_cwS 2 hts gX11_odds_X11_commonPart rfl rfl rfl (by decide +kernel) ⟨Nat.le_of_ble_eq_true rfl, Nat.le_of_ble_eq_true rfl⟩) (pvS hE hK hS sb) rfl rfl hv.1 rfl (lv_room (Nat.le_of_ble_eq_true rfl)) dX11_odds_106 ⟨Nat.le_of_ble_eq_true rfl, Nat.le_of_ble_eq_true rfl⟩) hS sb (Jn.nil hP hD) (fun H locs hP hD hS => ?_)
      have hP : va_P D vwCl (wX cA xd vd sd nd hd td ed kd images errors_39 fewest vspoon vmark vcount vbodies sbits slens snum h_weight h_known h_hour h_swS h_swW h_waS h_spoons h_kind h_mark h_silver h_fresh h_texts h_tape h_tapeCount h_z h_waiting h_waitingCount t_weight_39r t_known_39r t_hour_39r t_swS_39r t_swW_39r t_waS_39r t_spoons_39r t_kind_39r t_mark_39r t_silver_39r t_fresh_39r t_texts_39r t_tape t_tapeCount t_z t_waiting t_waitingCount e_weight e_known e_hour e_swS e_swW e_waS e_spoons e_kind e_mark e_silver e_fresh e_texts e_tape e_tapeCount e_z e_waiting e_waitingCount L tx tst_39r) H := hP
      have hD : va_D A (wX cA xd vd sd nd hd td ed kd images errors_39 fewest vspoon vmark vcount vbodies sbits slens snum h_weight h_known h_hour h_swS h_swW h_waS h_spoons h_kind h_mark h_silver h_fresh h_texts h_tape h_tapeCount h_z h_waiting h_waitingCount t_weight_39r t_known_39r t_hour_39r t_swS_39r t_swW_39r t_waS_39r t_spoons_39r t_kind_39r t_mark_39r t_silver_39r t_fresh_39r t_texts_39r t_tape t_tapeCount t_z t_waiting t_waitingCount e_weight e_known e_hour e_swS e_swW e_waS e_spoons e_kind e_mark e_silver e_fresh e_texts e_tape e_tapeCount e_z e_waiting e_waitingCount L tx tst_39r) := hD
      refine lv_istore (lv' := [(5, .int r_13), (3, .int v3_39), (4, .int v4_39r)]) hx hb dX11_odds_109 hv (by decide) rfl (fun ls hv => ?_)
      refine lv_iload_n hx hb dX11_odds_111 rfl (lv_at hv 1 rfl) ?_
      refine lv_if_ne (tgt := 120) hx hb dX11_odds_112 (by decide) (fun c_15 => ?_) (fun c_15 => ?_)
      · have h := ite_f c_15 h
        refine lv_bipush (v := (12 : Int32)) hx hb dX11_odds_120 (by decide) ?_
        refine lv_iload hx hb dX11_odds_122 (lv_at hv 0 rfl) ?_
        obtain ⟨c_16, h⟩ := ck_ex h
        refine lv_idiv hx hb dX11_odds_124 c_16 ?_
        have h := Option.some.inj h
        have ee0 : ((12 : Int32) / r_13) = rR := congrArg (fun q => q.1) h
        have ee1 : errors_39 = errorsR := congrArg (fun q => q.2.1) h
        have ee2 : t_weight_39r = t_weightR := congrArg (fun q => q.2.2.1) h
        have ee3 : t_known_39r = t_knownR := congrArg (fun q => q.2.2.2.1) h
        have ee4 : t_hour_39r = t_hourR := congrArg (fun q => q.2.2.2.2.1) h
        have ee5 : t_swS_39r = t_swSR := congrArg (fun q => q.2.2.2.2.2.1) h
        have ee6 : t_swW_39r = t_swWR := congrArg (fun q => q.2.2.2.2.2.2.1) h
        have ee7 : t_waS_39r = t_waSR := congrArg (fun q => q.2.2.2.2.2.2.2.1) h
        have ee8 : t_spoons_39r = t_spoonsR := congrArg (fun q => q.2.2.2.2.2.2.2.2.1) h
        have ee9 : t_kind_39r = t_kindR := congrArg (fun q => q.2.2.2.2.2.2.2.2.2.1) h
        have ee10 : t_mark_39r = t_markR := congrArg (fun q => q.2.2.2.2.2.2.2.2.2.2.1) h
        have ee11 : t_silver_39r = t_silverR := congrArg (fun q => q.2.2.2.2.2.2.2.2.2.2.2.1) h
        have ee12 : t_fresh_39r = t_freshR := congrArg (fun q => q.2.2.2.2.2.2.2.2.2.2.2.2.1) h
        have ee13 : t_texts_39r = t_textsR := congrArg (fun q => q.2.2.2.2.2.2.2.2.2.2.2.2.2.1) h
        have ee14 : tst_39r = tstR := congrArg (fun q => q.2.2.2.2.2.2.2.2.2.2.2.2.2.2) h
        subst ee0
        subst ee1
        subst ee2
        subst ee3
        subst ee4
        subst ee5
        subst ee6
        subst ee7
        subst ee8
        subst ee9
        subst ee10
        subst ee11
        subst ee12
        subst ee13
        subst ee14
        rw [← hQ]
        exact retI hx hb hr hlk hK hP hD hS dX11_odds_125 ⟨Nat.le_of_ble_eq_true rfl, Nat.le_of_ble_eq_true rfl⟩
      · have h := ite_t c_15 h
        refine lv_iload hx hb dX11_odds_115 (lv_at hv 2 rfl) ?_
        refine lv_goto (tgt := 122) hx hb dX11_odds_117 (by decide) ?_
        refine lv_iload hx hb dX11_odds_122 (lv_at hv 0 rfl) ?_
        obtain ⟨c_17, h⟩ := ck_ex h
        refine lv_idiv hx hb dX11_odds_124 c_17 ?_
        have h := Option.some.inj h
        have ee0 : (v4_39r / r_13) = rR := congrArg (fun q => q.1) h
        have ee1 : errors_39 = errorsR := congrArg (fun q => q.2.1) h
        have ee2 : t_weight_39r = t_weightR := congrArg (fun q => q.2.2.1) h
        have ee3 : t_known_39r = t_knownR := congrArg (fun q => q.2.2.2.1) h
        have ee4 : t_hour_39r = t_hourR := congrArg (fun q => q.2.2.2.2.1) h
        have ee5 : t_swS_39r = t_swSR := congrArg (fun q => q.2.2.2.2.2.1) h
        have ee6 : t_swW_39r = t_swWR := congrArg (fun q => q.2.2.2.2.2.2.1) h
        have ee7 : t_waS_39r = t_waSR := congrArg (fun q => q.2.2.2.2.2.2.2.1) h
        have ee8 : t_spoons_39r = t_spoonsR := congrArg (fun q => q.2.2.2.2.2.2.2.2.1) h
        have ee9 : t_kind_39r = t_kindR := congrArg (fun q => q.2.2.2.2.2.2.2.2.2.1) h
        have ee10 : t_mark_39r = t_markR := congrArg (fun q => q.2.2.2.2.2.2.2.2.2.2.1) h
        have ee11 : t_silver_39r = t_silverR := congrArg (fun q => q.2.2.2.2.2.2.2.2.2.2.2.1) h
        have ee12 : t_fresh_39r = t_freshR := congrArg (fun q => q.2.2.2.2.2.2.2.2.2.2.2.2.1) h
        have ee13 : t_texts_39r = t_textsR := congrArg (fun q => q.2.2.2.2.2.2.2.2.2.2.2.2.2.1) h
        have ee14 : tst_39r = tstR := congrArg (fun q => q.2.2.2.2.2.2.2.2.2.2.2.2.2.2) h
        subst ee0
        subst ee1
        subst ee2
        subst ee3
        subst ee4
        subst ee5
        subst ee6
        subst ee7
        subst ee8
        subst ee9
        subst ee10
        subst ee11
        subst ee12
        subst ee13
        subst ee14
        rw [← hQ]
        exact retI hx hb hr hlk hK hP hD hS dX11_odds_125 ⟨Nat.le_of_ble_eq_true rfl, Nat.le_of_ble_eq_true rfl⟩
    have LB : ∀ (nf : Nat) (v4_39b : Int32) (v5_39b : Int32) (t_weight_39b : Nat → Int32) (t_known_39b : Int32) (t_hour_39b : Int32) (t_swS_39b : Nat → Int32) (t_swW_39b : Nat → Int32) (t_waS_39b : Nat → Int32) (t_spoons_39b : Int32) (t_kind_39b : Nat → Int32) (t_mark_39b : Nat → Int32) (t_silver_39b : Nat → Int32) (t_fresh_39b : Nat → Int64) (t_texts_39b : Nat → Option Nat) (tst_39b : Nat → Nat → Int32), lp (fun σ : Int32 × Int32 × (Nat → Int32) × Int32 × Int32 × (Nat → Int32) × (Nat → Int32) × (Nat → Int32) × Int32 × (Nat → Int32) × (Nat → Int32) × (Nat → Int32) × (Nat → Int64) × (Nat → Option Nat) × (Nat → Nat → Int32) => fX11_odds_39B v1_39 v2_39 v3_39 errors_39 h_weight h_known h_hour h_swS h_swW h_waS h_spoons h_kind h_mark h_silver h_fresh h_texts L tx (σ.1) (σ.2.1) (σ.2.2.1) (σ.2.2.2.1) (σ.2.2.2.2.1) (σ.2.2.2.2.2.1) (σ.2.2.2.2.2.2.1) (σ.2.2.2.2.2.2.2.1) (σ.2.2.2.2.2.2.2.2.1) (σ.2.2.2.2.2.2.2.2.2.1) (σ.2.2.2.2.2.2.2.2.2.2.1) (σ.2.2.2.2.2.2.2.2.2.2.2.1) (σ.2.2.2.2.2.2.2.2.2.2.2.2.1) (σ.2.2.2.2.2.2.2.2.2.2.2.2.2.1) (σ.2.2.2.2.2.2.2.2.2.2.2.2.2.2)) nf (v4_39b, v5_39b, t_weight_39b, t_known_39b, t_hour_39b, t_swS_39b, t_swW_39b, t_waS_39b, t_spoons_39b, t_kind_39b, t_mark_39b, t_silver_39b, t_fresh_39b, t_texts_39b, tst_39b) = some (v4_39r, v5_39r, t_weight_39r, t_known_39r, t_hour_39r, t_swS_39r, t_swW_39r, t_waS_39r, t_spoons_39r, t_kind_39r, t_mark_39r, t_silver_39r, t_fresh_39r, t_texts_39r, tst_39r) → WW p l e ({ frames := 6, cells := 0, slots := 0, locals := 141 } : Room) s m args below meth c D A 0 0 Q (wX cA xd vd sd nd hd td ed kd images errors_39 fewest vspoon vmark vcount vbodies sbits slens snum h_weight h_known h_hour h_swS h_swW h_waS h_spoons h_kind h_mark h_silver h_fresh h_texts h_tape h_tapeCount h_z h_waiting h_waitingCount t_weight_39b t_known_39b t_hour_39b t_swS_39b t_swW_39b t_waS_39b t_spoons_39b t_kind_39b t_mark_39b t_silver_39b t_fresh_39b t_texts_39b t_tape t_tapeCount t_z t_waiting t_waitingCount e_weight e_known e_hour e_swS e_swW e_waS e_spoons e_kind e_mark e_silver e_fresh e_texts e_tape e_tapeCount e_z e_waiting e_waitingCount L tx tst_39b) 6 [(0, .ref (xd 0)), (1, .int v1_39), (2, .int v2_39), (3, .int v3_39), (4, .int v4_39b), (5, .int v5_39b)] 39 [] := by
      intro nf
      induction nf with
      | zero => intro v4_39b v5_39b t_weight_39b t_known_39b t_hour_39b t_swS_39b t_swW_39b t_waS_39b t_spoons_39b t_kind_39b t_mark_39b t_silver_39b t_fresh_39b t_texts_39b tst_39b hl; cases hl
      | succ nf ih =>
        intro v4_39b v5_39b t_weight_39b t_known_39b t_hour_39b t_swS_39b t_swW_39b t_waS_39b t_spoons_39b t_kind_39b t_mark_39b t_silver_39b t_fresh_39b t_texts_39b tst_39b hl
        obtain ⟨x, h, hl⟩ := lp_ex hl
        have h : fX11_odds_39B v1_39 v2_39 v3_39 errors_39 h_weight h_known h_hour h_swS h_swW h_waS h_spoons h_kind h_mark h_silver h_fresh h_texts L tx v4_39b v5_39b t_weight_39b t_known_39b t_hour_39b t_swS_39b t_swW_39b t_waS_39b t_spoons_39b t_kind_39b t_mark_39b t_silver_39b t_fresh_39b t_texts_39b tst_39b = some x := h
        unfold fX11_odds_39B at h
        have C_96 : ∀ (v4_96 : Int32) (v5_96 : Int32) (t_weight_96 : Nat → Int32) (t_known_96 : Int32) (t_hour_96 : Int32) (t_swS_96 : Nat → Int32) (t_swW_96 : Nat → Int32) (t_waS_96 : Nat → Int32) (t_spoons_96 : Int32) (t_kind_96 : Nat → Int32) (t_mark_96 : Nat → Int32) (t_silver_96 : Nat → Int32) (t_fresh_96 : Nat → Int64) (t_texts_96 : Nat → Option Nat) (tst_96 : Nat → Nat → Int32) (x : (Int32 × Int32 × (Nat → Int32) × Int32 × Int32 × (Nat → Int32) × (Nat → Int32) × (Nat → Int32) × Int32 × (Nat → Int32) × (Nat → Int32) × (Nat → Int32) × (Nat → Int64) × (Nat → Option Nat) × (Nat → Nat → Int32)) ⊕ (Int32 × Int32 × (Nat → Int32) × Int32 × Int32 × (Nat → Int32) × (Nat → Int32) × (Nat → Int32) × Int32 × (Nat → Int32) × (Nat → Int32) × (Nat → Int32) × (Nat → Int64) × (Nat → Option Nat) × (Nat → Nat → Int32))), fX11_odds_96 v1_39 v2_39 v3_39 v4_96 v5_96 errors_39 h_weight h_known h_hour h_swS h_swW h_waS h_spoons h_kind h_mark h_silver h_fresh h_texts t_weight_96 t_known_96 t_hour_96 t_swS_96 t_swW_96 t_waS_96 t_spoons_96 t_kind_96 t_mark_96 t_silver_96 t_fresh_96 t_texts_96 L tx tst_96 = some x → lpk (fun σ : Int32 × Int32 × (Nat → Int32) × Int32 × Int32 × (Nat → Int32) × (Nat → Int32) × (Nat → Int32) × Int32 × (Nat → Int32) × (Nat → Int32) × (Nat → Int32) × (Nat → Int64) × (Nat → Option Nat) × (Nat → Nat → Int32) => fX11_odds_39B v1_39 v2_39 v3_39 errors_39 h_weight h_known h_hour h_swS h_swW h_waS h_spoons h_kind h_mark h_silver h_fresh h_texts L tx (σ.1) (σ.2.1) (σ.2.2.1) (σ.2.2.2.1) (σ.2.2.2.2.1) (σ.2.2.2.2.2.1) (σ.2.2.2.2.2.2.1) (σ.2.2.2.2.2.2.2.1) (σ.2.2.2.2.2.2.2.2.1) (σ.2.2.2.2.2.2.2.2.2.1) (σ.2.2.2.2.2.2.2.2.2.2.1) (σ.2.2.2.2.2.2.2.2.2.2.2.1) (σ.2.2.2.2.2.2.2.2.2.2.2.2.1) (σ.2.2.2.2.2.2.2.2.2.2.2.2.2.1) (σ.2.2.2.2.2.2.2.2.2.2.2.2.2.2)) nf x = some (v4_39r, v5_39r, t_weight_39r, t_known_39r, t_hour_39r, t_swS_39r, t_swW_39r, t_waS_39r, t_spoons_39r, t_kind_39r, t_mark_39r, t_silver_39r, t_fresh_39r, t_texts_39r, tst_39r) → WW p l e ({ frames := 6, cells := 0, slots := 0, locals := 141 } : Room) s m args below meth c D A 0 0 Q (wX cA xd vd sd nd hd td ed kd images errors_39 fewest vspoon vmark vcount vbodies sbits slens snum h_weight h_known h_hour h_swS h_swW h_waS h_spoons h_kind h_mark h_silver h_fresh h_texts h_tape h_tapeCount h_z h_waiting h_waitingCount t_weight_96 t_known_96 t_hour_96 t_swS_96 t_swW_96 t_waS_96 t_spoons_96 t_kind_96 t_mark_96 t_silver_96 t_fresh_96 t_texts_96 t_tape t_tapeCount t_z t_waiting t_waitingCount e_weight e_known e_hour e_swS e_swW e_waS e_spoons e_kind e_mark e_silver e_fresh e_texts e_tape e_tapeCount e_z e_waiting e_waitingCount L tx tst_96) 6 [(0, .ref (xd 0)), (1, .int v1_39), (2, .int v2_39), (3, .int v3_39), (4, .int v4_96), (5, .int v5_96)] 96 [] := by
          intro v4_96 v5_96 t_weight_96 t_known_96 t_hour_96 t_swS_96 t_swW_96 t_waS_96 t_spoons_96 t_kind_96 t_mark_96 t_silver_96 t_fresh_96 t_texts_96 tst_96 x h hl
          unfold fX11_odds_96 at h
          intro H locs ls hP hD hS hv
          obtain ⟨y_45, ey_45, h⟩ := bnd_ex h
          refine lv_iinc (v := y_45) (lv' := [(5, .int y_45), (0, .ref (xd 0)), (1, .int v1_39), (2, .int v2_39), (3, .int v3_39), (4, .int v4_96)]) hx hb dX11_odds_96 hv (k := 5) rfl (by rw [ey_45]; rfl) (by decide) rfl (fun ls hv => ?_)
          refine lv_goto (tgt := 39) hx hb dX11_odds_99 (by decide) ?_
          cases h
          exact ih v4_96 y_45 t_weight_96 t_known_96 t_hour_96 t_swS_96 t_swW_96 t_waS_96 t_spoons_96 t_kind_96 t_mark_96 t_silver_96 t_fresh_96 t_texts_96 tst_96 hl _ _ _ hP hD hS (lv_sub hv [1, 2, 3, 4, 5, 0] rfl)
        intro H locs ls hP hD hS hv
        refine lv_iload hx hb dX11_odds_39 (lv_at hv 5 rfl) ?_
        refine lv_bipush (v := (12 : Int32)) hx hb dX11_odds_41 (by decide) ?_
        refine lv_icmp_ge (tgt := 102) hx hb dX11_odds_43 (by decide) (fun c_18 => ?_) (fun c_18 => ?_)
        · have h := ite_t c_18 h
          cases h
          have hl : some (v4_39b, v5_39b, t_weight_39b, t_known_39b, t_hour_39b, t_swS_39b, t_swW_39b, t_waS_39b, t_spoons_39b, t_kind_39b, t_mark_39b, t_silver_39b, t_fresh_39b, t_texts_39b, tst_39b) = some (v4_39r, v5_39r, t_weight_39r, t_known_39r, t_hour_39r, t_swS_39r, t_swW_39r, t_waS_39r, t_spoons_39r, t_kind_39r, t_mark_39r, t_silver_39r, t_fresh_39r, t_texts_39r, tst_39r) := hl
          have hl := Option.some.inj hl
          have ee0 : v4_39b = v4_39r := congrArg (fun q => q.1) hl
          have ee1 : v5_39b = v5_39r := congrArg (fun q => q.2.1) hl
          have ee2 : t_weight_39b = t_weight_39r := congrArg (fun q => q.2.2.1) hl
          have ee3 : t_known_39b = t_known_39r := congrArg (fun q => q.2.2.2.1) hl
          have ee4 : t_hour_39b = t_hour_39r := congrArg (fun q => q.2.2.2.2.1) hl
          have ee5 : t_swS_39b = t_swS_39r := congrArg (fun q => q.2.2.2.2.2.1) hl
          have ee6 : t_swW_39b = t_swW_39r := congrArg (fun q => q.2.2.2.2.2.2.1) hl
          have ee7 : t_waS_39b = t_waS_39r := congrArg (fun q => q.2.2.2.2.2.2.2.1) hl
          have ee8 : t_spoons_39b = t_spoons_39r := congrArg (fun q => q.2.2.2.2.2.2.2.2.1) hl
          have ee9 : t_kind_39b = t_kind_39r := congrArg (fun q => q.2.2.2.2.2.2.2.2.2.1) hl
          have ee10 : t_mark_39b = t_mark_39r := congrArg (fun q => q.2.2.2.2.2.2.2.2.2.2.1) hl
          have ee11 : t_silver_39b = t_silver_39r := congrArg (fun q => q.2.2.2.2.2.2.2.2.2.2.2.1) hl
          have ee12 : t_fresh_39b = t_fresh_39r := congrArg (fun q => q.2.2.2.2.2.2.2.2.2.2.2.2.1) hl
          have ee13 : t_texts_39b = t_texts_39r := congrArg (fun q => q.2.2.2.2.2.2.2.2.2.2.2.2.2.1) hl
          have ee14 : tst_39b = tst_39r := congrArg (fun q => q.2.2.2.2.2.2.2.2.2.2.2.2.2.2) hl
          subst ee0
          subst ee1
          subst ee2
          subst ee3
          subst ee4
          subst ee5
          subst ee6
          subst ee7
          subst ee8
          subst ee9
          subst ee10
          subst ee11
          subst ee12
          subst ee13
          subst ee14
          exact LE _ _ _ hP hD hS (lv_sub hv [3, 4] rfl)
        · have h := ite_f c_18 h
          refine lv_aload_n hx hb dX11_odds_46 rfl (lv_at hv 0 rfl) ?_
          refine va_get (D := D) (ci := 11) (v := .ref (td 0)) (C := RX11) (T := TX11) (N := 9) hx hb hts in_11 hown hK hP 0 rfl rfl 1 (by decide) w_1 (fun _ h9 => h9) rfl dX11_odds_47 ?_
          refine lv_aload_n hx hb dX11_odds_50 rfl (lv_at hv 0 rfl) ?_
          refine va_get (D := D) (ci := 11) (v := .ref (hd 0)) (C := RX11) (T := TX11) (N := 9) hx hb hts in_11 hown hK hP 0 rfl rfl 0 (by decide) w_2 (fun _ h9 => h9) rfl dX11_odds_51 ?_
          obtain ⟨⟨t_weight_19, t_known_20, t_hour_21, t_swS_22, t_swW_23, t_waS_24, t_spoons_25, t_kind_26, t_mark_27, t_silver_28, t_fresh_29, t_texts_30⟩, hf_31, h⟩ := bd_ex h
          have sb : Sb D A H (wHH cA td hd kd t_weight_39b t_known_39b t_hour_39b t_swS_39b t_swW_39b t_waS_39b t_spoons_39b t_kind_39b t_mark_39b t_silver_39b t_fresh_39b t_texts_39b t_tape t_tapeCount t_z t_waiting t_waitingCount h_weight h_known h_hour h_swS h_swW h_waS h_spoons h_kind h_mark h_silver h_fresh h_texts h_tape h_tapeCount h_z h_waiting h_waitingCount L tx tst_39b) := sbXth hP hD hS hA
          refine calV (va_runV (As := [.ref (hd 0)]) (rest := []) ⟨hx, hb, hml, hown, hts⟩ (c_X3_follow l G D cA td hd kd _ t_weight_39b t_known_39b t_hour_39b t_swS_39b t_swW_39b t_waS_39b t_spoons_39b t_kind_39b t_mark_39b t_silver_39b t_fresh_39b t_texts_39b t_tape t_tapeCount t_z t_waiting t_waitingCount h_weight h_known h_hour h_swS h_swW h_waS h_spoons h_kind h_mark h_silver h_fresh h_texts h_tape h_tapeCount h_z h_waiting h_waitingCount L tx tst_39b t_weight_19 t_known_20 t_hour_21 t_swS_22 t_swW_23 t_waS_24 t_spoons_25 t_kind_26 t_mark_27 t_silver_28 t_fresh_29 t_texts_30 hf_31) (cwV 1 hts gX11_odds_X3_follow rfl rfl rfl (by decide +kernel) ⟨Nat.le_of_ble_eq_true rfl, Nat.le_of_ble_eq_true rfl⟩) (pvV hE hK hS sb (va_recv hK hP (ci := 3) (q0 := 26) rfl rfl)) rfl rfl hv.1 rfl (lv_room (Nat.le_of_ble_eq_true rfl)) dX11_odds_54 ⟨Nat.le_of_ble_eq_true rfl, Nat.le_of_ble_eq_true rfl⟩) hS sb (jnXth hP hD) (fun H locs hP hD hS => ?_)
          have hP : va_P D vwCl (wX cA xd vd sd nd hd td ed kd images errors_39 fewest vspoon vmark vcount vbodies sbits slens snum h_weight h_known h_hour h_swS h_swW h_waS h_spoons h_kind h_mark h_silver h_fresh h_texts h_tape h_tapeCount h_z h_waiting h_waitingCount t_weight_19 t_known_20 t_hour_21 t_swS_22 t_swW_23 t_waS_24 t_spoons_25 t_kind_26 t_mark_27 t_silver_28 t_fresh_29 t_texts_30 t_tape t_tapeCount t_z t_waiting t_waitingCount e_weight e_known e_hour e_swS e_swW e_waS e_spoons e_kind e_mark e_silver e_fresh e_texts e_tape e_tapeCount e_z e_waiting e_waitingCount L tx tst_39b) H := hP
          have hD : va_D A (wX cA xd vd sd nd hd td ed kd images errors_39 fewest vspoon vmark vcount vbodies sbits slens snum h_weight h_known h_hour h_swS h_swW h_waS h_spoons h_kind h_mark h_silver h_fresh h_texts h_tape h_tapeCount h_z h_waiting h_waitingCount t_weight_19 t_known_20 t_hour_21 t_swS_22 t_swW_23 t_waS_24 t_spoons_25 t_kind_26 t_mark_27 t_silver_28 t_fresh_29 t_texts_30 t_tape t_tapeCount t_z t_waiting t_waitingCount e_weight e_known e_hour e_swS e_swW e_waS e_spoons e_kind e_mark e_silver e_fresh e_texts e_tape e_tapeCount e_z e_waiting e_waitingCount L tx tst_39b) := hD
          refine lv_aload_n hx hb dX11_odds_57 rfl (lv_at hv 0 rfl) ?_
          refine va_get (D := D) (ci := 11) (v := .ref (td 0)) (C := RX11) (T := TX11) (N := 9) hx hb hts in_11 hown hK hP 0 rfl rfl 1 (by decide) w_1 (fun _ h9 => h9) rfl dX11_odds_58 ?_
          refine va_get (D := D) (ci := 3) (v := .ref (td 6)) (C := RX3) (T := TX3) (N := 18) hx hb hts in_3 hown hK hP 26 rfl rfl 5 (by decide) w_3 (fun _ h9 => h9) rfl dX11_odds_61 ?_
          refine lv_aload_n hx hb dX11_odds_64 rfl (lv_at hv 0 rfl) ?_
          refine va_get (D := D) (ci := 11) (v := .ref (td 0)) (C := RX11) (T := TX11) (N := 9) hx hb hts in_11 hown hK hP 0 rfl rfl 1 (by decide) w_1 (fun _ h9 => h9) rfl dX11_odds_65 ?_
          obtain ⟨r_32, hf_33, h⟩ := bd_ex h
          have sb : Sb D A H (wH cA td kd t_weight_19 t_known_20 t_hour_21 t_swS_22 t_swW_23 t_waS_24 t_spoons_25 t_kind_26 t_mark_27 t_silver_28 t_fresh_29 t_texts_30 t_tape t_tapeCount t_z t_waiting t_waitingCount L tx tst_39b) := sbXt hP hD hS hA
          refine calI (va_runV (As := []) (rest := [.ref (td 6)]) ⟨hx, hb, hml, hown, hts⟩ (c_X3_swallowPlace l G D cA td kd _ t_weight_19 t_known_20 t_hour_21 t_swS_22 t_swW_23 t_waS_24 t_spoons_25 t_kind_26 t_mark_27 t_silver_28 t_fresh_29 t_texts_30 t_tape t_tapeCount t_z t_waiting t_waitingCount L tx tst_39b r_32 hf_33) (cwV 0 hts gX11_odds_X3_swallowPlace rfl rfl rfl (by decide +kernel) ⟨Nat.le_of_ble_eq_true rfl, Nat.le_of_ble_eq_true rfl⟩) (pvV hE hK hS sb (va_recv hK hP (ci := 3) (q0 := 26) rfl rfl)) rfl rfl hv.1 rfl (lv_room (Nat.le_of_ble_eq_true rfl)) dX11_odds_68 ⟨Nat.le_of_ble_eq_true rfl, Nat.le_of_ble_eq_true rfl⟩) hS sb (jnXt hP hD) (fun H locs hP hD hS => ?_)
          have hP : va_P D vwCl (wX cA xd vd sd nd hd td ed kd images errors_39 fewest vspoon vmark vcount vbodies sbits slens snum h_weight h_known h_hour h_swS h_swW h_waS h_spoons h_kind h_mark h_silver h_fresh h_texts h_tape h_tapeCount h_z h_waiting h_waitingCount t_weight_19 t_known_20 t_hour_21 t_swS_22 t_swW_23 t_waS_24 t_spoons_25 t_kind_26 t_mark_27 t_silver_28 t_fresh_29 t_texts_30 t_tape t_tapeCount t_z t_waiting t_waitingCount e_weight e_known e_hour e_swS e_swW e_waS e_spoons e_kind e_mark e_silver e_fresh e_texts e_tape e_tapeCount e_z e_waiting e_waitingCount L tx tst_39b) H := hP
          have hD : va_D A (wX cA xd vd sd nd hd td ed kd images errors_39 fewest vspoon vmark vcount vbodies sbits slens snum h_weight h_known h_hour h_swS h_swW h_waS h_spoons h_kind h_mark h_silver h_fresh h_texts h_tape h_tapeCount h_z h_waiting h_waitingCount t_weight_19 t_known_20 t_hour_21 t_swS_22 t_swW_23 t_waS_24 t_spoons_25 t_kind_26 t_mark_27 t_silver_28 t_fresh_29 t_texts_30 t_tape t_tapeCount t_z t_waiting t_waitingCount e_weight e_known e_hour e_swS e_swW e_waS e_spoons e_kind e_mark e_silver e_fresh e_texts e_tape e_tapeCount e_z e_waiting e_waitingCount L tx tst_39b) := hD
          refine lv_iload hx hb dX11_odds_71 (lv_at hv 5 rfl) ?_
          obtain ⟨c_34, h⟩ := ckI_ex h
          obtain ⟨t_swW_35, et_swW_35, h⟩ := bnd_ex h
          refine va_iast (D := D) hx hb hK hP hD hS 29 0 rfl rfl c_34 dX11_odds_73 (fun H locs hP hD hS => ?_)
          rw [← et_swW_35] at hP hD
          have hP : va_P D vwCl (wX cA xd vd sd nd hd td ed kd images errors_39 fewest vspoon vmark vcount vbodies sbits slens snum h_weight h_known h_hour h_swS h_swW h_waS h_spoons h_kind h_mark h_silver h_fresh h_texts h_tape h_tapeCount h_z h_waiting h_waitingCount t_weight_19 t_known_20 t_hour_21 t_swS_22 t_swW_35 t_waS_24 t_spoons_25 t_kind_26 t_mark_27 t_silver_28 t_fresh_29 t_texts_30 t_tape t_tapeCount t_z t_waiting t_waitingCount e_weight e_known e_hour e_swS e_swW e_waS e_spoons e_kind e_mark e_silver e_fresh e_texts e_tape e_tapeCount e_z e_waiting e_waitingCount L tx tst_39b) H := hP
          have hD : va_D A (wX cA xd vd sd nd hd td ed kd images errors_39 fewest vspoon vmark vcount vbodies sbits slens snum h_weight h_known h_hour h_swS h_swW h_waS h_spoons h_kind h_mark h_silver h_fresh h_texts h_tape h_tapeCount h_z h_waiting h_waitingCount t_weight_19 t_known_20 t_hour_21 t_swS_22 t_swW_35 t_waS_24 t_spoons_25 t_kind_26 t_mark_27 t_silver_28 t_fresh_29 t_texts_30 t_tape t_tapeCount t_z t_waiting t_waitingCount e_weight e_known e_hour e_swS e_swW e_waS e_spoons e_kind e_mark e_silver e_fresh e_texts e_tape e_tapeCount e_z e_waiting e_waitingCount L tx tst_39b) := hD
          refine lv_aload_n hx hb dX11_odds_74 rfl (lv_at hv 0 rfl) ?_
          refine va_get (D := D) (ci := 11) (v := .ref (td 0)) (C := RX11) (T := TX11) (N := 9) hx hb hts in_11 hown hK hP 0 rfl rfl 1 (by decide) w_1 (fun _ h9 => h9) rfl dX11_odds_75 ?_
          refine lv_iload_n hx hb dX11_odds_78 rfl (lv_at hv 1 rfl) ?_
          obtain ⟨⟨t_known_36, t_hour_37, t_silver_38, t_fresh_39, tst_40⟩, hf_41, h⟩ := bd_ex h
          have sb : Sb D A H (wH cA td kd t_weight_19 t_known_20 t_hour_21 t_swS_22 t_swW_35 t_waS_24 t_spoons_25 t_kind_26 t_mark_27 t_silver_28 t_fresh_29 t_texts_30 t_tape t_tapeCount t_z t_waiting t_waitingCount L tx tst_39b) := sbXt hP hD hS hA
          refine calV (va_runV (As := [.int v1_39]) (rest := []) ⟨hx, hb, hml, hown, hts⟩ (c_X3_passHours l G D cA td kd _ t_weight_19 t_known_20 t_hour_21 t_swS_22 t_swW_35 t_waS_24 t_spoons_25 t_kind_26 t_mark_27 t_silver_28 t_fresh_29 t_texts_30 t_tape t_tapeCount t_z t_waiting t_waitingCount L tx tst_39b v1_39 t_known_36 t_hour_37 t_silver_38 t_fresh_39 tst_40 hf_41) (cwV 1 hts gX11_odds_X3_passHours rfl rfl rfl (by decide +kernel) ⟨Nat.le_of_ble_eq_true rfl, Nat.le_of_ble_eq_true rfl⟩) (pvV hE hK hS sb (va_recv hK hP (ci := 3) (q0 := 26) rfl rfl)) rfl rfl hv.1 rfl (lv_room (Nat.le_of_ble_eq_true rfl)) dX11_odds_79 ⟨Nat.le_of_ble_eq_true rfl, Nat.le_of_ble_eq_true rfl⟩) hS sb (jnXt hP hD) (fun H locs hP hD hS => ?_)
          have hP : va_P D vwCl (wX cA xd vd sd nd hd td ed kd images errors_39 fewest vspoon vmark vcount vbodies sbits slens snum h_weight h_known h_hour h_swS h_swW h_waS h_spoons h_kind h_mark h_silver h_fresh h_texts h_tape h_tapeCount h_z h_waiting h_waitingCount t_weight_19 t_known_36 t_hour_37 t_swS_22 t_swW_35 t_waS_24 t_spoons_25 t_kind_26 t_mark_27 t_silver_38 t_fresh_39 t_texts_30 t_tape t_tapeCount t_z t_waiting t_waitingCount e_weight e_known e_hour e_swS e_swW e_waS e_spoons e_kind e_mark e_silver e_fresh e_texts e_tape e_tapeCount e_z e_waiting e_waitingCount L tx tst_40) H := hP
          have hD : va_D A (wX cA xd vd sd nd hd td ed kd images errors_39 fewest vspoon vmark vcount vbodies sbits slens snum h_weight h_known h_hour h_swS h_swW h_waS h_spoons h_kind h_mark h_silver h_fresh h_texts h_tape h_tapeCount h_z h_waiting h_waitingCount t_weight_19 t_known_36 t_hour_37 t_swS_22 t_swW_35 t_waS_24 t_spoons_25 t_kind_26 t_mark_27 t_silver_38 t_fresh_39 t_texts_30 t_tape t_tapeCount t_z t_waiting t_waitingCount e_weight e_known e_hour e_swS e_swW e_waS e_spoons e_kind e_mark e_silver e_fresh e_texts e_tape e_tapeCount e_z e_waiting e_waitingCount L tx tst_40) := hD
          refine lv_aload_n hx hb dX11_odds_82 rfl (lv_at hv 0 rfl) ?_
          refine va_get (D := D) (ci := 11) (v := .ref (td 0)) (C := RX11) (T := TX11) (N := 9) hx hb hts in_11 hown hK hP 0 rfl rfl 1 (by decide) w_1 (fun _ h9 => h9) rfl dX11_odds_83 ?_
          refine lv_iload_n hx hb dX11_odds_86 rfl (lv_at hv 2 rfl) ?_
          obtain ⟨r_42, hf_43, h⟩ := bd_ex h
          have sb : Sb D A H (wH cA td kd t_weight_19 t_known_36 t_hour_37 t_swS_22 t_swW_35 t_waS_24 t_spoons_25 t_kind_26 t_mark_27 t_silver_38 t_fresh_39 t_texts_30 t_tape t_tapeCount t_z t_waiting t_waitingCount L tx tst_40) := sbXt hP hD hS hA
          refine calI (va_runV (As := [.int v2_39]) (rest := []) ⟨hx, hb, hml, hown, hts⟩ (c_X3_knows l G D cA td kd _ t_weight_19 t_known_36 t_hour_37 t_swS_22 t_swW_35 t_waS_24 t_spoons_25 t_kind_26 t_mark_27 t_silver_38 t_fresh_39 t_texts_30 t_tape t_tapeCount t_z t_waiting t_waitingCount L tx tst_40 v2_39 r_42 hf_43) (cwV 1 hts gX11_odds_X3_knows rfl rfl rfl (by decide +kernel) ⟨Nat.le_of_ble_eq_true rfl, Nat.le_of_ble_eq_true rfl⟩) (pvV hE hK hS sb (va_recv hK hP (ci := 3) (q0 := 26) rfl rfl)) rfl rfl hv.1 rfl (lv_room (Nat.le_of_ble_eq_true rfl)) dX11_odds_87 ⟨Nat.le_of_ble_eq_true rfl, Nat.le_of_ble_eq_true rfl⟩) hS sb (jnXt hP hD) (fun H locs hP hD hS => ?_)
          have hP : va_P D vwCl (wX cA xd vd sd nd hd td ed kd images errors_39 fewest vspoon vmark vcount vbodies sbits slens snum h_weight h_known h_hour h_swS h_swW h_waS h_spoons h_kind h_mark h_silver h_fresh h_texts h_tape h_tapeCount h_z h_waiting h_waitingCount t_weight_19 t_known_36 t_hour_37 t_swS_22 t_swW_35 t_waS_24 t_spoons_25 t_kind_26 t_mark_27 t_silver_38 t_fresh_39 t_texts_30 t_tape t_tapeCount t_z t_waiting t_waitingCount e_weight e_known e_hour e_swS e_swW e_waS e_spoons e_kind e_mark e_silver e_fresh e_texts e_tape e_tapeCount e_z e_waiting e_waitingCount L tx tst_40) H := hP
          have hD : va_D A (wX cA xd vd sd nd hd td ed kd images errors_39 fewest vspoon vmark vcount vbodies sbits slens snum h_weight h_known h_hour h_swS h_swW h_waS h_spoons h_kind h_mark h_silver h_fresh h_texts h_tape h_tapeCount h_z h_waiting h_waitingCount t_weight_19 t_known_36 t_hour_37 t_swS_22 t_swW_35 t_waS_24 t_spoons_25 t_kind_26 t_mark_27 t_silver_38 t_fresh_39 t_texts_30 t_tape t_tapeCount t_z t_waiting t_waitingCount e_weight e_known e_hour e_swS e_swW e_waS e_spoons e_kind e_mark e_silver e_fresh e_texts e_tape e_tapeCount e_z e_waiting e_waitingCount L tx tst_40) := hD
          refine lv_if_eq (tgt := 96) hx hb dX11_odds_90 (by decide) (fun c_44 => ?_) (fun c_44 => ?_)
          · have h := ite_t c_44 h
            exact C_96 v4_39b v5_39b t_weight_19 t_known_36 t_hour_37 t_swS_22 t_swW_35 t_waS_24 t_spoons_25 t_kind_26 t_mark_27 t_silver_38 t_fresh_39 t_texts_30 tst_40 _ h hl _ _ _ hP hD hS (lv_sub hv [0, 1, 2, 3, 4, 5] rfl)
          · have h := ite_f c_44 h
            obtain ⟨y_46, ey_46, h⟩ := bnd_ex h
            refine lv_iinc (v := y_46) (lv' := [(4, .int y_46), (0, .ref (xd 0)), (1, .int v1_39), (2, .int v2_39), (3, .int v3_39), (5, .int v5_39b)]) hx hb dX11_odds_93 hv (k := 4) rfl (by rw [ey_46]; rfl) (by decide) rfl (fun ls hv => ?_)
            exact C_96 y_46 v5_39b t_weight_19 t_known_36 t_hour_37 t_swS_22 t_swW_35 t_waS_24 t_spoons_25 t_kind_26 t_mark_27 t_silver_38 t_fresh_39 t_texts_30 tst_40 _ h hl _ _ _ hP hD hS (lv_sub hv [1, 2, 3, 4, 0, 5] rfl)
    exact LB FU v4_39 v5_39 t_weight_39 t_known_39 t_hour_39 t_swS_39 t_swW_39 t_waS_39 t_spoons_39 t_kind_39 t_mark_39 t_silver_39 t_fresh_39 t_texts_39 tst_39 ho
  have hP : va_P D vwCl (wX cA xd vd sd nd hd td ed kd images errors fewest vspoon vmark vcount vbodies sbits slens snum h_weight h_known h_hour h_swS h_swW h_waS h_spoons h_kind h_mark h_silver h_fresh h_texts h_tape h_tapeCount h_z h_waiting h_waitingCount t_weight t_known t_hour t_swS t_swW t_waS t_spoons t_kind t_mark t_silver t_fresh t_texts t_tape t_tapeCount t_z t_waiting t_waitingCount e_weight e_known e_hour e_swS e_swW e_waS e_spoons e_kind e_mark e_silver e_fresh e_texts e_tape e_tapeCount e_z e_waiting e_waitingCount L tx tst) H := hP
  unfold fX11_odds at h
  refine lv_iload_n hx hb dX11_odds_0 rfl (lv_at hv 1 rfl) ?_
  refine lv_iconst (v := (0 : Int32)) hx hb dX11_odds_1 (by decide) ?_
  refine lv_bipush (v := (30 : Int32)) hx hb dX11_odds_2 (by decide) ?_
  obtain ⟨r_1, hf_2, h⟩ := bd_ex h
  have sb := Sb.nil hP hD hS hA
  refine calI (va_runS (As := [.int n, .int (0 : Int32), .int (30 : Int32)]) (rest := []) ⟨hx, hb, hml, hown, hts⟩ (c_X11_within l G D cA  _ n (0 : Int32) (30 : Int32) r_1 hf_2) (va_cwS 3 hts gX11_odds_X11_within rfl rfl rfl (by decide +kernel) ⟨Nat.le_of_ble_eq_true rfl, Nat.le_of_ble_eq_true rfl⟩) (pvS hE hK hS sb) rfl rfl hv.1 rfl (lv_room (Nat.le_of_ble_eq_true rfl)) dX11_odds_4 ⟨Nat.le_of_ble_eq_true rfl, Nat.le_of_ble_eq_true rfl⟩) hS sb (Jn.nil hP hD) (fun H locs hP hD hS => ?_)
  have hP : va_P D vwCl (wX cA xd vd sd nd hd td ed kd images errors fewest vspoon vmark vcount vbodies sbits slens snum h_weight h_known h_hour h_swS h_swW h_waS h_spoons h_kind h_mark h_silver h_fresh h_texts h_tape h_tapeCount h_z h_waiting h_waitingCount t_weight t_known t_hour t_swS t_swW t_waS t_spoons t_kind t_mark t_silver t_fresh t_texts t_tape t_tapeCount t_z t_waiting t_waitingCount e_weight e_known e_hour e_swS e_swW e_waS e_spoons e_kind e_mark e_silver e_fresh e_texts e_tape e_tapeCount e_z e_waiting e_waitingCount L tx tst) H := hP
  have hD : va_D A (wX cA xd vd sd nd hd td ed kd images errors fewest vspoon vmark vcount vbodies sbits slens snum h_weight h_known h_hour h_swS h_swW h_waS h_spoons h_kind h_mark h_silver h_fresh h_texts h_tape h_tapeCount h_z h_waiting h_waitingCount t_weight t_known t_hour t_swS t_swW t_waS t_spoons t_kind t_mark t_silver t_fresh t_texts t_tape t_tapeCount t_z t_waiting t_waitingCount e_weight e_known e_hour e_swS e_swW e_waS e_spoons e_kind e_mark e_silver e_fresh e_texts e_tape e_tapeCount e_z e_waiting e_waitingCount L tx tst) := hD
  refine lv_if_eq (tgt := 26) hx hb dX11_odds_7 (by decide) (fun c_3 => ?_) (fun c_3 => ?_)
  · have h := ite_t c_3 h
    exact C_26 errors t_weight t_known t_hour t_swS t_swW t_waS t_spoons t_kind t_mark t_silver t_fresh t_texts tst h _ _ _ hP hD hS (lv_sub hv [0] rfl)
  · have h := ite_f c_3 h
    refine lv_iload_n hx hb dX11_odds_10 rfl (lv_at hv 2 rfl) ?_
    obtain ⟨r_7, hf_8, h⟩ := bd_ex h
    have sb := Sb.nil hP hD hS hA
    refine calI (va_runS (As := [.int a]) (rest := []) ⟨hx, hb, hml, hown, hts⟩ (c_X11_isWord l G D cA  _ a r_7 hf_8) (va_cwS 1 hts gX11_odds_X11_isWord rfl rfl rfl (by decide +kernel) ⟨Nat.le_of_ble_eq_true rfl, Nat.le_of_ble_eq_true rfl⟩) (pvS hE hK hS sb) rfl rfl hv.1 rfl (lv_room (Nat.le_of_ble_eq_true rfl)) dX11_odds_11 ⟨Nat.le_of_ble_eq_true rfl, Nat.le_of_ble_eq_true rfl⟩) hS sb (Jn.nil hP hD) (fun H locs hP hD hS => ?_)
    have hP : va_P D vwCl (wX cA xd vd sd nd hd td ed kd images errors fewest vspoon vmark vcount vbodies sbits slens snum h_weight h_known h_hour h_swS h_swW h_waS h_spoons h_kind h_mark h_silver h_fresh h_texts h_tape h_tapeCount h_z h_waiting h_waitingCount t_weight t_known t_hour t_swS t_swW t_waS t_spoons t_kind t_mark t_silver t_fresh t_texts t_tape t_tapeCount t_z t_waiting t_waitingCount e_weight e_known e_hour e_swS e_swW e_waS e_spoons e_kind e_mark e_silver e_fresh e_texts e_tape e_tapeCount e_z e_waiting e_waitingCount L tx tst) H := hP
    have hD : va_D A (wX cA xd vd sd nd hd td ed kd images errors fewest vspoon vmark vcount vbodies sbits slens snum h_weight h_known h_hour h_swS h_swW h_waS h_spoons h_kind h_mark h_silver h_fresh h_texts h_tape h_tapeCount h_z h_waiting h_waitingCount t_weight t_known t_hour t_swS t_swW t_waS t_spoons t_kind t_mark t_silver t_fresh t_texts t_tape t_tapeCount t_z t_waiting t_waitingCount e_weight e_known e_hour e_swS e_swW e_waS e_spoons e_kind e_mark e_silver e_fresh e_texts e_tape e_tapeCount e_z e_waiting e_waitingCount L tx tst) := hD
    refine lv_if_eq (tgt := 26) hx hb dX11_odds_14 (by decide) (fun c_9 => ?_) (fun c_9 => ?_)
    · have h := ite_t c_9 h
      exact C_26 errors t_weight t_known t_hour t_swS t_swW t_waS t_spoons t_kind t_mark t_silver t_fresh t_texts tst h _ _ _ hP hD hS (lv_sub hv [0] rfl)
    · have h := ite_f c_9 h
      refine lv_iload_n hx hb dX11_odds_17 rfl (lv_at hv 3 rfl) ?_
      refine lv_iconst (v := (0 : Int32)) hx hb dX11_odds_18 (by decide) ?_
      refine lv_iconst (v := (1 : Int32)) hx hb dX11_odds_19 (by decide) ?_
      obtain ⟨r_10, hf_11, h⟩ := bd_ex h
      have sb := Sb.nil hP hD hS hA
      refine calI (va_runS (As := [.int b, .int (0 : Int32), .int (1 : Int32)]) (rest := []) ⟨hx, hb, hml, hown, hts⟩ (c_X11_within l G D cA  _ b (0 : Int32) (1 : Int32) r_10 hf_11) (va_cwS 3 hts gX11_odds_X11_within rfl rfl rfl (by decide +kernel) ⟨Nat.le_of_ble_eq_true rfl, Nat.le_of_ble_eq_true rfl⟩) (pvS hE hK hS sb) rfl rfl hv.1 rfl (lv_room (Nat.le_of_ble_eq_true rfl)) dX11_odds_20 ⟨Nat.le_of_ble_eq_true rfl, Nat.le_of_ble_eq_true rfl⟩) hS sb (Jn.nil hP hD) (fun H locs hP hD hS => ?_)
      have hP : va_P D vwCl (wX cA xd vd sd nd hd td ed kd images errors fewest vspoon vmark vcount vbodies sbits slens snum h_weight h_known h_hour h_swS h_swW h_waS h_spoons h_kind h_mark h_silver h_fresh h_texts h_tape h_tapeCount h_z h_waiting h_waitingCount t_weight t_known t_hour t_swS t_swW t_waS t_spoons t_kind t_mark t_silver t_fresh t_texts t_tape t_tapeCount t_z t_waiting t_waitingCount e_weight e_known e_hour e_swS e_swW e_waS e_spoons e_kind e_mark e_silver e_fresh e_texts e_tape e_tapeCount e_z e_waiting e_waitingCount L tx tst) H := hP
      have hD : va_D A (wX cA xd vd sd nd hd td ed kd images errors fewest vspoon vmark vcount vbodies sbits slens snum h_weight h_known h_hour h_swS h_swW h_waS h_spoons h_kind h_mark h_silver h_fresh h_texts h_tape h_tapeCount h_z h_waiting h_waitingCount t_weight t_known t_hour t_swS t_swW t_waS t_spoons t_kind t_mark t_silver t_fresh t_texts t_tape t_tapeCount t_z t_waiting t_waitingCount e_weight e_known e_hour e_swS e_swW e_waS e_spoons e_kind e_mark e_silver e_fresh e_texts e_tape e_tapeCount e_z e_waiting e_waitingCount L tx tst) := hD
      refine lv_if_ne (tgt := 33) hx hb dX11_odds_23 (by decide) (fun c_12 => ?_) (fun c_12 => ?_)
      · have h := ite_f c_12 h
        refine lv_iconst (v := (0 : Int32)) hx hb dX11_odds_33 (by decide) ?_
        refine lv_istore (lv' := [(4, .int (0 : Int32)), (0, .ref (xd 0)), (1, .int n), (2, .int a), (3, .int b)]) hx hb dX11_odds_34 hv (by decide) rfl (fun ls hv => ?_)
        refine lv_iconst (v := (0 : Int32)) hx hb dX11_odds_36 (by decide) ?_
        refine lv_istore (lv' := [(5, .int (0 : Int32)), (4, .int (0 : Int32)), (0, .ref (xd 0)), (1, .int n), (2, .int a), (3, .int b)]) hx hb dX11_odds_37 hv (by decide) rfl (fun ls hv => ?_)
        exact C_39 n a b (0 : Int32) (0 : Int32) errors t_weight t_known t_hour t_swS t_swW t_waS t_spoons t_kind t_mark t_silver t_fresh t_texts tst h _ _ _ hP hD hS (lv_sub hv [2, 3, 4, 5, 1, 0] rfl)
      · have h := ite_t c_12 h
        exact C_26 errors t_weight t_known t_hour t_swS t_swW t_waS t_spoons t_kind t_mark t_silver t_fresh t_texts tst h _ _ _ hP hD hS (lv_sub hv [0] rfl)

