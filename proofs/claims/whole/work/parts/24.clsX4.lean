def fX3_swallowPlace (hour : Int32) : Option (Int32) :=
  bd (fJ9_floorMod_7cf53 hour (6 : Int32)) fun r_1 => some r_1
set_option maxHeartbeats 4000000 in
set_option maxRecDepth 100000 in
theorem c_X3_swallowPlace (l : Launch) (G : Nat → Nat) (D : va_G) (cA : Nat → ClassId) (ad : Nat → Nat) (kd : Nat → Nat) (sz : Nat) (weight : Nat → Int32) (known : Int32) (hour : Int32) (swS : Nat → Int32) (swW : Nat → Int32) (waS : Nat → Int32) (spoons : Int32) (kind : Nat → Int32) (mark : Nat → Int32) (silver : Nat → Int32) (fresh : Nat → Int64) (texts : Nat → Option Nat) (tape : Nat → Int32) (tapeCount : Int32) (z : Int32) (waiting : Nat → Int32) (waitingCount : Int32) (L : List Nat) (tx : Nat → TXc) (tst : Nat → Nat → Int32) (rR : Int32) (h : fX3_swallowPlace hour = some rR) : Met l yX3_swallowPlace wsX3_swallowPlace ({ frames := 1, cells := 0, slots := 0, locals := 22 } : Room) (PW G D (tyC cA) sz (wH cA ad kd weight known hour swS swW waS spoons kind mark silver fresh texts tape tapeCount z waiting waitingCount L tx tst) [.ref (ad 0)]) (QI D (tyC cA) (va_A (wH cA ad kd weight known hour swS swW waS spoons kind mark silver fresh texts tape tapeCount z waiting waitingCount L tx tst) sz) rR (wH cA ad kd weight known hour swS swW waS spoons kind mark silver fresh texts tape tapeCount z waiting waitingCount L tx tst)) 0 0 (va_A (wH cA ad kd weight known hour swS swW waS spoons kind mark silver fresh texts tape tapeCount z waiting waitingCount L tx tst) sz) := by
  refine ent (cc := cX3_swallowPlace) (maxL := 1) (ret := (some .int)) (fun A => QI D (tyC cA) A rR (wH cA ad kd weight known hour swS swW waS spoons kind mark silver fresh texts tape tapeCount z waiting waitingCount L tx tst)) (by decide +kernel) rfl (Nat.le_of_ble_eq_true rfl) ?_
  intro p e s m args below meth c A ls H hx hb hml hr hlk hts hown hA hK hE hP hD hS hv hmm
  have hv : lv_has ls 1 [(0, .ref (ad 0))] := hv
  have in_3 : ∀ w ∈ u_ws RX3 TX3 18, w ∈ wsX3_swallowPlace := fun _ h => List.mem_cons_of_mem _ (List.mem_append_right _ h)
  have w_0 := hts (.fieldLink RX3 72 "SpoonsLast$House" "hour" "I") (List.mem_of_getElem? (i := 1) rfl)
  generalize hQ : MQ below _ args s 0 0 A = Q
  have hP : va_P D vwCl (wH cA ad kd weight known hour swS swW waS spoons kind mark silver fresh texts tape tapeCount z waiting waitingCount L tx tst) H := hP
  unfold fX3_swallowPlace at h
  refine lv_aload_n hx hb dX3_swallowPlace_0 rfl (lv_at hv 0 rfl) ?_
  refine va_get (D := D) (ci := 3) (v := .int hour) (C := RX3) (T := TX3) (N := 18) hx hb hts in_3 hown hK hP 0 rfl rfl 3 (by decide) w_0 (fun _ h9 => h9) rfl dX3_swallowPlace_1 ?_
  refine lv_bipush (v := (6 : Int32)) hx hb dX3_swallowPlace_4 (by decide) ?_
  obtain ⟨r_1, hf_2, h⟩ := bd_ex h
  have sb := Sb.nil hP hD hS hA
  refine calI (va_runS (As := [.int hour, .int (6 : Int32)]) (rest := []) ⟨hx, hb, hml, hown, hts⟩ (c_J9_floorMod_7cf53 l G D cA  _ hour (6 : Int32) r_1 hf_2) (va_cwS 2 hts gX3_swallowPlace_J9_floorMod_7cf53 rfl rfl rfl (by decide +kernel) ⟨Nat.le_of_ble_eq_true rfl, Nat.le_of_ble_eq_true rfl⟩) (pvS hE hK hS sb) rfl rfl hv.1 rfl (lv_room (Nat.le_of_ble_eq_true rfl)) dX3_swallowPlace_6 ⟨Nat.le_of_ble_eq_true rfl, Nat.le_of_ble_eq_true rfl⟩) hS sb (Jn.nil hP hD) (fun H locs hP hD hS => ?_)
  have hP : va_P D vwCl (wH cA ad kd weight known hour swS swW waS spoons kind mark silver fresh texts tape tapeCount z waiting waitingCount L tx tst) H := hP
  have hD : va_D A (wH cA ad kd weight known hour swS swW waS spoons kind mark silver fresh texts tape tapeCount z waiting waitingCount L tx tst) := hD
  have h := Option.some.inj h
  have ee0 : r_1 = rR := congrArg (fun q => q) h
  subst ee0
  rw [← hQ]
  exact retI hx hb hr hlk hK hP hD hS dX3_swallowPlace_9 ⟨Nat.le_of_ble_eq_true rfl, Nat.le_of_ble_eq_true rfl⟩

def fX3_swallowAt (a : Int32) (swS : Nat → Int32) (swW : Nat → Int32) : Option (Int32) :=
  ckI a 6 (ckI a 6 (some (((12 : Int32) * ((swS (a).toNatClampNeg) + (1 : Int32))) + (swW (a).toNatClampNeg))))
set_option maxHeartbeats 4000000 in
set_option maxRecDepth 100000 in
theorem c_X3_swallowAt (l : Launch) (G : Nat → Nat) (D : va_G) (cA : Nat → ClassId) (ad : Nat → Nat) (kd : Nat → Nat) (sz : Nat) (weight : Nat → Int32) (known : Int32) (hour : Int32) (swS : Nat → Int32) (swW : Nat → Int32) (waS : Nat → Int32) (spoons : Int32) (kind : Nat → Int32) (mark : Nat → Int32) (silver : Nat → Int32) (fresh : Nat → Int64) (texts : Nat → Option Nat) (tape : Nat → Int32) (tapeCount : Int32) (z : Int32) (waiting : Nat → Int32) (waitingCount : Int32) (L : List Nat) (tx : Nat → TXc) (tst : Nat → Nat → Int32) (a : Int32) (rR : Int32) (h : fX3_swallowAt a swS swW = some rR) : Met l yX3_swallowAt wsX3_swallowAt ({ frames := 0, cells := 0, slots := 0, locals := 0 } : Room) (PW G D (tyC cA) sz (wH cA ad kd weight known hour swS swW waS spoons kind mark silver fresh texts tape tapeCount z waiting waitingCount L tx tst) [.ref (ad 0), .int a]) (QI D (tyC cA) (va_A (wH cA ad kd weight known hour swS swW waS spoons kind mark silver fresh texts tape tapeCount z waiting waitingCount L tx tst) sz) rR (wH cA ad kd weight known hour swS swW waS spoons kind mark silver fresh texts tape tapeCount z waiting waitingCount L tx tst)) 0 0 (va_A (wH cA ad kd weight known hour swS swW waS spoons kind mark silver fresh texts tape tapeCount z waiting waitingCount L tx tst) sz) := by
  refine ent (cc := cX3_swallowAt) (maxL := 2) (ret := (some .int)) (fun A => QI D (tyC cA) A rR (wH cA ad kd weight known hour swS swW waS spoons kind mark silver fresh texts tape tapeCount z waiting waitingCount L tx tst)) (by decide +kernel) rfl (Nat.le_of_ble_eq_true rfl) ?_
  intro p e s m args below meth c A ls H hx hb hml hr hlk hts hown hA hK hE hP hD hS hv hmm
  have hv : lv_has ls 2 [(0, .ref (ad 0)), (1, .int a)] := hv
  have in_3 : ∀ w ∈ u_ws RX3 TX3 18, w ∈ wsX3_swallowAt := fun _ h => List.mem_cons_of_mem _ (List.mem_append_right _ h)
  have w_0 := hts (.fieldLink RX3 15 "SpoonsLast$House" "swallowSpoon" "[I") (List.mem_of_getElem? (i := 1) rfl)
  have w_1 := hts (.fieldLink RX3 18 "SpoonsLast$House" "swallowWord" "[I") (List.mem_of_getElem? (i := 2) rfl)
  generalize hQ : MQ below _ args s 0 0 A = Q
  have hP : va_P D vwCl (wH cA ad kd weight known hour swS swW waS spoons kind mark silver fresh texts tape tapeCount z waiting waitingCount L tx tst) H := hP
  unfold fX3_swallowAt at h
  refine lv_bipush (v := (12 : Int32)) hx hb dX3_swallowAt_0 (by decide) ?_
  refine lv_aload_n hx hb dX3_swallowAt_2 rfl (lv_at hv 0 rfl) ?_
  refine va_get (D := D) (ci := 3) (v := .ref (ad 5)) (C := RX3) (T := TX3) (N := 18) hx hb hts in_3 hown hK hP 0 rfl rfl 4 (by decide) w_0 (fun _ h9 => h9) rfl dX3_swallowAt_3 ?_
  refine lv_iload_n hx hb dX3_swallowAt_6 rfl (lv_at hv 1 rfl) ?_
  obtain ⟨c_1, h⟩ := ckI_ex h
  refine va_iald (D := D) hx hb hK hP 2 0 rfl rfl c_1 dX3_swallowAt_7 ?_
  refine lv_iconst (v := (1 : Int32)) hx hb dX3_swallowAt_8 (by decide) ?_
  refine lv_iadd hx hb dX3_swallowAt_9 ?_
  refine lv_imul hx hb dX3_swallowAt_10 ?_
  refine lv_aload_n hx hb dX3_swallowAt_11 rfl (lv_at hv 0 rfl) ?_
  refine va_get (D := D) (ci := 3) (v := .ref (ad 6)) (C := RX3) (T := TX3) (N := 18) hx hb hts in_3 hown hK hP 0 rfl rfl 5 (by decide) w_1 (fun _ h9 => h9) rfl dX3_swallowAt_12 ?_
  refine lv_iload_n hx hb dX3_swallowAt_15 rfl (lv_at hv 1 rfl) ?_
  obtain ⟨c_2, h⟩ := ckI_ex h
  refine va_iald (D := D) hx hb hK hP 3 0 rfl rfl c_2 dX3_swallowAt_16 ?_
  refine lv_iadd hx hb dX3_swallowAt_17 ?_
  have h := Option.some.inj h
  have ee0 : (((12 : Int32) * ((swS (a).toNatClampNeg) + (1 : Int32))) + (swW (a).toNatClampNeg)) = rR := congrArg (fun q => q) h
  subst ee0
  rw [← hQ]
  exact retI hx hb hr hlk hK hP hD hS dX3_swallowAt_18 ⟨Nat.le_of_ble_eq_true rfl, Nat.le_of_ble_eq_true rfl⟩

def fX3_knows (a : Int32) (known : Int32) : Option (Int32) :=
  (if ((known >>> (a &&& 31)) &&& (1 : Int32)) = (1 : Int32) then some (1 : Int32) else some (0 : Int32))
set_option maxHeartbeats 4000000 in
set_option maxRecDepth 100000 in
theorem c_X3_knows (l : Launch) (G : Nat → Nat) (D : va_G) (cA : Nat → ClassId) (ad : Nat → Nat) (kd : Nat → Nat) (sz : Nat) (weight : Nat → Int32) (known : Int32) (hour : Int32) (swS : Nat → Int32) (swW : Nat → Int32) (waS : Nat → Int32) (spoons : Int32) (kind : Nat → Int32) (mark : Nat → Int32) (silver : Nat → Int32) (fresh : Nat → Int64) (texts : Nat → Option Nat) (tape : Nat → Int32) (tapeCount : Int32) (z : Int32) (waiting : Nat → Int32) (waitingCount : Int32) (L : List Nat) (tx : Nat → TXc) (tst : Nat → Nat → Int32) (a : Int32) (rR : Int32) (h : fX3_knows a known = some rR) : Met l yX3_knows wsX3_knows ({ frames := 0, cells := 0, slots := 0, locals := 0 } : Room) (PW G D (tyC cA) sz (wH cA ad kd weight known hour swS swW waS spoons kind mark silver fresh texts tape tapeCount z waiting waitingCount L tx tst) [.ref (ad 0), .int a]) (QI D (tyC cA) (va_A (wH cA ad kd weight known hour swS swW waS spoons kind mark silver fresh texts tape tapeCount z waiting waitingCount L tx tst) sz) rR (wH cA ad kd weight known hour swS swW waS spoons kind mark silver fresh texts tape tapeCount z waiting waitingCount L tx tst)) 0 0 (va_A (wH cA ad kd weight known hour swS swW waS spoons kind mark silver fresh texts tape tapeCount z waiting waitingCount L tx tst) sz) := by
  refine ent (cc := cX3_knows) (maxL := 2) (ret := (some .boolean)) (fun A => QI D (tyC cA) A rR (wH cA ad kd weight known hour swS swW waS spoons kind mark silver fresh texts tape tapeCount z waiting waitingCount L tx tst)) (by decide +kernel) rfl (Nat.le_of_ble_eq_true rfl) ?_
  intro p e s m args below meth c A ls H hx hb hml hr hlk hts hown hA hK hE hP hD hS hv hmm
  have hv : lv_has ls 2 [(0, .ref (ad 0)), (1, .int a)] := hv
  have in_3 : ∀ w ∈ u_ws RX3 TX3 18, w ∈ wsX3_knows := fun _ h => List.mem_cons_of_mem _ (List.mem_append_right _ h)
  have w_0 := hts (.fieldLink RX3 69 "SpoonsLast$House" "known" "I") (List.mem_of_getElem? (i := 1) rfl)
  generalize hQ : MQ below _ args s 0 0 A = Q
  have hP : va_P D vwCl (wH cA ad kd weight known hour swS swW waS spoons kind mark silver fresh texts tape tapeCount z waiting waitingCount L tx tst) H := hP
  unfold fX3_knows at h
  refine lv_aload_n hx hb dX3_knows_0 rfl (lv_at hv 0 rfl) ?_
  refine va_get (D := D) (ci := 3) (v := .int known) (C := RX3) (T := TX3) (N := 18) hx hb hts in_3 hown hK hP 0 rfl rfl 2 (by decide) w_0 (fun _ h9 => h9) rfl dX3_knows_1 ?_
  refine lv_iload_n hx hb dX3_knows_4 rfl (lv_at hv 1 rfl) ?_
  refine lv_ishr hx hb dX3_knows_5 ?_
  refine lv_iconst (v := (1 : Int32)) hx hb dX3_knows_6 (by decide) ?_
  refine lv_iand hx hb dX3_knows_7 ?_
  refine lv_iconst (v := (1 : Int32)) hx hb dX3_knows_8 (by decide) ?_
  refine lv_icmp_ne (tgt := 16) hx hb dX3_knows_9 (by decide) (fun c_1 => ?_) (fun c_1 => ?_)
  · have h := ite_f c_1 h
    refine lv_iconst (v := (0 : Int32)) hx hb dX3_knows_16 (by decide) ?_
    have h := Option.some.inj h
    have ee0 : (0 : Int32) = rR := congrArg (fun q => q) h
    subst ee0
    rw [← hQ]
    exact retZ (by decide) hx hb hr hlk hK hP hD hS dX3_knows_17 ⟨Nat.le_of_ble_eq_true rfl, Nat.le_of_ble_eq_true rfl⟩
  · have h := ite_t c_1 h
    refine lv_iconst (v := (1 : Int32)) hx hb dX3_knows_12 (by decide) ?_
    refine lv_goto (tgt := 17) hx hb dX3_knows_13 (by decide) ?_
    have h := Option.some.inj h
    have ee0 : (1 : Int32) = rR := congrArg (fun q => q) h
    subst ee0
    rw [← hQ]
    exact retZ (by decide) hx hb hr hlk hK hP hD hS dX3_knows_17 ⟨Nat.le_of_ble_eq_true rfl, Nat.le_of_ble_eq_true rfl⟩

def fX3_isWhole (a : Int32) (spoons : Int32) (silver : Nat → Int32) : Option (Int32) :=
  bd (fX11_within a (0 : Int32) (spoons - (1 : Int32))) fun r_1 => (if r_1 = 0 then some (0 : Int32) else ckI a 8 ((if (silver (a).toNatClampNeg) ≤ 0 then some (0 : Int32) else some (1 : Int32))))
set_option maxHeartbeats 4000000 in
set_option maxRecDepth 100000 in
theorem c_X3_isWhole (l : Launch) (G : Nat → Nat) (D : va_G) (cA : Nat → ClassId) (ad : Nat → Nat) (kd : Nat → Nat) (sz : Nat) (weight : Nat → Int32) (known : Int32) (hour : Int32) (swS : Nat → Int32) (swW : Nat → Int32) (waS : Nat → Int32) (spoons : Int32) (kind : Nat → Int32) (mark : Nat → Int32) (silver : Nat → Int32) (fresh : Nat → Int64) (texts : Nat → Option Nat) (tape : Nat → Int32) (tapeCount : Int32) (z : Int32) (waiting : Nat → Int32) (waitingCount : Int32) (L : List Nat) (tx : Nat → TXc) (tst : Nat → Nat → Int32) (a : Int32) (rR : Int32) (h : fX3_isWhole a spoons silver = some rR) : Met l yX3_isWhole wsX3_isWhole ({ frames := 1, cells := 0, slots := 0, locals := 22 } : Room) (PW G D (tyC cA) sz (wH cA ad kd weight known hour swS swW waS spoons kind mark silver fresh texts tape tapeCount z waiting waitingCount L tx tst) [.ref (ad 0), .int a]) (QI D (tyC cA) (va_A (wH cA ad kd weight known hour swS swW waS spoons kind mark silver fresh texts tape tapeCount z waiting waitingCount L tx tst) sz) rR (wH cA ad kd weight known hour swS swW waS spoons kind mark silver fresh texts tape tapeCount z waiting waitingCount L tx tst)) 0 0 (va_A (wH cA ad kd weight known hour swS swW waS spoons kind mark silver fresh texts tape tapeCount z waiting waitingCount L tx tst) sz) := by
  refine ent (cc := cX3_isWhole) (maxL := 2) (ret := (some .boolean)) (fun A => QI D (tyC cA) A rR (wH cA ad kd weight known hour swS swW waS spoons kind mark silver fresh texts tape tapeCount z waiting waitingCount L tx tst)) (by decide +kernel) rfl (Nat.le_of_ble_eq_true rfl) ?_
  intro p e s m args below meth c A ls H hx hb hml hr hlk hts hown hA hK hE hP hD hS hv hmm
  have hv : lv_has ls 2 [(0, .ref (ad 0)), (1, .int a)] := hv
  have in_3 : ∀ w ∈ u_ws RX3 TX3 18, w ∈ wsX3_isWhole := fun _ h => List.mem_cons_of_mem _ (List.mem_append_right _ h)
  have w_0 := hts (.fieldLink RX3 75 "SpoonsLast$House" "spoons" "I") (List.mem_of_getElem? (i := 1) rfl)
  have w_1 := hts (.initialized RX11) (List.mem_of_getElem? (i := 4) rfl)
  have w_2 := hts (.static yX11_within) (List.mem_of_getElem? (i := 3) rfl)
  have w_3 := hts (.fieldLink RX3 30 "SpoonsLast$House" "silver" "[I") (List.mem_of_getElem? (i := 2) rfl)
  generalize hQ : MQ below _ args s 0 0 A = Q
  have hP : va_P D vwCl (wH cA ad kd weight known hour swS swW waS spoons kind mark silver fresh texts tape tapeCount z waiting waitingCount L tx tst) H := hP
  unfold fX3_isWhole at h
  refine lv_iload_n hx hb dX3_isWhole_0 rfl (lv_at hv 1 rfl) ?_
  refine lv_iconst (v := (0 : Int32)) hx hb dX3_isWhole_1 (by decide) ?_
  refine lv_aload_n hx hb dX3_isWhole_2 rfl (lv_at hv 0 rfl) ?_
  refine va_get (D := D) (ci := 3) (v := .int spoons) (C := RX3) (T := TX3) (N := 18) hx hb hts in_3 hown hK hP 0 rfl rfl 7 (by decide) w_0 (fun _ h9 => h9) rfl dX3_isWhole_3 ?_
  refine lv_iconst (v := (1 : Int32)) hx hb dX3_isWhole_6 (by decide) ?_
  refine lv_isub hx hb dX3_isWhole_7 ?_
  obtain ⟨r_1, hf_2, h⟩ := bd_ex h
  have sb := Sb.nil hP hD hS hA
  refine calI (va_runSN (As := [.int a, .int (0 : Int32), .int (spoons - (1 : Int32))]) (rest := []) ⟨hx, hb, hml, hown, hts⟩ (c_X11_within l G D cA  _ a (0 : Int32) (spoons - (1 : Int32)) r_1 hf_2) ⟨va_cnB 3 hts gX3_isWhole_X11_within_n171 rfl rfl rfl (hE.1.1 (.methodLinkNest RX3 171 yX11_within RX11) (by decide +kernel)) w_1 (by decide +kernel) ⟨Nat.le_of_ble_eq_true rfl, Nat.le_of_ble_eq_true rfl⟩, w_2, trivial⟩ (pvS hE hK hS sb) rfl rfl hv.1 rfl (lv_room (Nat.le_of_ble_eq_true rfl)) dX3_isWhole_8 ⟨Nat.le_of_ble_eq_true rfl, Nat.le_of_ble_eq_true rfl⟩) hS sb (Jn.nil hP hD) (fun H locs hP hD hS => ?_)
  have hP : va_P D vwCl (wH cA ad kd weight known hour swS swW waS spoons kind mark silver fresh texts tape tapeCount z waiting waitingCount L tx tst) H := hP
  have hD : va_D A (wH cA ad kd weight known hour swS swW waS spoons kind mark silver fresh texts tape tapeCount z waiting waitingCount L tx tst) := hD
  refine lv_if_eq (tgt := 27) hx hb dX3_isWhole_11 (by decide) (fun c_3 => ?_) (fun c_3 => ?_)
  · have h := ite_t c_3 h
    refine lv_iconst (v := (0 : Int32)) hx hb dX3_isWhole_27 (by decide) ?_
    have h := Option.some.inj h
    have ee0 : (0 : Int32) = rR := congrArg (fun q => q) h
    subst ee0
    rw [← hQ]
    exact retZ (by decide) hx hb hr hlk hK hP hD hS dX3_isWhole_28 ⟨Nat.le_of_ble_eq_true rfl, Nat.le_of_ble_eq_true rfl⟩
  · have h := ite_f c_3 h
    refine lv_aload_n hx hb dX3_isWhole_14 rfl (lv_at hv 0 rfl) ?_
    refine va_get (D := D) (ci := 3) (v := .ref (ad 11)) (C := RX3) (T := TX3) (N := 18) hx hb hts in_3 hown hK hP 0 rfl rfl 10 (by decide) w_3 (fun _ h9 => h9) rfl dX3_isWhole_15 ?_
    refine lv_iload_n hx hb dX3_isWhole_18 rfl (lv_at hv 1 rfl) ?_
    obtain ⟨c_4, h⟩ := ckI_ex h
    refine va_iald (D := D) hx hb hK hP 7 0 rfl rfl c_4 dX3_isWhole_19 ?_
    refine lv_if_le (tgt := 27) hx hb dX3_isWhole_20 (by decide) (fun c_5 => ?_) (fun c_5 => ?_)
    · have h := ite_t c_5 h
      refine lv_iconst (v := (0 : Int32)) hx hb dX3_isWhole_27 (by decide) ?_
      have h := Option.some.inj h
      have ee0 : (0 : Int32) = rR := congrArg (fun q => q) h
      subst ee0
      rw [← hQ]
      exact retZ (by decide) hx hb hr hlk hK hP hD hS dX3_isWhole_28 ⟨Nat.le_of_ble_eq_true rfl, Nat.le_of_ble_eq_true rfl⟩
    · have h := ite_f c_5 h
      refine lv_iconst (v := (1 : Int32)) hx hb dX3_isWhole_23 (by decide) ?_
      refine lv_goto (tgt := 28) hx hb dX3_isWhole_24 (by decide) ?_
      have h := Option.some.inj h
      have ee0 : (1 : Int32) = rR := congrArg (fun q => q) h
      subst ee0
      rw [← hQ]
      exact retZ (by decide) hx hb hr hlk hK hP hD hS dX3_isWhole_28 ⟨Nat.le_of_ble_eq_true rfl, Nat.le_of_ble_eq_true rfl⟩

def fX3_wordsOn (a : Int32) (fresh : Nat → Int64) : Option (Int32) :=
  ckI a 8 (bd (fX3_freshAtLeast (fresh (a).toNatClampNeg) (1 : Int32)) fun r_2 => some r_2)
set_option maxHeartbeats 4000000 in
set_option maxRecDepth 100000 in
theorem c_X3_wordsOn (l : Launch) (G : Nat → Nat) (D : va_G) (cA : Nat → ClassId) (ad : Nat → Nat) (kd : Nat → Nat) (sz : Nat) (weight : Nat → Int32) (known : Int32) (hour : Int32) (swS : Nat → Int32) (swW : Nat → Int32) (waS : Nat → Int32) (spoons : Int32) (kind : Nat → Int32) (mark : Nat → Int32) (silver : Nat → Int32) (fresh : Nat → Int64) (texts : Nat → Option Nat) (tape : Nat → Int32) (tapeCount : Int32) (z : Int32) (waiting : Nat → Int32) (waitingCount : Int32) (L : List Nat) (tx : Nat → TXc) (tst : Nat → Nat → Int32) (a : Int32) (rR : Int32) (h : fX3_wordsOn a fresh = some rR) : Met l yX3_wordsOn wsX3_wordsOn ({ frames := 2, cells := 0, slots := 0, locals := 46 } : Room) (PW G D (tyC cA) sz (wH cA ad kd weight known hour swS swW waS spoons kind mark silver fresh texts tape tapeCount z waiting waitingCount L tx tst) [.ref (ad 0), .int a]) (QI D (tyC cA) (va_A (wH cA ad kd weight known hour swS swW waS spoons kind mark silver fresh texts tape tapeCount z waiting waitingCount L tx tst) sz) rR (wH cA ad kd weight known hour swS swW waS spoons kind mark silver fresh texts tape tapeCount z waiting waitingCount L tx tst)) 0 0 (va_A (wH cA ad kd weight known hour swS swW waS spoons kind mark silver fresh texts tape tapeCount z waiting waitingCount L tx tst) sz) := by
  refine ent (cc := cX3_wordsOn) (maxL := 2) (ret := (some .int)) (fun A => QI D (tyC cA) A rR (wH cA ad kd weight known hour swS swW waS spoons kind mark silver fresh texts tape tapeCount z waiting waitingCount L tx tst)) (by decide +kernel) rfl (Nat.le_of_ble_eq_true rfl) ?_
  intro p e s m args below meth c A ls H hx hb hml hr hlk hts hown hA hK hE hP hD hS hv hmm
  have hv : lv_has ls 2 [(0, .ref (ad 0)), (1, .int a)] := hv
  have in_3 : ∀ w ∈ u_ws RX3 TX3 18, w ∈ wsX3_wordsOn := fun _ h => List.mem_cons_of_mem _ (List.mem_append_right _ h)
  have w_0 := hts (.fieldLink RX3 33 "SpoonsLast$House" "fresh" "[J") (List.mem_of_getElem? (i := 1) rfl)
  generalize hQ : MQ below _ args s 0 0 A = Q
  have hP : va_P D vwCl (wH cA ad kd weight known hour swS swW waS spoons kind mark silver fresh texts tape tapeCount z waiting waitingCount L tx tst) H := hP
  unfold fX3_wordsOn at h
  refine lv_aload_n hx hb dX3_wordsOn_0 rfl (lv_at hv 0 rfl) ?_
  refine va_get (D := D) (ci := 3) (v := .ref (ad 12)) (C := RX3) (T := TX3) (N := 18) hx hb hts in_3 hown hK hP 0 rfl rfl 11 (by decide) w_0 (fun _ h9 => h9) rfl dX3_wordsOn_1 ?_
  refine lv_iload_n hx hb dX3_wordsOn_4 rfl (lv_at hv 1 rfl) ?_
  obtain ⟨c_1, h⟩ := ckI_ex h
  refine va_lald (D := D) hx hb hK hP 8 1 rfl rfl c_1 dX3_wordsOn_5 ?_
  refine lv_iconst (v := (1 : Int32)) hx hb dX3_wordsOn_6 (by decide) ?_
  obtain ⟨r_2, hf_3, h⟩ := bd_ex h
  have sb := Sb.nil hP hD hS hA
  refine calI (va_runS (As := [.long (fresh (a).toNatClampNeg), .int (1 : Int32)]) (rest := []) ⟨hx, hb, hml, hown, hts⟩ (c_X3_freshAtLeast l G D cA  _ (fresh (a).toNatClampNeg) (1 : Int32) r_2 hf_3) (va_cwS 2 hts gX3_wordsOn_X3_freshAtLeast rfl rfl rfl (by decide +kernel) ⟨Nat.le_of_ble_eq_true rfl, Nat.le_of_ble_eq_true rfl⟩) (pvS hE hK hS sb) rfl rfl hv.1 rfl (lv_room (Nat.le_of_ble_eq_true rfl)) dX3_wordsOn_7 ⟨Nat.le_of_ble_eq_true rfl, Nat.le_of_ble_eq_true rfl⟩) hS sb (Jn.nil hP hD) (fun H locs hP hD hS => ?_)
  have hP : va_P D vwCl (wH cA ad kd weight known hour swS swW waS spoons kind mark silver fresh texts tape tapeCount z waiting waitingCount L tx tst) H := hP
  have hD : va_D A (wH cA ad kd weight known hour swS swW waS spoons kind mark silver fresh texts tape tapeCount z waiting waitingCount L tx tst) := hD
  have h := Option.some.inj h
  have ee0 : r_2 = rR := congrArg (fun q => q) h
  subst ee0
  rw [← hQ]
  exact retI hx hb hr hlk hK hP hD hS dX3_wordsOn_10 ⟨Nat.le_of_ble_eq_true rfl, Nat.le_of_ble_eq_true rfl⟩

def fX3_wordsOnAny_29 (v1_4 : Int32) (v2_29 : Int32) (v3_29 : Int32) (spoons : Int32) (fresh : Nat → Int64) : Option ((Int32 × Int32) ⊕ (Int32 × Int32)) :=
  bnd (v3_29 + (1 : Int32)) fun y_3 => some (.inl (v2_29, y_3))
def fX3_wordsOnAny_4B (v1_4 : Int32) (spoons : Int32) (fresh : Nat → Int64) (v2_4b : Int32) (v3_4b : Int32) : Option ((Int32 × Int32) ⊕ (Int32 × Int32)) :=
  (if spoons ≤ v3_4b then some (.inr (v2_4b, v3_4b)) else (if ((v1_4 >>> (v3_4b &&& 31)) &&& (1 : Int32)) = (1 : Int32) then bd (fX3_wordsOn v3_4b fresh) fun r_4 => bnd (v2_4b ||| r_4) fun y_6 => fX3_wordsOnAny_29 v1_4 y_6 v3_4b spoons fresh else fX3_wordsOnAny_29 v1_4 v2_4b v3_4b spoons fresh))
def fX3_wordsOnAny_4 (v1_4 : Int32) (v2_4 : Int32) (v3_4 : Int32) (spoons : Int32) (fresh : Nat → Int64) : Option (Int32) :=
  bd (lp (fun σ : Int32 × Int32 => fX3_wordsOnAny_4B v1_4 spoons fresh (σ.1) (σ.2)) FU (v2_4, v3_4)) fun ρ => match ρ with | (v2_4r, v3_4r) => some v2_4r
def fX3_wordsOnAny (a : Int32) (spoons : Int32) (fresh : Nat → Int64) : Option (Int32) :=
  fX3_wordsOnAny_4 a (0 : Int32) (0 : Int32) spoons fresh
set_option maxHeartbeats 4000000 in
set_option maxRecDepth 100000 in
theorem c_X3_wordsOnAny (l : Launch) (G : Nat → Nat) (D : va_G) (cA : Nat → ClassId) (ad : Nat → Nat) (kd : Nat → Nat) (sz : Nat) (weight : Nat → Int32) (known : Int32) (hour : Int32) (swS : Nat → Int32) (swW : Nat → Int32) (waS : Nat → Int32) (spoons : Int32) (kind : Nat → Int32) (mark : Nat → Int32) (silver : Nat → Int32) (fresh : Nat → Int64) (texts : Nat → Option Nat) (tape : Nat → Int32) (tapeCount : Int32) (z : Int32) (waiting : Nat → Int32) (waitingCount : Int32) (L : List Nat) (tx : Nat → TXc) (tst : Nat → Nat → Int32) (a : Int32) (rR : Int32) (h : fX3_wordsOnAny a spoons fresh = some rR) : Met l yX3_wordsOnAny wsX3_wordsOnAny ({ frames := 3, cells := 0, slots := 0, locals := 67 } : Room) (PW G D (tyC cA) sz (wH cA ad kd weight known hour swS swW waS spoons kind mark silver fresh texts tape tapeCount z waiting waitingCount L tx tst) [.ref (ad 0), .int a]) (QI D (tyC cA) (va_A (wH cA ad kd weight known hour swS swW waS spoons kind mark silver fresh texts tape tapeCount z waiting waitingCount L tx tst) sz) rR (wH cA ad kd weight known hour swS swW waS spoons kind mark silver fresh texts tape tapeCount z waiting waitingCount L tx tst)) 0 0 (va_A (wH cA ad kd weight known hour swS swW waS spoons kind mark silver fresh texts tape tapeCount z waiting waitingCount L tx tst) sz) := by
  refine ent (cc := cX3_wordsOnAny) (maxL := 4) (ret := (some .int)) (fun A => QI D (tyC cA) A rR (wH cA ad kd weight known hour swS swW waS spoons kind mark silver fresh texts tape tapeCount z waiting waitingCount L tx tst)) (by decide +kernel) rfl (Nat.le_of_ble_eq_true rfl) ?_
  intro p e s m args below meth c A ls H hx hb hml hr hlk hts hown hA hK hE hP hD hS hv hmm
  have hv : lv_has ls 4 [(0, .ref (ad 0)), (1, .int a)] := hv
  have in_3 : ∀ w ∈ u_ws RX3 TX3 18, w ∈ wsX3_wordsOnAny := fun _ h => List.mem_cons_of_mem _ (List.mem_append_right _ h)
  have w_0 := hts (.fieldLink RX3 75 "SpoonsLast$House" "spoons" "I") (List.mem_of_getElem? (i := 1) rfl)
  generalize hQ : MQ below _ args s 0 0 A = Q
  have C_4 : ∀ (v1_4 : Int32) (v2_4 : Int32) (v3_4 : Int32), fX3_wordsOnAny_4 v1_4 v2_4 v3_4 spoons fresh = some rR → WW p l e ({ frames := 3, cells := 0, slots := 0, locals := 67 } : Room) s m args below meth c D A 0 0 Q (wH cA ad kd weight known hour swS swW waS spoons kind mark silver fresh texts tape tapeCount z waiting waitingCount L tx tst) 4 [(0, .ref (ad 0)), (1, .int v1_4), (2, .int v2_4), (3, .int v3_4)] 4 [] := by
    intro v1_4 v2_4 v3_4 h
    unfold fX3_wordsOnAny_4 at h
    obtain ⟨⟨v2_4r, v3_4r⟩, ho, h⟩ := bd_ex h
    have LE : WW p l e ({ frames := 3, cells := 0, slots := 0, locals := 67 } : Room) s m args below meth c D A 0 0 Q (wH cA ad kd weight known hour swS swW waS spoons kind mark silver fresh texts tape tapeCount z waiting waitingCount L tx tst) 4 [(2, .int v2_4r)] 35 [] := by
      intro H locs ls hP hD hS hv
      refine lv_iload_n hx hb dX3_wordsOnAny_35 rfl (lv_at hv 0 rfl) ?_
      have h := Option.some.inj h
      have ee0 : v2_4r = rR := congrArg (fun q => q) h
      subst ee0
      rw [← hQ]
      exact retI hx hb hr hlk hK hP hD hS dX3_wordsOnAny_36 ⟨Nat.le_of_ble_eq_true rfl, Nat.le_of_ble_eq_true rfl⟩
    have LB : ∀ (nf : Nat) (v2_4b : Int32) (v3_4b : Int32), lp (fun σ : Int32 × Int32 => fX3_wordsOnAny_4B v1_4 spoons fresh (σ.1) (σ.2)) nf (v2_4b, v3_4b) = some (v2_4r, v3_4r) → WW p l e ({ frames := 3, cells := 0, slots := 0, locals := 67 } : Room) s m args below meth c D A 0 0 Q (wH cA ad kd weight known hour swS swW waS spoons kind mark silver fresh texts tape tapeCount z waiting waitingCount L tx tst) 4 [(0, .ref (ad 0)), (1, .int v1_4), (2, .int v2_4b), (3, .int v3_4b)] 4 [] := by
      intro nf
      induction nf with
      | zero => intro v2_4b v3_4b hl; cases hl
      | succ nf ih =>
        intro v2_4b v3_4b hl
        obtain ⟨x, h, hl⟩ := lp_ex hl
        have h : fX3_wordsOnAny_4B v1_4 spoons fresh v2_4b v3_4b = some x := h
        unfold fX3_wordsOnAny_4B at h
        have C_29 : ∀ (v2_29 : Int32) (v3_29 : Int32) (x : (Int32 × Int32) ⊕ (Int32 × Int32)), fX3_wordsOnAny_29 v1_4 v2_29 v3_29 spoons fresh = some x → lpk (fun σ : Int32 × Int32 => fX3_wordsOnAny_4B v1_4 spoons fresh (σ.1) (σ.2)) nf x = some (v2_4r, v3_4r) → WW p l e ({ frames := 3, cells := 0, slots := 0, locals := 67 } : Room) s m args below meth c D A 0 0 Q (wH cA ad kd weight known hour swS swW waS spoons kind mark silver fresh texts tape tapeCount z waiting waitingCount L tx tst) 4 [(0, .ref (ad 0)), (1, .int v1_4), (2, .int v2_29), (3, .int v3_29)] 29 [] := by
          intro v2_29 v3_29 x h hl
          unfold fX3_wordsOnAny_29 at h
          intro H locs ls hP hD hS hv
          obtain ⟨y_3, ey_3, h⟩ := bnd_ex h
          refine lv_iinc (v := y_3) (lv' := [(3, .int y_3), (0, .ref (ad 0)), (1, .int v1_4), (2, .int v2_29)]) hx hb dX3_wordsOnAny_29 hv (k := 3) rfl (by rw [ey_3]; rfl) (by decide) rfl (fun ls hv => ?_)
          refine lv_goto (tgt := 4) hx hb dX3_wordsOnAny_32 (by decide) ?_
          cases h
          exact ih v2_29 y_3 hl _ _ _ hP hD hS (lv_sub hv [1, 2, 3, 0] rfl)
        intro H locs ls hP hD hS hv
        refine lv_iload_n hx hb dX3_wordsOnAny_4 rfl (lv_at hv 3 rfl) ?_
        refine lv_aload_n hx hb dX3_wordsOnAny_5 rfl (lv_at hv 0 rfl) ?_
        refine va_get (D := D) (ci := 3) (v := .int spoons) (C := RX3) (T := TX3) (N := 18) hx hb hts in_3 hown hK hP 0 rfl rfl 7 (by decide) w_0 (fun _ h9 => h9) rfl dX3_wordsOnAny_6 ?_
        refine lv_icmp_ge (tgt := 35) hx hb dX3_wordsOnAny_9 (by decide) (fun c_1 => ?_) (fun c_1 => ?_)
        · have h := ite_t c_1 h
          cases h
          have hl : some (v2_4b, v3_4b) = some (v2_4r, v3_4r) := hl
          have hl := Option.some.inj hl
          have ee0 : v2_4b = v2_4r := congrArg (fun q => q.1) hl
          have ee1 : v3_4b = v3_4r := congrArg (fun q => q.2) hl
          subst ee0
          subst ee1
          exact LE _ _ _ hP hD hS (lv_sub hv [2] rfl)
        · have h := ite_f c_1 h
          refine lv_iload_n hx hb dX3_wordsOnAny_12 rfl (lv_at hv 1 rfl) ?_
          refine lv_iload_n hx hb dX3_wordsOnAny_13 rfl (lv_at hv 3 rfl) ?_
          refine lv_ishr hx hb dX3_wordsOnAny_14 ?_
          refine lv_iconst (v := (1 : Int32)) hx hb dX3_wordsOnAny_15 (by decide) ?_
          refine lv_iand hx hb dX3_wordsOnAny_16 ?_
          refine lv_iconst (v := (1 : Int32)) hx hb dX3_wordsOnAny_17 (by decide) ?_
          refine lv_icmp_ne (tgt := 29) hx hb dX3_wordsOnAny_18 (by decide) (fun c_2 => ?_) (fun c_2 => ?_)
          · have h := ite_f c_2 h
            exact C_29 v2_4b v3_4b _ h hl _ _ _ hP hD hS (lv_sub hv [0, 1, 2, 3] rfl)
          · have h := ite_t c_2 h
            refine lv_iload_n hx hb dX3_wordsOnAny_21 rfl (lv_at hv 2 rfl) ?_
            refine lv_aload_n hx hb dX3_wordsOnAny_22 rfl (lv_at hv 0 rfl) ?_
            refine lv_iload_n hx hb dX3_wordsOnAny_23 rfl (lv_at hv 3 rfl) ?_
            obtain ⟨r_4, hf_5, h⟩ := bd_ex h
            have sb := Sb.same hP hD hS hA
            refine calI (va_runV (As := [.int v3_4b]) (rest := [.int v2_4b]) ⟨hx, hb, hml, hown, hts⟩ (c_X3_wordsOn l G D cA ad kd _ weight known hour swS swW waS spoons kind mark silver fresh texts tape tapeCount z waiting waitingCount L tx tst v3_4b r_4 hf_5) (cwV 1 hts gX3_wordsOnAny_X3_wordsOn rfl rfl rfl (by decide +kernel) ⟨Nat.le_of_ble_eq_true rfl, Nat.le_of_ble_eq_true rfl⟩) (pvV hE hK hS sb (va_recv hK hP (ci := 3) (q0 := 0) rfl rfl)) rfl rfl hv.1 rfl (lv_room (Nat.le_of_ble_eq_true rfl)) dX3_wordsOnAny_24 ⟨Nat.le_of_ble_eq_true rfl, Nat.le_of_ble_eq_true rfl⟩) hS sb (Jn.same sb) (fun H locs hP hD hS => ?_)
            have hP : va_P D vwCl (wH cA ad kd weight known hour swS swW waS spoons kind mark silver fresh texts tape tapeCount z waiting waitingCount L tx tst) H := hP
            have hD : va_D A (wH cA ad kd weight known hour swS swW waS spoons kind mark silver fresh texts tape tapeCount z waiting waitingCount L tx tst) := hD
            refine lv_ior hx hb dX3_wordsOnAny_27 ?_
            obtain ⟨y_6, ey_6, h⟩ := bnd_ex h
            refine lv_nm ey_6 ?_
            refine lv_istore_n (lv' := [(2, .int y_6), (0, .ref (ad 0)), (1, .int v1_4), (3, .int v3_4b)]) hx hb dX3_wordsOnAny_28 rfl hv (by decide) rfl (fun ls hv => ?_)
            exact C_29 y_6 v3_4b _ h hl _ _ _ hP hD hS (lv_sub hv [1, 2, 0, 3] rfl)
    exact LB FU v2_4 v3_4 ho
  have hP : va_P D vwCl (wH cA ad kd weight known hour swS swW waS spoons kind mark silver fresh texts tape tapeCount z waiting waitingCount L tx tst) H := hP
  unfold fX3_wordsOnAny at h
  refine lv_iconst (v := (0 : Int32)) hx hb dX3_wordsOnAny_0 (by decide) ?_
  refine lv_istore_n (lv' := [(2, .int (0 : Int32)), (0, .ref (ad 0)), (1, .int a)]) hx hb dX3_wordsOnAny_1 rfl hv (by decide) rfl (fun ls hv => ?_)
  refine lv_iconst (v := (0 : Int32)) hx hb dX3_wordsOnAny_2 (by decide) ?_
  refine lv_istore_n (lv' := [(3, .int (0 : Int32)), (2, .int (0 : Int32)), (0, .ref (ad 0)), (1, .int a)]) hx hb dX3_wordsOnAny_3 rfl hv (by decide) rfl (fun ls hv => ?_)
  exact C_4 a (0 : Int32) (0 : Int32) h _ _ _ hP hD hS (lv_sub hv [2, 3, 1, 0] rfl)

def fX3_spoonsWith_31 (v1_4 : Int32) (v2_31 : Int32) (v3_31 : Int32) (spoons : Int32) (fresh : Nat → Int64) : Option ((Int32 × Int32) ⊕ (Int32 × Int32)) :=
  bnd (v3_31 + (1 : Int32)) fun y_6 => some (.inl (v2_31, y_6))
def fX3_spoonsWith_4B (v1_4 : Int32) (spoons : Int32) (fresh : Nat → Int64) (v2_4b : Int32) (v3_4b : Int32) : Option ((Int32 × Int32) ⊕ (Int32 × Int32)) :=
  (if spoons ≤ v3_4b then some (.inr (v2_4b, v3_4b)) else ckI v3_4b 8 (bd (fX3_freshIn (fresh (v3_4b).toNatClampNeg) v1_4) fun r_3 => (if r_3 ≤ 0 then fX3_spoonsWith_31 v1_4 v2_4b v3_4b spoons fresh else bnd (v2_4b ||| ((1 : Int32) <<< (v3_4b &&& 31))) fun y_7 => fX3_spoonsWith_31 v1_4 y_7 v3_4b spoons fresh)))
def fX3_spoonsWith_4 (v1_4 : Int32) (v2_4 : Int32) (v3_4 : Int32) (spoons : Int32) (fresh : Nat → Int64) : Option (Int32) :=
  bd (lp (fun σ : Int32 × Int32 => fX3_spoonsWith_4B v1_4 spoons fresh (σ.1) (σ.2)) FU (v2_4, v3_4)) fun ρ => match ρ with | (v2_4r, v3_4r) => some v2_4r
def fX3_spoonsWith (a : Int32) (spoons : Int32) (fresh : Nat → Int64) : Option (Int32) :=
  fX3_spoonsWith_4 a (0 : Int32) (0 : Int32) spoons fresh
set_option maxHeartbeats 4000000 in
set_option maxRecDepth 100000 in
theorem c_X3_spoonsWith (l : Launch) (G : Nat → Nat) (D : va_G) (cA : Nat → ClassId) (ad : Nat → Nat) (kd : Nat → Nat) (sz : Nat) (weight : Nat → Int32) (known : Int32) (hour : Int32) (swS : Nat → Int32) (swW : Nat → Int32) (waS : Nat → Int32) (spoons : Int32) (kind : Nat → Int32) (mark : Nat → Int32) (silver : Nat → Int32) (fresh : Nat → Int64) (texts : Nat → Option Nat) (tape : Nat → Int32) (tapeCount : Int32) (z : Int32) (waiting : Nat → Int32) (waitingCount : Int32) (L : List Nat) (tx : Nat → TXc) (tst : Nat → Nat → Int32) (a : Int32) (rR : Int32) (h : fX3_spoonsWith a spoons fresh = some rR) : Met l yX3_spoonsWith wsX3_spoonsWith ({ frames := 1, cells := 0, slots := 0, locals := 22 } : Room) (PW G D (tyC cA) sz (wH cA ad kd weight known hour swS swW waS spoons kind mark silver fresh texts tape tapeCount z waiting waitingCount L tx tst) [.ref (ad 0), .int a]) (QI D (tyC cA) (va_A (wH cA ad kd weight known hour swS swW waS spoons kind mark silver fresh texts tape tapeCount z waiting waitingCount L tx tst) sz) rR (wH cA ad kd weight known hour swS swW waS spoons kind mark silver fresh texts tape tapeCount z waiting waitingCount L tx tst)) 0 0 (va_A (wH cA ad kd weight known hour swS swW waS spoons kind mark silver fresh texts tape tapeCount z waiting waitingCount L tx tst) sz) := by
  refine ent (cc := cX3_spoonsWith) (maxL := 4) (ret := (some .int)) (fun A => QI D (tyC cA) A rR (wH cA ad kd weight known hour swS swW waS spoons kind mark silver fresh texts tape tapeCount z waiting waitingCount L tx tst)) (by decide +kernel) rfl (Nat.le_of_ble_eq_true rfl) ?_
  intro p e s m args below meth c A ls H hx hb hml hr hlk hts hown hA hK hE hP hD hS hv hmm
  have hv : lv_has ls 4 [(0, .ref (ad 0)), (1, .int a)] := hv
  have in_3 : ∀ w ∈ u_ws RX3 TX3 18, w ∈ wsX3_spoonsWith := fun _ h => List.mem_cons_of_mem _ (List.mem_append_right _ h)
  have w_0 := hts (.fieldLink RX3 75 "SpoonsLast$House" "spoons" "I") (List.mem_of_getElem? (i := 1) rfl)
  have w_1 := hts (.fieldLink RX3 33 "SpoonsLast$House" "fresh" "[J") (List.mem_of_getElem? (i := 2) rfl)
  generalize hQ : MQ below _ args s 0 0 A = Q
  have C_4 : ∀ (v1_4 : Int32) (v2_4 : Int32) (v3_4 : Int32), fX3_spoonsWith_4 v1_4 v2_4 v3_4 spoons fresh = some rR → WW p l e ({ frames := 1, cells := 0, slots := 0, locals := 22 } : Room) s m args below meth c D A 0 0 Q (wH cA ad kd weight known hour swS swW waS spoons kind mark silver fresh texts tape tapeCount z waiting waitingCount L tx tst) 4 [(0, .ref (ad 0)), (1, .int v1_4), (2, .int v2_4), (3, .int v3_4)] 4 [] := by
    intro v1_4 v2_4 v3_4 h
    unfold fX3_spoonsWith_4 at h
    obtain ⟨⟨v2_4r, v3_4r⟩, ho, h⟩ := bd_ex h
    have LE : WW p l e ({ frames := 1, cells := 0, slots := 0, locals := 22 } : Room) s m args below meth c D A 0 0 Q (wH cA ad kd weight known hour swS swW waS spoons kind mark silver fresh texts tape tapeCount z waiting waitingCount L tx tst) 4 [(2, .int v2_4r)] 37 [] := by
      intro H locs ls hP hD hS hv
      refine lv_iload_n hx hb dX3_spoonsWith_37 rfl (lv_at hv 0 rfl) ?_
      have h := Option.some.inj h
      have ee0 : v2_4r = rR := congrArg (fun q => q) h
      subst ee0
      rw [← hQ]
      exact retI hx hb hr hlk hK hP hD hS dX3_spoonsWith_38 ⟨Nat.le_of_ble_eq_true rfl, Nat.le_of_ble_eq_true rfl⟩
    have LB : ∀ (nf : Nat) (v2_4b : Int32) (v3_4b : Int32), lp (fun σ : Int32 × Int32 => fX3_spoonsWith_4B v1_4 spoons fresh (σ.1) (σ.2)) nf (v2_4b, v3_4b) = some (v2_4r, v3_4r) → WW p l e ({ frames := 1, cells := 0, slots := 0, locals := 22 } : Room) s m args below meth c D A 0 0 Q (wH cA ad kd weight known hour swS swW waS spoons kind mark silver fresh texts tape tapeCount z waiting waitingCount L tx tst) 4 [(0, .ref (ad 0)), (1, .int v1_4), (2, .int v2_4b), (3, .int v3_4b)] 4 [] := by
      intro nf
      induction nf with
      | zero => intro v2_4b v3_4b hl; cases hl
      | succ nf ih =>
        intro v2_4b v3_4b hl
        obtain ⟨x, h, hl⟩ := lp_ex hl
        have h : fX3_spoonsWith_4B v1_4 spoons fresh v2_4b v3_4b = some x := h
        unfold fX3_spoonsWith_4B at h
        have C_31 : ∀ (v2_31 : Int32) (v3_31 : Int32) (x : (Int32 × Int32) ⊕ (Int32 × Int32)), fX3_spoonsWith_31 v1_4 v2_31 v3_31 spoons fresh = some x → lpk (fun σ : Int32 × Int32 => fX3_spoonsWith_4B v1_4 spoons fresh (σ.1) (σ.2)) nf x = some (v2_4r, v3_4r) → WW p l e ({ frames := 1, cells := 0, slots := 0, locals := 22 } : Room) s m args below meth c D A 0 0 Q (wH cA ad kd weight known hour swS swW waS spoons kind mark silver fresh texts tape tapeCount z waiting waitingCount L tx tst) 4 [(0, .ref (ad 0)), (1, .int v1_4), (2, .int v2_31), (3, .int v3_31)] 31 [] := by
          intro v2_31 v3_31 x h hl
          unfold fX3_spoonsWith_31 at h
          intro H locs ls hP hD hS hv
          obtain ⟨y_6, ey_6, h⟩ := bnd_ex h
          refine lv_iinc (v := y_6) (lv' := [(3, .int y_6), (0, .ref (ad 0)), (1, .int v1_4), (2, .int v2_31)]) hx hb dX3_spoonsWith_31 hv (k := 3) rfl (by rw [ey_6]; rfl) (by decide) rfl (fun ls hv => ?_)
          refine lv_goto (tgt := 4) hx hb dX3_spoonsWith_34 (by decide) ?_
          cases h
          exact ih v2_31 y_6 hl _ _ _ hP hD hS (lv_sub hv [1, 2, 3, 0] rfl)
        intro H locs ls hP hD hS hv
        refine lv_iload_n hx hb dX3_spoonsWith_4 rfl (lv_at hv 3 rfl) ?_
        refine lv_aload_n hx hb dX3_spoonsWith_5 rfl (lv_at hv 0 rfl) ?_
        refine va_get (D := D) (ci := 3) (v := .int spoons) (C := RX3) (T := TX3) (N := 18) hx hb hts in_3 hown hK hP 0 rfl rfl 7 (by decide) w_0 (fun _ h9 => h9) rfl dX3_spoonsWith_6 ?_
        refine lv_icmp_ge (tgt := 37) hx hb dX3_spoonsWith_9 (by decide) (fun c_1 => ?_) (fun c_1 => ?_)
        · have h := ite_t c_1 h
          cases h
          have hl : some (v2_4b, v3_4b) = some (v2_4r, v3_4r) := hl
          have hl := Option.some.inj hl
          have ee0 : v2_4b = v2_4r := congrArg (fun q => q.1) hl
          have ee1 : v3_4b = v3_4r := congrArg (fun q => q.2) hl
          subst ee0
          subst ee1
          exact LE _ _ _ hP hD hS (lv_sub hv [2] rfl)
        · have h := ite_f c_1 h
          refine lv_aload_n hx hb dX3_spoonsWith_12 rfl (lv_at hv 0 rfl) ?_
          refine va_get (D := D) (ci := 3) (v := .ref (ad 12)) (C := RX3) (T := TX3) (N := 18) hx hb hts in_3 hown hK hP 0 rfl rfl 11 (by decide) w_1 (fun _ h9 => h9) rfl dX3_spoonsWith_13 ?_
          refine lv_iload_n hx hb dX3_spoonsWith_16 rfl (lv_at hv 3 rfl) ?_
          obtain ⟨c_2, h⟩ := ckI_ex h
          refine va_lald (D := D) hx hb hK hP 8 1 rfl rfl c_2 dX3_spoonsWith_17 ?_
          refine lv_iload_n hx hb dX3_spoonsWith_18 rfl (lv_at hv 1 rfl) ?_
          obtain ⟨r_3, hf_4, h⟩ := bd_ex h
          have sb := Sb.nil hP hD hS hA
          refine calI (va_runS (As := [.long (fresh (v3_4b).toNatClampNeg), .int v1_4]) (rest := []) ⟨hx, hb, hml, hown, hts⟩ (c_X3_freshIn l G D cA  _ (fresh (v3_4b).toNatClampNeg) v1_4 r_3 hf_4) (va_cwS 2 hts gX3_spoonsWith_X3_freshIn rfl rfl rfl (by decide +kernel) ⟨Nat.le_of_ble_eq_true rfl, Nat.le_of_ble_eq_true rfl⟩) (pvS hE hK hS sb) rfl rfl hv.1 rfl (lv_room (Nat.le_of_ble_eq_true rfl)) dX3_spoonsWith_19 ⟨Nat.le_of_ble_eq_true rfl, Nat.le_of_ble_eq_true rfl⟩) hS sb (Jn.nil hP hD) (fun H locs hP hD hS => ?_)
          have hP : va_P D vwCl (wH cA ad kd weight known hour swS swW waS spoons kind mark silver fresh texts tape tapeCount z waiting waitingCount L tx tst) H := hP
          have hD : va_D A (wH cA ad kd weight known hour swS swW waS spoons kind mark silver fresh texts tape tapeCount z waiting waitingCount L tx tst) := hD
          refine lv_if_le (tgt := 31) hx hb dX3_spoonsWith_22 (by decide) (fun c_5 => ?_) (fun c_5 => ?_)
          · have h := ite_t c_5 h
            exact C_31 v2_4b v3_4b _ h hl _ _ _ hP hD hS (lv_sub hv [0, 1, 2, 3] rfl)
          · have h := ite_f c_5 h
            refine lv_iload_n hx hb dX3_spoonsWith_25 rfl (lv_at hv 2 rfl) ?_
            refine lv_iconst (v := (1 : Int32)) hx hb dX3_spoonsWith_26 (by decide) ?_
            refine lv_iload_n hx hb dX3_spoonsWith_27 rfl (lv_at hv 3 rfl) ?_
            refine lv_ishl hx hb dX3_spoonsWith_28 ?_
            refine lv_ior hx hb dX3_spoonsWith_29 ?_
            obtain ⟨y_7, ey_7, h⟩ := bnd_ex h
            refine lv_nm ey_7 ?_
            refine lv_istore_n (lv' := [(2, .int y_7), (0, .ref (ad 0)), (1, .int v1_4), (3, .int v3_4b)]) hx hb dX3_spoonsWith_30 rfl hv (by decide) rfl (fun ls hv => ?_)
            exact C_31 y_7 v3_4b _ h hl _ _ _ hP hD hS (lv_sub hv [1, 2, 0, 3] rfl)
    exact LB FU v2_4 v3_4 ho
  have hP : va_P D vwCl (wH cA ad kd weight known hour swS swW waS spoons kind mark silver fresh texts tape tapeCount z waiting waitingCount L tx tst) H := hP
  unfold fX3_spoonsWith at h
  refine lv_iconst (v := (0 : Int32)) hx hb dX3_spoonsWith_0 (by decide) ?_
  refine lv_istore_n (lv' := [(2, .int (0 : Int32)), (0, .ref (ad 0)), (1, .int a)]) hx hb dX3_spoonsWith_1 rfl hv (by decide) rfl (fun ls hv => ?_)
  refine lv_iconst (v := (0 : Int32)) hx hb dX3_spoonsWith_2 (by decide) ?_
  refine lv_istore_n (lv' := [(3, .int (0 : Int32)), (2, .int (0 : Int32)), (0, .ref (ad 0)), (1, .int a)]) hx hb dX3_spoonsWith_3 rfl hv (by decide) rfl (fun ls hv => ?_)
  exact C_4 a (0 : Int32) (0 : Int32) h _ _ _ hP hD hS (lv_sub hv [2, 3, 1, 0] rfl)

def fX3_clashes_42 (v1_4 : Int32) (v2_42 : Int32) (v3_42 : Int32) (spoons : Int32) (fresh : Nat → Int64) : Option ((Int32 × Int32) ⊕ ((Int32 × Int32) ⊕ (Int32))) :=
  bnd (v3_42 + (1 : Int32)) fun y_3 => some (.inl (v2_42, y_3))
def fX3_clashes_4B (v1_4 : Int32) (spoons : Int32) (fresh : Nat → Int64) (v2_4b : Int32) (v3_4b : Int32) : Option ((Int32 × Int32) ⊕ ((Int32 × Int32) ⊕ (Int32))) :=
  (if spoons ≤ v3_4b then some (.inr (.inl (v2_4b, v3_4b))) else (if ((v1_4 >>> (v3_4b &&& 31)) &&& (1 : Int32)) = (1 : Int32) then bd (fX3_wordsOn v3_4b fresh) fun r_4 => (if (v2_4b &&& r_4) = 0 then bnd (v2_4b ||| r_4) fun y_7 => fX3_clashes_42 v1_4 y_7 v3_4b spoons fresh else some (.inr (.inr (1 : Int32)))) else fX3_clashes_42 v1_4 v2_4b v3_4b spoons fresh))
def fX3_clashes_4 (v1_4 : Int32) (v2_4 : Int32) (v3_4 : Int32) (spoons : Int32) (fresh : Nat → Int64) : Option (Int32) :=
  bd (lp (fun σ : Int32 × Int32 => fX3_clashes_4B v1_4 spoons fresh (σ.1) (σ.2)) FU (v2_4, v3_4)) fun ρ => match ρ with | .inl (v2_4r, v3_4r) => some (0 : Int32) | .inr q => some q
def fX3_clashes (a : Int32) (spoons : Int32) (fresh : Nat → Int64) : Option (Int32) :=
  fX3_clashes_4 a (0 : Int32) (0 : Int32) spoons fresh
set_option maxHeartbeats 4000000 in
set_option maxRecDepth 100000 in
theorem c_X3_clashes (l : Launch) (G : Nat → Nat) (D : va_G) (cA : Nat → ClassId) (ad : Nat → Nat) (kd : Nat → Nat) (sz : Nat) (weight : Nat → Int32) (known : Int32) (hour : Int32) (swS : Nat → Int32) (swW : Nat → Int32) (waS : Nat → Int32) (spoons : Int32) (kind : Nat → Int32) (mark : Nat → Int32) (silver : Nat → Int32) (fresh : Nat → Int64) (texts : Nat → Option Nat) (tape : Nat → Int32) (tapeCount : Int32) (z : Int32) (waiting : Nat → Int32) (waitingCount : Int32) (L : List Nat) (tx : Nat → TXc) (tst : Nat → Nat → Int32) (a : Int32) (rR : Int32) (h : fX3_clashes a spoons fresh = some rR) : Met l yX3_clashes wsX3_clashes ({ frames := 3, cells := 0, slots := 0, locals := 67 } : Room) (PW G D (tyC cA) sz (wH cA ad kd weight known hour swS swW waS spoons kind mark silver fresh texts tape tapeCount z waiting waitingCount L tx tst) [.ref (ad 0), .int a]) (QI D (tyC cA) (va_A (wH cA ad kd weight known hour swS swW waS spoons kind mark silver fresh texts tape tapeCount z waiting waitingCount L tx tst) sz) rR (wH cA ad kd weight known hour swS swW waS spoons kind mark silver fresh texts tape tapeCount z waiting waitingCount L tx tst)) 0 0 (va_A (wH cA ad kd weight known hour swS swW waS spoons kind mark silver fresh texts tape tapeCount z waiting waitingCount L tx tst) sz) := by
  refine ent (cc := cX3_clashes) (maxL := 5) (ret := (some .boolean)) (fun A => QI D (tyC cA) A rR (wH cA ad kd weight known hour swS swW waS spoons kind mark silver fresh texts tape tapeCount z waiting waitingCount L tx tst)) (by decide +kernel) rfl (Nat.le_of_ble_eq_true rfl) ?_
  intro p e s m args below meth c A ls H hx hb hml hr hlk hts hown hA hK hE hP hD hS hv hmm
  have hv : lv_has ls 5 [(0, .ref (ad 0)), (1, .int a)] := hv
  have in_3 : ∀ w ∈ u_ws RX3 TX3 18, w ∈ wsX3_clashes := fun _ h => List.mem_cons_of_mem _ (List.mem_append_right _ h)
  have w_0 := hts (.fieldLink RX3 75 "SpoonsLast$House" "spoons" "I") (List.mem_of_getElem? (i := 1) rfl)
  generalize hQ : MQ below _ args s 0 0 A = Q
  have C_4 : ∀ (v1_4 : Int32) (v2_4 : Int32) (v3_4 : Int32), fX3_clashes_4 v1_4 v2_4 v3_4 spoons fresh = some rR → WW p l e ({ frames := 3, cells := 0, slots := 0, locals := 67 } : Room) s m args below meth c D A 0 0 Q (wH cA ad kd weight known hour swS swW waS spoons kind mark silver fresh texts tape tapeCount z waiting waitingCount L tx tst) 5 [(0, .ref (ad 0)), (1, .int v1_4), (2, .int v2_4), (3, .int v3_4)] 4 [] := by
    intro v1_4 v2_4 v3_4 h
    unfold fX3_clashes_4 at h
    obtain ⟨ρ, ho, h⟩ := bd_ex h
    have LR : ∀ q, ρ = .inr q → q = rR := by intro q e; subst e; exact Option.some.inj h
    have LE : ∀ (v2_4r : Int32) (v3_4r : Int32), ρ = .inl (v2_4r, v3_4r) → WW p l e ({ frames := 3, cells := 0, slots := 0, locals := 67 } : Room) s m args below meth c D A 0 0 Q (wH cA ad kd weight known hour swS swW waS spoons kind mark silver fresh texts tape tapeCount z waiting waitingCount L tx tst) 5 [] 48 [] := by
      intro v2_4r v3_4r e
      subst e
      intro H locs ls hP hD hS hv
      refine lv_iconst (v := (0 : Int32)) hx hb dX3_clashes_48 (by decide) ?_
      have h := Option.some.inj h
      have ee0 : (0 : Int32) = rR := congrArg (fun q => q) h
      subst ee0
      rw [← hQ]
      exact retZ (by decide) hx hb hr hlk hK hP hD hS dX3_clashes_49 ⟨Nat.le_of_ble_eq_true rfl, Nat.le_of_ble_eq_true rfl⟩
    have LB : ∀ (nf : Nat) (v2_4b : Int32) (v3_4b : Int32), lp (fun σ : Int32 × Int32 => fX3_clashes_4B v1_4 spoons fresh (σ.1) (σ.2)) nf (v2_4b, v3_4b) = some ρ → WW p l e ({ frames := 3, cells := 0, slots := 0, locals := 67 } : Room) s m args below meth c D A 0 0 Q (wH cA ad kd weight known hour swS swW waS spoons kind mark silver fresh texts tape tapeCount z waiting waitingCount L tx tst) 5 [(0, .ref (ad 0)), (1, .int v1_4), (2, .int v2_4b), (3, .int v3_4b)] 4 [] := by
      intro nf
      induction nf with
      | zero => intro v2_4b v3_4b hl; cases hl
      | succ nf ih =>
        intro v2_4b v3_4b hl
        obtain ⟨x, h, hl⟩ := lp_ex hl
        have h : fX3_clashes_4B v1_4 spoons fresh v2_4b v3_4b = some x := h
        unfold fX3_clashes_4B at h
        have C_42 : ∀ (v2_42 : Int32) (v3_42 : Int32) (x : (Int32 × Int32) ⊕ ((Int32 × Int32) ⊕ (Int32))), fX3_clashes_42 v1_4 v2_42 v3_42 spoons fresh = some x → lpk (fun σ : Int32 × Int32 => fX3_clashes_4B v1_4 spoons fresh (σ.1) (σ.2)) nf x = some ρ → WW p l e ({ frames := 3, cells := 0, slots := 0, locals := 67 } : Room) s m args below meth c D A 0 0 Q (wH cA ad kd weight known hour swS swW waS spoons kind mark silver fresh texts tape tapeCount z waiting waitingCount L tx tst) 5 [(0, .ref (ad 0)), (1, .int v1_4), (2, .int v2_42), (3, .int v3_42)] 42 [] := by
          intro v2_42 v3_42 x h hl
          unfold fX3_clashes_42 at h
          intro H locs ls hP hD hS hv
          obtain ⟨y_3, ey_3, h⟩ := bnd_ex h
          refine lv_iinc (v := y_3) (lv' := [(3, .int y_3), (0, .ref (ad 0)), (1, .int v1_4), (2, .int v2_42)]) hx hb dX3_clashes_42 hv (k := 3) rfl (by rw [ey_3]; rfl) (by decide) rfl (fun ls hv => ?_)
          refine lv_goto (tgt := 4) hx hb dX3_clashes_45 (by decide) ?_
          cases h
          exact ih v2_42 y_3 hl _ _ _ hP hD hS (lv_sub hv [1, 2, 3, 0] rfl)
        intro H locs ls hP hD hS hv
        refine lv_iload_n hx hb dX3_clashes_4 rfl (lv_at hv 3 rfl) ?_
        refine lv_aload_n hx hb dX3_clashes_5 rfl (lv_at hv 0 rfl) ?_
        refine va_get (D := D) (ci := 3) (v := .int spoons) (C := RX3) (T := TX3) (N := 18) hx hb hts in_3 hown hK hP 0 rfl rfl 7 (by decide) w_0 (fun _ h9 => h9) rfl dX3_clashes_6 ?_
        refine lv_icmp_ge (tgt := 48) hx hb dX3_clashes_9 (by decide) (fun c_1 => ?_) (fun c_1 => ?_)
        · have h := ite_t c_1 h
          cases h
          have hl : some (Sum.inl (v2_4b, v3_4b)) = some ρ := hl
          cases hl
          exact LE _ _ rfl _ _ _ hP hD hS (lv_sub hv [] rfl)
        · have h := ite_f c_1 h
          refine lv_iload_n hx hb dX3_clashes_12 rfl (lv_at hv 1 rfl) ?_
          refine lv_iload_n hx hb dX3_clashes_13 rfl (lv_at hv 3 rfl) ?_
          refine lv_ishr hx hb dX3_clashes_14 ?_
          refine lv_iconst (v := (1 : Int32)) hx hb dX3_clashes_15 (by decide) ?_
          refine lv_iand hx hb dX3_clashes_16 ?_
          refine lv_iconst (v := (1 : Int32)) hx hb dX3_clashes_17 (by decide) ?_
          refine lv_icmp_ne (tgt := 42) hx hb dX3_clashes_18 (by decide) (fun c_2 => ?_) (fun c_2 => ?_)
          · have h := ite_f c_2 h
            exact C_42 v2_4b v3_4b _ h hl _ _ _ hP hD hS (lv_sub hv [0, 1, 2, 3] rfl)
          · have h := ite_t c_2 h
            refine lv_aload_n hx hb dX3_clashes_21 rfl (lv_at hv 0 rfl) ?_
            refine lv_iload_n hx hb dX3_clashes_22 rfl (lv_at hv 3 rfl) ?_
            obtain ⟨r_4, hf_5, h⟩ := bd_ex h
            have sb := Sb.same hP hD hS hA
            refine calI (va_runV (As := [.int v3_4b]) (rest := []) ⟨hx, hb, hml, hown, hts⟩ (c_X3_wordsOn l G D cA ad kd _ weight known hour swS swW waS spoons kind mark silver fresh texts tape tapeCount z waiting waitingCount L tx tst v3_4b r_4 hf_5) (cwV 1 hts gX3_clashes_X3_wordsOn rfl rfl rfl (by decide +kernel) ⟨Nat.le_of_ble_eq_true rfl, Nat.le_of_ble_eq_true rfl⟩) (pvV hE hK hS sb (va_recv hK hP (ci := 3) (q0 := 0) rfl rfl)) rfl rfl hv.1 rfl (lv_room (Nat.le_of_ble_eq_true rfl)) dX3_clashes_23 ⟨Nat.le_of_ble_eq_true rfl, Nat.le_of_ble_eq_true rfl⟩) hS sb (Jn.same sb) (fun H locs hP hD hS => ?_)
            have hP : va_P D vwCl (wH cA ad kd weight known hour swS swW waS spoons kind mark silver fresh texts tape tapeCount z waiting waitingCount L tx tst) H := hP
            have hD : va_D A (wH cA ad kd weight known hour swS swW waS spoons kind mark silver fresh texts tape tapeCount z waiting waitingCount L tx tst) := hD
            refine lv_istore (lv' := [(4, .int r_4), (0, .ref (ad 0)), (1, .int v1_4), (2, .int v2_4b), (3, .int v3_4b)]) hx hb dX3_clashes_26 hv (by decide) rfl (fun ls hv => ?_)
            refine lv_iload_n hx hb dX3_clashes_28 rfl (lv_at hv 3 rfl) ?_
            refine lv_iload hx hb dX3_clashes_29 (lv_at hv 0 rfl) ?_
            refine lv_iand hx hb dX3_clashes_31 ?_
            refine lv_if_eq (tgt := 37) hx hb dX3_clashes_32 (by decide) (fun c_6 => ?_) (fun c_6 => ?_)
            · have h := ite_t c_6 h
              refine lv_iload_n hx hb dX3_clashes_37 rfl (lv_at hv 3 rfl) ?_
              refine lv_iload hx hb dX3_clashes_38 (lv_at hv 0 rfl) ?_
              refine lv_ior hx hb dX3_clashes_40 ?_
              obtain ⟨y_7, ey_7, h⟩ := bnd_ex h
              refine lv_nm ey_7 ?_
              refine lv_istore_n (lv' := [(2, .int y_7), (4, .int r_4), (0, .ref (ad 0)), (1, .int v1_4), (3, .int v3_4b)]) hx hb dX3_clashes_41 rfl hv (by decide) rfl (fun ls hv => ?_)
              exact C_42 y_7 v3_4b _ h hl _ _ _ hP hD hS (lv_sub hv [2, 3, 0, 4] rfl)
            · have h := ite_f c_6 h
              refine lv_iconst (v := (1 : Int32)) hx hb dX3_clashes_35 (by decide) ?_
              cases h
              have hl : some (Sum.inr (1 : Int32)) = some ρ := hl
              cases hl
              have h := LR _ rfl
              have ee0 : (1 : Int32) = rR := congrArg (fun q => q) h
              subst ee0
              rw [← hQ]
              exact retZ (by decide) hx hb hr hlk hK hP hD hS dX3_clashes_36 ⟨Nat.le_of_ble_eq_true rfl, Nat.le_of_ble_eq_true rfl⟩
    exact LB FU v2_4 v3_4 ho
  have hP : va_P D vwCl (wH cA ad kd weight known hour swS swW waS spoons kind mark silver fresh texts tape tapeCount z waiting waitingCount L tx tst) H := hP
  unfold fX3_clashes at h
  refine lv_iconst (v := (0 : Int32)) hx hb dX3_clashes_0 (by decide) ?_
  refine lv_istore_n (lv' := [(2, .int (0 : Int32)), (0, .ref (ad 0)), (1, .int a)]) hx hb dX3_clashes_1 rfl hv (by decide) rfl (fun ls hv => ?_)
  refine lv_iconst (v := (0 : Int32)) hx hb dX3_clashes_2 (by decide) ?_
  refine lv_istore_n (lv' := [(3, .int (0 : Int32)), (2, .int (0 : Int32)), (0, .ref (ad 0)), (1, .int a)]) hx hb dX3_clashes_3 rfl hv (by decide) rfl (fun ls hv => ?_)
  exact C_4 a (0 : Int32) (0 : Int32) h _ _ _ hP hD hS (lv_sub hv [2, 3, 1, 0] rfl)

def fX3_weightOf_28 (v1_4 : Int32) (v2_28 : Int32) (v3_28 : Int32) (weight : Nat → Int32) : Option ((Int32 × Int32) ⊕ (Int32 × Int32)) :=
  bnd (v3_28 + (1 : Int32)) fun y_3 => some (.inl (v2_28, y_3))
def fX3_weightOf_4B (v1_4 : Int32) (weight : Nat → Int32) (v2_4b : Int32) (v3_4b : Int32) : Option ((Int32 × Int32) ⊕ (Int32 × Int32)) :=
  (if (12 : Int32) ≤ v3_4b then some (.inr (v2_4b, v3_4b)) else (if ((v1_4 >>> (v3_4b &&& 31)) &&& (1 : Int32)) = (1 : Int32) then ckI v3_4b 12 (bnd (v2_4b + (weight (v3_4b).toNatClampNeg)) fun y_5 => fX3_weightOf_28 v1_4 y_5 v3_4b weight) else fX3_weightOf_28 v1_4 v2_4b v3_4b weight))
def fX3_weightOf_4 (v1_4 : Int32) (v2_4 : Int32) (v3_4 : Int32) (weight : Nat → Int32) : Option (Int32) :=
  bd (lp (fun σ : Int32 × Int32 => fX3_weightOf_4B v1_4 weight (σ.1) (σ.2)) FU (v2_4, v3_4)) fun ρ => match ρ with | (v2_4r, v3_4r) => some v2_4r
def fX3_weightOf (a : Int32) (weight : Nat → Int32) : Option (Int32) :=
  fX3_weightOf_4 a (0 : Int32) (0 : Int32) weight
set_option maxHeartbeats 4000000 in
set_option maxRecDepth 100000 in
theorem c_X3_weightOf (l : Launch) (G : Nat → Nat) (D : va_G) (cA : Nat → ClassId) (ad : Nat → Nat) (kd : Nat → Nat) (sz : Nat) (weight : Nat → Int32) (known : Int32) (hour : Int32) (swS : Nat → Int32) (swW : Nat → Int32) (waS : Nat → Int32) (spoons : Int32) (kind : Nat → Int32) (mark : Nat → Int32) (silver : Nat → Int32) (fresh : Nat → Int64) (texts : Nat → Option Nat) (tape : Nat → Int32) (tapeCount : Int32) (z : Int32) (waiting : Nat → Int32) (waitingCount : Int32) (L : List Nat) (tx : Nat → TXc) (tst : Nat → Nat → Int32) (a : Int32) (rR : Int32) (h : fX3_weightOf a weight = some rR) : Met l yX3_weightOf wsX3_weightOf ({ frames := 0, cells := 0, slots := 0, locals := 0 } : Room) (PW G D (tyC cA) sz (wH cA ad kd weight known hour swS swW waS spoons kind mark silver fresh texts tape tapeCount z waiting waitingCount L tx tst) [.ref (ad 0), .int a]) (QI D (tyC cA) (va_A (wH cA ad kd weight known hour swS swW waS spoons kind mark silver fresh texts tape tapeCount z waiting waitingCount L tx tst) sz) rR (wH cA ad kd weight known hour swS swW waS spoons kind mark silver fresh texts tape tapeCount z waiting waitingCount L tx tst)) 0 0 (va_A (wH cA ad kd weight known hour swS swW waS spoons kind mark silver fresh texts tape tapeCount z waiting waitingCount L tx tst) sz) := by
  refine ent (cc := cX3_weightOf) (maxL := 4) (ret := (some .int)) (fun A => QI D (tyC cA) A rR (wH cA ad kd weight known hour swS swW waS spoons kind mark silver fresh texts tape tapeCount z waiting waitingCount L tx tst)) (by decide +kernel) rfl (Nat.le_of_ble_eq_true rfl) ?_
  intro p e s m args below meth c A ls H hx hb hml hr hlk hts hown hA hK hE hP hD hS hv hmm
  have hv : lv_has ls 4 [(0, .ref (ad 0)), (1, .int a)] := hv
  have in_3 : ∀ w ∈ u_ws RX3 TX3 18, w ∈ wsX3_weightOf := fun _ h => List.mem_cons_of_mem _ (List.mem_append_right _ h)
  have w_0 := hts (.fieldLink RX3 9 "SpoonsLast$House" "weight" "[I") (List.mem_of_getElem? (i := 1) rfl)
  generalize hQ : MQ below _ args s 0 0 A = Q
  have C_4 : ∀ (v1_4 : Int32) (v2_4 : Int32) (v3_4 : Int32), fX3_weightOf_4 v1_4 v2_4 v3_4 weight = some rR → WW p l e ({ frames := 0, cells := 0, slots := 0, locals := 0 } : Room) s m args below meth c D A 0 0 Q (wH cA ad kd weight known hour swS swW waS spoons kind mark silver fresh texts tape tapeCount z waiting waitingCount L tx tst) 4 [(0, .ref (ad 0)), (1, .int v1_4), (2, .int v2_4), (3, .int v3_4)] 4 [] := by
    intro v1_4 v2_4 v3_4 h
    unfold fX3_weightOf_4 at h
    obtain ⟨⟨v2_4r, v3_4r⟩, ho, h⟩ := bd_ex h
    have LE : WW p l e ({ frames := 0, cells := 0, slots := 0, locals := 0 } : Room) s m args below meth c D A 0 0 Q (wH cA ad kd weight known hour swS swW waS spoons kind mark silver fresh texts tape tapeCount z waiting waitingCount L tx tst) 4 [(2, .int v2_4r)] 34 [] := by
      intro H locs ls hP hD hS hv
      refine lv_iload_n hx hb dX3_weightOf_34 rfl (lv_at hv 0 rfl) ?_
      have h := Option.some.inj h
      have ee0 : v2_4r = rR := congrArg (fun q => q) h
      subst ee0
      rw [← hQ]
      exact retI hx hb hr hlk hK hP hD hS dX3_weightOf_35 ⟨Nat.le_of_ble_eq_true rfl, Nat.le_of_ble_eq_true rfl⟩
    have LB : ∀ (nf : Nat) (v2_4b : Int32) (v3_4b : Int32), lp (fun σ : Int32 × Int32 => fX3_weightOf_4B v1_4 weight (σ.1) (σ.2)) nf (v2_4b, v3_4b) = some (v2_4r, v3_4r) → WW p l e ({ frames := 0, cells := 0, slots := 0, locals := 0 } : Room) s m args below meth c D A 0 0 Q (wH cA ad kd weight known hour swS swW waS spoons kind mark silver fresh texts tape tapeCount z waiting waitingCount L tx tst) 4 [(0, .ref (ad 0)), (1, .int v1_4), (2, .int v2_4b), (3, .int v3_4b)] 4 [] := by
      intro nf
      induction nf with
      | zero => intro v2_4b v3_4b hl; cases hl
      | succ nf ih =>
        intro v2_4b v3_4b hl
        obtain ⟨x, h, hl⟩ := lp_ex hl
        have h : fX3_weightOf_4B v1_4 weight v2_4b v3_4b = some x := h
        unfold fX3_weightOf_4B at h
        have C_28 : ∀ (v2_28 : Int32) (v3_28 : Int32) (x : (Int32 × Int32) ⊕ (Int32 × Int32)), fX3_weightOf_28 v1_4 v2_28 v3_28 weight = some x → lpk (fun σ : Int32 × Int32 => fX3_weightOf_4B v1_4 weight (σ.1) (σ.2)) nf x = some (v2_4r, v3_4r) → WW p l e ({ frames := 0, cells := 0, slots := 0, locals := 0 } : Room) s m args below meth c D A 0 0 Q (wH cA ad kd weight known hour swS swW waS spoons kind mark silver fresh texts tape tapeCount z waiting waitingCount L tx tst) 4 [(0, .ref (ad 0)), (1, .int v1_4), (2, .int v2_28), (3, .int v3_28)] 28 [] := by
          intro v2_28 v3_28 x h hl
          unfold fX3_weightOf_28 at h
          intro H locs ls hP hD hS hv
          obtain ⟨y_3, ey_3, h⟩ := bnd_ex h
          refine lv_iinc (v := y_3) (lv' := [(3, .int y_3), (0, .ref (ad 0)), (1, .int v1_4), (2, .int v2_28)]) hx hb dX3_weightOf_28 hv (k := 3) rfl (by rw [ey_3]; rfl) (by decide) rfl (fun ls hv => ?_)
          refine lv_goto (tgt := 4) hx hb dX3_weightOf_31 (by decide) ?_
          cases h
          exact ih v2_28 y_3 hl _ _ _ hP hD hS (lv_sub hv [1, 2, 3, 0] rfl)
        intro H locs ls hP hD hS hv
        refine lv_iload_n hx hb dX3_weightOf_4 rfl (lv_at hv 3 rfl) ?_
        refine lv_bipush (v := (12 : Int32)) hx hb dX3_weightOf_5 (by decide) ?_
        refine lv_icmp_ge (tgt := 34) hx hb dX3_weightOf_7 (by decide) (fun c_1 => ?_) (fun c_1 => ?_)
        · have h := ite_t c_1 h
          cases h
          have hl : some (v2_4b, v3_4b) = some (v2_4r, v3_4r) := hl
          have hl := Option.some.inj hl
          have ee0 : v2_4b = v2_4r := congrArg (fun q => q.1) hl
          have ee1 : v3_4b = v3_4r := congrArg (fun q => q.2) hl
          subst ee0
          subst ee1
          exact LE _ _ _ hP hD hS (lv_sub hv [2] rfl)
        · have h := ite_f c_1 h
          refine lv_iload_n hx hb dX3_weightOf_10 rfl (lv_at hv 1 rfl) ?_
          refine lv_iload_n hx hb dX3_weightOf_11 rfl (lv_at hv 3 rfl) ?_
          refine lv_ishr hx hb dX3_weightOf_12 ?_
          refine lv_iconst (v := (1 : Int32)) hx hb dX3_weightOf_13 (by decide) ?_
          refine lv_iand hx hb dX3_weightOf_14 ?_
          refine lv_iconst (v := (1 : Int32)) hx hb dX3_weightOf_15 (by decide) ?_
          refine lv_icmp_ne (tgt := 28) hx hb dX3_weightOf_16 (by decide) (fun c_2 => ?_) (fun c_2 => ?_)
          · have h := ite_f c_2 h
            exact C_28 v2_4b v3_4b _ h hl _ _ _ hP hD hS (lv_sub hv [0, 1, 2, 3] rfl)
          · have h := ite_t c_2 h
            refine lv_iload_n hx hb dX3_weightOf_19 rfl (lv_at hv 2 rfl) ?_
            refine lv_aload_n hx hb dX3_weightOf_20 rfl (lv_at hv 0 rfl) ?_
            refine va_get (D := D) (ci := 3) (v := .ref (ad 2)) (C := RX3) (T := TX3) (N := 18) hx hb hts in_3 hown hK hP 0 rfl rfl 1 (by decide) w_0 (fun _ h9 => h9) rfl dX3_weightOf_21 ?_
            refine lv_iload_n hx hb dX3_weightOf_24 rfl (lv_at hv 3 rfl) ?_
            obtain ⟨c_4, h⟩ := ckI_ex h
            refine va_iald (D := D) hx hb hK hP 1 0 rfl rfl c_4 dX3_weightOf_25 ?_
            refine lv_iadd hx hb dX3_weightOf_26 ?_
            obtain ⟨y_5, ey_5, h⟩ := bnd_ex h
            refine lv_nm ey_5 ?_
            refine lv_istore_n (lv' := [(2, .int y_5), (0, .ref (ad 0)), (1, .int v1_4), (3, .int v3_4b)]) hx hb dX3_weightOf_27 rfl hv (by decide) rfl (fun ls hv => ?_)
            exact C_28 y_5 v3_4b _ h hl _ _ _ hP hD hS (lv_sub hv [1, 2, 0, 3] rfl)
    exact LB FU v2_4 v3_4 ho
  have hP : va_P D vwCl (wH cA ad kd weight known hour swS swW waS spoons kind mark silver fresh texts tape tapeCount z waiting waitingCount L tx tst) H := hP
  unfold fX3_weightOf at h
  refine lv_iconst (v := (0 : Int32)) hx hb dX3_weightOf_0 (by decide) ?_
  refine lv_istore_n (lv' := [(2, .int (0 : Int32)), (0, .ref (ad 0)), (1, .int a)]) hx hb dX3_weightOf_1 rfl hv (by decide) rfl (fun ls hv => ?_)
  refine lv_iconst (v := (0 : Int32)) hx hb dX3_weightOf_2 (by decide) ?_
  refine lv_istore_n (lv' := [(3, .int (0 : Int32)), (2, .int (0 : Int32)), (0, .ref (ad 0)), (1, .int a)]) hx hb dX3_weightOf_3 rfl hv (by decide) rfl (fun ls hv => ?_)
  exact C_4 a (0 : Int32) (0 : Int32) h _ _ _ hP hD hS (lv_sub hv [2, 3, 1, 0] rfl)

def fX3_allSilver_4B (spoons : Int32) (silver : Nat → Int32) (v1_4b : Int32) (v2_4b : Int32) : Option ((Int32 × Int32) ⊕ (Int32 × Int32)) :=
  (if spoons ≤ v2_4b then some (.inr (v1_4b, v2_4b)) else ckI v2_4b 8 (bnd (v1_4b + (silver (v2_4b).toNatClampNeg)) fun y_3 => bnd (v2_4b + (1 : Int32)) fun y_4 => some (.inl (y_3, y_4))))
def fX3_allSilver_4 (v1_4 : Int32) (v2_4 : Int32) (spoons : Int32) (silver : Nat → Int32) : Option (Int32) :=
  bd (lp (fun σ : Int32 × Int32 => fX3_allSilver_4B spoons silver (σ.1) (σ.2)) FU (v1_4, v2_4)) fun ρ => match ρ with | (v1_4r, v2_4r) => some v1_4r
def fX3_allSilver (spoons : Int32) (silver : Nat → Int32) : Option (Int32) :=
  fX3_allSilver_4 (0 : Int32) (0 : Int32) spoons silver
set_option maxHeartbeats 4000000 in
set_option maxRecDepth 100000 in
theorem c_X3_allSilver (l : Launch) (G : Nat → Nat) (D : va_G) (cA : Nat → ClassId) (ad : Nat → Nat) (kd : Nat → Nat) (sz : Nat) (weight : Nat → Int32) (known : Int32) (hour : Int32) (swS : Nat → Int32) (swW : Nat → Int32) (waS : Nat → Int32) (spoons : Int32) (kind : Nat → Int32) (mark : Nat → Int32) (silver : Nat → Int32) (fresh : Nat → Int64) (texts : Nat → Option Nat) (tape : Nat → Int32) (tapeCount : Int32) (z : Int32) (waiting : Nat → Int32) (waitingCount : Int32) (L : List Nat) (tx : Nat → TXc) (tst : Nat → Nat → Int32) (rR : Int32) (h : fX3_allSilver spoons silver = some rR) : Met l yX3_allSilver wsX3_allSilver ({ frames := 0, cells := 0, slots := 0, locals := 0 } : Room) (PW G D (tyC cA) sz (wH cA ad kd weight known hour swS swW waS spoons kind mark silver fresh texts tape tapeCount z waiting waitingCount L tx tst) [.ref (ad 0)]) (QI D (tyC cA) (va_A (wH cA ad kd weight known hour swS swW waS spoons kind mark silver fresh texts tape tapeCount z waiting waitingCount L tx tst) sz) rR (wH cA ad kd weight known hour swS swW waS spoons kind mark silver fresh texts tape tapeCount z waiting waitingCount L tx tst)) 0 0 (va_A (wH cA ad kd weight known hour swS swW waS spoons kind mark silver fresh texts tape tapeCount z waiting waitingCount L tx tst) sz) := by
  refine ent (cc := cX3_allSilver) (maxL := 3) (ret := (some .int)) (fun A => QI D (tyC cA) A rR (wH cA ad kd weight known hour swS swW waS spoons kind mark silver fresh texts tape tapeCount z waiting waitingCount L tx tst)) (by decide +kernel) rfl (Nat.le_of_ble_eq_true rfl) ?_
  intro p e s m args below meth c A ls H hx hb hml hr hlk hts hown hA hK hE hP hD hS hv hmm
  have hv : lv_has ls 3 [(0, .ref (ad 0))] := hv
  have in_3 : ∀ w ∈ u_ws RX3 TX3 18, w ∈ wsX3_allSilver := fun _ h => List.mem_cons_of_mem _ (List.mem_append_right _ h)
  have w_0 := hts (.fieldLink RX3 75 "SpoonsLast$House" "spoons" "I") (List.mem_of_getElem? (i := 1) rfl)
  have w_1 := hts (.fieldLink RX3 30 "SpoonsLast$House" "silver" "[I") (List.mem_of_getElem? (i := 2) rfl)
  generalize hQ : MQ below _ args s 0 0 A = Q
  have C_4 : ∀ (v1_4 : Int32) (v2_4 : Int32), fX3_allSilver_4 v1_4 v2_4 spoons silver = some rR → WW p l e ({ frames := 0, cells := 0, slots := 0, locals := 0 } : Room) s m args below meth c D A 0 0 Q (wH cA ad kd weight known hour swS swW waS spoons kind mark silver fresh texts tape tapeCount z waiting waitingCount L tx tst) 3 [(0, .ref (ad 0)), (1, .int v1_4), (2, .int v2_4)] 4 [] := by
    intro v1_4 v2_4 h
    unfold fX3_allSilver_4 at h
    obtain ⟨⟨v1_4r, v2_4r⟩, ho, h⟩ := bd_ex h
    have LE : WW p l e ({ frames := 0, cells := 0, slots := 0, locals := 0 } : Room) s m args below meth c D A 0 0 Q (wH cA ad kd weight known hour swS swW waS spoons kind mark silver fresh texts tape tapeCount z waiting waitingCount L tx tst) 3 [(1, .int v1_4r)] 27 [] := by
      intro H locs ls hP hD hS hv
      refine lv_iload_n hx hb dX3_allSilver_27 rfl (lv_at hv 0 rfl) ?_
      have h := Option.some.inj h
      have ee0 : v1_4r = rR := congrArg (fun q => q) h
      subst ee0
      rw [← hQ]
      exact retI hx hb hr hlk hK hP hD hS dX3_allSilver_28 ⟨Nat.le_of_ble_eq_true rfl, Nat.le_of_ble_eq_true rfl⟩
    have LB : ∀ (nf : Nat) (v1_4b : Int32) (v2_4b : Int32), lp (fun σ : Int32 × Int32 => fX3_allSilver_4B spoons silver (σ.1) (σ.2)) nf (v1_4b, v2_4b) = some (v1_4r, v2_4r) → WW p l e ({ frames := 0, cells := 0, slots := 0, locals := 0 } : Room) s m args below meth c D A 0 0 Q (wH cA ad kd weight known hour swS swW waS spoons kind mark silver fresh texts tape tapeCount z waiting waitingCount L tx tst) 3 [(0, .ref (ad 0)), (1, .int v1_4b), (2, .int v2_4b)] 4 [] := by
      intro nf
      induction nf with
      | zero => intro v1_4b v2_4b hl; cases hl
      | succ nf ih =>
        intro v1_4b v2_4b hl
        obtain ⟨x, h, hl⟩ := lp_ex hl
        have h : fX3_allSilver_4B spoons silver v1_4b v2_4b = some x := h
        unfold fX3_allSilver_4B at h
        intro H locs ls hP hD hS hv
        refine lv_iload_n hx hb dX3_allSilver_4 rfl (lv_at hv 2 rfl) ?_
        refine lv_aload_n hx hb dX3_allSilver_5 rfl (lv_at hv 0 rfl) ?_
        refine va_get (D := D) (ci := 3) (v := .int spoons) (C := RX3) (T := TX3) (N := 18) hx hb hts in_3 hown hK hP 0 rfl rfl 7 (by decide) w_0 (fun _ h9 => h9) rfl dX3_allSilver_6 ?_
        refine lv_icmp_ge (tgt := 27) hx hb dX3_allSilver_9 (by decide) (fun c_1 => ?_) (fun c_1 => ?_)
        · have h := ite_t c_1 h
          cases h
          have hl : some (v1_4b, v2_4b) = some (v1_4r, v2_4r) := hl
          have hl := Option.some.inj hl
          have ee0 : v1_4b = v1_4r := congrArg (fun q => q.1) hl
          have ee1 : v2_4b = v2_4r := congrArg (fun q => q.2) hl
          subst ee0
          subst ee1
          exact LE _ _ _ hP hD hS (lv_sub hv [1] rfl)
        · have h := ite_f c_1 h
          refine lv_iload_n hx hb dX3_allSilver_12 rfl (lv_at hv 1 rfl) ?_
          refine lv_aload_n hx hb dX3_allSilver_13 rfl (lv_at hv 0 rfl) ?_
          refine va_get (D := D) (ci := 3) (v := .ref (ad 11)) (C := RX3) (T := TX3) (N := 18) hx hb hts in_3 hown hK hP 0 rfl rfl 10 (by decide) w_1 (fun _ h9 => h9) rfl dX3_allSilver_14 ?_
          refine lv_iload_n hx hb dX3_allSilver_17 rfl (lv_at hv 2 rfl) ?_
          obtain ⟨c_2, h⟩ := ckI_ex h
          refine va_iald (D := D) hx hb hK hP 7 0 rfl rfl c_2 dX3_allSilver_18 ?_
          refine lv_iadd hx hb dX3_allSilver_19 ?_
          obtain ⟨y_3, ey_3, h⟩ := bnd_ex h
          refine lv_nm ey_3 ?_
          refine lv_istore_n (lv' := [(1, .int y_3), (0, .ref (ad 0)), (2, .int v2_4b)]) hx hb dX3_allSilver_20 rfl hv (by decide) rfl (fun ls hv => ?_)
          obtain ⟨y_4, ey_4, h⟩ := bnd_ex h
          refine lv_iinc (v := y_4) (lv' := [(2, .int y_4), (1, .int y_3), (0, .ref (ad 0))]) hx hb dX3_allSilver_21 hv (k := 2) rfl (by rw [ey_4]; rfl) (by decide) rfl (fun ls hv => ?_)
          refine lv_goto (tgt := 4) hx hb dX3_allSilver_24 (by decide) ?_
          cases h
          exact ih y_3 y_4 hl _ _ _ hP hD hS (lv_sub hv [2, 1, 0] rfl)
    exact LB FU v1_4 v2_4 ho
  have hP : va_P D vwCl (wH cA ad kd weight known hour swS swW waS spoons kind mark silver fresh texts tape tapeCount z waiting waitingCount L tx tst) H := hP
  unfold fX3_allSilver at h
  refine lv_iconst (v := (0 : Int32)) hx hb dX3_allSilver_0 (by decide) ?_
  refine lv_istore_n (lv' := [(1, .int (0 : Int32)), (0, .ref (ad 0))]) hx hb dX3_allSilver_1 rfl hv (by decide) rfl (fun ls hv => ?_)
  refine lv_iconst (v := (0 : Int32)) hx hb dX3_allSilver_2 (by decide) ?_
  refine lv_istore_n (lv' := [(2, .int (0 : Int32)), (1, .int (0 : Int32)), (0, .ref (ad 0))]) hx hb dX3_allSilver_3 rfl hv (by decide) rfl (fun ls hv => ?_)
  exact C_4 (0 : Int32) (0 : Int32) h _ _ _ hP hD hS (lv_sub hv [2, 1, 0] rfl)

def fX3_draw (z : Int32) : Option (Int32 × Int32) :=
  bnd ((z * (1103515245 : Int32)) + (12345 : Int32)) fun y_1 => some ((iushr y_1 (8 : Int32)), y_1)
set_option maxHeartbeats 4000000 in
set_option maxRecDepth 100000 in
theorem c_X3_draw (l : Launch) (G : Nat → Nat) (D : va_G) (cA : Nat → ClassId) (ad : Nat → Nat) (kd : Nat → Nat) (sz : Nat) (weight : Nat → Int32) (known : Int32) (hour : Int32) (swS : Nat → Int32) (swW : Nat → Int32) (waS : Nat → Int32) (spoons : Int32) (kind : Nat → Int32) (mark : Nat → Int32) (silver : Nat → Int32) (fresh : Nat → Int64) (texts : Nat → Option Nat) (tape : Nat → Int32) (tapeCount : Int32) (z : Int32) (waiting : Nat → Int32) (waitingCount : Int32) (L : List Nat) (tx : Nat → TXc) (tst : Nat → Nat → Int32) (rR : Int32) (zR : Int32) (h : fX3_draw z = some (rR, zR)) : Met l yX3_draw wsX3_draw ({ frames := 0, cells := 0, slots := 0, locals := 0 } : Room) (PW G D (tyC cA) sz (wH cA ad kd weight known hour swS swW waS spoons kind mark silver fresh texts tape tapeCount z waiting waitingCount L tx tst) [.ref (ad 0)]) (QI D (tyC cA) (va_A (wH cA ad kd weight known hour swS swW waS spoons kind mark silver fresh texts tape tapeCount z waiting waitingCount L tx tst) sz) rR (wH cA ad kd weight known hour swS swW waS spoons kind mark silver fresh texts tape tapeCount zR waiting waitingCount L tx tst)) 0 0 (va_A (wH cA ad kd weight known hour swS swW waS spoons kind mark silver fresh texts tape tapeCount z waiting waitingCount L tx tst) sz) := by
  refine ent (cc := cX3_draw) (maxL := 1) (ret := (some .int)) (fun A => QI D (tyC cA) A rR (wH cA ad kd weight known hour swS swW waS spoons kind mark silver fresh texts tape tapeCount zR waiting waitingCount L tx tst)) (by decide +kernel) rfl (Nat.le_of_ble_eq_true rfl) ?_
  intro p e s m args below meth c A ls H hx hb hml hr hlk hts hown hA hK hE hP hD hS hv hmm
  have hv : lv_has ls 1 [(0, .ref (ad 0))] := hv
  have in_3 : ∀ w ∈ u_ws RX3 TX3 18, w ∈ wsX3_draw := fun _ h => List.mem_cons_of_mem _ (List.mem_append_right _ h)
  have w_0 := hts (.fieldLink RX3 46 "SpoonsLast$House" "z" "I") (List.mem_of_getElem? (i := 1) rfl)
  have w_1 := hts (.constant RX3 152 (1103515245)) (List.mem_of_getElem? (i := 2) rfl)
  generalize hQ : MQ below _ args s 0 0 A = Q
  have hP : va_P D vwCl (wH cA ad kd weight known hour swS swW waS spoons kind mark silver fresh texts tape tapeCount z waiting waitingCount L tx tst) H := hP
  unfold fX3_draw at h
  refine lv_aload_n hx hb dX3_draw_0 rfl (lv_at hv 0 rfl) ?_
  refine lv_aload_n hx hb dX3_draw_1 rfl (lv_at hv 0 rfl) ?_
  refine va_get (D := D) (ci := 3) (v := .int z) (C := RX3) (T := TX3) (N := 18) hx hb hts in_3 hown hK hP 0 rfl rfl 15 (by decide) w_0 (fun _ h9 => h9) rfl dX3_draw_2 ?_
  refine lv_ldc (v := (1103515245 : Int32)) hx hb hown w_1 dX3_draw_5 ?_
  refine lv_imul hx hb dX3_draw_7 ?_
  refine lv_sipush (v := (12345 : Int32)) hx hb dX3_draw_8 (by decide) ?_
  refine lv_iadd hx hb dX3_draw_11 ?_
  obtain ⟨y_1, ey_1, h⟩ := bnd_ex h
  refine lv_nm ey_1 ?_
  refine va_put (D := D) (ci := 3) (v := .int y_1) (ty := .int) (C := RX3) (T := TX3) (N := 18) hx hb hts in_3 tyX3 tyX3_ok nmX3 hown hK hP hD hS 0 rfl rfl 15 (by decide) w_0 (fun _ h9 => h9) rfl (by decide +kernel) rfl rfl (Nat.le_of_ble_eq_true rfl) dX3_draw_12 (fun H locs hP hD hS => ?_)
  have hP : va_P D vwCl (wH cA ad kd weight known hour swS swW waS spoons kind mark silver fresh texts tape tapeCount y_1 waiting waitingCount L tx tst) H := hP
  have hD : va_D A (wH cA ad kd weight known hour swS swW waS spoons kind mark silver fresh texts tape tapeCount y_1 waiting waitingCount L tx tst) := hD
  refine lv_aload_n hx hb dX3_draw_15 rfl (lv_at hv 0 rfl) ?_
  refine va_get (D := D) (ci := 3) (v := .int y_1) (C := RX3) (T := TX3) (N := 18) hx hb hts in_3 hown hK hP 0 rfl rfl 15 (by decide) w_0 (fun _ h9 => h9) rfl dX3_draw_16 ?_
  refine lv_bipush (v := (8 : Int32)) hx hb dX3_draw_19 (by decide) ?_
  refine lv_iushr (v := (iushr y_1 (8 : Int32))) hx hb dX3_draw_21 rfl ?_
  have h := Option.some.inj h
  have ee0 : (iushr y_1 (8 : Int32)) = rR := congrArg (fun q => q.1) h
  have ee1 : y_1 = zR := congrArg (fun q => q.2) h
  subst ee0
  subst ee1
  rw [← hQ]
  exact retI hx hb hr hlk hK hP hD hS dX3_draw_22 ⟨Nat.le_of_ble_eq_true rfl, Nat.le_of_ble_eq_true rfl⟩

def fX3_drawSwallow (hour : Int32) (swS : Nat → Int32) (swW : Nat → Int32) (z : Int32) : Option ((Nat → Int32) × (Nat → Int32) × Int32) :=
  bd (fX3_swallowPlace hour) fun r_1 => bd (fX3_draw z) fun (r_3, z_4) => bnd (r_3 - r_3 / (8 : Int32) * (8 : Int32)) fun y_6 => ckI r_1 6 (bnd (upd swS (r_1).toNatClampNeg y_6) fun swS_8 => bd (fX3_draw z_4) fun (r_9, z_10) => bnd (r_9 - r_9 / (12 : Int32) * (12 : Int32)) fun y_12 => ckI r_1 6 (bnd (upd swW (r_1).toNatClampNeg y_12) fun swW_14 => some (swS_8, swW_14, z_10)))
set_option maxHeartbeats 4000000 in
set_option maxRecDepth 100000 in
theorem c_X3_drawSwallow (l : Launch) (G : Nat → Nat) (D : va_G) (cA : Nat → ClassId) (ad : Nat → Nat) (kd : Nat → Nat) (sz : Nat) (weight : Nat → Int32) (known : Int32) (hour : Int32) (swS : Nat → Int32) (swW : Nat → Int32) (waS : Nat → Int32) (spoons : Int32) (kind : Nat → Int32) (mark : Nat → Int32) (silver : Nat → Int32) (fresh : Nat → Int64) (texts : Nat → Option Nat) (tape : Nat → Int32) (tapeCount : Int32) (z : Int32) (waiting : Nat → Int32) (waitingCount : Int32) (L : List Nat) (tx : Nat → TXc) (tst : Nat → Nat → Int32) (swSR : Nat → Int32) (swWR : Nat → Int32) (zR : Int32) (h : fX3_drawSwallow hour swS swW z = some (swSR, swWR, zR)) : Met l yX3_drawSwallow wsX3_drawSwallow ({ frames := 2, cells := 0, slots := 0, locals := 42 } : Room) (PW G D (tyC cA) sz (wH cA ad kd weight known hour swS swW waS spoons kind mark silver fresh texts tape tapeCount z waiting waitingCount L tx tst) [.ref (ad 0)]) (QV D (tyC cA) (va_A (wH cA ad kd weight known hour swS swW waS spoons kind mark silver fresh texts tape tapeCount z waiting waitingCount L tx tst) sz) (wH cA ad kd weight known hour swSR swWR waS spoons kind mark silver fresh texts tape tapeCount zR waiting waitingCount L tx tst)) 0 0 (va_A (wH cA ad kd weight known hour swS swW waS spoons kind mark silver fresh texts tape tapeCount z waiting waitingCount L tx tst) sz) := by
  refine ent (cc := cX3_drawSwallow) (maxL := 2) (ret := none) (fun A => QV D (tyC cA) A (wH cA ad kd weight known hour swSR swWR waS spoons kind mark silver fresh texts tape tapeCount zR waiting waitingCount L tx tst)) (by decide +kernel) rfl (Nat.le_of_ble_eq_true rfl) ?_
  intro p e s m args below meth c A ls H hx hb hml hr hlk hts hown hA hK hE hP hD hS hv hmm
  have hv : lv_has ls 2 [(0, .ref (ad 0))] := hv
  have in_3 : ∀ w ∈ u_ws RX3 TX3 18, w ∈ wsX3_drawSwallow := fun _ h => List.mem_cons_of_mem _ (List.mem_append_right _ h)
  have w_0 := hts (.fieldLink RX3 15 "SpoonsLast$House" "swallowSpoon" "[I") (List.mem_of_getElem? (i := 1) rfl)
  have w_1 := hts (.fieldLink RX3 18 "SpoonsLast$House" "swallowWord" "[I") (List.mem_of_getElem? (i := 2) rfl)
  generalize hQ : MQ below _ args s 0 0 A = Q
  have hP : va_P D vwCl (wH cA ad kd weight known hour swS swW waS spoons kind mark silver fresh texts tape tapeCount z waiting waitingCount L tx tst) H := hP
  unfold fX3_drawSwallow at h
  refine lv_aload_n hx hb dX3_drawSwallow_0 rfl (lv_at hv 0 rfl) ?_
  obtain ⟨r_1, hf_2, h⟩ := bd_ex h
  have sb := Sb.same hP hD hS hA
  refine calI (va_runV (As := []) (rest := []) ⟨hx, hb, hml, hown, hts⟩ (c_X3_swallowPlace l G D cA ad kd _ weight known hour swS swW waS spoons kind mark silver fresh texts tape tapeCount z waiting waitingCount L tx tst r_1 hf_2) (cwV 0 hts gX3_drawSwallow_X3_swallowPlace rfl rfl rfl (by decide +kernel) ⟨Nat.le_of_ble_eq_true rfl, Nat.le_of_ble_eq_true rfl⟩) (pvV hE hK hS sb (va_recv hK hP (ci := 3) (q0 := 0) rfl rfl)) rfl rfl hv.1 rfl (lv_room (Nat.le_of_ble_eq_true rfl)) dX3_drawSwallow_1 ⟨Nat.le_of_ble_eq_true rfl, Nat.le_of_ble_eq_true rfl⟩) hS sb (Jn.same sb) (fun H locs hP hD hS => ?_)
  have hP : va_P D vwCl (wH cA ad kd weight known hour swS swW waS spoons kind mark silver fresh texts tape tapeCount z waiting waitingCount L tx tst) H := hP
  have hD : va_D A (wH cA ad kd weight known hour swS swW waS spoons kind mark silver fresh texts tape tapeCount z waiting waitingCount L tx tst) := hD
  refine lv_istore_n (lv' := [(1, .int r_1), (0, .ref (ad 0))]) hx hb dX3_drawSwallow_4 rfl hv (by decide) rfl (fun ls hv => ?_)
  refine lv_aload_n hx hb dX3_drawSwallow_5 rfl (lv_at hv 1 rfl) ?_
  refine va_get (D := D) (ci := 3) (v := .ref (ad 5)) (C := RX3) (T := TX3) (N := 18) hx hb hts in_3 hown hK hP 0 rfl rfl 4 (by decide) w_0 (fun _ h9 => h9) rfl dX3_drawSwallow_6 ?_
  refine lv_iload_n hx hb dX3_drawSwallow_9 rfl (lv_at hv 0 rfl) ?_
  refine lv_aload_n hx hb dX3_drawSwallow_10 rfl (lv_at hv 1 rfl) ?_
  obtain ⟨⟨r_3, z_4⟩, hf_5, h⟩ := bd_ex h
  have sb := Sb.same hP hD hS hA
  refine calI (va_runV (As := []) (rest := [.int r_1, .ref (ad 5)]) ⟨hx, hb, hml, hown, hts⟩ (c_X3_draw l G D cA ad kd _ weight known hour swS swW waS spoons kind mark silver fresh texts tape tapeCount z waiting waitingCount L tx tst r_3 z_4 hf_5) (cwV 0 hts gX3_drawSwallow_X3_draw rfl rfl rfl (by decide +kernel) ⟨Nat.le_of_ble_eq_true rfl, Nat.le_of_ble_eq_true rfl⟩) (pvV hE hK hS sb (va_recv hK hP (ci := 3) (q0 := 0) rfl rfl)) rfl rfl hv.1 rfl (lv_room (Nat.le_of_ble_eq_true rfl)) dX3_drawSwallow_11 ⟨Nat.le_of_ble_eq_true rfl, Nat.le_of_ble_eq_true rfl⟩) hS sb (Jn.same sb) (fun H locs hP hD hS => ?_)
  have hP : va_P D vwCl (wH cA ad kd weight known hour swS swW waS spoons kind mark silver fresh texts tape tapeCount z_4 waiting waitingCount L tx tst) H := hP
  have hD : va_D A (wH cA ad kd weight known hour swS swW waS spoons kind mark silver fresh texts tape tapeCount z_4 waiting waitingCount L tx tst) := hD
  refine lv_bipush (v := (8 : Int32)) hx hb dX3_drawSwallow_14 (by decide) ?_
  refine lv_irem hx hb dX3_drawSwallow_16 (by decide) ?_
  obtain ⟨y_6, ey_6, h⟩ := bnd_ex h
  refine lv_nm ey_6 ?_
  obtain ⟨c_7, h⟩ := ckI_ex h
  obtain ⟨swS_8, eswS_8, h⟩ := bnd_ex h
  refine va_iast (D := D) hx hb hK hP hD hS 2 0 rfl rfl c_7 dX3_drawSwallow_17 (fun H locs hP hD hS => ?_)
  rw [← eswS_8] at hP hD
  have hP : va_P D vwCl (wH cA ad kd weight known hour swS_8 swW waS spoons kind mark silver fresh texts tape tapeCount z_4 waiting waitingCount L tx tst) H := hP
  have hD : va_D A (wH cA ad kd weight known hour swS_8 swW waS spoons kind mark silver fresh texts tape tapeCount z_4 waiting waitingCount L tx tst) := hD
  refine lv_aload_n hx hb dX3_drawSwallow_18 rfl (lv_at hv 1 rfl) ?_
  refine va_get (D := D) (ci := 3) (v := .ref (ad 6)) (C := RX3) (T := TX3) (N := 18) hx hb hts in_3 hown hK hP 0 rfl rfl 5 (by decide) w_1 (fun _ h9 => h9) rfl dX3_drawSwallow_19 ?_
  refine lv_iload_n hx hb dX3_drawSwallow_22 rfl (lv_at hv 0 rfl) ?_
  refine lv_aload_n hx hb dX3_drawSwallow_23 rfl (lv_at hv 1 rfl) ?_
  obtain ⟨⟨r_9, z_10⟩, hf_11, h⟩ := bd_ex h
  have sb := Sb.same hP hD hS hA
  refine calI (va_runV (As := []) (rest := [.int r_1, .ref (ad 6)]) ⟨hx, hb, hml, hown, hts⟩ (c_X3_draw l G D cA ad kd _ weight known hour swS_8 swW waS spoons kind mark silver fresh texts tape tapeCount z_4 waiting waitingCount L tx tst r_9 z_10 hf_11) (cwV 0 hts gX3_drawSwallow_X3_draw rfl rfl rfl (by decide +kernel) ⟨Nat.le_of_ble_eq_true rfl, Nat.le_of_ble_eq_true rfl⟩) (pvV hE hK hS sb (va_recv hK hP (ci := 3) (q0 := 0) rfl rfl)) rfl rfl hv.1 rfl (lv_room (Nat.le_of_ble_eq_true rfl)) dX3_drawSwallow_24 ⟨Nat.le_of_ble_eq_true rfl, Nat.le_of_ble_eq_true rfl⟩) hS sb (Jn.same sb) (fun H locs hP hD hS => ?_)
  have hP : va_P D vwCl (wH cA ad kd weight known hour swS_8 swW waS spoons kind mark silver fresh texts tape tapeCount z_10 waiting waitingCount L tx tst) H := hP
  have hD : va_D A (wH cA ad kd weight known hour swS_8 swW waS spoons kind mark silver fresh texts tape tapeCount z_10 waiting waitingCount L tx tst) := hD
  refine lv_bipush (v := (12 : Int32)) hx hb dX3_drawSwallow_27 (by decide) ?_
  refine lv_irem hx hb dX3_drawSwallow_29 (by decide) ?_
  obtain ⟨y_12, ey_12, h⟩ := bnd_ex h
  refine lv_nm ey_12 ?_
  obtain ⟨c_13, h⟩ := ckI_ex h
  obtain ⟨swW_14, eswW_14, h⟩ := bnd_ex h
  refine va_iast (D := D) hx hb hK hP hD hS 3 0 rfl rfl c_13 dX3_drawSwallow_30 (fun H locs hP hD hS => ?_)
  rw [← eswW_14] at hP hD
  have hP : va_P D vwCl (wH cA ad kd weight known hour swS_8 swW_14 waS spoons kind mark silver fresh texts tape tapeCount z_10 waiting waitingCount L tx tst) H := hP
  have hD : va_D A (wH cA ad kd weight known hour swS_8 swW_14 waS spoons kind mark silver fresh texts tape tapeCount z_10 waiting waitingCount L tx tst) := hD
  have h := Option.some.inj h
  have ee0 : swS_8 = swSR := congrArg (fun q => q.1) h
  have ee1 : swW_14 = swWR := congrArg (fun q => q.2.1) h
  have ee2 : z_10 = zR := congrArg (fun q => q.2.2) h
  subst ee0
  subst ee1
  subst ee2
  rw [← hQ]
  exact retV hx hb hr hlk hK hP hD hS dX3_drawSwallow_31 ⟨Nat.le_of_ble_eq_true rfl, Nat.le_of_ble_eq_true rfl⟩

def fX3_given_26 (v1_26 : Int32) (k0_26 : Int32) (texts : Nat → Option Nat) (L : List Nat) (tx : Nat → TXc) (tst_26 : Nat → Nat → Int32) : Option (Int32 × (Nat → Nat → Int32)) :=
  (if v1_26 = 0 then some ((jmax (0 : Int32) (jmin k0_26 (9 : Int32))), tst_26) else some ((jmax (0 : Int32) (jmin k0_26 (20 : Int32))), tst_26))
def fX3_given (use : Int32) (x : Int32) (y : Int32) (k : Int32) (texts : Nat → Option Nat) (L : List Nat) (tx : Nat → TXc) (tst : Nat → Nat → Int32) : Option (Int32 × (Nat → Nat → Int32)) :=
  ckI use 2 (onO (texts (use).toNatClampNeg) (fX3_given_26 use x texts L tx tst) (fun a_3 => ck (a_3 ∈ L) (bd (fX9_workOut (tx a_3) x y k (tst a_3)) fun (r_6, s_7) => bnd (va_up tst a_3 s_7) fun tst_9 => fX3_given_26 use r_6 texts L tx tst_9)))
set_option maxHeartbeats 4000000 in
set_option maxRecDepth 100000 in
theorem c_X3_given (l : Launch) (G : Nat → Nat) (D : va_G) (cA : Nat → ClassId) (ad : Nat → Nat) (kd : Nat → Nat) (sz : Nat) (weight : Nat → Int32) (known : Int32) (hour : Int32) (swS : Nat → Int32) (swW : Nat → Int32) (waS : Nat → Int32) (spoons : Int32) (kind : Nat → Int32) (mark : Nat → Int32) (silver : Nat → Int32) (fresh : Nat → Int64) (texts : Nat → Option Nat) (tape : Nat → Int32) (tapeCount : Int32) (z : Int32) (waiting : Nat → Int32) (waitingCount : Int32) (L : List Nat) (tx : Nat → TXc) (tst : Nat → Nat → Int32) (use : Int32) (x : Int32) (y : Int32) (k : Int32) (rR : Int32) (tstR : Nat → Nat → Int32) (h : fX3_given use x y k texts L tx tst = some (rR, tstR)) : Met l yX3_given wsX3_given ({ frames := 2, cells := 0, slots := 0, locals := 48 } : Room) (PW G D (tyC cA) sz (wH cA ad kd weight known hour swS swW waS spoons kind mark silver fresh texts tape tapeCount z waiting waitingCount L tx tst) [.ref (ad 0), .int use, .int x, .int y, .int k]) (QI D (tyC cA) (va_A (wH cA ad kd weight known hour swS swW waS spoons kind mark silver fresh texts tape tapeCount z waiting waitingCount L tx tst) sz) rR (wH cA ad kd weight known hour swS swW waS spoons kind mark silver fresh texts tape tapeCount z waiting waitingCount L tx tstR)) 0 0 (va_A (wH cA ad kd weight known hour swS swW waS spoons kind mark silver fresh texts tape tapeCount z waiting waitingCount L tx tst) sz) := by
  refine ent (cc := cX3_given) (maxL := 7) (ret := (some .int)) (fun A => QI D (tyC cA) A rR (wH cA ad kd weight known hour swS swW waS spoons kind mark silver fresh texts tape tapeCount z waiting waitingCount L tx tstR)) (by decide +kernel) rfl (Nat.le_of_ble_eq_true rfl) ?_
  intro p e s m args below meth c A ls H hx hb hml hr hlk hts hown hA hK hE hP hD hS hv hmm
  have hv : lv_has ls 7 [(0, .ref (ad 0)), (1, .int use), (2, .int x), (3, .int y), (4, .int k)] := hv
  have in_3 : ∀ w ∈ u_ws RX3 TX3 18, w ∈ wsX3_given := fun _ h => List.mem_cons_of_mem _ (List.mem_append_left _ (List.mem_append_right _ h))
  have w_0 := hts (.fieldLink RX3 39 "SpoonsLast$House" "texts" "[LSpoonsLast$Text;") (List.mem_of_getElem? (i := 1) rfl)
  have w_1 := hts (.methodLink RX3 156 Lib.Math.min.name) (List.mem_of_getElem? (i := 2) rfl)
  have w_2 := hts (.static Lib.Math.min.name) (List.mem_of_getElem? (i := 3) rfl)
  have w_3 := hts (.initialized "java/lang/Math") (List.mem_of_getElem? (i := 4) rfl)
  have w_4 := hts (.code Lib.Math.min.name Lib.Math.min.code 2 (some .int)) (List.mem_of_getElem? (i := 5) rfl)
  have w_5 := hts (.methodLink RX3 140 Lib.Math.max.name) (List.mem_of_getElem? (i := 6) rfl)
  have w_6 := hts (.static Lib.Math.max.name) (List.mem_of_getElem? (i := 7) rfl)
  have w_7 := hts (.code Lib.Math.max.name Lib.Math.max.code 2 (some .int)) (List.mem_of_getElem? (i := 8) rfl)
  generalize hQ : MQ below _ args s 0 0 A = Q
  have C_26 : ∀ (v1_26 : Int32) (k0_26 : Int32) (tst_26 : Nat → Nat → Int32), fX3_given_26 v1_26 k0_26 texts L tx tst_26 = some (rR, tstR) → WW p l e ({ frames := 2, cells := 0, slots := 0, locals := 48 } : Room) s m args below meth c D A 0 0 Q (wH cA ad kd weight known hour swS swW waS spoons kind mark silver fresh texts tape tapeCount z waiting waitingCount L tx tst_26) 7 [(1, .int v1_26)] 26 [.int k0_26] := by
    intro v1_26 k0_26 tst_26 h
    unfold fX3_given_26 at h
    intro H locs ls hP hD hS hv
    refine lv_istore (lv' := [(6, .int k0_26), (1, .int v1_26)]) hx hb dX3_given_26 hv (by decide) rfl (fun ls hv => ?_)
    refine lv_iconst (v := (0 : Int32)) hx hb dX3_given_28 (by decide) ?_
    refine lv_iload hx hb dX3_given_29 (lv_at hv 0 rfl) ?_
    refine lv_iload_n hx hb dX3_given_31 rfl (lv_at hv 1 rfl) ?_
    refine lv_if_ne (tgt := 40) hx hb dX3_given_32 (by decide) (fun c_4 => ?_) (fun c_4 => ?_)
    · have h := ite_f c_4 h
      refine lv_bipush (v := (20 : Int32)) hx hb dX3_given_40 (by decide) ?_
      refine va_mmin hx hb (hml.trans hv.1.symm) hown w_1 w_2 w_3 w_4 (Nat.le_of_ble_eq_true rfl) (Nat.le_of_ble_eq_true rfl) (Nat.le_of_ble_eq_true rfl) (Nat.le_of_ble_eq_true rfl) dX3_given_42 ?_
      refine va_mmax hx hb (hml.trans hv.1.symm) hown w_5 w_6 w_3 w_7 (Nat.le_of_ble_eq_true rfl) (Nat.le_of_ble_eq_true rfl) (Nat.le_of_ble_eq_true rfl) (Nat.le_of_ble_eq_true rfl) dX3_given_45 ?_
      have h := Option.some.inj h
      have ee0 : (jmax (0 : Int32) (jmin k0_26 (20 : Int32))) = rR := congrArg (fun q => q.1) h
      have ee1 : tst_26 = tstR := congrArg (fun q => q.2) h
      subst ee0
      subst ee1
      rw [← hQ]
      exact retI hx hb hr hlk hK hP hD hS dX3_given_48 ⟨Nat.le_of_ble_eq_true rfl, Nat.le_of_ble_eq_true rfl⟩
    · have h := ite_t c_4 h
      refine lv_bipush (v := (9 : Int32)) hx hb dX3_given_35 (by decide) ?_
      refine lv_goto (tgt := 42) hx hb dX3_given_37 (by decide) ?_
      refine va_mmin hx hb (hml.trans hv.1.symm) hown w_1 w_2 w_3 w_4 (Nat.le_of_ble_eq_true rfl) (Nat.le_of_ble_eq_true rfl) (Nat.le_of_ble_eq_true rfl) (Nat.le_of_ble_eq_true rfl) dX3_given_42 ?_
      refine va_mmax hx hb (hml.trans hv.1.symm) hown w_5 w_6 w_3 w_7 (Nat.le_of_ble_eq_true rfl) (Nat.le_of_ble_eq_true rfl) (Nat.le_of_ble_eq_true rfl) (Nat.le_of_ble_eq_true rfl) dX3_given_45 ?_
      have h := Option.some.inj h
      have ee0 : (jmax (0 : Int32) (jmin k0_26 (9 : Int32))) = rR := congrArg (fun q => q.1) h
      have ee1 : tst_26 = tstR := congrArg (fun q => q.2) h
      subst ee0
      subst ee1
      rw [← hQ]
      exact retI hx hb hr hlk hK hP hD hS dX3_given_48 ⟨Nat.le_of_ble_eq_true rfl, Nat.le_of_ble_eq_true rfl⟩
  have hP : va_P D vwCl (wH cA ad kd weight known hour swS swW waS spoons kind mark silver fresh texts tape tapeCount z waiting waitingCount L tx tst) H := hP
  unfold fX3_given at h
  refine lv_aload_n hx hb dX3_given_0 rfl (lv_at hv 0 rfl) ?_
  refine va_get (D := D) (ci := 3) (v := .ref (ad 13)) (C := RX3) (T := TX3) (N := 18) hx hb hts in_3 hown hK hP 0 rfl rfl 12 (by decide) w_0 (fun _ h9 => h9) rfl dX3_given_1 ?_
  refine lv_iload_n hx hb dX3_given_4 rfl (lv_at hv 1 rfl) ?_
  obtain ⟨c_1, h⟩ := ckI_ex h
  refine va_aldq (D := D) (f := texts) hx hb hK hP 9 3 rfl rfl c_1 dX3_given_5 ?_
  rcases onO_ex h with ⟨ho_2, h⟩ | ⟨a_3, ho_2, h⟩
  · rw [ho_2]
    refine W.eq (g2 := F0 m 6 ls [.null]) rfl ?_
    refine lv_astoreN (lv' := [(5, .null), (0, .ref (ad 0)), (1, .int use), (2, .int x), (3, .int y), (4, .int k)]) hx hb dX3_given_6 hv (by decide) rfl (fun ls hv => ?_)
    refine lv_aloadN hx hb dX3_given_8 (lv_at hv 0 rfl) ?_
    refine lv_ifnonnullN hx hb dX3_given_10 ?_
    refine lv_iload_n hx hb dX3_given_13 rfl (lv_at hv 3 rfl) ?_
    refine lv_goto (tgt := 26) hx hb dX3_given_14 (by decide) ?_
    exact C_26 use x tst h _ _ _ hP hD hS (lv_sub hv [2] rfl)
  · rw [ho_2]
    refine W.eq (g2 := F0 m 6 ls [.ref a_3]) rfl ?_
    refine lv_astore (lv' := [(5, .ref a_3), (0, .ref (ad 0)), (1, .int use), (2, .int x), (3, .int y), (4, .int k)]) hx hb dX3_given_6 hv (by decide) rfl (fun ls hv => ?_)
    refine lv_aload hx hb dX3_given_8 (lv_at hv 0 rfl) ?_
    refine lv_ifnonnull (tgt := 17) hx hb dX3_given_10 (by decide) ?_
    refine lv_aload hx hb dX3_given_17 (lv_at hv 0 rfl) ?_
    refine lv_iload_n hx hb dX3_given_19 rfl (lv_at hv 3 rfl) ?_
    refine lv_iload_n hx hb dX3_given_20 rfl (lv_at hv 4 rfl) ?_
    refine lv_iload hx hb dX3_given_21 (lv_at hv 5 rfl) ?_
    obtain ⟨hm_5, h⟩ := ck_ex h
    obtain ⟨⟨r_6, s_7⟩, hf_8, h⟩ := bd_ex h
    obtain ⟨tst_9, etst_9, h⟩ := bnd_ex h
    have sb : Sb D A H (wTW cA a_3 (tx a_3) (tst a_3)) := Sb.txt hm_5 hP hD hS hA
    obtain ⟨k9, hk9⟩ : ∃ k : Nat, (wH cA ad kd weight known hour swS swW waS spoons kind mark silver fresh texts tape tapeCount z waiting waitingCount L tx tst)[k]? = some (a_3, .inr (9, [.ref (tB (tx a_3)), .ref (tN (tx a_3)), .int (tA (tx a_3)), .ref (tC (tx a_3)), .int (tL (tx a_3)), .ref (tS (tx a_3)), .int (tF (tx a_3))])) := pool_at hm_5
    have jn : Jn D A H (wTW cA a_3 (tx a_3) (tst a_3)) (wTW cA a_3 (tx a_3) s_7) (wH cA ad kd weight known hour swS swW waS spoons kind mark silver fresh texts tape tapeCount z waiting waitingCount L tx (va_up tst a_3 s_7)) := Jn.txt s_7 hm_5 hP hD
    refine calI (va_runV (As := [.int x, .int y, .int k]) (rest := []) ⟨hx, hb, hml, hown, hts⟩ (c_X9_workOut l G D cA a_3 (tx a_3) _ (tst a_3) x y k r_6 s_7 hf_8) (cwV 3 hts gX3_given_X9_workOut rfl rfl rfl (by decide +kernel) ⟨Nat.le_of_ble_eq_true rfl, Nat.le_of_ble_eq_true rfl⟩) (pvV hE hK hS sb (va_recv hK hP (ci := 9) (q0 := k9) rfl hk9)) rfl rfl hv.1 rfl (lv_room (Nat.le_of_ble_eq_true rfl)) dX3_given_23 ⟨Nat.le_of_ble_eq_true rfl, Nat.le_of_ble_eq_true rfl⟩) hS sb jn (fun H locs hP hD hS => ?_)
    rw [← etst_9] at hP hD
    have hP : va_P D vwCl (wH cA ad kd weight known hour swS swW waS spoons kind mark silver fresh texts tape tapeCount z waiting waitingCount L tx tst_9) H := hP
    have hD : va_D A (wH cA ad kd weight known hour swS swW waS spoons kind mark silver fresh texts tape tapeCount z waiting waitingCount L tx tst_9) := hD
    exact C_26 use r_6 tst_9 h _ _ _ hP hD hS (lv_sub hv [2] rfl)

def fX3_rubOf (a : Int32) (kind : Nat → Int32) (silver : Nat → Int32) (fresh : Nat → Int64) (texts : Nat → Option Nat) (L : List Nat) (tx : Nat → TXc) (tst : Nat → Nat → Int32) : Option (Int32 × (Nat → Nat → Int32)) :=
  bd (fX3_wordsOn a fresh) fun r_1 => bd (fJ6_bitCount_0f7a4 r_1) fun r_3 => ckI a 8 (ckI (kind (a).toNatClampNeg) 7 (bd (dX_wears ((kind (a).toNatClampNeg)).toNatClampNeg r_3) fun r_7 => ckI a 8 (bd (fX3_given (1 : Int32) r_7 (silver (a).toNatClampNeg) r_3 texts L tx tst) fun (r_10, tst_11) => some (r_10, tst_11))))
set_option maxHeartbeats 4000000 in
set_option maxRecDepth 100000 in
theorem c_X3_rubOf (l : Launch) (G : Nat → Nat) (D : va_G) (cA : Nat → ClassId) (ad : Nat → Nat) (kd : Nat → Nat) (sz : Nat) (weight : Nat → Int32) (known : Int32) (hour : Int32) (swS : Nat → Int32) (swW : Nat → Int32) (waS : Nat → Int32) (spoons : Int32) (kind : Nat → Int32) (mark : Nat → Int32) (silver : Nat → Int32) (fresh : Nat → Int64) (texts : Nat → Option Nat) (tape : Nat → Int32) (tapeCount : Int32) (z : Int32) (waiting : Nat → Int32) (waitingCount : Int32) (L : List Nat) (tx : Nat → TXc) (tst : Nat → Nat → Int32) (a : Int32) (rR : Int32) (tstR : Nat → Nat → Int32) (h : fX3_rubOf a kind silver fresh texts L tx tst = some (rR, tstR)) : Met l yX3_rubOf wsX3_rubOf ({ frames := 3, cells := 0, slots := 0, locals := 74 } : Room) (PW G D (tyC cA) sz (wH cA ad kd weight known hour swS swW waS spoons kind mark silver fresh texts tape tapeCount z waiting waitingCount L tx tst) [.ref (ad 0), .int a]) (QI D (tyC cA) (va_A (wH cA ad kd weight known hour swS swW waS spoons kind mark silver fresh texts tape tapeCount z waiting waitingCount L tx tst) sz) rR (wH cA ad kd weight known hour swS swW waS spoons kind mark silver fresh texts tape tapeCount z waiting waitingCount L tx tstR)) 0 0 (va_A (wH cA ad kd weight known hour swS swW waS spoons kind mark silver fresh texts tape tapeCount z waiting waitingCount L tx tst) sz) := by
  refine ent (cc := cX3_rubOf) (maxL := 3) (ret := (some .int)) (fun A => QI D (tyC cA) A rR (wH cA ad kd weight known hour swS swW waS spoons kind mark silver fresh texts tape tapeCount z waiting waitingCount L tx tstR)) (by decide +kernel) rfl (Nat.le_of_ble_eq_true rfl) ?_
  intro p e s m args below meth c A ls H hx hb hml hr hlk hts hown hA hK hE hP hD hS hv hmm
  have hv : lv_has ls 3 [(0, .ref (ad 0)), (1, .int a)] := hv
  have in_3 : ∀ w ∈ u_ws RX3 TX3 18, w ∈ wsX3_rubOf := fun _ h => List.mem_cons_of_mem _ (List.mem_append_left _ (List.mem_append_right _ h))
  have w_0 := hts (.fieldLink RX3 53 "SpoonsLast$House" "kinds" "[LSpoonsLast$Spoon;") (List.mem_of_getElem? (i := 1) rfl)
  have w_1 := hts (.fieldLink RX3 24 "SpoonsLast$House" "kind" "[I") (List.mem_of_getElem? (i := 2) rfl)
  have w_2 := hts (.fieldLink RX3 30 "SpoonsLast$House" "silver" "[I") (List.mem_of_getElem? (i := 3) rfl)
  generalize hQ : MQ below _ args s 0 0 A = Q
  have hP : va_P D vwCl (wH cA ad kd weight known hour swS swW waS spoons kind mark silver fresh texts tape tapeCount z waiting waitingCount L tx tst) H := hP
  unfold fX3_rubOf at h
  refine lv_aload_n hx hb dX3_rubOf_0 rfl (lv_at hv 0 rfl) ?_
  refine lv_iload_n hx hb dX3_rubOf_1 rfl (lv_at hv 1 rfl) ?_
  obtain ⟨r_1, hf_2, h⟩ := bd_ex h
  have sb := Sb.same hP hD hS hA
  refine calI (va_runV (As := [.int a]) (rest := []) ⟨hx, hb, hml, hown, hts⟩ (c_X3_wordsOn l G D cA ad kd _ weight known hour swS swW waS spoons kind mark silver fresh texts tape tapeCount z waiting waitingCount L tx tst a r_1 hf_2) (cwV 1 hts gX3_rubOf_X3_wordsOn rfl rfl rfl (by decide +kernel) ⟨Nat.le_of_ble_eq_true rfl, Nat.le_of_ble_eq_true rfl⟩) (pvV hE hK hS sb (va_recv hK hP (ci := 3) (q0 := 0) rfl rfl)) rfl rfl hv.1 rfl (lv_room (Nat.le_of_ble_eq_true rfl)) dX3_rubOf_2 ⟨Nat.le_of_ble_eq_true rfl, Nat.le_of_ble_eq_true rfl⟩) hS sb (Jn.same sb) (fun H locs hP hD hS => ?_)
  have hP : va_P D vwCl (wH cA ad kd weight known hour swS swW waS spoons kind mark silver fresh texts tape tapeCount z waiting waitingCount L tx tst) H := hP
  have hD : va_D A (wH cA ad kd weight known hour swS swW waS spoons kind mark silver fresh texts tape tapeCount z waiting waitingCount L tx tst) := hD
  obtain ⟨r_3, hf_4, h⟩ := bd_ex h
  have sb := Sb.nil hP hD hS hA
  refine calI (va_runS (As := [.int r_1]) (rest := []) ⟨hx, hb, hml, hown, hts⟩ (c_J6_bitCount_0f7a4 l G D cA  _ r_1 r_3 hf_4) (va_cwS 1 hts gX3_rubOf_J6_bitCount_0f7a4 rfl rfl rfl (by decide +kernel) ⟨Nat.le_of_ble_eq_true rfl, Nat.le_of_ble_eq_true rfl⟩) (pvS hE hK hS sb) rfl rfl hv.1 rfl (lv_room (Nat.le_of_ble_eq_true rfl)) dX3_rubOf_5 ⟨Nat.le_of_ble_eq_true rfl, Nat.le_of_ble_eq_true rfl⟩) hS sb (Jn.nil hP hD) (fun H locs hP hD hS => ?_)
  have hP : va_P D vwCl (wH cA ad kd weight known hour swS swW waS spoons kind mark silver fresh texts tape tapeCount z waiting waitingCount L tx tst) H := hP
  have hD : va_D A (wH cA ad kd weight known hour swS swW waS spoons kind mark silver fresh texts tape tapeCount z waiting waitingCount L tx tst) := hD
  refine lv_istore_n (lv' := [(2, .int r_3), (0, .ref (ad 0)), (1, .int a)]) hx hb dX3_rubOf_8 rfl hv (by decide) rfl (fun ls hv => ?_)
  refine lv_aload_n hx hb dX3_rubOf_9 rfl (lv_at hv 1 rfl) ?_
  refine lv_iconst (v := (1 : Int32)) hx hb dX3_rubOf_10 (by decide) ?_
  refine lv_aload_n hx hb dX3_rubOf_11 rfl (lv_at hv 1 rfl) ?_
  refine va_get (D := D) (ci := 3) (v := .ref (kd 0)) (C := RX3) (T := TX3) (N := 18) hx hb hts in_3 hown hK hP 0 rfl rfl 0 (by decide) w_0 (fun _ h9 => h9) rfl dX3_rubOf_12 ?_
  refine lv_aload_n hx hb dX3_rubOf_15 rfl (lv_at hv 1 rfl) ?_
  refine va_get (D := D) (ci := 3) (v := .ref (ad 9)) (C := RX3) (T := TX3) (N := 18) hx hb hts in_3 hown hK hP 0 rfl rfl 8 (by decide) w_1 (fun _ h9 => h9) rfl dX3_rubOf_16 ?_
  refine lv_iload_n hx hb dX3_rubOf_19 rfl (lv_at hv 2 rfl) ?_
  obtain ⟨c_5, h⟩ := ckI_ex h
  refine va_iald (D := D) hx hb hK hP 5 0 rfl rfl c_5 dX3_rubOf_20 ?_
  obtain ⟨c_6, h⟩ := ckI_ex h
  refine va_aldq (D := D) (f := fun j => some (kd (j + 1))) hx hb hK hP 12 2 rfl rfl c_6 dX3_rubOf_21 ?_
  refine W.eq (g2 := F0 m 22 ls [.ref (kd (((kind (a).toNatClampNeg)).toNatClampNeg + 1)), .int (1 : Int32), .ref (ad 0)]) rfl ?_
  refine lv_iload_n hx hb dX3_rubOf_22 rfl (lv_at hv 0 rfl) ?_
  obtain ⟨r_7, hd_8, h⟩ := bd_ex h
  have kont : ∀ (H : Heap) (locs : List Loc), va_P D vwCl (wH cA ad kd weight known hour swS swW waS spoons kind mark silver fresh texts tape tapeCount z waiting waitingCount L tx tst) H → va_D A (wH cA ad kd weight known hour swS swW waS spoons kind mark silver fresh texts tape tapeCount z waiting waitingCount L tx tst) → va_S A s.heap H locs → W p l e ({ frames := 3, cells := 0, slots := 0, locals := 74 } : Room) s m args below meth c H locs 0 0 Q (F0 m 26 ls [.int r_7, .int (1 : Int32), .ref (ad 0)]) := by
    intro H locs hP hD hS
    refine lv_aload_n hx hb dX3_rubOf_26 rfl (lv_at hv 1 rfl) ?_
    refine va_get (D := D) (ci := 3) (v := .ref (ad 11)) (C := RX3) (T := TX3) (N := 18) hx hb hts in_3 hown hK hP 0 rfl rfl 10 (by decide) w_2 (fun _ h9 => h9) rfl dX3_rubOf_27 ?_
    refine lv_iload_n hx hb dX3_rubOf_30 rfl (lv_at hv 2 rfl) ?_
    obtain ⟨c_9, h⟩ := ckI_ex h
    refine va_iald (D := D) hx hb hK hP 7 0 rfl rfl c_9 dX3_rubOf_31 ?_
    refine lv_iload_n hx hb dX3_rubOf_32 rfl (lv_at hv 0 rfl) ?_
    obtain ⟨⟨r_10, tst_11⟩, hf_12, h⟩ := bd_ex h
    have sb := Sb.same hP hD hS hA
    refine calI (va_runV (As := [.int (1 : Int32), .int r_7, .int (silver (a).toNatClampNeg), .int r_3]) (rest := []) ⟨hx, hb, hml, hown, hts⟩ (c_X3_given l G D cA ad kd _ weight known hour swS swW waS spoons kind mark silver fresh texts tape tapeCount z waiting waitingCount L tx tst (1 : Int32) r_7 (silver (a).toNatClampNeg) r_3 r_10 tst_11 hf_12) (cwV 4 hts gX3_rubOf_X3_given rfl rfl rfl (by decide +kernel) ⟨Nat.le_of_ble_eq_true rfl, Nat.le_of_ble_eq_true rfl⟩) (pvV hE hK hS sb (va_recv hK hP (ci := 3) (q0 := 0) rfl rfl)) rfl rfl hv.1 rfl (lv_room (Nat.le_of_ble_eq_true rfl)) dX3_rubOf_33 ⟨Nat.le_of_ble_eq_true rfl, Nat.le_of_ble_eq_true rfl⟩) hS sb (Jn.same sb) (fun H locs hP hD hS => ?_)
    have hP : va_P D vwCl (wH cA ad kd weight known hour swS swW waS spoons kind mark silver fresh texts tape tapeCount z waiting waitingCount L tx tst_11) H := hP
    have hD : va_D A (wH cA ad kd weight known hour swS swW waS spoons kind mark silver fresh texts tape tapeCount z waiting waitingCount L tx tst_11) := hD
    have h := Option.some.inj h
    have ee0 : r_10 = rR := congrArg (fun q => q.1) h
    have ee1 : tst_11 = tstR := congrArg (fun q => q.2) h
    subst ee0
    subst ee1
    rw [← hQ]
    exact retI hx hb hr hlk hK hP hD hS dX3_rubOf_36 ⟨Nat.le_of_ble_eq_true rfl, Nat.le_of_ble_eq_true rfl⟩
  obtain ⟨j, hj, ej⟩ := vp_in_of c_6 (by decide)
  have ec : ((kind (a).toNatClampNeg)).toNatClampNeg = j := by rw [ej]; exact nI_clamp (by omega)
  rw [ec] at hd_8 ⊢
  clear ej ec
  obtain rfl | rfl | rfl | rfl | rfl | rfl | rfl : j = 0 ∨ j = 1 ∨ j = 2 ∨ j = 3 ∨ j = 4 ∨ j = 5 ∨ j = 6 := by omega
  · have sb : Sb D A H (wO 8 (kd 1)) := Sb.pl [13] (by decide) rfl hP hD hS hA
    refine calI (va_runV (As := [.int r_3]) (rest := [.int (1 : Int32), .ref (ad 0)]) ⟨hx, hb, hml, hown, hts⟩ (c_X8_wears_k8 l G D cA (kd 1) _ r_3 r_7 hd_8) (cwV 1 hts gX3_rubOf_X8_wears rfl rfl rfl (by decide +kernel) ⟨Nat.le_of_ble_eq_true rfl, Nat.le_of_ble_eq_true rfl⟩) (pvV hE hK hS sb (va_recv hK hP (ci := 8) (q0 := 13) rfl rfl)) rfl rfl hv.1 rfl (lv_room (Nat.le_of_ble_eq_true rfl)) dX3_rubOf_23 ⟨Nat.le_of_ble_eq_true rfl, Nat.le_of_ble_eq_true rfl⟩) hS sb (Jn.pl (ws := (wH cA ad kd weight known hour swS swW waS spoons kind mark silver fresh texts tape tapeCount z waiting waitingCount L tx tst)) (w1 := wO 8 (kd 1)) (ws' := (wH cA ad kd weight known hour swS swW waS spoons kind mark silver fresh texts tape tapeCount z waiting waitingCount L tx tst)) [13] rfl rfl rfl rfl hP hD) (fun H locs hP hD hS => kont H locs hP hD hS)
  · have sb : Sb D A H (wO 2 (kd 2)) := Sb.pl [14] (by decide) rfl hP hD hS hA
    refine calI (va_runU (As := [.int r_3]) (rest := [.int (1 : Int32), .ref (ad 0)]) ⟨hx, hb, hml, hown, hts⟩ (c_X2_wears_k2 l G D cA (kd 2) _ r_3 r_7 hd_8) (va_cwO 1 hts gX3_rubOf_X2_wears_u164X2 rfl rfl rfl (by decide +kernel : Cond.code yX8_wears cX8_wears 2 (some .int) ∈ wsX3_rubOf) (by decide +kernel) ⟨Nat.le_of_ble_eq_true rfl, Nat.le_of_ble_eq_true rfl⟩) (pvV hE hK hS sb (va_recv hK hP (ci := 2) (q0 := 14) rfl rfl)) rfl rfl hv.1 rfl (lv_room (Nat.le_of_ble_eq_true rfl)) dX3_rubOf_23 ⟨Nat.le_of_ble_eq_true rfl, Nat.le_of_ble_eq_true rfl⟩) hS sb (Jn.pl (ws := (wH cA ad kd weight known hour swS swW waS spoons kind mark silver fresh texts tape tapeCount z waiting waitingCount L tx tst)) (w1 := wO 2 (kd 2)) (ws' := (wH cA ad kd weight known hour swS swW waS spoons kind mark silver fresh texts tape tapeCount z waiting waitingCount L tx tst)) [14] rfl rfl rfl rfl hP hD) (fun H locs hP hD hS => kont H locs hP hD hS)
  · have sb : Sb D A H (wO 0 (kd 3)) := Sb.pl [15] (by decide) rfl hP hD hS hA
    refine calI (va_runU (As := [.int r_3]) (rest := [.int (1 : Int32), .ref (ad 0)]) ⟨hx, hb, hml, hown, hts⟩ (c_X8_wears_k0 l G D cA (kd 3) _ r_3 r_7 hd_8) (va_cwU 1 hts gX3_rubOf_X8_wears_u164X0 rfl rfl rfl rfl (by decide +kernel) ⟨Nat.le_of_ble_eq_true rfl, Nat.le_of_ble_eq_true rfl⟩) (pvV hE hK hS sb (va_recv hK hP (ci := 0) (q0 := 15) rfl rfl)) rfl rfl hv.1 rfl (lv_room (Nat.le_of_ble_eq_true rfl)) dX3_rubOf_23 ⟨Nat.le_of_ble_eq_true rfl, Nat.le_of_ble_eq_true rfl⟩) hS sb (Jn.pl (ws := (wH cA ad kd weight known hour swS swW waS spoons kind mark silver fresh texts tape tapeCount z waiting waitingCount L tx tst)) (w1 := wO 0 (kd 3)) (ws' := (wH cA ad kd weight known hour swS swW waS spoons kind mark silver fresh texts tape tapeCount z waiting waitingCount L tx tst)) [15] rfl rfl rfl rfl hP hD) (fun H locs hP hD hS => kont H locs hP hD hS)
  · have sb : Sb D A H (wO 5 (kd 4)) := Sb.pl [16] (by decide) rfl hP hD hS hA
    refine calI (va_runU (As := [.int r_3]) (rest := [.int (1 : Int32), .ref (ad 0)]) ⟨hx, hb, hml, hown, hts⟩ (c_X5_wears_k5 l G D cA (kd 4) _ r_3 r_7 hd_8) (va_cwO 1 hts gX3_rubOf_X5_wears_u164X5 rfl rfl rfl (by decide +kernel : Cond.code yX8_wears cX8_wears 2 (some .int) ∈ wsX3_rubOf) (by decide +kernel) ⟨Nat.le_of_ble_eq_true rfl, Nat.le_of_ble_eq_true rfl⟩) (pvV hE hK hS sb (va_recv hK hP (ci := 5) (q0 := 16) rfl rfl)) rfl rfl hv.1 rfl (lv_room (Nat.le_of_ble_eq_true rfl)) dX3_rubOf_23 ⟨Nat.le_of_ble_eq_true rfl, Nat.le_of_ble_eq_true rfl⟩) hS sb (Jn.pl (ws := (wH cA ad kd weight known hour swS swW waS spoons kind mark silver fresh texts tape tapeCount z waiting waitingCount L tx tst)) (w1 := wO 5 (kd 4)) (ws' := (wH cA ad kd weight known hour swS swW waS spoons kind mark silver fresh texts tape tapeCount z waiting waitingCount L tx tst)) [16] rfl rfl rfl rfl hP hD) (fun H locs hP hD hS => kont H locs hP hD hS)
  · have sb : Sb D A H (wO 6 (kd 5)) := Sb.pl [17] (by decide) rfl hP hD hS hA
    refine calI (va_runU (As := [.int r_3]) (rest := [.int (1 : Int32), .ref (ad 0)]) ⟨hx, hb, hml, hown, hts⟩ (c_X2_wears_k6 l G D cA (kd 5) _ r_3 r_7 hd_8) (va_cwO 1 hts gX3_rubOf_X2_wears_u164X6 rfl rfl rfl (by decide +kernel : Cond.code yX8_wears cX8_wears 2 (some .int) ∈ wsX3_rubOf) (by decide +kernel) ⟨Nat.le_of_ble_eq_true rfl, Nat.le_of_ble_eq_true rfl⟩) (pvV hE hK hS sb (va_recv hK hP (ci := 6) (q0 := 17) rfl rfl)) rfl rfl hv.1 rfl (lv_room (Nat.le_of_ble_eq_true rfl)) dX3_rubOf_23 ⟨Nat.le_of_ble_eq_true rfl, Nat.le_of_ble_eq_true rfl⟩) hS sb (Jn.pl (ws := (wH cA ad kd weight known hour swS swW waS spoons kind mark silver fresh texts tape tapeCount z waiting waitingCount L tx tst)) (w1 := wO 6 (kd 5)) (ws' := (wH cA ad kd weight known hour swS swW waS spoons kind mark silver fresh texts tape tapeCount z waiting waitingCount L tx tst)) [17] rfl rfl rfl rfl hP hD) (fun H locs hP hD hS => kont H locs hP hD hS)
  · have sb : Sb D A H (wO 4 (kd 6)) := Sb.pl [18] (by decide) rfl hP hD hS hA
    refine calI (va_runU (As := [.int r_3]) (rest := [.int (1 : Int32), .ref (ad 0)]) ⟨hx, hb, hml, hown, hts⟩ (c_X4_wears_k4 l G D cA (kd 6) _ r_3 r_7 hd_8) (va_cwO 1 hts gX3_rubOf_X4_wears_u164X4 rfl rfl rfl (by decide +kernel : Cond.code yX8_wears cX8_wears 2 (some .int) ∈ wsX3_rubOf) (by decide +kernel) ⟨Nat.le_of_ble_eq_true rfl, Nat.le_of_ble_eq_true rfl⟩) (pvV hE hK hS sb (va_recv hK hP (ci := 4) (q0 := 18) rfl rfl)) rfl rfl hv.1 rfl (lv_room (Nat.le_of_ble_eq_true rfl)) dX3_rubOf_23 ⟨Nat.le_of_ble_eq_true rfl, Nat.le_of_ble_eq_true rfl⟩) hS sb (Jn.pl (ws := (wH cA ad kd weight known hour swS swW waS spoons kind mark silver fresh texts tape tapeCount z waiting waitingCount L tx tst)) (w1 := wO 4 (kd 6)) (ws' := (wH cA ad kd weight known hour swS swW waS spoons kind mark silver fresh texts tape tapeCount z waiting waitingCount L tx tst)) [18] rfl rfl rfl rfl hP hD) (fun H locs hP hD hS => kont H locs hP hD hS)
  · have sb : Sb D A H (wO 1 (kd 7)) := Sb.pl [19] (by decide) rfl hP hD hS hA
    refine calI (va_runU (As := [.int r_3]) (rest := [.int (1 : Int32), .ref (ad 0)]) ⟨hx, hb, hml, hown, hts⟩ (c_X1_wears_k1 l G D cA (kd 7) _ r_3 r_7 hd_8) (va_cwO 1 hts gX3_rubOf_X1_wears_u164X1 rfl rfl rfl (by decide +kernel : Cond.code yX8_wears cX8_wears 2 (some .int) ∈ wsX3_rubOf) (by decide +kernel) ⟨Nat.le_of_ble_eq_true rfl, Nat.le_of_ble_eq_true rfl⟩) (pvV hE hK hS sb (va_recv hK hP (ci := 1) (q0 := 19) rfl rfl)) rfl rfl hv.1 rfl (lv_room (Nat.le_of_ble_eq_true rfl)) dX3_rubOf_23 ⟨Nat.le_of_ble_eq_true rfl, Nat.le_of_ble_eq_true rfl⟩) hS sb (Jn.pl (ws := (wH cA ad kd weight known hour swS swW waS spoons kind mark silver fresh texts tape tapeCount z waiting waitingCount L tx tst)) (w1 := wO 1 (kd 7)) (ws' := (wH cA ad kd weight known hour swS swW waS spoons kind mark silver fresh texts tape tapeCount z waiting waitingCount L tx tst)) [19] rfl rfl rfl rfl hP hD) (fun H locs hP hD hS => kont H locs hP hD hS)

def fX3_swallowNow (weight : Nat → Int32) (hour : Int32) (swS : Nat → Int32) (swW : Nat → Int32) (spoons : Int32) (kind : Nat → Int32) (mark : Nat → Int32) (silver : Nat → Int32) (fresh : Nat → Int64) (texts : Nat → Option Nat) (L : List Nat) (tx : Nat → TXc) (tst : Nat → Nat → Int32) : Option ((Nat → Int64) × (Nat → Nat → Int32)) :=
  bd (fX3_swallowPlace hour) fun r_1 => ckI r_1 6 (bnd (swS (r_1).toNatClampNeg) fun y_4 => bd (fX3_isWhole y_4 spoons silver) fun r_5 => (if r_5 = 0 then some (fresh, tst) else ckI r_1 6 (bnd (swW (r_1).toNatClampNeg) fun y_9 => ckI y_4 8 (ckI (kind (y_4).toNatClampNeg) 7 (ckI y_4 8 (ckI y_9 12 (ckI y_4 8 (bd (dX_stays ((kind (y_4).toNatClampNeg)).toNatClampNeg (mark (y_4).toNatClampNeg) (weight (y_9).toNatClampNeg) (silver (y_4).toNatClampNeg)) fun r_15 => ckI y_9 12 (ckI y_4 8 (bd (fX3_given (0 : Int32) r_15 (weight (y_9).toNatClampNeg) (silver (y_4).toNatClampNeg) texts L tx tst) fun (r_19, tst_20) => ckI y_4 8 (bd (fX3_freshIn (fresh (y_4).toNatClampNeg) y_9) fun r_23 => (if r_19 ≤ r_23 then some (fresh, tst_20) else ckI y_4 8 (bd (fX3_withFresh (fresh (y_4).toNatClampNeg) y_9 r_19) fun r_27 => ckI y_4 8 (bnd (vp_updL fresh (y_4).toNatClampNeg r_27) fun fresh_30 => some (fresh_30, tst_20)))))))))))))))
set_option maxHeartbeats 4000000 in
set_option maxRecDepth 100000 in
theorem c_X3_swallowNow (l : Launch) (G : Nat → Nat) (D : va_G) (cA : Nat → ClassId) (ad : Nat → Nat) (kd : Nat → Nat) (sz : Nat) (weight : Nat → Int32) (known : Int32) (hour : Int32) (swS : Nat → Int32) (swW : Nat → Int32) (waS : Nat → Int32) (spoons : Int32) (kind : Nat → Int32) (mark : Nat → Int32) (silver : Nat → Int32) (fresh : Nat → Int64) (texts : Nat → Option Nat) (tape : Nat → Int32) (tapeCount : Int32) (z : Int32) (waiting : Nat → Int32) (waitingCount : Int32) (L : List Nat) (tx : Nat → TXc) (tst : Nat → Nat → Int32) (freshR : Nat → Int64) (tstR : Nat → Nat → Int32) (h : fX3_swallowNow weight hour swS swW spoons kind mark silver fresh texts L tx tst = some (freshR, tstR)) : Met l yX3_swallowNow wsX3_swallowNow ({ frames := 3, cells := 0, slots := 0, locals := 74 } : Room) (PW G D (tyC cA) sz (wH cA ad kd weight known hour swS swW waS spoons kind mark silver fresh texts tape tapeCount z waiting waitingCount L tx tst) [.ref (ad 0)]) (QV D (tyC cA) (va_A (wH cA ad kd weight known hour swS swW waS spoons kind mark silver fresh texts tape tapeCount z waiting waitingCount L tx tst) sz) (wH cA ad kd weight known hour swS swW waS spoons kind mark silver freshR texts tape tapeCount z waiting waitingCount L tx tstR)) 0 0 (va_A (wH cA ad kd weight known hour swS swW waS spoons kind mark silver fresh texts tape tapeCount z waiting waitingCount L tx tst) sz) := by
  refine ent (cc := cX3_swallowNow) (maxL := 6) (ret := none) (fun A => QV D (tyC cA) A (wH cA ad kd weight known hour swS swW waS spoons kind mark silver freshR texts tape tapeCount z waiting waitingCount L tx tstR)) (by decide +kernel) rfl (Nat.le_of_ble_eq_true rfl) ?_
  intro p e s m args below meth c A ls H hx hb hml hr hlk hts hown hA hK hE hP hD hS hv hmm
  have hv : lv_has ls 6 [(0, .ref (ad 0))] := hv
  have in_3 : ∀ w ∈ u_ws RX3 TX3 18, w ∈ wsX3_swallowNow := fun _ h => List.mem_cons_of_mem _ (List.mem_append_left _ (List.mem_append_right _ h))
  have w_0 := hts (.fieldLink RX3 15 "SpoonsLast$House" "swallowSpoon" "[I") (List.mem_of_getElem? (i := 1) rfl)
  have w_1 := hts (.fieldLink RX3 18 "SpoonsLast$House" "swallowWord" "[I") (List.mem_of_getElem? (i := 2) rfl)
  have w_2 := hts (.fieldLink RX3 53 "SpoonsLast$House" "kinds" "[LSpoonsLast$Spoon;") (List.mem_of_getElem? (i := 3) rfl)
  have w_3 := hts (.fieldLink RX3 24 "SpoonsLast$House" "kind" "[I") (List.mem_of_getElem? (i := 4) rfl)
  have w_4 := hts (.fieldLink RX3 27 "SpoonsLast$House" "mark" "[I") (List.mem_of_getElem? (i := 5) rfl)
  have w_5 := hts (.fieldLink RX3 9 "SpoonsLast$House" "weight" "[I") (List.mem_of_getElem? (i := 6) rfl)
  have w_6 := hts (.fieldLink RX3 30 "SpoonsLast$House" "silver" "[I") (List.mem_of_getElem? (i := 7) rfl)
  have w_7 := hts (.fieldLink RX3 33 "SpoonsLast$House" "fresh" "[J") (List.mem_of_getElem? (i := 8) rfl)
  generalize hQ : MQ below _ args s 0 0 A = Q
  have hP : va_P D vwCl (wH cA ad kd weight known hour swS swW waS spoons kind mark silver fresh texts tape tapeCount z waiting waitingCount L tx tst) H := hP
  unfold fX3_swallowNow at h
  refine lv_aload_n hx hb dX3_swallowNow_0 rfl (lv_at hv 0 rfl) ?_
  obtain ⟨r_1, hf_2, h⟩ := bd_ex h
  have sb := Sb.same hP hD hS hA
  refine calI (va_runV (As := []) (rest := []) ⟨hx, hb, hml, hown, hts⟩ (c_X3_swallowPlace l G D cA ad kd _ weight known hour swS swW waS spoons kind mark silver fresh texts tape tapeCount z waiting waitingCount L tx tst r_1 hf_2) (cwV 0 hts gX3_swallowNow_X3_swallowPlace rfl rfl rfl (by decide +kernel) ⟨Nat.le_of_ble_eq_true rfl, Nat.le_of_ble_eq_true rfl⟩) (pvV hE hK hS sb (va_recv hK hP (ci := 3) (q0 := 0) rfl rfl)) rfl rfl hv.1 rfl (lv_room (Nat.le_of_ble_eq_true rfl)) dX3_swallowNow_1 ⟨Nat.le_of_ble_eq_true rfl, Nat.le_of_ble_eq_true rfl⟩) hS sb (Jn.same sb) (fun H locs hP hD hS => ?_)
  have hP : va_P D vwCl (wH cA ad kd weight known hour swS swW waS spoons kind mark silver fresh texts tape tapeCount z waiting waitingCount L tx tst) H := hP
  have hD : va_D A (wH cA ad kd weight known hour swS swW waS spoons kind mark silver fresh texts tape tapeCount z waiting waitingCount L tx tst) := hD
  refine lv_istore_n (lv' := [(1, .int r_1), (0, .ref (ad 0))]) hx hb dX3_swallowNow_4 rfl hv (by decide) rfl (fun ls hv => ?_)
  refine lv_aload_n hx hb dX3_swallowNow_5 rfl (lv_at hv 1 rfl) ?_
  refine va_get (D := D) (ci := 3) (v := .ref (ad 5)) (C := RX3) (T := TX3) (N := 18) hx hb hts in_3 hown hK hP 0 rfl rfl 4 (by decide) w_0 (fun _ h9 => h9) rfl dX3_swallowNow_6 ?_
  refine lv_iload_n hx hb dX3_swallowNow_9 rfl (lv_at hv 0 rfl) ?_
  obtain ⟨c_3, h⟩ := ckI_ex h
  refine va_iald (D := D) hx hb hK hP 2 0 rfl rfl c_3 dX3_swallowNow_10 ?_
  obtain ⟨y_4, ey_4, h⟩ := bnd_ex h
  refine lv_nm ey_4 ?_
  refine lv_istore_n (lv' := [(2, .int y_4), (1, .int r_1), (0, .ref (ad 0))]) hx hb dX3_swallowNow_11 rfl hv (by decide) rfl (fun ls hv => ?_)
  refine lv_aload_n hx hb dX3_swallowNow_12 rfl (lv_at hv 2 rfl) ?_
  refine lv_iload_n hx hb dX3_swallowNow_13 rfl (lv_at hv 0 rfl) ?_
  obtain ⟨r_5, hf_6, h⟩ := bd_ex h
  have sb := Sb.same hP hD hS hA
  refine calI (va_runV (As := [.int y_4]) (rest := []) ⟨hx, hb, hml, hown, hts⟩ (c_X3_isWhole l G D cA ad kd _ weight known hour swS swW waS spoons kind mark silver fresh texts tape tapeCount z waiting waitingCount L tx tst y_4 r_5 hf_6) (cwV 1 hts gX3_swallowNow_X3_isWhole rfl rfl rfl (by decide +kernel) ⟨Nat.le_of_ble_eq_true rfl, Nat.le_of_ble_eq_true rfl⟩) (pvV hE hK hS sb (va_recv hK hP (ci := 3) (q0 := 0) rfl rfl)) rfl rfl hv.1 rfl (lv_room (Nat.le_of_ble_eq_true rfl)) dX3_swallowNow_14 ⟨Nat.le_of_ble_eq_true rfl, Nat.le_of_ble_eq_true rfl⟩) hS sb (Jn.same sb) (fun H locs hP hD hS => ?_)
  have hP : va_P D vwCl (wH cA ad kd weight known hour swS swW waS spoons kind mark silver fresh texts tape tapeCount z waiting waitingCount L tx tst) H := hP
  have hD : va_D A (wH cA ad kd weight known hour swS swW waS spoons kind mark silver fresh texts tape tapeCount z waiting waitingCount L tx tst) := hD
  refine lv_if_ne (tgt := 21) hx hb dX3_swallowNow_17 (by decide) (fun c_7 => ?_) (fun c_7 => ?_)
  · have h := ite_f c_7 h
    refine lv_aload_n hx hb dX3_swallowNow_21 rfl (lv_at hv 2 rfl) ?_
    refine va_get (D := D) (ci := 3) (v := .ref (ad 6)) (C := RX3) (T := TX3) (N := 18) hx hb hts in_3 hown hK hP 0 rfl rfl 5 (by decide) w_1 (fun _ h9 => h9) rfl dX3_swallowNow_22 ?_
    refine lv_iload_n hx hb dX3_swallowNow_25 rfl (lv_at hv 1 rfl) ?_
    obtain ⟨c_8, h⟩ := ckI_ex h
    refine va_iald (D := D) hx hb hK hP 3 0 rfl rfl c_8 dX3_swallowNow_26 ?_
    obtain ⟨y_9, ey_9, h⟩ := bnd_ex h
    refine lv_nm ey_9 ?_
    refine lv_istore_n (lv' := [(3, .int y_9), (2, .int y_4), (1, .int r_1), (0, .ref (ad 0))]) hx hb dX3_swallowNow_27 rfl hv (by decide) rfl (fun ls hv => ?_)
    refine lv_aload_n hx hb dX3_swallowNow_28 rfl (lv_at hv 3 rfl) ?_
    refine va_get (D := D) (ci := 3) (v := .ref (kd 0)) (C := RX3) (T := TX3) (N := 18) hx hb hts in_3 hown hK hP 0 rfl rfl 0 (by decide) w_2 (fun _ h9 => h9) rfl dX3_swallowNow_29 ?_
    refine lv_aload_n hx hb dX3_swallowNow_32 rfl (lv_at hv 3 rfl) ?_
    refine va_get (D := D) (ci := 3) (v := .ref (ad 9)) (C := RX3) (T := TX3) (N := 18) hx hb hts in_3 hown hK hP 0 rfl rfl 8 (by decide) w_3 (fun _ h9 => h9) rfl dX3_swallowNow_33 ?_
    refine lv_iload_n hx hb dX3_swallowNow_36 rfl (lv_at hv 1 rfl) ?_
    obtain ⟨c_10, h⟩ := ckI_ex h
    refine va_iald (D := D) hx hb hK hP 5 0 rfl rfl c_10 dX3_swallowNow_37 ?_
    obtain ⟨c_11, h⟩ := ckI_ex h
    refine va_aldq (D := D) (f := fun j => some (kd (j + 1))) hx hb hK hP 12 2 rfl rfl c_11 dX3_swallowNow_38 ?_
    refine W.eq (g2 := F0 m 39 ls [.ref (kd (((kind (y_4).toNatClampNeg)).toNatClampNeg + 1))]) rfl ?_
    refine lv_aload_n hx hb dX3_swallowNow_39 rfl (lv_at hv 3 rfl) ?_
    refine va_get (D := D) (ci := 3) (v := .ref (ad 10)) (C := RX3) (T := TX3) (N := 18) hx hb hts in_3 hown hK hP 0 rfl rfl 9 (by decide) w_4 (fun _ h9 => h9) rfl dX3_swallowNow_40 ?_
    refine lv_iload_n hx hb dX3_swallowNow_43 rfl (lv_at hv 1 rfl) ?_
    obtain ⟨c_12, h⟩ := ckI_ex h
    refine va_iald (D := D) hx hb hK hP 6 0 rfl rfl c_12 dX3_swallowNow_44 ?_
    refine lv_aload_n hx hb dX3_swallowNow_45 rfl (lv_at hv 3 rfl) ?_
    refine va_get (D := D) (ci := 3) (v := .ref (ad 2)) (C := RX3) (T := TX3) (N := 18) hx hb hts in_3 hown hK hP 0 rfl rfl 1 (by decide) w_5 (fun _ h9 => h9) rfl dX3_swallowNow_46 ?_
    refine lv_iload_n hx hb dX3_swallowNow_49 rfl (lv_at hv 0 rfl) ?_
    obtain ⟨c_13, h⟩ := ckI_ex h
    refine va_iald (D := D) hx hb hK hP 1 0 rfl rfl c_13 dX3_swallowNow_50 ?_
    refine lv_aload_n hx hb dX3_swallowNow_51 rfl (lv_at hv 3 rfl) ?_
    refine va_get (D := D) (ci := 3) (v := .ref (ad 11)) (C := RX3) (T := TX3) (N := 18) hx hb hts in_3 hown hK hP 0 rfl rfl 10 (by decide) w_6 (fun _ h9 => h9) rfl dX3_swallowNow_52 ?_
    refine lv_iload_n hx hb dX3_swallowNow_55 rfl (lv_at hv 1 rfl) ?_
    obtain ⟨c_14, h⟩ := ckI_ex h
    refine va_iald (D := D) hx hb hK hP 7 0 rfl rfl c_14 dX3_swallowNow_56 ?_
    obtain ⟨r_15, hd_16, h⟩ := bd_ex h
    have kont : ∀ (H : Heap) (locs : List Loc), va_P D vwCl (wH cA ad kd weight known hour swS swW waS spoons kind mark silver fresh texts tape tapeCount z waiting waitingCount L tx tst) H → va_D A (wH cA ad kd weight known hour swS swW waS spoons kind mark silver fresh texts tape tapeCount z waiting waitingCount L tx tst) → va_S A s.heap H locs → W p l e ({ frames := 3, cells := 0, slots := 0, locals := 74 } : Room) s m args below meth c H locs 0 0 Q (F0 m 60 ls [.int r_15]) := by
      intro H locs hP hD hS
      refine lv_istore (lv' := [(4, .int r_15), (3, .int y_9), (2, .int y_4), (1, .int r_1), (0, .ref (ad 0))]) hx hb dX3_swallowNow_60 hv (by decide) rfl (fun ls hv => ?_)
      refine lv_aload_n hx hb dX3_swallowNow_62 rfl (lv_at hv 4 rfl) ?_
      refine lv_iconst (v := (0 : Int32)) hx hb dX3_swallowNow_63 (by decide) ?_
      refine lv_iload hx hb dX3_swallowNow_64 (lv_at hv 0 rfl) ?_
      refine lv_aload_n hx hb dX3_swallowNow_66 rfl (lv_at hv 4 rfl) ?_
      refine va_get (D := D) (ci := 3) (v := .ref (ad 2)) (C := RX3) (T := TX3) (N := 18) hx hb hts in_3 hown hK hP 0 rfl rfl 1 (by decide) w_5 (fun _ h9 => h9) rfl dX3_swallowNow_67 ?_
      refine lv_iload_n hx hb dX3_swallowNow_70 rfl (lv_at hv 1 rfl) ?_
      obtain ⟨c_17, h⟩ := ckI_ex h
      refine va_iald (D := D) hx hb hK hP 1 0 rfl rfl c_17 dX3_swallowNow_71 ?_
      refine lv_aload_n hx hb dX3_swallowNow_72 rfl (lv_at hv 4 rfl) ?_
      refine va_get (D := D) (ci := 3) (v := .ref (ad 11)) (C := RX3) (T := TX3) (N := 18) hx hb hts in_3 hown hK hP 0 rfl rfl 10 (by decide) w_6 (fun _ h9 => h9) rfl dX3_swallowNow_73 ?_
      refine lv_iload_n hx hb dX3_swallowNow_76 rfl (lv_at hv 2 rfl) ?_
      obtain ⟨c_18, h⟩ := ckI_ex h
      refine va_iald (D := D) hx hb hK hP 7 0 rfl rfl c_18 dX3_swallowNow_77 ?_
      obtain ⟨⟨r_19, tst_20⟩, hf_21, h⟩ := bd_ex h
      have sb := Sb.same hP hD hS hA
      refine calI (va_runV (As := [.int (0 : Int32), .int r_15, .int (weight (y_9).toNatClampNeg), .int (silver (y_4).toNatClampNeg)]) (rest := []) ⟨hx, hb, hml, hown, hts⟩ (c_X3_given l G D cA ad kd _ weight known hour swS swW waS spoons kind mark silver fresh texts tape tapeCount z waiting waitingCount L tx tst (0 : Int32) r_15 (weight (y_9).toNatClampNeg) (silver (y_4).toNatClampNeg) r_19 tst_20 hf_21) (cwV 4 hts gX3_swallowNow_X3_given rfl rfl rfl (by decide +kernel) ⟨Nat.le_of_ble_eq_true rfl, Nat.le_of_ble_eq_true rfl⟩) (pvV hE hK hS sb (va_recv hK hP (ci := 3) (q0 := 0) rfl rfl)) rfl rfl hv.1 rfl (lv_room (Nat.le_of_ble_eq_true rfl)) dX3_swallowNow_78 ⟨Nat.le_of_ble_eq_true rfl, Nat.le_of_ble_eq_true rfl⟩) hS sb (Jn.same sb) (fun H locs hP hD hS => ?_)
      have hP : va_P D vwCl (wH cA ad kd weight known hour swS swW waS spoons kind mark silver fresh texts tape tapeCount z waiting waitingCount L tx tst_20) H := hP
      have hD : va_D A (wH cA ad kd weight known hour swS swW waS spoons kind mark silver fresh texts tape tapeCount z waiting waitingCount L tx tst_20) := hD
      refine lv_istore (lv' := [(5, .int r_19), (4, .int r_15), (3, .int y_9), (2, .int y_4), (1, .int r_1), (0, .ref (ad 0))]) hx hb dX3_swallowNow_81 hv (by decide) rfl (fun ls hv => ?_)
      refine lv_iload hx hb dX3_swallowNow_83 (lv_at hv 0 rfl) ?_
      refine lv_aload_n hx hb dX3_swallowNow_85 rfl (lv_at hv 5 rfl) ?_
      refine va_get (D := D) (ci := 3) (v := .ref (ad 12)) (C := RX3) (T := TX3) (N := 18) hx hb hts in_3 hown hK hP 0 rfl rfl 11 (by decide) w_7 (fun _ h9 => h9) rfl dX3_swallowNow_86 ?_
      refine lv_iload_n hx hb dX3_swallowNow_89 rfl (lv_at hv 3 rfl) ?_
      obtain ⟨c_22, h⟩ := ckI_ex h
      refine va_lald (D := D) hx hb hK hP 8 1 rfl rfl c_22 dX3_swallowNow_90 ?_
      refine lv_iload_n hx hb dX3_swallowNow_91 rfl (lv_at hv 2 rfl) ?_
      obtain ⟨r_23, hf_24, h⟩ := bd_ex h
      have sb := Sb.nil hP hD hS hA
      refine calI (va_runS (As := [.long (fresh (y_4).toNatClampNeg), .int y_9]) (rest := [.int r_19]) ⟨hx, hb, hml, hown, hts⟩ (c_X3_freshIn l G D cA  _ (fresh (y_4).toNatClampNeg) y_9 r_23 hf_24) (va_cwS 2 hts gX3_swallowNow_X3_freshIn rfl rfl rfl (by decide +kernel) ⟨Nat.le_of_ble_eq_true rfl, Nat.le_of_ble_eq_true rfl⟩) (pvS hE hK hS sb) rfl rfl hv.1 rfl (lv_room (Nat.le_of_ble_eq_true rfl)) dX3_swallowNow_92 ⟨Nat.le_of_ble_eq_true rfl, Nat.le_of_ble_eq_true rfl⟩) hS sb (Jn.nil hP hD) (fun H locs hP hD hS => ?_)
      have hP : va_P D vwCl (wH cA ad kd weight known hour swS swW waS spoons kind mark silver fresh texts tape tapeCount z waiting waitingCount L tx tst_20) H := hP
      have hD : va_D A (wH cA ad kd weight known hour swS swW waS spoons kind mark silver fresh texts tape tapeCount z waiting waitingCount L tx tst_20) := hD
      refine lv_icmp_le (tgt := 116) hx hb dX3_swallowNow_95 (by decide) (fun c_25 => ?_) (fun c_25 => ?_)
      · have h := ite_t c_25 h
        have h := Option.some.inj h
        have ee0 : fresh = freshR := congrArg (fun q => q.1) h
        have ee1 : tst_20 = tstR := congrArg (fun q => q.2) h
        subst ee0
        subst ee1
        rw [← hQ]
        exact retV hx hb hr hlk hK hP hD hS dX3_swallowNow_116 ⟨Nat.le_of_ble_eq_true rfl, Nat.le_of_ble_eq_true rfl⟩
      · have h := ite_f c_25 h
        refine lv_aload_n hx hb dX3_swallowNow_98 rfl (lv_at hv 5 rfl) ?_
        refine va_get (D := D) (ci := 3) (v := .ref (ad 12)) (C := RX3) (T := TX3) (N := 18) hx hb hts in_3 hown hK hP 0 rfl rfl 11 (by decide) w_7 (fun _ h9 => h9) rfl dX3_swallowNow_99 ?_
        refine lv_iload_n hx hb dX3_swallowNow_102 rfl (lv_at hv 3 rfl) ?_
        refine lv_aload_n hx hb dX3_swallowNow_103 rfl (lv_at hv 5 rfl) ?_
        refine va_get (D := D) (ci := 3) (v := .ref (ad 12)) (C := RX3) (T := TX3) (N := 18) hx hb hts in_3 hown hK hP 0 rfl rfl 11 (by decide) w_7 (fun _ h9 => h9) rfl dX3_swallowNow_104 ?_
        refine lv_iload_n hx hb dX3_swallowNow_107 rfl (lv_at hv 3 rfl) ?_
        obtain ⟨c_26, h⟩ := ckI_ex h
        refine va_lald (D := D) hx hb hK hP 8 1 rfl rfl c_26 dX3_swallowNow_108 ?_
        refine lv_iload_n hx hb dX3_swallowNow_109 rfl (lv_at hv 2 rfl) ?_
        refine lv_iload hx hb dX3_swallowNow_110 (lv_at hv 0 rfl) ?_
        obtain ⟨r_27, hf_28, h⟩ := bd_ex h
        have sb := Sb.nil hP hD hS hA
        refine calL (va_runS (As := [.long (fresh (y_4).toNatClampNeg), .int y_9, .int r_19]) (rest := [.int y_4, .ref (ad 12)]) ⟨hx, hb, hml, hown, hts⟩ (c_X3_withFresh l G D cA  _ (fresh (y_4).toNatClampNeg) y_9 r_19 r_27 hf_28) (va_cwS 3 hts gX3_swallowNow_X3_withFresh rfl rfl rfl (by decide +kernel) ⟨Nat.le_of_ble_eq_true rfl, Nat.le_of_ble_eq_true rfl⟩) (pvS hE hK hS sb) rfl rfl hv.1 rfl (lv_room (Nat.le_of_ble_eq_true rfl)) dX3_swallowNow_112 ⟨Nat.le_of_ble_eq_true rfl, Nat.le_of_ble_eq_true rfl⟩) hS sb (Jn.nil hP hD) (fun H locs hP hD hS => ?_)
        have hP : va_P D vwCl (wH cA ad kd weight known hour swS swW waS spoons kind mark silver fresh texts tape tapeCount z waiting waitingCount L tx tst_20) H := hP
        have hD : va_D A (wH cA ad kd weight known hour swS swW waS spoons kind mark silver fresh texts tape tapeCount z waiting waitingCount L tx tst_20) := hD
        obtain ⟨c_29, h⟩ := ckI_ex h
        obtain ⟨fresh_30, efresh_30, h⟩ := bnd_ex h
        refine va_last (D := D) hx hb hK hP hD hS 8 1 rfl rfl c_29 dX3_swallowNow_115 (fun H locs hP hD hS => ?_)
        rw [← efresh_30] at hP hD
        have hP : va_P D vwCl (wH cA ad kd weight known hour swS swW waS spoons kind mark silver fresh_30 texts tape tapeCount z waiting waitingCount L tx tst_20) H := hP
        have hD : va_D A (wH cA ad kd weight known hour swS swW waS spoons kind mark silver fresh_30 texts tape tapeCount z waiting waitingCount L tx tst_20) := hD
        have h := Option.some.inj h
        have ee0 : fresh_30 = freshR := congrArg (fun q => q.1) h
        have ee1 : tst_20 = tstR := congrArg (fun q => q.2) h
        subst ee0
        subst ee1
        rw [← hQ]
        exact retV hx hb hr hlk hK hP hD hS dX3_swallowNow_116 ⟨Nat.le_of_ble_eq_true rfl, Nat.le_of_ble_eq_true rfl⟩
    obtain ⟨j, hj, ej⟩ := vp_in_of c_11 (by decide)
    have ec : ((kind (y_4).toNatClampNeg)).toNatClampNeg = j := by rw [ej]; exact nI_clamp (by omega)
    rw [ec] at hd_16 ⊢
    clear ej ec
    obtain rfl | rfl | rfl | rfl | rfl | rfl | rfl : j = 0 ∨ j = 1 ∨ j = 2 ∨ j = 3 ∨ j = 4 ∨ j = 5 ∨ j = 6 := by omega
    · have sb : Sb D A H (wO 8 (kd 1)) := Sb.pl [13] (by decide) rfl hP hD hS hA
      refine calI (va_runV (As := [.int (mark (y_4).toNatClampNeg), .int (weight (y_9).toNatClampNeg), .int (silver (y_4).toNatClampNeg)]) (rest := []) ⟨hx, hb, hml, hown, hts⟩ (c_X8_stays_k8 l G D cA (kd 1) _ (mark (y_4).toNatClampNeg) (weight (y_9).toNatClampNeg) (silver (y_4).toNatClampNeg) r_15 hd_16) (cwV 3 hts gX3_swallowNow_X8_stays rfl rfl rfl (by decide +kernel) ⟨Nat.le_of_ble_eq_true rfl, Nat.le_of_ble_eq_true rfl⟩) (pvV hE hK hS sb (va_recv hK hP (ci := 8) (q0 := 13) rfl rfl)) rfl rfl hv.1 rfl (lv_room (Nat.le_of_ble_eq_true rfl)) dX3_swallowNow_57 ⟨Nat.le_of_ble_eq_true rfl, Nat.le_of_ble_eq_true rfl⟩) hS sb (Jn.pl (ws := (wH cA ad kd weight known hour swS swW waS spoons kind mark silver fresh texts tape tapeCount z waiting waitingCount L tx tst)) (w1 := wO 8 (kd 1)) (ws' := (wH cA ad kd weight known hour swS swW waS spoons kind mark silver fresh texts tape tapeCount z waiting waitingCount L tx tst)) [13] rfl rfl rfl rfl hP hD) (fun H locs hP hD hS => kont H locs hP hD hS)
    · have sb : Sb D A H (wO 2 (kd 2)) := Sb.pl [14] (by decide) rfl hP hD hS hA
      refine calI (va_runU (As := [.int (mark (y_4).toNatClampNeg), .int (weight (y_9).toNatClampNeg), .int (silver (y_4).toNatClampNeg)]) (rest := []) ⟨hx, hb, hml, hown, hts⟩ (c_X2_stays_k2 l G D cA (kd 2) _ (mark (y_4).toNatClampNeg) (weight (y_9).toNatClampNeg) (silver (y_4).toNatClampNeg) r_15 hd_16) (va_cwO 3 hts gX3_swallowNow_X2_stays_u106X2 rfl rfl rfl (by decide +kernel : Cond.code yX8_stays cX8_stays 4 (some .int) ∈ wsX3_swallowNow) (by decide +kernel) ⟨Nat.le_of_ble_eq_true rfl, Nat.le_of_ble_eq_true rfl⟩) (pvV hE hK hS sb (va_recv hK hP (ci := 2) (q0 := 14) rfl rfl)) rfl rfl hv.1 rfl (lv_room (Nat.le_of_ble_eq_true rfl)) dX3_swallowNow_57 ⟨Nat.le_of_ble_eq_true rfl, Nat.le_of_ble_eq_true rfl⟩) hS sb (Jn.pl (ws := (wH cA ad kd weight known hour swS swW waS spoons kind mark silver fresh texts tape tapeCount z waiting waitingCount L tx tst)) (w1 := wO 2 (kd 2)) (ws' := (wH cA ad kd weight known hour swS swW waS spoons kind mark silver fresh texts tape tapeCount z waiting waitingCount L tx tst)) [14] rfl rfl rfl rfl hP hD) (fun H locs hP hD hS => kont H locs hP hD hS)
    · have sb : Sb D A H (wO 0 (kd 3)) := Sb.pl [15] (by decide) rfl hP hD hS hA
      refine calI (va_runU (As := [.int (mark (y_4).toNatClampNeg), .int (weight (y_9).toNatClampNeg), .int (silver (y_4).toNatClampNeg)]) (rest := []) ⟨hx, hb, hml, hown, hts⟩ (c_X8_stays_k0 l G D cA (kd 3) _ (mark (y_4).toNatClampNeg) (weight (y_9).toNatClampNeg) (silver (y_4).toNatClampNeg) r_15 hd_16) (va_cwU 3 hts gX3_swallowNow_X8_stays_u106X0 rfl rfl rfl rfl (by decide +kernel) ⟨Nat.le_of_ble_eq_true rfl, Nat.le_of_ble_eq_true rfl⟩) (pvV hE hK hS sb (va_recv hK hP (ci := 0) (q0 := 15) rfl rfl)) rfl rfl hv.1 rfl (lv_room (Nat.le_of_ble_eq_true rfl)) dX3_swallowNow_57 ⟨Nat.le_of_ble_eq_true rfl, Nat.le_of_ble_eq_true rfl⟩) hS sb (Jn.pl (ws := (wH cA ad kd weight known hour swS swW waS spoons kind mark silver fresh texts tape tapeCount z waiting waitingCount L tx tst)) (w1 := wO 0 (kd 3)) (ws' := (wH cA ad kd weight known hour swS swW waS spoons kind mark silver fresh texts tape tapeCount z waiting waitingCount L tx tst)) [15] rfl rfl rfl rfl hP hD) (fun H locs hP hD hS => kont H locs hP hD hS)
    · have sb : Sb D A H (wO 5 (kd 4)) := Sb.pl [16] (by decide) rfl hP hD hS hA
      refine calI (va_runU (As := [.int (mark (y_4).toNatClampNeg), .int (weight (y_9).toNatClampNeg), .int (silver (y_4).toNatClampNeg)]) (rest := []) ⟨hx, hb, hml, hown, hts⟩ (c_X5_stays_k5 l G D cA (kd 4) _ (mark (y_4).toNatClampNeg) (weight (y_9).toNatClampNeg) (silver (y_4).toNatClampNeg) r_15 hd_16) (va_cwO 3 hts gX3_swallowNow_X5_stays_u106X5 rfl rfl rfl (by decide +kernel : Cond.code yX8_stays cX8_stays 4 (some .int) ∈ wsX3_swallowNow) (by decide +kernel) ⟨Nat.le_of_ble_eq_true rfl, Nat.le_of_ble_eq_true rfl⟩) (pvV hE hK hS sb (va_recv hK hP (ci := 5) (q0 := 16) rfl rfl)) rfl rfl hv.1 rfl (lv_room (Nat.le_of_ble_eq_true rfl)) dX3_swallowNow_57 ⟨Nat.le_of_ble_eq_true rfl, Nat.le_of_ble_eq_true rfl⟩) hS sb (Jn.pl (ws := (wH cA ad kd weight known hour swS swW waS spoons kind mark silver fresh texts tape tapeCount z waiting waitingCount L tx tst)) (w1 := wO 5 (kd 4)) (ws' := (wH cA ad kd weight known hour swS swW waS spoons kind mark silver fresh texts tape tapeCount z waiting waitingCount L tx tst)) [16] rfl rfl rfl rfl hP hD) (fun H locs hP hD hS => kont H locs hP hD hS)
    · have sb : Sb D A H (wO 6 (kd 5)) := Sb.pl [17] (by decide) rfl hP hD hS hA
      refine calI (va_runU (As := [.int (mark (y_4).toNatClampNeg), .int (weight (y_9).toNatClampNeg), .int (silver (y_4).toNatClampNeg)]) (rest := []) ⟨hx, hb, hml, hown, hts⟩ (c_X6_stays_k6 l G D cA (kd 5) _ (mark (y_4).toNatClampNeg) (weight (y_9).toNatClampNeg) (silver (y_4).toNatClampNeg) r_15 hd_16) (va_cwO 3 hts gX3_swallowNow_X6_stays_u106X6 rfl rfl rfl (by decide +kernel : Cond.code yX8_stays cX8_stays 4 (some .int) ∈ wsX3_swallowNow) (by decide +kernel) ⟨Nat.le_of_ble_eq_true rfl, Nat.le_of_ble_eq_true rfl⟩) (pvV hE hK hS sb (va_recv hK hP (ci := 6) (q0 := 17) rfl rfl)) rfl rfl hv.1 rfl (lv_room (Nat.le_of_ble_eq_true rfl)) dX3_swallowNow_57 ⟨Nat.le_of_ble_eq_true rfl, Nat.le_of_ble_eq_true rfl⟩) hS sb (Jn.pl (ws := (wH cA ad kd weight known hour swS swW waS spoons kind mark silver fresh texts tape tapeCount z waiting waitingCount L tx tst)) (w1 := wO 6 (kd 5)) (ws' := (wH cA ad kd weight known hour swS swW waS spoons kind mark silver fresh texts tape tapeCount z waiting waitingCount L tx tst)) [17] rfl rfl rfl rfl hP hD) (fun H locs hP hD hS => kont H locs hP hD hS)
    · have sb : Sb D A H (wO 4 (kd 6)) := Sb.pl [18] (by decide) rfl hP hD hS hA
      refine calI (va_runU (As := [.int (mark (y_4).toNatClampNeg), .int (weight (y_9).toNatClampNeg), .int (silver (y_4).toNatClampNeg)]) (rest := []) ⟨hx, hb, hml, hown, hts⟩ (c_X4_stays_k4 l G D cA (kd 6) _ (mark (y_4).toNatClampNeg) (weight (y_9).toNatClampNeg) (silver (y_4).toNatClampNeg) r_15 hd_16) (va_cwO 3 hts gX3_swallowNow_X4_stays_u106X4 rfl rfl rfl (by decide +kernel : Cond.code yX8_stays cX8_stays 4 (some .int) ∈ wsX3_swallowNow) (by decide +kernel) ⟨Nat.le_of_ble_eq_true rfl, Nat.le_of_ble_eq_true rfl⟩) (pvV hE hK hS sb (va_recv hK hP (ci := 4) (q0 := 18) rfl rfl)) rfl rfl hv.1 rfl (lv_room (Nat.le_of_ble_eq_true rfl)) dX3_swallowNow_57 ⟨Nat.le_of_ble_eq_true rfl, Nat.le_of_ble_eq_true rfl⟩) hS sb (Jn.pl (ws := (wH cA ad kd weight known hour swS swW waS spoons kind mark silver fresh texts tape tapeCount z waiting waitingCount L tx tst)) (w1 := wO 4 (kd 6)) (ws' := (wH cA ad kd weight known hour swS swW waS spoons kind mark silver fresh texts tape tapeCount z waiting waitingCount L tx tst)) [18] rfl rfl rfl rfl hP hD) (fun H locs hP hD hS => kont H locs hP hD hS)
    · have sb : Sb D A H (wO 1 (kd 7)) := Sb.pl [19] (by decide) rfl hP hD hS hA
      refine calI (va_runU (As := [.int (mark (y_4).toNatClampNeg), .int (weight (y_9).toNatClampNeg), .int (silver (y_4).toNatClampNeg)]) (rest := []) ⟨hx, hb, hml, hown, hts⟩ (c_X1_stays_k1 l G D cA (kd 7) _ (mark (y_4).toNatClampNeg) (weight (y_9).toNatClampNeg) (silver (y_4).toNatClampNeg) r_15 hd_16) (va_cwO 3 hts gX3_swallowNow_X1_stays_u106X1 rfl rfl rfl (by decide +kernel : Cond.code yX8_stays cX8_stays 4 (some .int) ∈ wsX3_swallowNow) (by decide +kernel) ⟨Nat.le_of_ble_eq_true rfl, Nat.le_of_ble_eq_true rfl⟩) (pvV hE hK hS sb (va_recv hK hP (ci := 1) (q0 := 19) rfl rfl)) rfl rfl hv.1 rfl (lv_room (Nat.le_of_ble_eq_true rfl)) dX3_swallowNow_57 ⟨Nat.le_of_ble_eq_true rfl, Nat.le_of_ble_eq_true rfl⟩) hS sb (Jn.pl (ws := (wH cA ad kd weight known hour swS swW waS spoons kind mark silver fresh texts tape tapeCount z waiting waitingCount L tx tst)) (w1 := wO 1 (kd 7)) (ws' := (wH cA ad kd weight known hour swS swW waS spoons kind mark silver fresh texts tape tapeCount z waiting waitingCount L tx tst)) [19] rfl rfl rfl rfl hP hD) (fun H locs hP hD hS => kont H locs hP hD hS)
  · have h := ite_t c_7 h
    have h := Option.some.inj h
    have ee0 : fresh = freshR := congrArg (fun q => q.1) h
    have ee1 : tst = tstR := congrArg (fun q => q.2) h
    subst ee0
    subst ee1
    rw [← hQ]
    exact retV hx hb hr hlk hK hP hD hS dX3_swallowNow_20 ⟨Nat.le_of_ble_eq_true rfl, Nat.le_of_ble_eq_true rfl⟩

def fX3_washNow (known : Int32) (hour : Int32) (waS : Nat → Int32) (spoons : Int32) (kind : Nat → Int32) (mark : Nat → Int32) (silver : Nat → Int32) (fresh : Nat → Int64) (texts : Nat → Option Nat) (L : List Nat) (tx : Nat → TXc) (tst : Nat → Nat → Int32) : Option (Int32 × (Nat → Int32) × (Nat → Int64) × (Nat → Nat → Int32)) :=
  bd (fJ9_floorMod_7cf53 hour (4 : Int32)) fun r_1 => ckI r_1 4 (bnd (waS (r_1).toNatClampNeg) fun y_4 => bd (fX3_isWhole y_4 spoons silver) fun r_5 => (if r_5 = 0 then some (known, silver, fresh, tst) else bd (fX3_rubOf y_4 kind silver fresh texts L tx tst) fun (r_8, tst_9) => ckI y_4 8 (ckI y_4 8 (ckI (kind (y_4).toNatClampNeg) 7 (ckI y_4 8 (bd (dX_reads ((kind (y_4).toNatClampNeg)).toNatClampNeg (mark (y_4).toNatClampNeg)) fun r_15 => bd (fX3_freshAtLeast (fresh (y_4).toNatClampNeg) r_15) fun r_17 => bnd (known ||| r_17) fun y_19 => ckI y_4 8 (bnd (jmax (0 : Int32) ((silver (y_4).toNatClampNeg) - r_8)) fun y_21 => ckI y_4 8 (bnd (upd silver (y_4).toNatClampNeg y_21) fun silver_23 => ckI y_4 8 ((if (silver_23 (y_4).toNatClampNeg) = 0 then bd (fX3_wordsOn y_4 fresh) fun r_31 => bnd (y_19 ||| r_31) fun y_33 => bnd (0 : Int64) fun y_34 => ckI y_4 8 (bnd (vp_updL fresh (y_4).toNatClampNeg y_34) fun fresh_36 => some (y_33, silver_23, fresh_36, tst_9)) else ckI y_4 8 (bd (fX3_halved (fresh (y_4).toNatClampNeg)) fun r_27 => ckI y_4 8 (bnd (vp_updL fresh (y_4).toNatClampNeg r_27) fun fresh_30 => some (y_19, silver_23, fresh_30, tst_9)))))))))))))
set_option maxHeartbeats 4000000 in
set_option maxRecDepth 100000 in
theorem c_X3_washNow (l : Launch) (G : Nat → Nat) (D : va_G) (cA : Nat → ClassId) (ad : Nat → Nat) (kd : Nat → Nat) (sz : Nat) (weight : Nat → Int32) (known : Int32) (hour : Int32) (swS : Nat → Int32) (swW : Nat → Int32) (waS : Nat → Int32) (spoons : Int32) (kind : Nat → Int32) (mark : Nat → Int32) (silver : Nat → Int32) (fresh : Nat → Int64) (texts : Nat → Option Nat) (tape : Nat → Int32) (tapeCount : Int32) (z : Int32) (waiting : Nat → Int32) (waitingCount : Int32) (L : List Nat) (tx : Nat → TXc) (tst : Nat → Nat → Int32) (knownR : Int32) (silverR : Nat → Int32) (freshR : Nat → Int64) (tstR : Nat → Nat → Int32) (h : fX3_washNow known hour waS spoons kind mark silver fresh texts L tx tst = some (knownR, silverR, freshR, tstR)) : Met l yX3_washNow wsX3_washNow ({ frames := 4, cells := 0, slots := 0, locals := 96 } : Room) (PW G D (tyC cA) sz (wH cA ad kd weight known hour swS swW waS spoons kind mark silver fresh texts tape tapeCount z waiting waitingCount L tx tst) [.ref (ad 0)]) (QV D (tyC cA) (va_A (wH cA ad kd weight known hour swS swW waS spoons kind mark silver fresh texts tape tapeCount z waiting waitingCount L tx tst) sz) (wH cA ad kd weight knownR hour swS swW waS spoons kind mark silverR freshR texts tape tapeCount z waiting waitingCount L tx tstR)) 0 0 (va_A (wH cA ad kd weight known hour swS swW waS spoons kind mark silver fresh texts tape tapeCount z waiting waitingCount L tx tst) sz) := by
  refine ent (cc := cX3_washNow) (maxL := 3) (ret := none) (fun A => QV D (tyC cA) A (wH cA ad kd weight knownR hour swS swW waS spoons kind mark silverR freshR texts tape tapeCount z waiting waitingCount L tx tstR)) (by decide +kernel) rfl (Nat.le_of_ble_eq_true rfl) ?_
  intro p e s m args below meth c A ls H hx hb hml hr hlk hts hown hA hK hE hP hD hS hv hmm
  have hv : lv_has ls 3 [(0, .ref (ad 0))] := hv
  have in_3 : ∀ w ∈ u_ws RX3 TX3 18, w ∈ wsX3_washNow := fun _ h => List.mem_cons_of_mem _ (List.mem_append_left _ (List.mem_append_right _ h))
  have w_0 := hts (.fieldLink RX3 21 "SpoonsLast$House" "washSpoon" "[I") (List.mem_of_getElem? (i := 1) rfl)
  have w_1 := hts (.fieldLink RX3 72 "SpoonsLast$House" "hour" "I") (List.mem_of_getElem? (i := 2) rfl)
  have w_2 := hts (.fieldLink RX3 69 "SpoonsLast$House" "known" "I") (List.mem_of_getElem? (i := 3) rfl)
  have w_3 := hts (.fieldLink RX3 33 "SpoonsLast$House" "fresh" "[J") (List.mem_of_getElem? (i := 4) rfl)
  have w_4 := hts (.fieldLink RX3 53 "SpoonsLast$House" "kinds" "[LSpoonsLast$Spoon;") (List.mem_of_getElem? (i := 5) rfl)
  have w_5 := hts (.fieldLink RX3 24 "SpoonsLast$House" "kind" "[I") (List.mem_of_getElem? (i := 6) rfl)
  have w_6 := hts (.fieldLink RX3 27 "SpoonsLast$House" "mark" "[I") (List.mem_of_getElem? (i := 7) rfl)
  have w_7 := hts (.fieldLink RX3 30 "SpoonsLast$House" "silver" "[I") (List.mem_of_getElem? (i := 8) rfl)
  have w_8 := hts (.methodLink RX3 140 Lib.Math.max.name) (List.mem_of_getElem? (i := 9) rfl)
  have w_9 := hts (.static Lib.Math.max.name) (List.mem_of_getElem? (i := 10) rfl)
  have w_10 := hts (.initialized "java/lang/Math") (List.mem_of_getElem? (i := 11) rfl)
  have w_11 := hts (.code Lib.Math.max.name Lib.Math.max.code 2 (some .int)) (List.mem_of_getElem? (i := 12) rfl)
  generalize hQ : MQ below _ args s 0 0 A = Q
  have hP : va_P D vwCl (wH cA ad kd weight known hour swS swW waS spoons kind mark silver fresh texts tape tapeCount z waiting waitingCount L tx tst) H := hP
  unfold fX3_washNow at h
  refine lv_aload_n hx hb dX3_washNow_0 rfl (lv_at hv 0 rfl) ?_
  refine va_get (D := D) (ci := 3) (v := .ref (ad 7)) (C := RX3) (T := TX3) (N := 18) hx hb hts in_3 hown hK hP 0 rfl rfl 6 (by decide) w_0 (fun _ h9 => h9) rfl dX3_washNow_1 ?_
  refine lv_aload_n hx hb dX3_washNow_4 rfl (lv_at hv 0 rfl) ?_
  refine va_get (D := D) (ci := 3) (v := .int hour) (C := RX3) (T := TX3) (N := 18) hx hb hts in_3 hown hK hP 0 rfl rfl 3 (by decide) w_1 (fun _ h9 => h9) rfl dX3_washNow_5 ?_
  refine lv_iconst (v := (4 : Int32)) hx hb dX3_washNow_8 (by decide) ?_
  obtain ⟨r_1, hf_2, h⟩ := bd_ex h
  have sb := Sb.nil hP hD hS hA
  refine calI (va_runS (As := [.int hour, .int (4 : Int32)]) (rest := [.ref (ad 7)]) ⟨hx, hb, hml, hown, hts⟩ (c_J9_floorMod_7cf53 l G D cA  _ hour (4 : Int32) r_1 hf_2) (va_cwS 2 hts gX3_washNow_J9_floorMod_7cf53 rfl rfl rfl (by decide +kernel) ⟨Nat.le_of_ble_eq_true rfl, Nat.le_of_ble_eq_true rfl⟩) (pvS hE hK hS sb) rfl rfl hv.1 rfl (lv_room (Nat.le_of_ble_eq_true rfl)) dX3_washNow_9 ⟨Nat.le_of_ble_eq_true rfl, Nat.le_of_ble_eq_true rfl⟩) hS sb (Jn.nil hP hD) (fun H locs hP hD hS => ?_)
  have hP : va_P D vwCl (wH cA ad kd weight known hour swS swW waS spoons kind mark silver fresh texts tape tapeCount z waiting waitingCount L tx tst) H := hP
  have hD : va_D A (wH cA ad kd weight known hour swS swW waS spoons kind mark silver fresh texts tape tapeCount z waiting waitingCount L tx tst) := hD
  obtain ⟨c_3, h⟩ := ckI_ex h
  refine va_iald (D := D) hx hb hK hP 4 0 rfl rfl c_3 dX3_washNow_12 ?_
  obtain ⟨y_4, ey_4, h⟩ := bnd_ex h
  refine lv_nm ey_4 ?_
  refine lv_istore_n (lv' := [(1, .int y_4), (0, .ref (ad 0))]) hx hb dX3_washNow_13 rfl hv (by decide) rfl (fun ls hv => ?_)
  refine lv_aload_n hx hb dX3_washNow_14 rfl (lv_at hv 1 rfl) ?_
  refine lv_iload_n hx hb dX3_washNow_15 rfl (lv_at hv 0 rfl) ?_
  obtain ⟨r_5, hf_6, h⟩ := bd_ex h
  have sb := Sb.same hP hD hS hA
  refine calI (va_runV (As := [.int y_4]) (rest := []) ⟨hx, hb, hml, hown, hts⟩ (c_X3_isWhole l G D cA ad kd _ weight known hour swS swW waS spoons kind mark silver fresh texts tape tapeCount z waiting waitingCount L tx tst y_4 r_5 hf_6) (cwV 1 hts gX3_washNow_X3_isWhole rfl rfl rfl (by decide +kernel) ⟨Nat.le_of_ble_eq_true rfl, Nat.le_of_ble_eq_true rfl⟩) (pvV hE hK hS sb (va_recv hK hP (ci := 3) (q0 := 0) rfl rfl)) rfl rfl hv.1 rfl (lv_room (Nat.le_of_ble_eq_true rfl)) dX3_washNow_16 ⟨Nat.le_of_ble_eq_true rfl, Nat.le_of_ble_eq_true rfl⟩) hS sb (Jn.same sb) (fun H locs hP hD hS => ?_)
  have hP : va_P D vwCl (wH cA ad kd weight known hour swS swW waS spoons kind mark silver fresh texts tape tapeCount z waiting waitingCount L tx tst) H := hP
  have hD : va_D A (wH cA ad kd weight known hour swS swW waS spoons kind mark silver fresh texts tape tapeCount z waiting waitingCount L tx tst) := hD
  refine lv_if_ne (tgt := 23) hx hb dX3_washNow_19 (by decide) (fun c_7 => ?_) (fun c_7 => ?_)
  · have h := ite_f c_7 h
    refine lv_aload_n hx hb dX3_washNow_23 rfl (lv_at hv 1 rfl) ?_
    refine lv_iload_n hx hb dX3_washNow_24 rfl (lv_at hv 0 rfl) ?_
    obtain ⟨⟨r_8, tst_9⟩, hf_10, h⟩ := bd_ex h
    have sb := Sb.same hP hD hS hA
    refine calI (va_runV (As := [.int y_4]) (rest := []) ⟨hx, hb, hml, hown, hts⟩ (c_X3_rubOf l G D cA ad kd _ weight known hour swS swW waS spoons kind mark silver fresh texts tape tapeCount z waiting waitingCount L tx tst y_4 r_8 tst_9 hf_10) (cwV 1 hts gX3_washNow_X3_rubOf rfl rfl rfl (by decide +kernel) ⟨Nat.le_of_ble_eq_true rfl, Nat.le_of_ble_eq_true rfl⟩) (pvV hE hK hS sb (va_recv hK hP (ci := 3) (q0 := 0) rfl rfl)) rfl rfl hv.1 rfl (lv_room (Nat.le_of_ble_eq_true rfl)) dX3_washNow_25 ⟨Nat.le_of_ble_eq_true rfl, Nat.le_of_ble_eq_true rfl⟩) hS sb (Jn.same sb) (fun H locs hP hD hS => ?_)
    have hP : va_P D vwCl (wH cA ad kd weight known hour swS swW waS spoons kind mark silver fresh texts tape tapeCount z waiting waitingCount L tx tst_9) H := hP
    have hD : va_D A (wH cA ad kd weight known hour swS swW waS spoons kind mark silver fresh texts tape tapeCount z waiting waitingCount L tx tst_9) := hD
    refine lv_istore_n (lv' := [(2, .int r_8), (1, .int y_4), (0, .ref (ad 0))]) hx hb dX3_washNow_28 rfl hv (by decide) rfl (fun ls hv => ?_)
    refine lv_aload_n hx hb dX3_washNow_29 rfl (lv_at hv 2 rfl) ?_
    refine lv_dup hx hb dX3_washNow_30 rfl ?_
    refine va_get (D := D) (ci := 3) (v := .int known) (C := RX3) (T := TX3) (N := 18) hx hb hts in_3 hown hK hP 0 rfl rfl 2 (by decide) w_2 (fun _ h9 => h9) rfl dX3_washNow_31 ?_
    refine lv_aload_n hx hb dX3_washNow_34 rfl (lv_at hv 2 rfl) ?_
    refine va_get (D := D) (ci := 3) (v := .ref (ad 12)) (C := RX3) (T := TX3) (N := 18) hx hb hts in_3 hown hK hP 0 rfl rfl 11 (by decide) w_3 (fun _ h9 => h9) rfl dX3_washNow_35 ?_
    refine lv_iload_n hx hb dX3_washNow_38 rfl (lv_at hv 1 rfl) ?_
    obtain ⟨c_11, h⟩ := ckI_ex h
    refine va_lald (D := D) hx hb hK hP 8 1 rfl rfl c_11 dX3_washNow_39 ?_
    refine lv_aload_n hx hb dX3_washNow_40 rfl (lv_at hv 2 rfl) ?_
    refine va_get (D := D) (ci := 3) (v := .ref (kd 0)) (C := RX3) (T := TX3) (N := 18) hx hb hts in_3 hown hK hP 0 rfl rfl 0 (by decide) w_4 (fun _ h9 => h9) rfl dX3_washNow_41 ?_
    refine lv_aload_n hx hb dX3_washNow_44 rfl (lv_at hv 2 rfl) ?_
    refine va_get (D := D) (ci := 3) (v := .ref (ad 9)) (C := RX3) (T := TX3) (N := 18) hx hb hts in_3 hown hK hP 0 rfl rfl 8 (by decide) w_5 (fun _ h9 => h9) rfl dX3_washNow_45 ?_
    refine lv_iload_n hx hb dX3_washNow_48 rfl (lv_at hv 1 rfl) ?_
    obtain ⟨c_12, h⟩ := ckI_ex h
    refine va_iald (D := D) hx hb hK hP 5 0 rfl rfl c_12 dX3_washNow_49 ?_
    obtain ⟨c_13, h⟩ := ckI_ex h
    refine va_aldq (D := D) (f := fun j => some (kd (j + 1))) hx hb hK hP 12 2 rfl rfl c_13 dX3_washNow_50 ?_
    refine W.eq (g2 := F0 m 51 ls [.ref (kd (((kind (y_4).toNatClampNeg)).toNatClampNeg + 1)), .long (fresh (y_4).toNatClampNeg), .int known, .ref (ad 0)]) rfl ?_
    refine lv_aload_n hx hb dX3_washNow_51 rfl (lv_at hv 2 rfl) ?_
    refine va_get (D := D) (ci := 3) (v := .ref (ad 10)) (C := RX3) (T := TX3) (N := 18) hx hb hts in_3 hown hK hP 0 rfl rfl 9 (by decide) w_6 (fun _ h9 => h9) rfl dX3_washNow_52 ?_
    refine lv_iload_n hx hb dX3_washNow_55 rfl (lv_at hv 1 rfl) ?_
    obtain ⟨c_14, h⟩ := ckI_ex h
    refine va_iald (D := D) hx hb hK hP 6 0 rfl rfl c_14 dX3_washNow_56 ?_
    obtain ⟨r_15, hd_16, h⟩ := bd_ex h
    have kont : ∀ (H : Heap) (locs : List Loc), va_P D vwCl (wH cA ad kd weight known hour swS swW waS spoons kind mark silver fresh texts tape tapeCount z waiting waitingCount L tx tst_9) H → va_D A (wH cA ad kd weight known hour swS swW waS spoons kind mark silver fresh texts tape tapeCount z waiting waitingCount L tx tst_9) → va_S A s.heap H locs → W p l e ({ frames := 4, cells := 0, slots := 0, locals := 96 } : Room) s m args below meth c H locs 0 0 Q (F0 m 60 ls [.int r_15, .long (fresh (y_4).toNatClampNeg), .int known, .ref (ad 0)]) := by
      intro H locs hP hD hS
      obtain ⟨r_17, hf_18, h⟩ := bd_ex h
      have sb := Sb.nil hP hD hS hA
      refine calI (va_runS (As := [.long (fresh (y_4).toNatClampNeg), .int r_15]) (rest := [.int known, .ref (ad 0)]) ⟨hx, hb, hml, hown, hts⟩ (c_X3_freshAtLeast l G D cA  _ (fresh (y_4).toNatClampNeg) r_15 r_17 hf_18) (va_cwS 2 hts gX3_washNow_X3_freshAtLeast rfl rfl rfl (by decide +kernel) ⟨Nat.le_of_ble_eq_true rfl, Nat.le_of_ble_eq_true rfl⟩) (pvS hE hK hS sb) rfl rfl hv.1 rfl (lv_room (Nat.le_of_ble_eq_true rfl)) dX3_washNow_60 ⟨Nat.le_of_ble_eq_true rfl, Nat.le_of_ble_eq_true rfl⟩) hS sb (Jn.nil hP hD) (fun H locs hP hD hS => ?_)
      have hP : va_P D vwCl (wH cA ad kd weight known hour swS swW waS spoons kind mark silver fresh texts tape tapeCount z waiting waitingCount L tx tst_9) H := hP
      have hD : va_D A (wH cA ad kd weight known hour swS swW waS spoons kind mark silver fresh texts tape tapeCount z waiting waitingCount L tx tst_9) := hD
      refine lv_ior hx hb dX3_washNow_63 ?_
      obtain ⟨y_19, ey_19, h⟩ := bnd_ex h
      refine lv_nm ey_19 ?_
      refine va_put (D := D) (ci := 3) (v := .int y_19) (ty := .int) (C := RX3) (T := TX3) (N := 18) hx hb hts in_3 tyX3 tyX3_ok nmX3 hown hK hP hD hS 0 rfl rfl 2 (by decide) w_2 (fun _ h9 => h9) rfl (by decide +kernel) rfl rfl (Nat.le_of_ble_eq_true rfl) dX3_washNow_64 (fun H locs hP hD hS => ?_)
      have hP : va_P D vwCl (wH cA ad kd weight y_19 hour swS swW waS spoons kind mark silver fresh texts tape tapeCount z waiting waitingCount L tx tst_9) H := hP
      have hD : va_D A (wH cA ad kd weight y_19 hour swS swW waS spoons kind mark silver fresh texts tape tapeCount z waiting waitingCount L tx tst_9) := hD
      refine lv_aload_n hx hb dX3_washNow_67 rfl (lv_at hv 2 rfl) ?_
      refine va_get (D := D) (ci := 3) (v := .ref (ad 11)) (C := RX3) (T := TX3) (N := 18) hx hb hts in_3 hown hK hP 0 rfl rfl 10 (by decide) w_7 (fun _ h9 => h9) rfl dX3_washNow_68 ?_
      refine lv_iload_n hx hb dX3_washNow_71 rfl (lv_at hv 1 rfl) ?_
      refine lv_iconst (v := (0 : Int32)) hx hb dX3_washNow_72 (by decide) ?_
      refine lv_aload_n hx hb dX3_washNow_73 rfl (lv_at hv 2 rfl) ?_
      refine va_get (D := D) (ci := 3) (v := .ref (ad 11)) (C := RX3) (T := TX3) (N := 18) hx hb hts in_3 hown hK hP 0 rfl rfl 10 (by decide) w_7 (fun _ h9 => h9) rfl dX3_washNow_74 ?_
      refine lv_iload_n hx hb dX3_washNow_77 rfl (lv_at hv 1 rfl) ?_
      obtain ⟨c_20, h⟩ := ckI_ex h
      refine va_iald (D := D) hx hb hK hP 7 0 rfl rfl c_20 dX3_washNow_78 ?_
      refine lv_iload_n hx hb dX3_washNow_79 rfl (lv_at hv 0 rfl) ?_
      refine lv_isub hx hb dX3_washNow_80 ?_
      refine va_mmax hx hb (hml.trans hv.1.symm) hown w_8 w_9 w_10 w_11 (Nat.le_of_ble_eq_true rfl) (Nat.le_of_ble_eq_true rfl) (Nat.le_of_ble_eq_true rfl) (Nat.le_of_ble_eq_true rfl) dX3_washNow_81 ?_
      obtain ⟨y_21, ey_21, h⟩ := bnd_ex h
      refine lv_nm ey_21 ?_
      obtain ⟨c_22, h⟩ := ckI_ex h
      obtain ⟨silver_23, esilver_23, h⟩ := bnd_ex h
      refine va_iast (D := D) hx hb hK hP hD hS 7 0 rfl rfl c_22 dX3_washNow_84 (fun H locs hP hD hS => ?_)
      rw [← esilver_23] at hP hD
      have hP : va_P D vwCl (wH cA ad kd weight y_19 hour swS swW waS spoons kind mark silver_23 fresh texts tape tapeCount z waiting waitingCount L tx tst_9) H := hP
      have hD : va_D A (wH cA ad kd weight y_19 hour swS swW waS spoons kind mark silver_23 fresh texts tape tapeCount z waiting waitingCount L tx tst_9) := hD
      refine lv_aload_n hx hb dX3_washNow_85 rfl (lv_at hv 2 rfl) ?_
      refine va_get (D := D) (ci := 3) (v := .ref (ad 11)) (C := RX3) (T := TX3) (N := 18) hx hb hts in_3 hown hK hP 0 rfl rfl 10 (by decide) w_7 (fun _ h9 => h9) rfl dX3_washNow_86 ?_
      refine lv_iload_n hx hb dX3_washNow_89 rfl (lv_at hv 1 rfl) ?_
      obtain ⟨c_24, h⟩ := ckI_ex h
      refine va_iald (D := D) hx hb hK hP 7 0 rfl rfl c_24 dX3_washNow_90 ?_
      refine lv_if_ne (tgt := 118) hx hb dX3_washNow_91 (by decide) (fun c_25 => ?_) (fun c_25 => ?_)
      · have h := ite_f c_25 h
        refine lv_aload_n hx hb dX3_washNow_118 rfl (lv_at hv 2 rfl) ?_
        refine va_get (D := D) (ci := 3) (v := .ref (ad 12)) (C := RX3) (T := TX3) (N := 18) hx hb hts in_3 hown hK hP 0 rfl rfl 11 (by decide) w_3 (fun _ h9 => h9) rfl dX3_washNow_119 ?_
        refine lv_iload_n hx hb dX3_washNow_122 rfl (lv_at hv 1 rfl) ?_
        refine lv_aload_n hx hb dX3_washNow_123 rfl (lv_at hv 2 rfl) ?_
        refine va_get (D := D) (ci := 3) (v := .ref (ad 12)) (C := RX3) (T := TX3) (N := 18) hx hb hts in_3 hown hK hP 0 rfl rfl 11 (by decide) w_3 (fun _ h9 => h9) rfl dX3_washNow_124 ?_
        refine lv_iload_n hx hb dX3_washNow_127 rfl (lv_at hv 1 rfl) ?_
        obtain ⟨c_26, h⟩ := ckI_ex h
        refine va_lald (D := D) hx hb hK hP 8 1 rfl rfl c_26 dX3_washNow_128 ?_
        obtain ⟨r_27, hf_28, h⟩ := bd_ex h
        have sb := Sb.nil hP hD hS hA
        refine calL (va_runS (As := [.long (fresh (y_4).toNatClampNeg)]) (rest := [.int y_4, .ref (ad 12)]) ⟨hx, hb, hml, hown, hts⟩ (c_X3_halved l G D cA  _ (fresh (y_4).toNatClampNeg) r_27 hf_28) (va_cwS 1 hts gX3_washNow_X3_halved rfl rfl rfl (by decide +kernel) ⟨Nat.le_of_ble_eq_true rfl, Nat.le_of_ble_eq_true rfl⟩) (pvS hE hK hS sb) rfl rfl hv.1 rfl (lv_room (Nat.le_of_ble_eq_true rfl)) dX3_washNow_129 ⟨Nat.le_of_ble_eq_true rfl, Nat.le_of_ble_eq_true rfl⟩) hS sb (Jn.nil hP hD) (fun H locs hP hD hS => ?_)
        have hP : va_P D vwCl (wH cA ad kd weight y_19 hour swS swW waS spoons kind mark silver_23 fresh texts tape tapeCount z waiting waitingCount L tx tst_9) H := hP
        have hD : va_D A (wH cA ad kd weight y_19 hour swS swW waS spoons kind mark silver_23 fresh texts tape tapeCount z waiting waitingCount L tx tst_9) := hD
        obtain ⟨c_29, h⟩ := ckI_ex h
        obtain ⟨fresh_30, efresh_30, h⟩ := bnd_ex h
        refine va_last (D := D) hx hb hK hP hD hS 8 1 rfl rfl c_29 dX3_washNow_132 (fun H locs hP hD hS => ?_)
        rw [← efresh_30] at hP hD
        have hP : va_P D vwCl (wH cA ad kd weight y_19 hour swS swW waS spoons kind mark silver_23 fresh_30 texts tape tapeCount z waiting waitingCount L tx tst_9) H := hP
        have hD : va_D A (wH cA ad kd weight y_19 hour swS swW waS spoons kind mark silver_23 fresh_30 texts tape tapeCount z waiting waitingCount L tx tst_9) := hD
        have h := Option.some.inj h
        have ee0 : y_19 = knownR := congrArg (fun q => q.1) h
        have ee1 : silver_23 = silverR := congrArg (fun q => q.2.1) h
        have ee2 : fresh_30 = freshR := congrArg (fun q => q.2.2.1) h
        have ee3 : tst_9 = tstR := congrArg (fun q => q.2.2.2) h
        subst ee0
        subst ee1
        subst ee2
        subst ee3
        rw [← hQ]
        exact retV hx hb hr hlk hK hP hD hS dX3_washNow_133 ⟨Nat.le_of_ble_eq_true rfl, Nat.le_of_ble_eq_true rfl⟩
      · have h := ite_t c_25 h
        refine lv_aload_n hx hb dX3_washNow_94 rfl (lv_at hv 2 rfl) ?_
        refine lv_dup hx hb dX3_washNow_95 rfl ?_
        refine va_get (D := D) (ci := 3) (v := .int y_19) (C := RX3) (T := TX3) (N := 18) hx hb hts in_3 hown hK hP 0 rfl rfl 2 (by decide) w_2 (fun _ h9 => h9) rfl dX3_washNow_96 ?_
        refine lv_aload_n hx hb dX3_washNow_99 rfl (lv_at hv 2 rfl) ?_
        refine lv_iload_n hx hb dX3_washNow_100 rfl (lv_at hv 1 rfl) ?_
        obtain ⟨r_31, hf_32, h⟩ := bd_ex h
        have sb := Sb.same hP hD hS hA
        refine calI (va_runV (As := [.int y_4]) (rest := [.int y_19, .ref (ad 0)]) ⟨hx, hb, hml, hown, hts⟩ (c_X3_wordsOn l G D cA ad kd _ weight y_19 hour swS swW waS spoons kind mark silver_23 fresh texts tape tapeCount z waiting waitingCount L tx tst_9 y_4 r_31 hf_32) (cwV 1 hts gX3_washNow_X3_wordsOn rfl rfl rfl (by decide +kernel) ⟨Nat.le_of_ble_eq_true rfl, Nat.le_of_ble_eq_true rfl⟩) (pvV hE hK hS sb (va_recv hK hP (ci := 3) (q0 := 0) rfl rfl)) rfl rfl hv.1 rfl (lv_room (Nat.le_of_ble_eq_true rfl)) dX3_washNow_101 ⟨Nat.le_of_ble_eq_true rfl, Nat.le_of_ble_eq_true rfl⟩) hS sb (Jn.same sb) (fun H locs hP hD hS => ?_)
        have hP : va_P D vwCl (wH cA ad kd weight y_19 hour swS swW waS spoons kind mark silver_23 fresh texts tape tapeCount z waiting waitingCount L tx tst_9) H := hP
        have hD : va_D A (wH cA ad kd weight y_19 hour swS swW waS spoons kind mark silver_23 fresh texts tape tapeCount z waiting waitingCount L tx tst_9) := hD
        refine lv_ior hx hb dX3_washNow_104 ?_
        obtain ⟨y_33, ey_33, h⟩ := bnd_ex h
        refine lv_nm ey_33 ?_
        refine va_put (D := D) (ci := 3) (v := .int y_33) (ty := .int) (C := RX3) (T := TX3) (N := 18) hx hb hts in_3 tyX3 tyX3_ok nmX3 hown hK hP hD hS 0 rfl rfl 2 (by decide) w_2 (fun _ h9 => h9) rfl (by decide +kernel) rfl rfl (Nat.le_of_ble_eq_true rfl) dX3_washNow_105 (fun H locs hP hD hS => ?_)
        have hP : va_P D vwCl (wH cA ad kd weight y_33 hour swS swW waS spoons kind mark silver_23 fresh texts tape tapeCount z waiting waitingCount L tx tst_9) H := hP
        have hD : va_D A (wH cA ad kd weight y_33 hour swS swW waS spoons kind mark silver_23 fresh texts tape tapeCount z waiting waitingCount L tx tst_9) := hD
        refine lv_aload_n hx hb dX3_washNow_108 rfl (lv_at hv 2 rfl) ?_
        refine va_get (D := D) (ci := 3) (v := .ref (ad 12)) (C := RX3) (T := TX3) (N := 18) hx hb hts in_3 hown hK hP 0 rfl rfl 11 (by decide) w_3 (fun _ h9 => h9) rfl dX3_washNow_109 ?_
        refine lv_iload_n hx hb dX3_washNow_112 rfl (lv_at hv 1 rfl) ?_
        refine lv_lconst (v := (0 : Int64)) hx hb dX3_washNow_113 (by decide) ?_
        obtain ⟨y_34, ey_34, h⟩ := bnd_ex h
        refine lv_nml ey_34 ?_
        obtain ⟨c_35, h⟩ := ckI_ex h
        obtain ⟨fresh_36, efresh_36, h⟩ := bnd_ex h
        refine va_last (D := D) hx hb hK hP hD hS 8 1 rfl rfl c_35 dX3_washNow_114 (fun H locs hP hD hS => ?_)
        rw [← efresh_36] at hP hD
        have hP : va_P D vwCl (wH cA ad kd weight y_33 hour swS swW waS spoons kind mark silver_23 fresh_36 texts tape tapeCount z waiting waitingCount L tx tst_9) H := hP
        have hD : va_D A (wH cA ad kd weight y_33 hour swS swW waS spoons kind mark silver_23 fresh_36 texts tape tapeCount z waiting waitingCount L tx tst_9) := hD
        refine lv_goto (tgt := 133) hx hb dX3_washNow_115 (by decide) ?_
        have h := Option.some.inj h
        have ee0 : y_33 = knownR := congrArg (fun q => q.1) h
        have ee1 : silver_23 = silverR := congrArg (fun q => q.2.1) h
        have ee2 : fresh_36 = freshR := congrArg (fun q => q.2.2.1) h
        have ee3 : tst_9 = tstR := congrArg (fun q => q.2.2.2) h
        subst ee0
        subst ee1
        subst ee2
        subst ee3
        rw [← hQ]
        exact retV hx hb hr hlk hK hP hD hS dX3_washNow_133 ⟨Nat.le_of_ble_eq_true rfl, Nat.le_of_ble_eq_true rfl⟩
    obtain ⟨j, hj, ej⟩ := vp_in_of c_13 (by decide)
    have ec : ((kind (y_4).toNatClampNeg)).toNatClampNeg = j := by rw [ej]; exact nI_clamp (by omega)
    rw [ec] at hd_16 ⊢
    clear ej ec
    obtain rfl | rfl | rfl | rfl | rfl | rfl | rfl : j = 0 ∨ j = 1 ∨ j = 2 ∨ j = 3 ∨ j = 4 ∨ j = 5 ∨ j = 6 := by omega
    · have sb : Sb D A H (wO 8 (kd 1)) := Sb.pl [13] (by decide) rfl hP hD hS hA
      refine calI (va_runV (As := [.int (mark (y_4).toNatClampNeg)]) (rest := [.long (fresh (y_4).toNatClampNeg), .int known, .ref (ad 0)]) ⟨hx, hb, hml, hown, hts⟩ (c_X8_reads_k8 l G D cA (kd 1) _ (mark (y_4).toNatClampNeg) r_15 hd_16) (cwV 1 hts gX3_washNow_X8_reads rfl rfl rfl (by decide +kernel) ⟨Nat.le_of_ble_eq_true rfl, Nat.le_of_ble_eq_true rfl⟩) (pvV hE hK hS sb (va_recv hK hP (ci := 8) (q0 := 13) rfl rfl)) rfl rfl hv.1 rfl (lv_room (Nat.le_of_ble_eq_true rfl)) dX3_washNow_57 ⟨Nat.le_of_ble_eq_true rfl, Nat.le_of_ble_eq_true rfl⟩) hS sb (Jn.pl (ws := (wH cA ad kd weight known hour swS swW waS spoons kind mark silver fresh texts tape tapeCount z waiting waitingCount L tx tst_9)) (w1 := wO 8 (kd 1)) (ws' := (wH cA ad kd weight known hour swS swW waS spoons kind mark silver fresh texts tape tapeCount z waiting waitingCount L tx tst_9)) [13] rfl rfl rfl rfl hP hD) (fun H locs hP hD hS => kont H locs hP hD hS)
    · have sb : Sb D A H (wO 2 (kd 2)) := Sb.pl [14] (by decide) rfl hP hD hS hA
      refine calI (va_runU (As := [.int (mark (y_4).toNatClampNeg)]) (rest := [.long (fresh (y_4).toNatClampNeg), .int known, .ref (ad 0)]) ⟨hx, hb, hml, hown, hts⟩ (c_X2_reads_k2 l G D cA (kd 2) _ (mark (y_4).toNatClampNeg) r_15 hd_16) (va_cwO 1 hts gX3_washNow_X2_reads_u134X2 rfl rfl rfl (by decide +kernel : Cond.code yX8_reads cX8_reads 2 (some .int) ∈ wsX3_washNow) (by decide +kernel) ⟨Nat.le_of_ble_eq_true rfl, Nat.le_of_ble_eq_true rfl⟩) (pvV hE hK hS sb (va_recv hK hP (ci := 2) (q0 := 14) rfl rfl)) rfl rfl hv.1 rfl (lv_room (Nat.le_of_ble_eq_true rfl)) dX3_washNow_57 ⟨Nat.le_of_ble_eq_true rfl, Nat.le_of_ble_eq_true rfl⟩) hS sb (Jn.pl (ws := (wH cA ad kd weight known hour swS swW waS spoons kind mark silver fresh texts tape tapeCount z waiting waitingCount L tx tst_9)) (w1 := wO 2 (kd 2)) (ws' := (wH cA ad kd weight known hour swS swW waS spoons kind mark silver fresh texts tape tapeCount z waiting waitingCount L tx tst_9)) [14] rfl rfl rfl rfl hP hD) (fun H locs hP hD hS => kont H locs hP hD hS)
    · have sb : Sb D A H (wO 0 (kd 3)) := Sb.pl [15] (by decide) rfl hP hD hS hA
      refine calI (va_runU (As := [.int (mark (y_4).toNatClampNeg)]) (rest := [.long (fresh (y_4).toNatClampNeg), .int known, .ref (ad 0)]) ⟨hx, hb, hml, hown, hts⟩ (c_X0_reads_k0 l G D cA (kd 3) _ (mark (y_4).toNatClampNeg) r_15 hd_16) (va_cwO 1 hts gX3_washNow_X0_reads_u134X0 rfl rfl rfl (by decide +kernel : Cond.code yX8_reads cX8_reads 2 (some .int) ∈ wsX3_washNow) (by decide +kernel) ⟨Nat.le_of_ble_eq_true rfl, Nat.le_of_ble_eq_true rfl⟩) (pvV hE hK hS sb (va_recv hK hP (ci := 0) (q0 := 15) rfl rfl)) rfl rfl hv.1 rfl (lv_room (Nat.le_of_ble_eq_true rfl)) dX3_washNow_57 ⟨Nat.le_of_ble_eq_true rfl, Nat.le_of_ble_eq_true rfl⟩) hS sb (Jn.pl (ws := (wH cA ad kd weight known hour swS swW waS spoons kind mark silver fresh texts tape tapeCount z waiting waitingCount L tx tst_9)) (w1 := wO 0 (kd 3)) (ws' := (wH cA ad kd weight known hour swS swW waS spoons kind mark silver fresh texts tape tapeCount z waiting waitingCount L tx tst_9)) [15] rfl rfl rfl rfl hP hD) (fun H locs hP hD hS => kont H locs hP hD hS)
    · have sb : Sb D A H (wO 5 (kd 4)) := Sb.pl [16] (by decide) rfl hP hD hS hA
      refine calI (va_runU (As := [.int (mark (y_4).toNatClampNeg)]) (rest := [.long (fresh (y_4).toNatClampNeg), .int known, .ref (ad 0)]) ⟨hx, hb, hml, hown, hts⟩ (c_X8_reads_k5 l G D cA (kd 4) _ (mark (y_4).toNatClampNeg) r_15 hd_16) (va_cwU 1 hts gX3_washNow_X8_reads_u134X5 rfl rfl rfl rfl (by decide +kernel) ⟨Nat.le_of_ble_eq_true rfl, Nat.le_of_ble_eq_true rfl⟩) (pvV hE hK hS sb (va_recv hK hP (ci := 5) (q0 := 16) rfl rfl)) rfl rfl hv.1 rfl (lv_room (Nat.le_of_ble_eq_true rfl)) dX3_washNow_57 ⟨Nat.le_of_ble_eq_true rfl, Nat.le_of_ble_eq_true rfl⟩) hS sb (Jn.pl (ws := (wH cA ad kd weight known hour swS swW waS spoons kind mark silver fresh texts tape tapeCount z waiting waitingCount L tx tst_9)) (w1 := wO 5 (kd 4)) (ws' := (wH cA ad kd weight known hour swS swW waS spoons kind mark silver fresh texts tape tapeCount z waiting waitingCount L tx tst_9)) [16] rfl rfl rfl rfl hP hD) (fun H locs hP hD hS => kont H locs hP hD hS)
    · have sb : Sb D A H (wO 6 (kd 5)) := Sb.pl [17] (by decide) rfl hP hD hS hA
      refine calI (va_runU (As := [.int (mark (y_4).toNatClampNeg)]) (rest := [.long (fresh (y_4).toNatClampNeg), .int known, .ref (ad 0)]) ⟨hx, hb, hml, hown, hts⟩ (c_X6_reads_k6 l G D cA (kd 5) _ (mark (y_4).toNatClampNeg) r_15 hd_16) (va_cwO 1 hts gX3_washNow_X6_reads_u134X6 rfl rfl rfl (by decide +kernel : Cond.code yX8_reads cX8_reads 2 (some .int) ∈ wsX3_washNow) (by decide +kernel) ⟨Nat.le_of_ble_eq_true rfl, Nat.le_of_ble_eq_true rfl⟩) (pvV hE hK hS sb (va_recv hK hP (ci := 6) (q0 := 17) rfl rfl)) rfl rfl hv.1 rfl (lv_room (Nat.le_of_ble_eq_true rfl)) dX3_washNow_57 ⟨Nat.le_of_ble_eq_true rfl, Nat.le_of_ble_eq_true rfl⟩) hS sb (Jn.pl (ws := (wH cA ad kd weight known hour swS swW waS spoons kind mark silver fresh texts tape tapeCount z waiting waitingCount L tx tst_9)) (w1 := wO 6 (kd 5)) (ws' := (wH cA ad kd weight known hour swS swW waS spoons kind mark silver fresh texts tape tapeCount z waiting waitingCount L tx tst_9)) [17] rfl rfl rfl rfl hP hD) (fun H locs hP hD hS => kont H locs hP hD hS)
    · have sb : Sb D A H (wO 4 (kd 6)) := Sb.pl [18] (by decide) rfl hP hD hS hA
      refine calI (va_runU (As := [.int (mark (y_4).toNatClampNeg)]) (rest := [.long (fresh (y_4).toNatClampNeg), .int known, .ref (ad 0)]) ⟨hx, hb, hml, hown, hts⟩ (c_X0_reads_k4 l G D cA (kd 6) _ (mark (y_4).toNatClampNeg) r_15 hd_16) (va_cwO 1 hts gX3_washNow_X0_reads_u134X4 rfl rfl rfl (by decide +kernel : Cond.code yX8_reads cX8_reads 2 (some .int) ∈ wsX3_washNow) (by decide +kernel) ⟨Nat.le_of_ble_eq_true rfl, Nat.le_of_ble_eq_true rfl⟩) (pvV hE hK hS sb (va_recv hK hP (ci := 4) (q0 := 18) rfl rfl)) rfl rfl hv.1 rfl (lv_room (Nat.le_of_ble_eq_true rfl)) dX3_washNow_57 ⟨Nat.le_of_ble_eq_true rfl, Nat.le_of_ble_eq_true rfl⟩) hS sb (Jn.pl (ws := (wH cA ad kd weight known hour swS swW waS spoons kind mark silver fresh texts tape tapeCount z waiting waitingCount L tx tst_9)) (w1 := wO 4 (kd 6)) (ws' := (wH cA ad kd weight known hour swS swW waS spoons kind mark silver fresh texts tape tapeCount z waiting waitingCount L tx tst_9)) [18] rfl rfl rfl rfl hP hD) (fun H locs hP hD hS => kont H locs hP hD hS)
    · have sb : Sb D A H (wO 1 (kd 7)) := Sb.pl [19] (by decide) rfl hP hD hS hA
      refine calI (va_runU (As := [.int (mark (y_4).toNatClampNeg)]) (rest := [.long (fresh (y_4).toNatClampNeg), .int known, .ref (ad 0)]) ⟨hx, hb, hml, hown, hts⟩ (c_X1_reads_k1 l G D cA (kd 7) _ (mark (y_4).toNatClampNeg) r_15 hd_16) (va_cwO 1 hts gX3_washNow_X1_reads_u134X1 rfl rfl rfl (by decide +kernel : Cond.code yX8_reads cX8_reads 2 (some .int) ∈ wsX3_washNow) (by decide +kernel) ⟨Nat.le_of_ble_eq_true rfl, Nat.le_of_ble_eq_true rfl⟩) (pvV hE hK hS sb (va_recv hK hP (ci := 1) (q0 := 19) rfl rfl)) rfl rfl hv.1 rfl (lv_room (Nat.le_of_ble_eq_true rfl)) dX3_washNow_57 ⟨Nat.le_of_ble_eq_true rfl, Nat.le_of_ble_eq_true rfl⟩) hS sb (Jn.pl (ws := (wH cA ad kd weight known hour swS swW waS spoons kind mark silver fresh texts tape tapeCount z waiting waitingCount L tx tst_9)) (w1 := wO 1 (kd 7)) (ws' := (wH cA ad kd weight known hour swS swW waS spoons kind mark silver fresh texts tape tapeCount z waiting waitingCount L tx tst_9)) [19] rfl rfl rfl rfl hP hD) (fun H locs hP hD hS => kont H locs hP hD hS)
  · have h := ite_t c_7 h
    have h := Option.some.inj h
    have ee0 : known = knownR := congrArg (fun q => q.1) h
    have ee1 : silver = silverR := congrArg (fun q => q.2.1) h
    have ee2 : fresh = freshR := congrArg (fun q => q.2.2.1) h
    have ee3 : tst = tstR := congrArg (fun q => q.2.2.2) h
    subst ee0
    subst ee1
    subst ee2
    subst ee3
    rw [← hQ]
    exact retV hx hb hr hlk hK hP hD hS dX3_washNow_22 ⟨Nat.le_of_ble_eq_true rfl, Nat.le_of_ble_eq_true rfl⟩

def fX3_passHours_17B (v1_2 : Int32) (v2_17 : Int32) (weight : Nat → Int32) (known_17 : Int32) (hour_17 : Int32) (swS : Nat → Int32) (swW : Nat → Int32) (waS : Nat → Int32) (spoons : Int32) (kind : Nat → Int32) (mark : Nat → Int32) (silver_17 : Nat → Int32) (texts : Nat → Option Nat) (L : List Nat) (tx : Nat → TXc) (tst_17 : Nat → Nat → Int32) (v3_17b : Int32) (fresh_17b : Nat → Int64) : Option ((Int32 × (Nat → Int64)) ⊕ (Int32 × (Nat → Int64))) :=
  (if spoons ≤ v3_17b then some (.inr (v3_17b, fresh_17b)) else ckI v3_17b 8 (bd (fX3_aged (fresh_17b (v3_17b).toNatClampNeg)) fun r_14 => ckI v3_17b 8 (bnd (vp_updL fresh_17b (v3_17b).toNatClampNeg r_14) fun fresh_17 => bnd (v3_17b + (1 : Int32)) fun y_18 => some (.inl (y_18, fresh_17)))))
def fX3_passHours_17 (v1_2 : Int32) (v2_17 : Int32) (v3_17 : Int32) (weight : Nat → Int32) (known_17 : Int32) (hour_17 : Int32) (swS : Nat → Int32) (swW : Nat → Int32) (waS : Nat → Int32) (spoons : Int32) (kind : Nat → Int32) (mark : Nat → Int32) (silver_17 : Nat → Int32) (fresh_17 : Nat → Int64) (texts : Nat → Option Nat) (L : List Nat) (tx : Nat → TXc) (tst_17 : Nat → Nat → Int32) : Option ((Int32 × Int32 × Int32 × (Nat → Int32) × (Nat → Int64) × (Nat → Nat → Int32)) ⊕ (Int32 × Int32 × Int32 × (Nat → Int32) × (Nat → Int64) × (Nat → Nat → Int32))) :=
  bd (lp (fun σ : Int32 × (Nat → Int64) => fX3_passHours_17B v1_2 v2_17 weight known_17 hour_17 swS swW waS spoons kind mark silver_17 texts L tx tst_17 (σ.1) (σ.2)) FU (v3_17, fresh_17)) fun ρ => match ρ with | (v3_17r, fresh_17r) => bnd (hour_17 + (1 : Int32)) fun y_10 => bnd (v2_17 + (1 : Int32)) fun y_11 => some (.inl (y_11, known_17, y_10, silver_17, fresh_17r, tst_17))
def fX3_passHours_2B (v1_2 : Int32) (weight : Nat → Int32) (swS : Nat → Int32) (swW : Nat → Int32) (waS : Nat → Int32) (spoons : Int32) (kind : Nat → Int32) (mark : Nat → Int32) (texts : Nat → Option Nat) (L : List Nat) (tx : Nat → TXc) (v2_2b : Int32) (known_2b : Int32) (hour_2b : Int32) (silver_2b : Nat → Int32) (fresh_2b : Nat → Int64) (tst_2b : Nat → Nat → Int32) : Option ((Int32 × Int32 × Int32 × (Nat → Int32) × (Nat → Int64) × (Nat → Nat → Int32)) ⊕ (Int32 × Int32 × Int32 × (Nat → Int32) × (Nat → Int64) × (Nat → Nat → Int32))) :=
  (if v1_2 ≤ v2_2b then some (.inr (v2_2b, known_2b, hour_2b, silver_2b, fresh_2b, tst_2b)) else bd (fX3_swallowNow weight hour_2b swS swW spoons kind mark silver_2b fresh_2b texts L tx tst_2b) fun (fresh_2, tst_3) => bd (fX3_washNow known_2b hour_2b waS spoons kind mark silver_2b fresh_2 texts L tx tst_3) fun (known_5, silver_6, fresh_7, tst_8) => fX3_passHours_17 v1_2 v2_2b (0 : Int32) weight known_5 hour_2b swS swW waS spoons kind mark silver_6 fresh_7 texts L tx tst_8)
def fX3_passHours_2 (v1_2 : Int32) (v2_2 : Int32) (weight : Nat → Int32) (known_2 : Int32) (hour_2 : Int32) (swS : Nat → Int32) (swW : Nat → Int32) (waS : Nat → Int32) (spoons : Int32) (kind : Nat → Int32) (mark : Nat → Int32) (silver_2 : Nat → Int32) (fresh_2 : Nat → Int64) (texts : Nat → Option Nat) (L : List Nat) (tx : Nat → TXc) (tst_2 : Nat → Nat → Int32) : Option (Int32 × Int32 × (Nat → Int32) × (Nat → Int64) × (Nat → Nat → Int32)) :=
  bd (lp (fun σ : Int32 × Int32 × Int32 × (Nat → Int32) × (Nat → Int64) × (Nat → Nat → Int32) => fX3_passHours_2B v1_2 weight swS swW waS spoons kind mark texts L tx (σ.1) (σ.2.1) (σ.2.2.1) (σ.2.2.2.1) (σ.2.2.2.2.1) (σ.2.2.2.2.2)) FU (v2_2, known_2, hour_2, silver_2, fresh_2, tst_2)) fun ρ => match ρ with | (v2_2r, known_2r, hour_2r, silver_2r, fresh_2r, tst_2r) => some (known_2r, hour_2r, silver_2r, fresh_2r, tst_2r)
def fX3_passHours (n : Int32) (weight : Nat → Int32) (known : Int32) (hour : Int32) (swS : Nat → Int32) (swW : Nat → Int32) (waS : Nat → Int32) (spoons : Int32) (kind : Nat → Int32) (mark : Nat → Int32) (silver : Nat → Int32) (fresh : Nat → Int64) (texts : Nat → Option Nat) (L : List Nat) (tx : Nat → TXc) (tst : Nat → Nat → Int32) : Option (Int32 × Int32 × (Nat → Int32) × (Nat → Int64) × (Nat → Nat → Int32)) :=
  fX3_passHours_2 n (0 : Int32) weight known hour swS swW waS spoons kind mark silver fresh texts L tx tst
set_option maxHeartbeats 4000000 in
set_option maxRecDepth 100000 in
theorem c_X3_passHours (l : Launch) (G : Nat → Nat) (D : va_G) (cA : Nat → ClassId) (ad : Nat → Nat) (kd : Nat → Nat) (sz : Nat) (weight : Nat → Int32) (known : Int32) (hour : Int32) (swS : Nat → Int32) (swW : Nat → Int32) (waS : Nat → Int32) (spoons : Int32) (kind : Nat → Int32) (mark : Nat → Int32) (silver : Nat → Int32) (fresh : Nat → Int64) (texts : Nat → Option Nat) (tape : Nat → Int32) (tapeCount : Int32) (z : Int32) (waiting : Nat → Int32) (waitingCount : Int32) (L : List Nat) (tx : Nat → TXc) (tst : Nat → Nat → Int32) (n : Int32) (knownR : Int32) (hourR : Int32) (silverR : Nat → Int32) (freshR : Nat → Int64) (tstR : Nat → Nat → Int32) (h : fX3_passHours n weight known hour swS swW waS spoons kind mark silver fresh texts L tx tst = some (knownR, hourR, silverR, freshR, tstR)) : Met l yX3_passHours wsX3_passHours ({ frames := 5, cells := 0, slots := 0, locals := 118 } : Room) (PW G D (tyC cA) sz (wH cA ad kd weight known hour swS swW waS spoons kind mark silver fresh texts tape tapeCount z waiting waitingCount L tx tst) [.ref (ad 0), .int n]) (QV D (tyC cA) (va_A (wH cA ad kd weight known hour swS swW waS spoons kind mark silver fresh texts tape tapeCount z waiting waitingCount L tx tst) sz) (wH cA ad kd weight knownR hourR swS swW waS spoons kind mark silverR freshR texts tape tapeCount z waiting waitingCount L tx tstR)) 0 0 (va_A (wH cA ad kd weight known hour swS swW waS spoons kind mark silver fresh texts tape tapeCount z waiting waitingCount L tx tst) sz) := by
  refine ent (cc := cX3_passHours) (maxL := 4) (ret := none) (fun A => QV D (tyC cA) A (wH cA ad kd weight knownR hourR swS swW waS spoons kind mark silverR freshR texts tape tapeCount z waiting waitingCount L tx tstR)) (by decide +kernel) rfl (Nat.le_of_ble_eq_true rfl) ?_
  intro p e s m args below meth c A ls H hx hb hml hr hlk hts hown hA hK hE hP hD hS hv hmm
  have hv : lv_has ls 4 [(0, .ref (ad 0)), (1, .int n)] := hv
  have in_3 : ∀ w ∈ u_ws RX3 TX3 18, w ∈ wsX3_passHours := fun _ h => List.mem_cons_of_mem _ (List.mem_append_left _ (List.mem_append_right _ h))
  have w_0 := hts (.fieldLink RX3 72 "SpoonsLast$House" "hour" "I") (List.mem_of_getElem? (i := 3) rfl)
  have w_1 := hts (.fieldLink RX3 75 "SpoonsLast$House" "spoons" "I") (List.mem_of_getElem? (i := 1) rfl)
  have w_2 := hts (.fieldLink RX3 33 "SpoonsLast$House" "fresh" "[J") (List.mem_of_getElem? (i := 2) rfl)
  generalize hQ : MQ below _ args s 0 0 A = Q
  have C_2 : ∀ (v1_2 : Int32) (v2_2 : Int32) (known_2 : Int32) (hour_2 : Int32) (silver_2 : Nat → Int32) (fresh_2 : Nat → Int64) (tst_2 : Nat → Nat → Int32), fX3_passHours_2 v1_2 v2_2 weight known_2 hour_2 swS swW waS spoons kind mark silver_2 fresh_2 texts L tx tst_2 = some (knownR, hourR, silverR, freshR, tstR) → WW p l e ({ frames := 5, cells := 0, slots := 0, locals := 118 } : Room) s m args below meth c D A 0 0 Q (wH cA ad kd weight known_2 hour_2 swS swW waS spoons kind mark silver_2 fresh_2 texts tape tapeCount z waiting waitingCount L tx tst_2) 4 [(0, .ref (ad 0)), (1, .int v1_2), (2, .int v2_2)] 2 [] := by
    intro v1_2 v2_2 known_2 hour_2 silver_2 fresh_2 tst_2 h
    unfold fX3_passHours_2 at h
    obtain ⟨⟨v2_2r, known_2r, hour_2r, silver_2r, fresh_2r, tst_2r⟩, ho, h⟩ := bd_ex h
    have LE : WW p l e ({ frames := 5, cells := 0, slots := 0, locals := 118 } : Room) s m args below meth c D A 0 0 Q (wH cA ad kd weight known_2r hour_2r swS swW waS spoons kind mark silver_2r fresh_2r texts tape tapeCount z waiting waitingCount L tx tst_2r) 4 [] 62 [] := by
      intro H locs ls hP hD hS hv
      have h := Option.some.inj h
      have ee0 : known_2r = knownR := congrArg (fun q => q.1) h
      have ee1 : hour_2r = hourR := congrArg (fun q => q.2.1) h
      have ee2 : silver_2r = silverR := congrArg (fun q => q.2.2.1) h
      have ee3 : fresh_2r = freshR := congrArg (fun q => q.2.2.2.1) h
      have ee4 : tst_2r = tstR := congrArg (fun q => q.2.2.2.2) h
      subst ee0
      subst ee1
      subst ee2
      subst ee3
      subst ee4
      rw [← hQ]
      exact retV hx hb hr hlk hK hP hD hS dX3_passHours_62 ⟨Nat.le_of_ble_eq_true rfl, Nat.le_of_ble_eq_true rfl⟩
    have LB : ∀ (nf : Nat) (v2_2b : Int32) (known_2b : Int32) (hour_2b : Int32) (silver_2b : Nat → Int32) (fresh_2b : Nat → Int64) (tst_2b : Nat → Nat → Int32), lp (fun σ : Int32 × Int32 × Int32 × (Nat → Int32) × (Nat → Int64) × (Nat → Nat → Int32) => fX3_passHours_2B v1_2 weight swS swW waS spoons kind mark texts L tx (σ.1) (σ.2.1) (σ.2.2.1) (σ.2.2.2.1) (σ.2.2.2.2.1) (σ.2.2.2.2.2)) nf (v2_2b, known_2b, hour_2b, silver_2b, fresh_2b, tst_2b) = some (v2_2r, known_2r, hour_2r, silver_2r, fresh_2r, tst_2r) → WW p l e ({ frames := 5, cells := 0, slots := 0, locals := 118 } : Room) s m args below meth c D A 0 0 Q (wH cA ad kd weight known_2b hour_2b swS swW waS spoons kind mark silver_2b fresh_2b texts tape tapeCount z waiting waitingCount L tx tst_2b) 4 [(0, .ref (ad 0)), (1, .int v1_2), (2, .int v2_2b)] 2 [] := by
      intro nf
      induction nf with
      | zero => intro v2_2b known_2b hour_2b silver_2b fresh_2b tst_2b hl; cases hl
      | succ nf ih =>
        intro v2_2b known_2b hour_2b silver_2b fresh_2b tst_2b hl
        obtain ⟨x, h, hl⟩ := lp_ex hl
        have h : fX3_passHours_2B v1_2 weight swS swW waS spoons kind mark texts L tx v2_2b known_2b hour_2b silver_2b fresh_2b tst_2b = some x := h
        unfold fX3_passHours_2B at h
        have C_17 : ∀ (v2_17 : Int32) (v3_17 : Int32) (known_17 : Int32) (hour_17 : Int32) (silver_17 : Nat → Int32) (fresh_17 : Nat → Int64) (tst_17 : Nat → Nat → Int32) (x : (Int32 × Int32 × Int32 × (Nat → Int32) × (Nat → Int64) × (Nat → Nat → Int32)) ⊕ (Int32 × Int32 × Int32 × (Nat → Int32) × (Nat → Int64) × (Nat → Nat → Int32))), fX3_passHours_17 v1_2 v2_17 v3_17 weight known_17 hour_17 swS swW waS spoons kind mark silver_17 fresh_17 texts L tx tst_17 = some x → lpk (fun σ : Int32 × Int32 × Int32 × (Nat → Int32) × (Nat → Int64) × (Nat → Nat → Int32) => fX3_passHours_2B v1_2 weight swS swW waS spoons kind mark texts L tx (σ.1) (σ.2.1) (σ.2.2.1) (σ.2.2.2.1) (σ.2.2.2.2.1) (σ.2.2.2.2.2)) nf x = some (v2_2r, known_2r, hour_2r, silver_2r, fresh_2r, tst_2r) → WW p l e ({ frames := 5, cells := 0, slots := 0, locals := 118 } : Room) s m args below meth c D A 0 0 Q (wH cA ad kd weight known_17 hour_17 swS swW waS spoons kind mark silver_17 fresh_17 texts tape tapeCount z waiting waitingCount L tx tst_17) 4 [(0, .ref (ad 0)), (1, .int v1_2), (2, .int v2_17), (3, .int v3_17)] 17 [] := by
          intro v2_17 v3_17 known_17 hour_17 silver_17 fresh_17 tst_17 x h hl
          unfold fX3_passHours_17 at h
          obtain ⟨⟨v3_17r, fresh_17r⟩, ho, h⟩ := bd_ex h
          have LE : WW p l e ({ frames := 5, cells := 0, slots := 0, locals := 118 } : Room) s m args below meth c D A 0 0 Q (wH cA ad kd weight known_17 hour_17 swS swW waS spoons kind mark silver_17 fresh_17r texts tape tapeCount z waiting waitingCount L tx tst_17) 4 [(0, .ref (ad 0)), (1, .int v1_2), (2, .int v2_17)] 46 [] := by
            intro H locs ls hP hD hS hv
            refine lv_aload_n hx hb dX3_passHours_46 rfl (lv_at hv 0 rfl) ?_
            refine lv_dup hx hb dX3_passHours_47 rfl ?_
            refine va_get (D := D) (ci := 3) (v := .int hour_17) (C := RX3) (T := TX3) (N := 18) hx hb hts in_3 hown hK hP 0 rfl rfl 3 (by decide) w_0 (fun _ h9 => h9) rfl dX3_passHours_48 ?_
            refine lv_iconst (v := (1 : Int32)) hx hb dX3_passHours_51 (by decide) ?_
            refine lv_iadd hx hb dX3_passHours_52 ?_
            obtain ⟨y_10, ey_10, h⟩ := bnd_ex h
            refine lv_nm ey_10 ?_
            refine va_put (D := D) (ci := 3) (v := .int y_10) (ty := .int) (C := RX3) (T := TX3) (N := 18) hx hb hts in_3 tyX3 tyX3_ok nmX3 hown hK hP hD hS 0 rfl rfl 3 (by decide) w_0 (fun _ h9 => h9) rfl (by decide +kernel) rfl rfl (Nat.le_of_ble_eq_true rfl) dX3_passHours_53 (fun H locs hP hD hS => ?_)
            have hP : va_P D vwCl (wH cA ad kd weight known_17 y_10 swS swW waS spoons kind mark silver_17 fresh_17r texts tape tapeCount z waiting waitingCount L tx tst_17) H := hP
            have hD : va_D A (wH cA ad kd weight known_17 y_10 swS swW waS spoons kind mark silver_17 fresh_17r texts tape tapeCount z waiting waitingCount L tx tst_17) := hD
            obtain ⟨y_11, ey_11, h⟩ := bnd_ex h
            refine lv_iinc (v := y_11) (lv' := [(2, .int y_11), (0, .ref (ad 0)), (1, .int v1_2)]) hx hb dX3_passHours_56 hv (k := 2) rfl (by rw [ey_11]; rfl) (by decide) rfl (fun ls hv => ?_)
            refine lv_goto (tgt := 2) hx hb dX3_passHours_59 (by decide) ?_
            cases h
            exact ih y_11 known_17 y_10 silver_17 fresh_17r tst_17 hl _ _ _ hP hD hS (lv_sub hv [1, 2, 0] rfl)
          have LB : ∀ (nf : Nat) (v3_17b : Int32) (fresh_17b : Nat → Int64), lp (fun σ : Int32 × (Nat → Int64) => fX3_passHours_17B v1_2 v2_17 weight known_17 hour_17 swS swW waS spoons kind mark silver_17 texts L tx tst_17 (σ.1) (σ.2)) nf (v3_17b, fresh_17b) = some (v3_17r, fresh_17r) → WW p l e ({ frames := 5, cells := 0, slots := 0, locals := 118 } : Room) s m args below meth c D A 0 0 Q (wH cA ad kd weight known_17 hour_17 swS swW waS spoons kind mark silver_17 fresh_17b texts tape tapeCount z waiting waitingCount L tx tst_17) 4 [(0, .ref (ad 0)), (1, .int v1_2), (2, .int v2_17), (3, .int v3_17b)] 17 [] := by
            intro nf
            induction nf with
            | zero => intro v3_17b fresh_17b hl; cases hl
            | succ nf ih =>
              intro v3_17b fresh_17b hl
              obtain ⟨x, h, hl⟩ := lp_ex hl
              have h : fX3_passHours_17B v1_2 v2_17 weight known_17 hour_17 swS swW waS spoons kind mark silver_17 texts L tx tst_17 v3_17b fresh_17b = some x := h
              unfold fX3_passHours_17B at h
              intro H locs ls hP hD hS hv
              refine lv_iload_n hx hb dX3_passHours_17 rfl (lv_at hv 3 rfl) ?_
              refine lv_aload_n hx hb dX3_passHours_18 rfl (lv_at hv 0 rfl) ?_
              refine va_get (D := D) (ci := 3) (v := .int spoons) (C := RX3) (T := TX3) (N := 18) hx hb hts in_3 hown hK hP 0 rfl rfl 7 (by decide) w_1 (fun _ h9 => h9) rfl dX3_passHours_19 ?_
              refine lv_icmp_ge (tgt := 46) hx hb dX3_passHours_22 (by decide) (fun c_12 => ?_) (fun c_12 => ?_)
              · have h := ite_t c_12 h
                cases h
                have hl : some (v3_17b, fresh_17b) = some (v3_17r, fresh_17r) := hl
                have hl := Option.some.inj hl
                have ee0 : v3_17b = v3_17r := congrArg (fun q => q.1) hl
                have ee1 : fresh_17b = fresh_17r := congrArg (fun q => q.2) hl
                subst ee0
                subst ee1
                exact LE _ _ _ hP hD hS (lv_sub hv [0, 1, 2] rfl)
              · have h := ite_f c_12 h
                refine lv_aload_n hx hb dX3_passHours_25 rfl (lv_at hv 0 rfl) ?_
                refine va_get (D := D) (ci := 3) (v := .ref (ad 12)) (C := RX3) (T := TX3) (N := 18) hx hb hts in_3 hown hK hP 0 rfl rfl 11 (by decide) w_2 (fun _ h9 => h9) rfl dX3_passHours_26 ?_
                refine lv_iload_n hx hb dX3_passHours_29 rfl (lv_at hv 3 rfl) ?_
                refine lv_aload_n hx hb dX3_passHours_30 rfl (lv_at hv 0 rfl) ?_
                refine va_get (D := D) (ci := 3) (v := .ref (ad 12)) (C := RX3) (T := TX3) (N := 18) hx hb hts in_3 hown hK hP 0 rfl rfl 11 (by decide) w_2 (fun _ h9 => h9) rfl dX3_passHours_31 ?_
                refine lv_iload_n hx hb dX3_passHours_34 rfl (lv_at hv 3 rfl) ?_
                obtain ⟨c_13, h⟩ := ckI_ex h
                refine va_lald (D := D) hx hb hK hP 8 1 rfl rfl c_13 dX3_passHours_35 ?_
                obtain ⟨r_14, hf_15, h⟩ := bd_ex h
                have sb := Sb.nil hP hD hS hA
                refine calL (va_runS (As := [.long (fresh_17b (v3_17b).toNatClampNeg)]) (rest := [.int v3_17b, .ref (ad 12)]) ⟨hx, hb, hml, hown, hts⟩ (c_X3_aged l G D cA  _ (fresh_17b (v3_17b).toNatClampNeg) r_14 hf_15) (va_cwS 1 hts gX3_passHours_X3_aged rfl rfl rfl (by decide +kernel) ⟨Nat.le_of_ble_eq_true rfl, Nat.le_of_ble_eq_true rfl⟩) (pvS hE hK hS sb) rfl rfl hv.1 rfl (lv_room (Nat.le_of_ble_eq_true rfl)) dX3_passHours_36 ⟨Nat.le_of_ble_eq_true rfl, Nat.le_of_ble_eq_true rfl⟩) hS sb (Jn.nil hP hD) (fun H locs hP hD hS => ?_)
                have hP : va_P D vwCl (wH cA ad kd weight known_17 hour_17 swS swW waS spoons kind mark silver_17 fresh_17b texts tape tapeCount z waiting waitingCount L tx tst_17) H := hP
                have hD : va_D A (wH cA ad kd weight known_17 hour_17 swS swW waS spoons kind mark silver_17 fresh_17b texts tape tapeCount z waiting waitingCount L tx tst_17) := hD
                obtain ⟨c_16, h⟩ := ckI_ex h
                obtain ⟨fresh_17, efresh_17, h⟩ := bnd_ex h
                refine va_last (D := D) hx hb hK hP hD hS 8 1 rfl rfl c_16 dX3_passHours_39 (fun H locs hP hD hS => ?_)
                rw [← efresh_17] at hP hD
                have hP : va_P D vwCl (wH cA ad kd weight known_17 hour_17 swS swW waS spoons kind mark silver_17 fresh_17 texts tape tapeCount z waiting waitingCount L tx tst_17) H := hP
                have hD : va_D A (wH cA ad kd weight known_17 hour_17 swS swW waS spoons kind mark silver_17 fresh_17 texts tape tapeCount z waiting waitingCount L tx tst_17) := hD
                obtain ⟨y_18, ey_18, h⟩ := bnd_ex h
                refine lv_iinc (v := y_18) (lv' := [(3, .int y_18), (0, .ref (ad 0)), (1, .int v1_2), (2, .int v2_17)]) hx hb dX3_passHours_40 hv (k := 3) rfl (by rw [ey_18]; rfl) (by decide) rfl (fun ls hv => ?_)
                refine lv_goto (tgt := 17) hx hb dX3_passHours_43 (by decide) ?_
                cases h
                exact ih y_18 fresh_17 hl _ _ _ hP hD hS (lv_sub hv [1, 2, 3, 0] rfl)
          exact LB FU v3_17 fresh_17 ho
        intro H locs ls hP hD hS hv
        refine lv_iload_n hx hb dX3_passHours_2 rfl (lv_at hv 2 rfl) ?_
        refine lv_iload_n hx hb dX3_passHours_3 rfl (lv_at hv 1 rfl) ?_
        refine lv_icmp_ge (tgt := 62) hx hb dX3_passHours_4 (by decide) (fun c_1 => ?_) (fun c_1 => ?_)
        · have h := ite_t c_1 h
          cases h
          have hl : some (v2_2b, known_2b, hour_2b, silver_2b, fresh_2b, tst_2b) = some (v2_2r, known_2r, hour_2r, silver_2r, fresh_2r, tst_2r) := hl
          have hl := Option.some.inj hl
          have ee0 : v2_2b = v2_2r := congrArg (fun q => q.1) hl
          have ee1 : known_2b = known_2r := congrArg (fun q => q.2.1) hl
          have ee2 : hour_2b = hour_2r := congrArg (fun q => q.2.2.1) hl
          have ee3 : silver_2b = silver_2r := congrArg (fun q => q.2.2.2.1) hl
          have ee4 : fresh_2b = fresh_2r := congrArg (fun q => q.2.2.2.2.1) hl
          have ee5 : tst_2b = tst_2r := congrArg (fun q => q.2.2.2.2.2) hl
          subst ee0
          subst ee1
          subst ee2
          subst ee3
          subst ee4
          subst ee5
          exact LE _ _ _ hP hD hS (lv_sub hv [] rfl)
        · have h := ite_f c_1 h
          refine lv_aload_n hx hb dX3_passHours_7 rfl (lv_at hv 0 rfl) ?_
          obtain ⟨⟨fresh_2, tst_3⟩, hf_4, h⟩ := bd_ex h
          have sb := Sb.same hP hD hS hA
          refine calV (va_runV (As := []) (rest := []) ⟨hx, hb, hml, hown, hts⟩ (c_X3_swallowNow l G D cA ad kd _ weight known_2b hour_2b swS swW waS spoons kind mark silver_2b fresh_2b texts tape tapeCount z waiting waitingCount L tx tst_2b fresh_2 tst_3 hf_4) (cwV 0 hts gX3_passHours_X3_swallowNow rfl rfl rfl (by decide +kernel) ⟨Nat.le_of_ble_eq_true rfl, Nat.le_of_ble_eq_true rfl⟩) (pvV hE hK hS sb (va_recv hK hP (ci := 3) (q0 := 0) rfl rfl)) rfl rfl hv.1 rfl (lv_room (Nat.le_of_ble_eq_true rfl)) dX3_passHours_8 ⟨Nat.le_of_ble_eq_true rfl, Nat.le_of_ble_eq_true rfl⟩) hS sb (Jn.same sb) (fun H locs hP hD hS => ?_)
          have hP : va_P D vwCl (wH cA ad kd weight known_2b hour_2b swS swW waS spoons kind mark silver_2b fresh_2 texts tape tapeCount z waiting waitingCount L tx tst_3) H := hP
          have hD : va_D A (wH cA ad kd weight known_2b hour_2b swS swW waS spoons kind mark silver_2b fresh_2 texts tape tapeCount z waiting waitingCount L tx tst_3) := hD
          refine lv_aload_n hx hb dX3_passHours_11 rfl (lv_at hv 0 rfl) ?_
          obtain ⟨⟨known_5, silver_6, fresh_7, tst_8⟩, hf_9, h⟩ := bd_ex h
          have sb := Sb.same hP hD hS hA
          refine calV (va_runV (As := []) (rest := []) ⟨hx, hb, hml, hown, hts⟩ (c_X3_washNow l G D cA ad kd _ weight known_2b hour_2b swS swW waS spoons kind mark silver_2b fresh_2 texts tape tapeCount z waiting waitingCount L tx tst_3 known_5 silver_6 fresh_7 tst_8 hf_9) (cwV 0 hts gX3_passHours_X3_washNow rfl rfl rfl (by decide +kernel) ⟨Nat.le_of_ble_eq_true rfl, Nat.le_of_ble_eq_true rfl⟩) (pvV hE hK hS sb (va_recv hK hP (ci := 3) (q0 := 0) rfl rfl)) rfl rfl hv.1 rfl (lv_room (Nat.le_of_ble_eq_true rfl)) dX3_passHours_12 ⟨Nat.le_of_ble_eq_true rfl, Nat.le_of_ble_eq_true rfl⟩) hS sb (Jn.same sb) (fun H locs hP hD hS => ?_)
          have hP : va_P D vwCl (wH cA ad kd weight known_5 hour_2b swS swW waS spoons kind mark silver_6 fresh_7 texts tape tapeCount z waiting waitingCount L tx tst_8) H := hP
          have hD : va_D A (wH cA ad kd weight known_5 hour_2b swS swW waS spoons kind mark silver_6 fresh_7 texts tape tapeCount z waiting waitingCount L tx tst_8) := hD
          refine lv_iconst (v := (0 : Int32)) hx hb dX3_passHours_15 (by decide) ?_
          refine lv_istore_n (lv' := [(3, .int (0 : Int32)), (0, .ref (ad 0)), (1, .int v1_2), (2, .int v2_2b)]) hx hb dX3_passHours_16 rfl hv (by decide) rfl (fun ls hv => ?_)
          exact C_17 v2_2b (0 : Int32) known_5 hour_2b silver_6 fresh_7 tst_8 _ h hl _ _ _ hP hD hS (lv_sub hv [1, 2, 3, 0] rfl)
    exact LB FU v2_2 known_2 hour_2 silver_2 fresh_2 tst_2 ho
  have hP : va_P D vwCl (wH cA ad kd weight known hour swS swW waS spoons kind mark silver fresh texts tape tapeCount z waiting waitingCount L tx tst) H := hP
  unfold fX3_passHours at h
  refine lv_iconst (v := (0 : Int32)) hx hb dX3_passHours_0 (by decide) ?_
  refine lv_istore_n (lv' := [(2, .int (0 : Int32)), (0, .ref (ad 0)), (1, .int n)]) hx hb dX3_passHours_1 rfl hv (by decide) rfl (fun ls hv => ?_)
  exact C_2 n (0 : Int32) known hour silver fresh tst h _ _ _ hP hD hS (lv_sub hv [1, 2, 0] rfl)

