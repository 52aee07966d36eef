def fX3_follow (weight : Nat → Int32) (known : Int32) (hour : Int32) (swS : Nat → Int32) (swW : Nat → Int32) (waS : Nat → Int32) (spoons : Int32) (kind : Nat → Int32) (mark : Nat → Int32) (silver : Nat → Int32) (fresh : Nat → Int64) (texts : Nat → Option Nat) (o_weight : Nat → Int32) (o_known : Int32) (o_hour : Int32) (o_swS : Nat → Int32) (o_swW : Nat → Int32) (o_waS : Nat → Int32) (o_spoons : Int32) (o_kind : Nat → Int32) (o_mark : Nat → Int32) (o_silver : Nat → Int32) (o_fresh : Nat → Int64) (o_texts : Nat → Option Nat) (L : List Nat) : Option ((Nat → Int32) × Int32 × Int32 × (Nat → Int32) × (Nat → Int32) × (Nat → Int32) × Int32 × (Nat → Int32) × (Nat → Int32) × (Nat → Int32) × (Nat → Int64) × (Nat → Option Nat)) :=
  bnd (va_cpy o_weight weight ((0 : Int32)).toNatClampNeg ((0 : Int32)).toNatClampNeg ((12 : Int32)).toNatClampNeg) fun weight_1 => bnd (va_cpy o_swS swS ((0 : Int32)).toNatClampNeg ((0 : Int32)).toNatClampNeg ((6 : Int32)).toNatClampNeg) fun swS_2 => bnd (va_cpy o_swW swW ((0 : Int32)).toNatClampNeg ((0 : Int32)).toNatClampNeg ((6 : Int32)).toNatClampNeg) fun swW_3 => bnd (va_cpy o_waS waS ((0 : Int32)).toNatClampNeg ((0 : Int32)).toNatClampNeg ((4 : Int32)).toNatClampNeg) fun waS_4 => bnd (va_cpy o_kind kind ((0 : Int32)).toNatClampNeg ((0 : Int32)).toNatClampNeg ((8 : Int32)).toNatClampNeg) fun kind_5 => bnd (va_cpy o_mark mark ((0 : Int32)).toNatClampNeg ((0 : Int32)).toNatClampNeg ((8 : Int32)).toNatClampNeg) fun mark_6 => bnd (va_cpy o_silver silver ((0 : Int32)).toNatClampNeg ((0 : Int32)).toNatClampNeg ((8 : Int32)).toNatClampNeg) fun silver_7 => bnd (va_cpy o_fresh fresh ((0 : Int32)).toNatClampNeg ((0 : Int32)).toNatClampNeg ((8 : Int32)).toNatClampNeg) fun fresh_8 => ckI (0 : Int32) 2 (onO (o_texts ((0 : Int32)).toNatClampNeg) (ckI (0 : Int32) 2 (bnd (va_up texts ((0 : Int32)).toNatClampNeg none) fun texts_12 => ckI (1 : Int32) 2 (onO (o_texts ((1 : Int32)).toNatClampNeg) (ckI (1 : Int32) 2 (bnd (va_up texts_12 ((1 : Int32)).toNatClampNeg none) fun texts_17 => some (weight_1, o_known, o_hour, swS_2, swW_3, waS_4, o_spoons, kind_5, mark_6, silver_7, fresh_8, texts_17))) (fun a_16 => ck (a_16 ∈ L) (ckI (1 : Int32) 2 (bnd (va_up texts_12 ((1 : Int32)).toNatClampNeg (some a_16)) fun texts_19 => some (weight_1, o_known, o_hour, swS_2, swW_3, waS_4, o_spoons, kind_5, mark_6, silver_7, fresh_8, texts_19))))))) (fun a_11 => ck (a_11 ∈ L) (ckI (0 : Int32) 2 (bnd (va_up texts ((0 : Int32)).toNatClampNeg (some a_11)) fun texts_22 => ckI (1 : Int32) 2 (onO (o_texts ((1 : Int32)).toNatClampNeg) (ckI (1 : Int32) 2 (bnd (va_up texts_22 ((1 : Int32)).toNatClampNeg none) fun texts_28 => some (weight_1, o_known, o_hour, swS_2, swW_3, waS_4, o_spoons, kind_5, mark_6, silver_7, fresh_8, texts_28))) (fun a_27 => ck (a_27 ∈ L) (ckI (1 : Int32) 2 (bnd (va_up texts_22 ((1 : Int32)).toNatClampNeg (some a_27)) fun texts_30 => some (weight_1, o_known, o_hour, swS_2, swW_3, waS_4, o_spoons, kind_5, mark_6, silver_7, fresh_8, texts_30)))))))))
set_option maxHeartbeats 4000000 in
set_option maxRecDepth 100000 in
theorem c_X3_follow (l : Launch) (G : Nat → Nat) (D : va_G) (cA : Nat → ClassId) (ad : Nat → Nat) (bd : Nat → Nat) (kd : Nat → Nat) (sz : Nat) (weight : Nat → Int32) (known : Int32) (hour : Int32) (swS : Nat → Int32) (swW : Nat → Int32) (waS : Nat → Int32) (spoons : Int32) (kind : Nat → Int32) (mark : Nat → Int32) (silver : Nat → Int32) (fresh : Nat → Int64) (texts : Nat → Option Nat) (tape : Nat → Int32) (tapeCount : Int32) (z : Int32) (waiting : Nat → Int32) (waitingCount : Int32) (o_weight : Nat → Int32) (o_known : Int32) (o_hour : Int32) (o_swS : Nat → Int32) (o_swW : Nat → Int32) (o_waS : Nat → Int32) (o_spoons : Int32) (o_kind : Nat → Int32) (o_mark : Nat → Int32) (o_silver : Nat → Int32) (o_fresh : Nat → Int64) (o_texts : Nat → Option Nat) (o_tape : Nat → Int32) (o_tapeCount : Int32) (o_z : Int32) (o_waiting : Nat → Int32) (o_waitingCount : Int32) (L : List Nat) (tx : Nat → TXc) (tst : Nat → Nat → Int32) (weightR : Nat → Int32) (knownR : Int32) (hourR : Int32) (swSR : Nat → Int32) (swWR : Nat → Int32) (waSR : Nat → Int32) (spoonsR : Int32) (kindR : Nat → Int32) (markR : Nat → Int32) (silverR : Nat → Int32) (freshR : Nat → Int64) (textsR : Nat → Option Nat) (h : fX3_follow weight known hour swS swW waS spoons kind mark silver fresh texts o_weight o_known o_hour o_swS o_swW o_waS o_spoons o_kind o_mark o_silver o_fresh o_texts L = some (weightR, knownR, hourR, swSR, swWR, waSR, spoonsR, kindR, markR, silverR, freshR, textsR)) : Met l yX3_follow wsX3_follow ({ frames := 1, cells := 0, slots := 0, locals := 40 } : Room) (PW G D (tyC cA) sz (wHH cA ad bd kd weight known hour swS swW waS spoons kind mark silver fresh texts tape tapeCount z waiting waitingCount o_weight o_known o_hour o_swS o_swW o_waS o_spoons o_kind o_mark o_silver o_fresh o_texts o_tape o_tapeCount o_z o_waiting o_waitingCount L tx tst) [.ref (ad 0), .ref (bd 0)]) (QV D (tyC cA) (va_A (wHH cA ad bd kd weight known hour swS swW waS spoons kind mark silver fresh texts tape tapeCount z waiting waitingCount o_weight o_known o_hour o_swS o_swW o_waS o_spoons o_kind o_mark o_silver o_fresh o_texts o_tape o_tapeCount o_z o_waiting o_waitingCount L tx tst) sz) (wHH cA ad bd kd weightR knownR hourR swSR swWR waSR spoonsR kindR markR silverR freshR textsR tape tapeCount z waiting waitingCount o_weight o_known o_hour o_swS o_swW o_waS o_spoons o_kind o_mark o_silver o_fresh o_texts o_tape o_tapeCount o_z o_waiting o_waitingCount L tx tst)) 0 0 (va_A (wHH cA ad bd kd weight known hour swS swW waS spoons kind mark silver fresh texts tape tapeCount z waiting waitingCount o_weight o_known o_hour o_swS o_swW o_waS o_spoons o_kind o_mark o_silver o_fresh o_texts o_tape o_tapeCount o_z o_waiting o_waitingCount L tx tst) sz) := by
  refine ent (cc := cX3_follow) (maxL := 2) (ret := none) (fun A => QV D (tyC cA) A (wHH cA ad bd kd weightR knownR hourR swSR swWR waSR spoonsR kindR markR silverR freshR textsR tape tapeCount z waiting waitingCount o_weight o_known o_hour o_swS o_swW o_waS o_spoons o_kind o_mark o_silver o_fresh o_texts o_tape o_tapeCount o_z o_waiting o_waitingCount L tx tst)) (by decide +kernel) rfl (Nat.le_of_ble_eq_true rfl) ?_
  intro p e s m args below meth c A ls H hx hb hml hr hlk hts hown hA hK hE hP hD hS hv hmm
  have hv : lv_has ls 2 [(0, .ref (ad 0)), (1, .ref (bd 0))] := hv
  have in_3 : ∀ w ∈ u_ws RX3 TX3 18, w ∈ wsX3_follow := fun _ h => List.mem_cons_of_mem _ (List.mem_append_right _ h)
  have w_0 := hts (.fieldLink RX3 9 "SpoonsLast$House" "weight" "[I") (List.mem_of_getElem? (i := 1) rfl)
  have w_1 := hts (.methodLink RX3 63 arraycopyName) (List.mem_of_getElem? (i := 2) rfl)
  have w_2 := hts (.native arraycopyName) (List.mem_of_getElem? (i := 3) rfl)
  have w_3 := hts (.static arraycopyName) (List.mem_of_getElem? (i := 4) rfl)
  have w_4 := hts (.initialized "java/lang/System") (List.mem_of_getElem? (i := 5) rfl)
  have w_5 := hts (.fieldLink RX3 69 "SpoonsLast$House" "known" "I") (List.mem_of_getElem? (i := 6) rfl)
  have w_6 := hts (.fieldLink RX3 72 "SpoonsLast$House" "hour" "I") (List.mem_of_getElem? (i := 7) rfl)
  have w_7 := hts (.fieldLink RX3 15 "SpoonsLast$House" "swallowSpoon" "[I") (List.mem_of_getElem? (i := 8) rfl)
  have w_8 := hts (.fieldLink RX3 18 "SpoonsLast$House" "swallowWord" "[I") (List.mem_of_getElem? (i := 9) rfl)
  have w_9 := hts (.fieldLink RX3 21 "SpoonsLast$House" "washSpoon" "[I") (List.mem_of_getElem? (i := 10) rfl)
  have w_10 := hts (.fieldLink RX3 75 "SpoonsLast$House" "spoons" "I") (List.mem_of_getElem? (i := 11) rfl)
  have w_11 := hts (.fieldLink RX3 24 "SpoonsLast$House" "kind" "[I") (List.mem_of_getElem? (i := 12) rfl)
  have w_12 := hts (.fieldLink RX3 27 "SpoonsLast$House" "mark" "[I") (List.mem_of_getElem? (i := 13) rfl)
  have w_13 := hts (.fieldLink RX3 30 "SpoonsLast$House" "silver" "[I") (List.mem_of_getElem? (i := 14) rfl)
  have w_14 := hts (.fieldLink RX3 33 "SpoonsLast$House" "fresh" "[J") (List.mem_of_getElem? (i := 15) rfl)
  have w_15 := hts (.fieldLink RX3 39 "SpoonsLast$House" "texts" "[LSpoonsLast$Text;") (List.mem_of_getElem? (i := 16) rfl)
  generalize hQ : MQ below _ args s 0 0 A = Q
  have hP : va_P D vwCl (wHH cA ad bd kd weight known hour swS swW waS spoons kind mark silver fresh texts tape tapeCount z waiting waitingCount o_weight o_known o_hour o_swS o_swW o_waS o_spoons o_kind o_mark o_silver o_fresh o_texts o_tape o_tapeCount o_z o_waiting o_waitingCount L tx tst) H := hP
  unfold fX3_follow at h
  refine lv_aload_n hx hb dX3_follow_0 rfl (lv_at hv 1 rfl) ?_
  refine va_get (D := D) (ci := 3) (v := .ref (bd 2)) (C := RX3) (T := TX3) (N := 18) hx hb hts in_3 hown hK hP 12 rfl rfl 1 (by decide) w_0 (fun _ h9 => h9) rfl dX3_follow_1 ?_
  refine lv_iconst (v := (0 : Int32)) hx hb dX3_follow_4 (by decide) ?_
  refine lv_aload_n hx hb dX3_follow_5 rfl (lv_at hv 0 rfl) ?_
  refine va_get (D := D) (ci := 3) (v := .ref (ad 2)) (C := RX3) (T := TX3) (N := 18) hx hb hts in_3 hown hK hP 0 rfl rfl 1 (by decide) w_0 (fun _ h9 => h9) rfl dX3_follow_6 ?_
  refine lv_iconst (v := (0 : Int32)) hx hb dX3_follow_9 (by decide) ?_
  refine lv_bipush (v := (12 : Int32)) hx hb dX3_follow_10 (by decide) ?_
  obtain ⟨weight_1, eweight_1, h⟩ := bnd_ex h
  refine va_copyi (D := D) hx hb (hml.trans hv.1.symm) hown w_1 w_2 w_3 w_4 hK hP hD hS 13 1 0 0 rfl rfl rfl rfl rfl (by decide) (by decide) (by decide) (by decide) (by decide) (fun _ _ => rfl) (Nat.le_of_ble_eq_true rfl) (by decide +kernel) dX3_follow_12 (fun H locs hP hD hS => ?_)
  rw [← eweight_1] at hP hD
  have hP : va_P D vwCl (wHH cA ad bd kd weight_1 known hour swS swW waS spoons kind mark silver fresh texts tape tapeCount z waiting waitingCount o_weight o_known o_hour o_swS o_swW o_waS o_spoons o_kind o_mark o_silver o_fresh o_texts o_tape o_tapeCount o_z o_waiting o_waitingCount L tx tst) H := hP
  have hD : va_D A (wHH cA ad bd kd weight_1 known hour swS swW waS spoons kind mark silver fresh texts tape tapeCount z waiting waitingCount o_weight o_known o_hour o_swS o_swW o_waS o_spoons o_kind o_mark o_silver o_fresh o_texts o_tape o_tapeCount o_z o_waiting o_waitingCount L tx tst) := hD
  refine lv_aload_n hx hb dX3_follow_15 rfl (lv_at hv 0 rfl) ?_
  refine lv_aload_n hx hb dX3_follow_16 rfl (lv_at hv 1 rfl) ?_
  refine va_get (D := D) (ci := 3) (v := .int o_known) (C := RX3) (T := TX3) (N := 18) hx hb hts in_3 hown hK hP 12 rfl rfl 2 (by decide) w_5 (fun _ h9 => h9) rfl dX3_follow_17 ?_
  refine va_put (D := D) (ci := 3) (v := .int o_known) (ty := .int) (C := RX3) (T := TX3) (N := 18) hx hb hts in_3 tyX3 tyX3_ok nmX3 hown hK hP hD hS 0 rfl rfl 2 (by decide) w_5 (fun _ h9 => h9) rfl (by decide +kernel) rfl rfl (Nat.le_of_ble_eq_true rfl) dX3_follow_20 (fun H locs hP hD hS => ?_)
  have hP : va_P D vwCl (wHH cA ad bd kd weight_1 o_known hour swS swW waS spoons kind mark silver fresh texts tape tapeCount z waiting waitingCount o_weight o_known o_hour o_swS o_swW o_waS o_spoons o_kind o_mark o_silver o_fresh o_texts o_tape o_tapeCount o_z o_waiting o_waitingCount L tx tst) H := hP
  have hD : va_D A (wHH cA ad bd kd weight_1 o_known hour swS swW waS spoons kind mark silver fresh texts tape tapeCount z waiting waitingCount o_weight o_known o_hour o_swS o_swW o_waS o_spoons o_kind o_mark o_silver o_fresh o_texts o_tape o_tapeCount o_z o_waiting o_waitingCount L tx tst) := hD
  refine lv_aload_n hx hb dX3_follow_23 rfl (lv_at hv 0 rfl) ?_
  refine lv_aload_n hx hb dX3_follow_24 rfl (lv_at hv 1 rfl) ?_
  refine va_get (D := D) (ci := 3) (v := .int o_hour) (C := RX3) (T := TX3) (N := 18) hx hb hts in_3 hown hK hP 12 rfl rfl 3 (by decide) w_6 (fun _ h9 => h9) rfl dX3_follow_25 ?_
  refine va_put (D := D) (ci := 3) (v := .int o_hour) (ty := .int) (C := RX3) (T := TX3) (N := 18) hx hb hts in_3 tyX3 tyX3_ok nmX3 hown hK hP hD hS 0 rfl rfl 3 (by decide) w_6 (fun _ h9 => h9) rfl (by decide +kernel) rfl rfl (Nat.le_of_ble_eq_true rfl) dX3_follow_28 (fun H locs hP hD hS => ?_)
  have hP : va_P D vwCl (wHH cA ad bd kd weight_1 o_known o_hour swS swW waS spoons kind mark silver fresh texts tape tapeCount z waiting waitingCount o_weight o_known o_hour o_swS o_swW o_waS o_spoons o_kind o_mark o_silver o_fresh o_texts o_tape o_tapeCount o_z o_waiting o_waitingCount L tx tst) H := hP
  have hD : va_D A (wHH cA ad bd kd weight_1 o_known o_hour swS swW waS spoons kind mark silver fresh texts tape tapeCount z waiting waitingCount o_weight o_known o_hour o_swS o_swW o_waS o_spoons o_kind o_mark o_silver o_fresh o_texts o_tape o_tapeCount o_z o_waiting o_waitingCount L tx tst) := hD
  refine lv_aload_n hx hb dX3_follow_31 rfl (lv_at hv 1 rfl) ?_
  refine va_get (D := D) (ci := 3) (v := .ref (bd 5)) (C := RX3) (T := TX3) (N := 18) hx hb hts in_3 hown hK hP 12 rfl rfl 4 (by decide) w_7 (fun _ h9 => h9) rfl dX3_follow_32 ?_
  refine lv_iconst (v := (0 : Int32)) hx hb dX3_follow_35 (by decide) ?_
  refine lv_aload_n hx hb dX3_follow_36 rfl (lv_at hv 0 rfl) ?_
  refine va_get (D := D) (ci := 3) (v := .ref (ad 5)) (C := RX3) (T := TX3) (N := 18) hx hb hts in_3 hown hK hP 0 rfl rfl 4 (by decide) w_7 (fun _ h9 => h9) rfl dX3_follow_37 ?_
  refine lv_iconst (v := (0 : Int32)) hx hb dX3_follow_40 (by decide) ?_
  refine lv_bipush (v := (6 : Int32)) hx hb dX3_follow_41 (by decide) ?_
  obtain ⟨swS_2, eswS_2, h⟩ := bnd_ex h
  refine va_copyi (D := D) hx hb (hml.trans hv.1.symm) hown w_1 w_2 w_3 w_4 hK hP hD hS 14 2 0 0 rfl rfl rfl rfl rfl (by decide) (by decide) (by decide) (by decide) (by decide) (fun _ _ => rfl) (Nat.le_of_ble_eq_true rfl) (by decide +kernel) dX3_follow_43 (fun H locs hP hD hS => ?_)
  rw [← eswS_2] at hP hD
  have hP : va_P D vwCl (wHH cA ad bd kd weight_1 o_known o_hour swS_2 swW waS spoons kind mark silver fresh texts tape tapeCount z waiting waitingCount o_weight o_known o_hour o_swS o_swW o_waS o_spoons o_kind o_mark o_silver o_fresh o_texts o_tape o_tapeCount o_z o_waiting o_waitingCount L tx tst) H := hP
  have hD : va_D A (wHH cA ad bd kd weight_1 o_known o_hour swS_2 swW waS spoons kind mark silver fresh texts tape tapeCount z waiting waitingCount o_weight o_known o_hour o_swS o_swW o_waS o_spoons o_kind o_mark o_silver o_fresh o_texts o_tape o_tapeCount o_z o_waiting o_waitingCount L tx tst) := hD
  refine lv_aload_n hx hb dX3_follow_46 rfl (lv_at hv 1 rfl) ?_
  refine va_get (D := D) (ci := 3) (v := .ref (bd 6)) (C := RX3) (T := TX3) (N := 18) hx hb hts in_3 hown hK hP 12 rfl rfl 5 (by decide) w_8 (fun _ h9 => h9) rfl dX3_follow_47 ?_
  refine lv_iconst (v := (0 : Int32)) hx hb dX3_follow_50 (by decide) ?_
  refine lv_aload_n hx hb dX3_follow_51 rfl (lv_at hv 0 rfl) ?_
  refine va_get (D := D) (ci := 3) (v := .ref (ad 6)) (C := RX3) (T := TX3) (N := 18) hx hb hts in_3 hown hK hP 0 rfl rfl 5 (by decide) w_8 (fun _ h9 => h9) rfl dX3_follow_52 ?_
  refine lv_iconst (v := (0 : Int32)) hx hb dX3_follow_55 (by decide) ?_
  refine lv_bipush (v := (6 : Int32)) hx hb dX3_follow_56 (by decide) ?_
  obtain ⟨swW_3, eswW_3, h⟩ := bnd_ex h
  refine va_copyi (D := D) hx hb (hml.trans hv.1.symm) hown w_1 w_2 w_3 w_4 hK hP hD hS 15 3 0 0 rfl rfl rfl rfl rfl (by decide) (by decide) (by decide) (by decide) (by decide) (fun _ _ => rfl) (Nat.le_of_ble_eq_true rfl) (by decide +kernel) dX3_follow_58 (fun H locs hP hD hS => ?_)
  rw [← eswW_3] at hP hD
  have hP : va_P D vwCl (wHH cA ad bd kd weight_1 o_known o_hour swS_2 swW_3 waS spoons kind mark silver fresh texts tape tapeCount z waiting waitingCount o_weight o_known o_hour o_swS o_swW o_waS o_spoons o_kind o_mark o_silver o_fresh o_texts o_tape o_tapeCount o_z o_waiting o_waitingCount L tx tst) H := hP
  have hD : va_D A (wHH cA ad bd kd weight_1 o_known o_hour swS_2 swW_3 waS spoons kind mark silver fresh texts tape tapeCount z waiting waitingCount o_weight o_known o_hour o_swS o_swW o_waS o_spoons o_kind o_mark o_silver o_fresh o_texts o_tape o_tapeCount o_z o_waiting o_waitingCount L tx tst) := hD
  refine lv_aload_n hx hb dX3_follow_61 rfl (lv_at hv 1 rfl) ?_
  refine va_get (D := D) (ci := 3) (v := .ref (bd 7)) (C := RX3) (T := TX3) (N := 18) hx hb hts in_3 hown hK hP 12 rfl rfl 6 (by decide) w_9 (fun _ h9 => h9) rfl dX3_follow_62 ?_
  refine lv_iconst (v := (0 : Int32)) hx hb dX3_follow_65 (by decide) ?_
  refine lv_aload_n hx hb dX3_follow_66 rfl (lv_at hv 0 rfl) ?_
  refine va_get (D := D) (ci := 3) (v := .ref (ad 7)) (C := RX3) (T := TX3) (N := 18) hx hb hts in_3 hown hK hP 0 rfl rfl 6 (by decide) w_9 (fun _ h9 => h9) rfl dX3_follow_67 ?_
  refine lv_iconst (v := (0 : Int32)) hx hb dX3_follow_70 (by decide) ?_
  refine lv_iconst (v := (4 : Int32)) hx hb dX3_follow_71 (by decide) ?_
  obtain ⟨waS_4, ewaS_4, h⟩ := bnd_ex h
  refine va_copyi (D := D) hx hb (hml.trans hv.1.symm) hown w_1 w_2 w_3 w_4 hK hP hD hS 16 4 0 0 rfl rfl rfl rfl rfl (by decide) (by decide) (by decide) (by decide) (by decide) (fun _ _ => rfl) (Nat.le_of_ble_eq_true rfl) (by decide +kernel) dX3_follow_72 (fun H locs hP hD hS => ?_)
  rw [← ewaS_4] at hP hD
  have hP : va_P D vwCl (wHH cA ad bd kd weight_1 o_known o_hour swS_2 swW_3 waS_4 spoons kind mark silver fresh texts tape tapeCount z waiting waitingCount o_weight o_known o_hour o_swS o_swW o_waS o_spoons o_kind o_mark o_silver o_fresh o_texts o_tape o_tapeCount o_z o_waiting o_waitingCount L tx tst) H := hP
  have hD : va_D A (wHH cA ad bd kd weight_1 o_known o_hour swS_2 swW_3 waS_4 spoons kind mark silver fresh texts tape tapeCount z waiting waitingCount o_weight o_known o_hour o_swS o_swW o_waS o_spoons o_kind o_mark o_silver o_fresh o_texts o_tape o_tapeCount o_z o_waiting o_waitingCount L tx tst) := hD
  refine lv_aload_n hx hb dX3_follow_75 rfl (lv_at hv 0 rfl) ?_
  refine lv_aload_n hx hb dX3_follow_76 rfl (lv_at hv 1 rfl) ?_
  refine va_get (D := D) (ci := 3) (v := .int o_spoons) (C := RX3) (T := TX3) (N := 18) hx hb hts in_3 hown hK hP 12 rfl rfl 7 (by decide) w_10 (fun _ h9 => h9) rfl dX3_follow_77 ?_
  refine va_put (D := D) (ci := 3) (v := .int o_spoons) (ty := .int) (C := RX3) (T := TX3) (N := 18) hx hb hts in_3 tyX3 tyX3_ok nmX3 hown hK hP hD hS 0 rfl rfl 7 (by decide) w_10 (fun _ h9 => h9) rfl (by decide +kernel) rfl rfl (Nat.le_of_ble_eq_true rfl) dX3_follow_80 (fun H locs hP hD hS => ?_)
  have hP : va_P D vwCl (wHH cA ad bd kd weight_1 o_known o_hour swS_2 swW_3 waS_4 o_spoons kind mark silver fresh texts tape tapeCount z waiting waitingCount o_weight o_known o_hour o_swS o_swW o_waS o_spoons o_kind o_mark o_silver o_fresh o_texts o_tape o_tapeCount o_z o_waiting o_waitingCount L tx tst) H := hP
  have hD : va_D A (wHH cA ad bd kd weight_1 o_known o_hour swS_2 swW_3 waS_4 o_spoons kind mark silver fresh texts tape tapeCount z waiting waitingCount o_weight o_known o_hour o_swS o_swW o_waS o_spoons o_kind o_mark o_silver o_fresh o_texts o_tape o_tapeCount o_z o_waiting o_waitingCount L tx tst) := hD
  refine lv_aload_n hx hb dX3_follow_83 rfl (lv_at hv 1 rfl) ?_
  refine va_get (D := D) (ci := 3) (v := .ref (bd 9)) (C := RX3) (T := TX3) (N := 18) hx hb hts in_3 hown hK hP 12 rfl rfl 8 (by decide) w_11 (fun _ h9 => h9) rfl dX3_follow_84 ?_
  refine lv_iconst (v := (0 : Int32)) hx hb dX3_follow_87 (by decide) ?_
  refine lv_aload_n hx hb dX3_follow_88 rfl (lv_at hv 0 rfl) ?_
  refine va_get (D := D) (ci := 3) (v := .ref (ad 9)) (C := RX3) (T := TX3) (N := 18) hx hb hts in_3 hown hK hP 0 rfl rfl 8 (by decide) w_11 (fun _ h9 => h9) rfl dX3_follow_89 ?_
  refine lv_iconst (v := (0 : Int32)) hx hb dX3_follow_92 (by decide) ?_
  refine lv_bipush (v := (8 : Int32)) hx hb dX3_follow_93 (by decide) ?_
  obtain ⟨kind_5, ekind_5, h⟩ := bnd_ex h
  refine va_copyi (D := D) hx hb (hml.trans hv.1.symm) hown w_1 w_2 w_3 w_4 hK hP hD hS 17 5 0 0 rfl rfl rfl rfl rfl (by decide) (by decide) (by decide) (by decide) (by decide) (fun _ _ => rfl) (Nat.le_of_ble_eq_true rfl) (by decide +kernel) dX3_follow_95 (fun H locs hP hD hS => ?_)
  rw [← ekind_5] at hP hD
  have hP : va_P D vwCl (wHH cA ad bd kd weight_1 o_known o_hour swS_2 swW_3 waS_4 o_spoons kind_5 mark silver fresh texts tape tapeCount z waiting waitingCount o_weight o_known o_hour o_swS o_swW o_waS o_spoons o_kind o_mark o_silver o_fresh o_texts o_tape o_tapeCount o_z o_waiting o_waitingCount L tx tst) H := hP
  have hD : va_D A (wHH cA ad bd kd weight_1 o_known o_hour swS_2 swW_3 waS_4 o_spoons kind_5 mark silver fresh texts tape tapeCount z waiting waitingCount o_weight o_known o_hour o_swS o_swW o_waS o_spoons o_kind o_mark o_silver o_fresh o_texts o_tape o_tapeCount o_z o_waiting o_waitingCount L tx tst) := hD
  refine lv_aload_n hx hb dX3_follow_98 rfl (lv_at hv 1 rfl) ?_
  refine va_get (D := D) (ci := 3) (v := .ref (bd 10)) (C := RX3) (T := TX3) (N := 18) hx hb hts in_3 hown hK hP 12 rfl rfl 9 (by decide) w_12 (fun _ h9 => h9) rfl dX3_follow_99 ?_
  refine lv_iconst (v := (0 : Int32)) hx hb dX3_follow_102 (by decide) ?_
  refine lv_aload_n hx hb dX3_follow_103 rfl (lv_at hv 0 rfl) ?_
  refine va_get (D := D) (ci := 3) (v := .ref (ad 10)) (C := RX3) (T := TX3) (N := 18) hx hb hts in_3 hown hK hP 0 rfl rfl 9 (by decide) w_12 (fun _ h9 => h9) rfl dX3_follow_104 ?_
  refine lv_iconst (v := (0 : Int32)) hx hb dX3_follow_107 (by decide) ?_
  refine lv_bipush (v := (8 : Int32)) hx hb dX3_follow_108 (by decide) ?_
  obtain ⟨mark_6, emark_6, h⟩ := bnd_ex h
  refine va_copyi (D := D) hx hb (hml.trans hv.1.symm) hown w_1 w_2 w_3 w_4 hK hP hD hS 18 6 0 0 rfl rfl rfl rfl rfl (by decide) (by decide) (by decide) (by decide) (by decide) (fun _ _ => rfl) (Nat.le_of_ble_eq_true rfl) (by decide +kernel) dX3_follow_110 (fun H locs hP hD hS => ?_)
  rw [← emark_6] at hP hD
  have hP : va_P D vwCl (wHH cA ad bd kd weight_1 o_known o_hour swS_2 swW_3 waS_4 o_spoons kind_5 mark_6 silver fresh texts tape tapeCount z waiting waitingCount o_weight o_known o_hour o_swS o_swW o_waS o_spoons o_kind o_mark o_silver o_fresh o_texts o_tape o_tapeCount o_z o_waiting o_waitingCount L tx tst) H := hP
  have hD : va_D A (wHH cA ad bd kd weight_1 o_known o_hour swS_2 swW_3 waS_4 o_spoons kind_5 mark_6 silver fresh texts tape tapeCount z waiting waitingCount o_weight o_known o_hour o_swS o_swW o_waS o_spoons o_kind o_mark o_silver o_fresh o_texts o_tape o_tapeCount o_z o_waiting o_waitingCount L tx tst) := hD
  refine lv_aload_n hx hb dX3_follow_113 rfl (lv_at hv 1 rfl) ?_
  refine va_get (D := D) (ci := 3) (v := .ref (bd 11)) (C := RX3) (T := TX3) (N := 18) hx hb hts in_3 hown hK hP 12 rfl rfl 10 (by decide) w_13 (fun _ h9 => h9) rfl dX3_follow_114 ?_
  refine lv_iconst (v := (0 : Int32)) hx hb dX3_follow_117 (by decide) ?_
  refine lv_aload_n hx hb dX3_follow_118 rfl (lv_at hv 0 rfl) ?_
  refine va_get (D := D) (ci := 3) (v := .ref (ad 11)) (C := RX3) (T := TX3) (N := 18) hx hb hts in_3 hown hK hP 0 rfl rfl 10 (by decide) w_13 (fun _ h9 => h9) rfl dX3_follow_119 ?_
  refine lv_iconst (v := (0 : Int32)) hx hb dX3_follow_122 (by decide) ?_
  refine lv_bipush (v := (8 : Int32)) hx hb dX3_follow_123 (by decide) ?_
  obtain ⟨silver_7, esilver_7, h⟩ := bnd_ex h
  refine va_copyi (D := D) hx hb (hml.trans hv.1.symm) hown w_1 w_2 w_3 w_4 hK hP hD hS 19 7 0 0 rfl rfl rfl rfl rfl (by decide) (by decide) (by decide) (by decide) (by decide) (fun _ _ => rfl) (Nat.le_of_ble_eq_true rfl) (by decide +kernel) dX3_follow_125 (fun H locs hP hD hS => ?_)
  rw [← esilver_7] at hP hD
  have hP : va_P D vwCl (wHH cA ad bd kd weight_1 o_known o_hour swS_2 swW_3 waS_4 o_spoons kind_5 mark_6 silver_7 fresh texts tape tapeCount z waiting waitingCount o_weight o_known o_hour o_swS o_swW o_waS o_spoons o_kind o_mark o_silver o_fresh o_texts o_tape o_tapeCount o_z o_waiting o_waitingCount L tx tst) H := hP
  have hD : va_D A (wHH cA ad bd kd weight_1 o_known o_hour swS_2 swW_3 waS_4 o_spoons kind_5 mark_6 silver_7 fresh texts tape tapeCount z waiting waitingCount o_weight o_known o_hour o_swS o_swW o_waS o_spoons o_kind o_mark o_silver o_fresh o_texts o_tape o_tapeCount o_z o_waiting o_waitingCount L tx tst) := hD
  refine lv_aload_n hx hb dX3_follow_128 rfl (lv_at hv 1 rfl) ?_
  refine va_get (D := D) (ci := 3) (v := .ref (bd 12)) (C := RX3) (T := TX3) (N := 18) hx hb hts in_3 hown hK hP 12 rfl rfl 11 (by decide) w_14 (fun _ h9 => h9) rfl dX3_follow_129 ?_
  refine lv_iconst (v := (0 : Int32)) hx hb dX3_follow_132 (by decide) ?_
  refine lv_aload_n hx hb dX3_follow_133 rfl (lv_at hv 0 rfl) ?_
  refine va_get (D := D) (ci := 3) (v := .ref (ad 12)) (C := RX3) (T := TX3) (N := 18) hx hb hts in_3 hown hK hP 0 rfl rfl 11 (by decide) w_14 (fun _ h9 => h9) rfl dX3_follow_134 ?_
  refine lv_iconst (v := (0 : Int32)) hx hb dX3_follow_137 (by decide) ?_
  refine lv_bipush (v := (8 : Int32)) hx hb dX3_follow_138 (by decide) ?_
  obtain ⟨fresh_8, efresh_8, h⟩ := bnd_ex h
  refine va_copyl (D := D) hx hb (hml.trans hv.1.symm) hown w_1 w_2 w_3 w_4 hK hP hD hS 20 8 1 1 rfl rfl rfl rfl rfl (by decide) (by decide) (by decide) (by decide) (by decide) (fun _ _ => rfl) (Nat.le_of_ble_eq_true rfl) (by decide +kernel) dX3_follow_140 (fun H locs hP hD hS => ?_)
  rw [← efresh_8] at hP hD
  have hP : va_P D vwCl (wHH cA ad bd kd weight_1 o_known o_hour swS_2 swW_3 waS_4 o_spoons kind_5 mark_6 silver_7 fresh_8 texts tape tapeCount z waiting waitingCount o_weight o_known o_hour o_swS o_swW o_waS o_spoons o_kind o_mark o_silver o_fresh o_texts o_tape o_tapeCount o_z o_waiting o_waitingCount L tx tst) H := hP
  have hD : va_D A (wHH cA ad bd kd weight_1 o_known o_hour swS_2 swW_3 waS_4 o_spoons kind_5 mark_6 silver_7 fresh_8 texts tape tapeCount z waiting waitingCount o_weight o_known o_hour o_swS o_swW o_waS o_spoons o_kind o_mark o_silver o_fresh o_texts o_tape o_tapeCount o_z o_waiting o_waitingCount L tx tst) := hD
  refine lv_aload_n hx hb dX3_follow_143 rfl (lv_at hv 0 rfl) ?_
  refine va_get (D := D) (ci := 3) (v := .ref (ad 13)) (C := RX3) (T := TX3) (N := 18) hx hb hts in_3 hown hK hP 0 rfl rfl 12 (by decide) w_15 (fun _ h9 => h9) rfl dX3_follow_144 ?_
  refine lv_iconst (v := (0 : Int32)) hx hb dX3_follow_147 (by decide) ?_
  refine lv_aload_n hx hb dX3_follow_148 rfl (lv_at hv 1 rfl) ?_
  refine va_get (D := D) (ci := 3) (v := .ref (bd 13)) (C := RX3) (T := TX3) (N := 18) hx hb hts in_3 hown hK hP 12 rfl rfl 12 (by decide) w_15 (fun _ h9 => h9) rfl dX3_follow_149 ?_
  refine lv_iconst (v := (0 : Int32)) hx hb dX3_follow_152 (by decide) ?_
  obtain ⟨c_9, h⟩ := ckI_ex h
  refine va_aldq (D := D) (f := o_texts) hx hb hK hP 21 3 rfl rfl c_9 dX3_follow_153 ?_
  rcases onO_ex h with ⟨ho_10, h⟩ | ⟨a_11, ho_10, h⟩
  · rw [ho_10]
    refine W.eq (g2 := F0 m 154 ls [.null, .int (0 : Int32), .ref (ad 13)]) rfl ?_
    obtain ⟨c_13, h⟩ := ckI_ex h
    obtain ⟨texts_12, etexts_12, h⟩ := bnd_ex h
    refine va_astqN (D := D) hx hb hK hP hD hS 9 3 rfl rfl c_13 dX3_follow_154 (fun H locs hP hD hS => ?_)
    rw [← etexts_12] at hP hD
    have hP : va_P D vwCl (wHH cA ad bd kd weight_1 o_known o_hour swS_2 swW_3 waS_4 o_spoons kind_5 mark_6 silver_7 fresh_8 texts_12 tape tapeCount z waiting waitingCount o_weight o_known o_hour o_swS o_swW o_waS o_spoons o_kind o_mark o_silver o_fresh o_texts o_tape o_tapeCount o_z o_waiting o_waitingCount L tx tst) H := hP
    have hD : va_D A (wHH cA ad bd kd weight_1 o_known o_hour swS_2 swW_3 waS_4 o_spoons kind_5 mark_6 silver_7 fresh_8 texts_12 tape tapeCount z waiting waitingCount o_weight o_known o_hour o_swS o_swW o_waS o_spoons o_kind o_mark o_silver o_fresh o_texts o_tape o_tapeCount o_z o_waiting o_waitingCount L tx tst) := hD
    refine lv_aload_n hx hb dX3_follow_155 rfl (lv_at hv 0 rfl) ?_
    refine va_get (D := D) (ci := 3) (v := .ref (ad 13)) (C := RX3) (T := TX3) (N := 18) hx hb hts in_3 hown hK hP 0 rfl rfl 12 (by decide) w_15 (fun _ h9 => h9) rfl dX3_follow_156 ?_
    refine lv_iconst (v := (1 : Int32)) hx hb dX3_follow_159 (by decide) ?_
    refine lv_aload_n hx hb dX3_follow_160 rfl (lv_at hv 1 rfl) ?_
    refine va_get (D := D) (ci := 3) (v := .ref (bd 13)) (C := RX3) (T := TX3) (N := 18) hx hb hts in_3 hown hK hP 12 rfl rfl 12 (by decide) w_15 (fun _ h9 => h9) rfl dX3_follow_161 ?_
    refine lv_iconst (v := (1 : Int32)) hx hb dX3_follow_164 (by decide) ?_
    obtain ⟨c_14, h⟩ := ckI_ex h
    refine va_aldq (D := D) (f := o_texts) hx hb hK hP 21 3 rfl rfl c_14 dX3_follow_165 ?_
    rcases onO_ex h with ⟨ho_15, h⟩ | ⟨a_16, ho_15, h⟩
    · rw [ho_15]
      refine W.eq (g2 := F0 m 166 ls [.null, .int (1 : Int32), .ref (ad 13)]) rfl ?_
      obtain ⟨c_18, h⟩ := ckI_ex h
      obtain ⟨texts_17, etexts_17, h⟩ := bnd_ex h
      refine va_astqN (D := D) hx hb hK hP hD hS 9 3 rfl rfl c_18 dX3_follow_166 (fun H locs hP hD hS => ?_)
      rw [← etexts_17] at hP hD
      have hP : va_P D vwCl (wHH cA ad bd kd weight_1 o_known o_hour swS_2 swW_3 waS_4 o_spoons kind_5 mark_6 silver_7 fresh_8 texts_17 tape tapeCount z waiting waitingCount o_weight o_known o_hour o_swS o_swW o_waS o_spoons o_kind o_mark o_silver o_fresh o_texts o_tape o_tapeCount o_z o_waiting o_waitingCount L tx tst) H := hP
      have hD : va_D A (wHH cA ad bd kd weight_1 o_known o_hour swS_2 swW_3 waS_4 o_spoons kind_5 mark_6 silver_7 fresh_8 texts_17 tape tapeCount z waiting waitingCount o_weight o_known o_hour o_swS o_swW o_waS o_spoons o_kind o_mark o_silver o_fresh o_texts o_tape o_tapeCount o_z o_waiting o_waitingCount L tx tst) := hD
      have h := Option.some.inj h
      have ee0 : weight_1 = weightR := congrArg (fun q => q.1) h
      have ee1 : o_known = knownR := congrArg (fun q => q.2.1) h
      have ee2 : o_hour = hourR := congrArg (fun q => q.2.2.1) h
      have ee3 : swS_2 = swSR := congrArg (fun q => q.2.2.2.1) h
      have ee4 : swW_3 = swWR := congrArg (fun q => q.2.2.2.2.1) h
      have ee5 : waS_4 = waSR := congrArg (fun q => q.2.2.2.2.2.1) h
      have ee6 : o_spoons = spoonsR := congrArg (fun q => q.2.2.2.2.2.2.1) h
      have ee7 : kind_5 = kindR := congrArg (fun q => q.2.2.2.2.2.2.2.1) h
      have ee8 : mark_6 = markR := congrArg (fun q => q.2.2.2.2.2.2.2.2.1) h
      have ee9 : silver_7 = silverR := congrArg (fun q => q.2.2.2.2.2.2.2.2.2.1) h
      have ee10 : fresh_8 = freshR := congrArg (fun q => q.2.2.2.2.2.2.2.2.2.2.1) h
      have ee11 : texts_17 = textsR := congrArg (fun q => q.2.2.2.2.2.2.2.2.2.2.2) h
      subst ee0
      subst ee1
      subst ee2
      subst ee3
      subst ee4
      subst ee5
      subst ee6
      subst ee7
      subst ee8
      subst ee9
      subst ee10
      subst ee11
      rw [← hQ]
      exact retV hx hb hr hlk hK hP hD hS dX3_follow_167 ⟨Nat.le_of_ble_eq_true rfl, Nat.le_of_ble_eq_true rfl⟩
    · rw [ho_15]
      refine W.eq (g2 := F0 m 166 ls [.ref a_16, .int (1 : Int32), .ref (ad 13)]) rfl ?_
      obtain ⟨hm_20, h⟩ := ck_ex h
      obtain ⟨k9, hk9⟩ : ∃ k : Nat, (wHH cA ad bd kd weight_1 o_known o_hour swS_2 swW_3 waS_4 o_spoons kind_5 mark_6 silver_7 fresh_8 texts_12 tape tapeCount z waiting waitingCount o_weight o_known o_hour o_swS o_swW o_waS o_spoons o_kind o_mark o_silver o_fresh o_texts o_tape o_tapeCount o_z o_waiting o_waitingCount L tx tst)[k]? = some (a_16, .inr (9, [.ref (tB (tx a_16)), .ref (tN (tx a_16)), .int (tA (tx a_16)), .ref (tC (tx a_16)), .int (tL (tx a_16)), .ref (tS (tx a_16)), .int (tF (tx a_16))])) := pool_at hm_20
      obtain ⟨c_21, h⟩ := ckI_ex h
      obtain ⟨texts_19, etexts_19, h⟩ := bnd_ex h
      refine va_astq (D := D) (r := (RX9, TX9, 7)) hx hb hK hP hD hS 9 3 k9 9 rfl rfl hk9 rfl c_21 dX3_follow_166 (fun H locs hP hD hS => ?_)
      rw [← etexts_19] at hP hD
      have hP : va_P D vwCl (wHH cA ad bd kd weight_1 o_known o_hour swS_2 swW_3 waS_4 o_spoons kind_5 mark_6 silver_7 fresh_8 texts_19 tape tapeCount z waiting waitingCount o_weight o_known o_hour o_swS o_swW o_waS o_spoons o_kind o_mark o_silver o_fresh o_texts o_tape o_tapeCount o_z o_waiting o_waitingCount L tx tst) H := hP
      have hD : va_D A (wHH cA ad bd kd weight_1 o_known o_hour swS_2 swW_3 waS_4 o_spoons kind_5 mark_6 silver_7 fresh_8 texts_19 tape tapeCount z waiting waitingCount o_weight o_known o_hour o_swS o_swW o_waS o_spoons o_kind o_mark o_silver o_fresh o_texts o_tape o_tapeCount o_z o_waiting o_waitingCount L tx tst) := hD
      have h := Option.some.inj h
      have ee0 : weight_1 = weightR := congrArg (fun q => q.1) h
      have ee1 : o_known = knownR := congrArg (fun q => q.2.1) h
      have ee2 : o_hour = hourR := congrArg (fun q => q.2.2.1) h
      have ee3 : swS_2 = swSR := congrArg (fun q => q.2.2.2.1) h
      have ee4 : swW_3 = swWR := congrArg (fun q => q.2.2.2.2.1) h
      have ee5 : waS_4 = waSR := congrArg (fun q => q.2.2.2.2.2.1) h
      have ee6 : o_spoons = spoonsR := congrArg (fun q => q.2.2.2.2.2.2.1) h
      have ee7 : kind_5 = kindR := congrArg (fun q => q.2.2.2.2.2.2.2.1) h
      have ee8 : mark_6 = markR := congrArg (fun q => q.2.2.2.2.2.2.2.2.1) h
      have ee9 : silver_7 = silverR := congrArg (fun q => q.2.2.2.2.2.2.2.2.2.1) h
      have ee10 : fresh_8 = freshR := congrArg (fun q => q.2.2.2.2.2.2.2.2.2.2.1) h
      have ee11 : texts_19 = textsR := congrArg (fun q => q.2.2.2.2.2.2.2.2.2.2.2) h
      subst ee0
      subst ee1
      subst ee2
      subst ee3
      subst ee4
      subst ee5
      subst ee6
      subst ee7
      subst ee8
      subst ee9
      subst ee10
      subst ee11
      rw [← hQ]
      exact retV hx hb hr hlk hK hP hD hS dX3_follow_167 ⟨Nat.le_of_ble_eq_true rfl, Nat.le_of_ble_eq_true rfl⟩
  · rw [ho_10]
    refine W.eq (g2 := F0 m 154 ls [.ref a_11, .int (0 : Int32), .ref (ad 13)]) rfl ?_
    obtain ⟨hm_23, h⟩ := ck_ex h
    obtain ⟨k9, hk9⟩ : ∃ k : Nat, (wHH cA ad bd kd weight_1 o_known o_hour swS_2 swW_3 waS_4 o_spoons kind_5 mark_6 silver_7 fresh_8 texts tape tapeCount z waiting waitingCount o_weight o_known o_hour o_swS o_swW o_waS o_spoons o_kind o_mark o_silver o_fresh o_texts o_tape o_tapeCount o_z o_waiting o_waitingCount L tx tst)[k]? = some (a_11, .inr (9, [.ref (tB (tx a_11)), .ref (tN (tx a_11)), .int (tA (tx a_11)), .ref (tC (tx a_11)), .int (tL (tx a_11)), .ref (tS (tx a_11)), .int (tF (tx a_11))])) := pool_at hm_23
    obtain ⟨c_24, h⟩ := ckI_ex h
    obtain ⟨texts_22, etexts_22, h⟩ := bnd_ex h
    refine va_astq (D := D) (r := (RX9, TX9, 7)) hx hb hK hP hD hS 9 3 k9 9 rfl rfl hk9 rfl c_24 dX3_follow_154 (fun H locs hP hD hS => ?_)
    rw [← etexts_22] at hP hD
    have hP : va_P D vwCl (wHH cA ad bd kd weight_1 o_known o_hour swS_2 swW_3 waS_4 o_spoons kind_5 mark_6 silver_7 fresh_8 texts_22 tape tapeCount z waiting waitingCount o_weight o_known o_hour o_swS o_swW o_waS o_spoons o_kind o_mark o_silver o_fresh o_texts o_tape o_tapeCount o_z o_waiting o_waitingCount L tx tst) H := hP
    have hD : va_D A (wHH cA ad bd kd weight_1 o_known o_hour swS_2 swW_3 waS_4 o_spoons kind_5 mark_6 silver_7 fresh_8 texts_22 tape tapeCount z waiting waitingCount o_weight o_known o_hour o_swS o_swW o_waS o_spoons o_kind o_mark o_silver o_fresh o_texts o_tape o_tapeCount o_z o_waiting o_waitingCount L tx tst) := hD
    refine lv_aload_n hx hb dX3_follow_155 rfl (lv_at hv 0 rfl) ?_
    refine va_get (D := D) (ci := 3) (v := .ref (ad 13)) (C := RX3) (T := TX3) (N := 18) hx hb hts in_3 hown hK hP 0 rfl rfl 12 (by decide) w_15 (fun _ h9 => h9) rfl dX3_follow_156 ?_
    refine lv_iconst (v := (1 : Int32)) hx hb dX3_follow_159 (by decide) ?_
    refine lv_aload_n hx hb dX3_follow_160 rfl (lv_at hv 1 rfl) ?_
    refine va_get (D := D) (ci := 3) (v := .ref (bd 13)) (C := RX3) (T := TX3) (N := 18) hx hb hts in_3 hown hK hP 12 rfl rfl 12 (by decide) w_15 (fun _ h9 => h9) rfl dX3_follow_161 ?_
    refine lv_iconst (v := (1 : Int32)) hx hb dX3_follow_164 (by decide) ?_
    obtain ⟨c_25, h⟩ := ckI_ex h
    refine va_aldq (D := D) (f := o_texts) hx hb hK hP 21 3 rfl rfl c_25 dX3_follow_165 ?_
    rcases onO_ex h with ⟨ho_26, h⟩ | ⟨a_27, ho_26, h⟩
    · rw [ho_26]
      refine W.eq (g2 := F0 m 166 ls [.null, .int (1 : Int32), .ref (ad 13)]) rfl ?_
      obtain ⟨c_29, h⟩ := ckI_ex h
      obtain ⟨texts_28, etexts_28, h⟩ := bnd_ex h
      refine va_astqN (D := D) hx hb hK hP hD hS 9 3 rfl rfl c_29 dX3_follow_166 (fun H locs hP hD hS => ?_)
      rw [← etexts_28] at hP hD
      have hP : va_P D vwCl (wHH cA ad bd kd weight_1 o_known o_hour swS_2 swW_3 waS_4 o_spoons kind_5 mark_6 silver_7 fresh_8 texts_28 tape tapeCount z waiting waitingCount o_weight o_known o_hour o_swS o_swW o_waS o_spoons o_kind o_mark o_silver o_fresh o_texts o_tape o_tapeCount o_z o_waiting o_waitingCount L tx tst) H := hP
      have hD : va_D A (wHH cA ad bd kd weight_1 o_known o_hour swS_2 swW_3 waS_4 o_spoons kind_5 mark_6 silver_7 fresh_8 texts_28 tape tapeCount z waiting waitingCount o_weight o_known o_hour o_swS o_swW o_waS o_spoons o_kind o_mark o_silver o_fresh o_texts o_tape o_tapeCount o_z o_waiting o_waitingCount L tx tst) := hD
      have h := Option.some.inj h
      have ee0 : weight_1 = weightR := congrArg (fun q => q.1) h
      have ee1 : o_known = knownR := congrArg (fun q => q.2.1) h
      have ee2 : o_hour = hourR := congrArg (fun q => q.2.2.1) h
      have ee3 : swS_2 = swSR := congrArg (fun q => q.2.2.2.1) h
      have ee4 : swW_3 = swWR := congrArg (fun q => q.2.2.2.2.1) h
      have ee5 : waS_4 = waSR := congrArg (fun q => q.2.2.2.2.2.1) h
      have ee6 : o_spoons = spoonsR := congrArg (fun q => q.2.2.2.2.2.2.1) h
      have ee7 : kind_5 = kindR := congrArg (fun q => q.2.2.2.2.2.2.2.1) h
      have ee8 : mark_6 = markR := congrArg (fun q => q.2.2.2.2.2.2.2.2.1) h
      have ee9 : silver_7 = silverR := congrArg (fun q => q.2.2.2.2.2.2.2.2.2.1) h
      have ee10 : fresh_8 = freshR := congrArg (fun q => q.2.2.2.2.2.2.2.2.2.2.1) h
      have ee11 : texts_28 = textsR := congrArg (fun q => q.2.2.2.2.2.2.2.2.2.2.2) h
      subst ee0
      subst ee1
      subst ee2
      subst ee3
      subst ee4
      subst ee5
      subst ee6
      subst ee7
      subst ee8
      subst ee9
      subst ee10
      subst ee11
      rw [← hQ]
      exact retV hx hb hr hlk hK hP hD hS dX3_follow_167 ⟨Nat.le_of_ble_eq_true rfl, Nat.le_of_ble_eq_true rfl⟩
    · rw [ho_26]
      refine W.eq (g2 := F0 m 166 ls [.ref a_27, .int (1 : Int32), .ref (ad 13)]) rfl ?_
      obtain ⟨hm_31, h⟩ := ck_ex h
      obtain ⟨k9, hk9⟩ : ∃ k : Nat, (wHH cA ad bd kd weight_1 o_known o_hour swS_2 swW_3 waS_4 o_spoons kind_5 mark_6 silver_7 fresh_8 texts_22 tape tapeCount z waiting waitingCount o_weight o_known o_hour o_swS o_swW o_waS o_spoons o_kind o_mark o_silver o_fresh o_texts o_tape o_tapeCount o_z o_waiting o_waitingCount L tx tst)[k]? = some (a_27, .inr (9, [.ref (tB (tx a_27)), .ref (tN (tx a_27)), .int (tA (tx a_27)), .ref (tC (tx a_27)), .int (tL (tx a_27)), .ref (tS (tx a_27)), .int (tF (tx a_27))])) := pool_at hm_31
      obtain ⟨c_32, h⟩ := ckI_ex h
      obtain ⟨texts_30, etexts_30, h⟩ := bnd_ex h
      refine va_astq (D := D) (r := (RX9, TX9, 7)) hx hb hK hP hD hS 9 3 k9 9 rfl rfl hk9 rfl c_32 dX3_follow_166 (fun H locs hP hD hS => ?_)
      rw [← etexts_30] at hP hD
      have hP : va_P D vwCl (wHH cA ad bd kd weight_1 o_known o_hour swS_2 swW_3 waS_4 o_spoons kind_5 mark_6 silver_7 fresh_8 texts_30 tape tapeCount z waiting waitingCount o_weight o_known o_hour o_swS o_swW o_waS o_spoons o_kind o_mark o_silver o_fresh o_texts o_tape o_tapeCount o_z o_waiting o_waitingCount L tx tst) H := hP
      have hD : va_D A (wHH cA ad bd kd weight_1 o_known o_hour swS_2 swW_3 waS_4 o_spoons kind_5 mark_6 silver_7 fresh_8 texts_30 tape tapeCount z waiting waitingCount o_weight o_known o_hour o_swS o_swW o_waS o_spoons o_kind o_mark o_silver o_fresh o_texts o_tape o_tapeCount o_z o_waiting o_waitingCount L tx tst) := hD
      have h := Option.some.inj h
      have ee0 : weight_1 = weightR := congrArg (fun q => q.1) h
      have ee1 : o_known = knownR := congrArg (fun q => q.2.1) h
      have ee2 : o_hour = hourR := congrArg (fun q => q.2.2.1) h
      have ee3 : swS_2 = swSR := congrArg (fun q => q.2.2.2.1) h
      have ee4 : swW_3 = swWR := congrArg (fun q => q.2.2.2.2.1) h
      have ee5 : waS_4 = waSR := congrArg (fun q => q.2.2.2.2.2.1) h
      have ee6 : o_spoons = spoonsR := congrArg (fun q => q.2.2.2.2.2.2.1) h
      have ee7 : kind_5 = kindR := congrArg (fun q => q.2.2.2.2.2.2.2.1) h
      have ee8 : mark_6 = markR := congrArg (fun q => q.2.2.2.2.2.2.2.2.1) h
      have ee9 : silver_7 = silverR := congrArg (fun q => q.2.2.2.2.2.2.2.2.2.1) h
      have ee10 : fresh_8 = freshR := congrArg (fun q => q.2.2.2.2.2.2.2.2.2.2.1) h
      have ee11 : texts_30 = textsR := congrArg (fun q => q.2.2.2.2.2.2.2.2.2.2.2) h
      subst ee0
      subst ee1
      subst ee2
      subst ee3
      subst ee4
      subst ee5
      subst ee6
      subst ee7
      subst ee8
      subst ee9
      subst ee10
      subst ee11
      rw [← hQ]
      exact retV hx hb hr hlk hK hP hD hS dX3_follow_167 ⟨Nat.le_of_ble_eq_true rfl, Nat.le_of_ble_eq_true rfl⟩

def fX3_keep (weight : Nat → Int32) (known : Int32) (hour : Int32) (swS : Nat → Int32) (swW : Nat → Int32) (waS : Nat → Int32) (spoons : Int32) (kind : Nat → Int32) (mark : Nat → Int32) (silver : Nat → Int32) (fresh : Nat → Int64) (texts : Nat → Option Nat) (tape : Nat → Int32) (tapeCount : Int32) (z : Int32) (waiting : Nat → Int32) (waitingCount : Int32) (o_weight : Nat → Int32) (o_known : Int32) (o_hour : Int32) (o_swS : Nat → Int32) (o_swW : Nat → Int32) (o_waS : Nat → Int32) (o_spoons : Int32) (o_kind : Nat → Int32) (o_mark : Nat → Int32) (o_silver : Nat → Int32) (o_fresh : Nat → Int64) (o_texts : Nat → Option Nat) (o_tape : Nat → Int32) (o_tapeCount : Int32) (o_z : Int32) (o_waiting : Nat → Int32) (o_waitingCount : Int32) (L : List Nat) : Option ((Nat → Int32) × Int32 × Int32 × (Nat → Int32) × (Nat → Int32) × (Nat → Int32) × Int32 × (Nat → Int32) × (Nat → Int32) × (Nat → Int32) × (Nat → Int64) × (Nat → Option Nat) × (Nat → Int32) × Int32 × Int32 × (Nat → Int32) × Int32) :=
  bd (fX3_follow weight known hour swS swW waS spoons kind mark silver fresh texts o_weight o_known o_hour o_swS o_swW o_waS o_spoons o_kind o_mark o_silver o_fresh o_texts L) fun (weight_1, known_2, hour_3, swS_4, swW_5, waS_6, spoons_7, kind_8, mark_9, silver_10, fresh_11, texts_12) => bnd (va_cpy o_tape tape ((0 : Int32)).toNatClampNeg ((0 : Int32)).toNatClampNeg ((50 : Int32)).toNatClampNeg) fun tape_14 => bnd (va_cpy o_waiting waiting ((0 : Int32)).toNatClampNeg ((0 : Int32)).toNatClampNeg ((20 : Int32)).toNatClampNeg) fun waiting_15 => some (weight_1, known_2, hour_3, swS_4, swW_5, waS_6, spoons_7, kind_8, mark_9, silver_10, fresh_11, texts_12, tape_14, o_tapeCount, o_z, waiting_15, o_waitingCount)
set_option maxHeartbeats 4000000 in
set_option maxRecDepth 100000 in
theorem c_X3_keep (l : Launch) (G : Nat → Nat) (D : va_G) (cA : Nat → ClassId) (ad : Nat → Nat) (bd : Nat → Nat) (kd : Nat → Nat) (sz : Nat) (weight : Nat → Int32) (known : Int32) (hour : Int32) (swS : Nat → Int32) (swW : Nat → Int32) (waS : Nat → Int32) (spoons : Int32) (kind : Nat → Int32) (mark : Nat → Int32) (silver : Nat → Int32) (fresh : Nat → Int64) (texts : Nat → Option Nat) (tape : Nat → Int32) (tapeCount : Int32) (z : Int32) (waiting : Nat → Int32) (waitingCount : Int32) (o_weight : Nat → Int32) (o_known : Int32) (o_hour : Int32) (o_swS : Nat → Int32) (o_swW : Nat → Int32) (o_waS : Nat → Int32) (o_spoons : Int32) (o_kind : Nat → Int32) (o_mark : Nat → Int32) (o_silver : Nat → Int32) (o_fresh : Nat → Int64) (o_texts : Nat → Option Nat) (o_tape : Nat → Int32) (o_tapeCount : Int32) (o_z : Int32) (o_waiting : Nat → Int32) (o_waitingCount : Int32) (L : List Nat) (tx : Nat → TXc) (tst : Nat → Nat → Int32) (weightR : Nat → Int32) (knownR : Int32) (hourR : Int32) (swSR : Nat → Int32) (swWR : Nat → Int32) (waSR : Nat → Int32) (spoonsR : Int32) (kindR : Nat → Int32) (markR : Nat → Int32) (silverR : Nat → Int32) (freshR : Nat → Int64) (textsR : Nat → Option Nat) (tapeR : Nat → Int32) (tapeCountR : Int32) (zR : Int32) (waitingR : Nat → Int32) (waitingCountR : Int32) (h : fX3_keep weight known hour swS swW waS spoons kind mark silver fresh texts tape tapeCount z waiting waitingCount o_weight o_known o_hour o_swS o_swW o_waS o_spoons o_kind o_mark o_silver o_fresh o_texts o_tape o_tapeCount o_z o_waiting o_waitingCount L = some (weightR, knownR, hourR, swSR, swWR, waSR, spoonsR, kindR, markR, silverR, freshR, textsR, tapeR, tapeCountR, zR, waitingR, waitingCountR)) : Met l yX3_keep wsX3_keep ({ frames := 2, cells := 0, slots := 0, locals := 61 } : Room) (PW G D (tyC cA) sz (wHH cA ad bd kd weight known hour swS swW waS spoons kind mark silver fresh texts tape tapeCount z waiting waitingCount o_weight o_known o_hour o_swS o_swW o_waS o_spoons o_kind o_mark o_silver o_fresh o_texts o_tape o_tapeCount o_z o_waiting o_waitingCount L tx tst) [.ref (ad 0), .ref (bd 0)]) (QV D (tyC cA) (va_A (wHH cA ad bd kd weight known hour swS swW waS spoons kind mark silver fresh texts tape tapeCount z waiting waitingCount o_weight o_known o_hour o_swS o_swW o_waS o_spoons o_kind o_mark o_silver o_fresh o_texts o_tape o_tapeCount o_z o_waiting o_waitingCount L tx tst) sz) (wHH cA ad bd kd weightR knownR hourR swSR swWR waSR spoonsR kindR markR silverR freshR textsR tapeR tapeCountR zR waitingR waitingCountR o_weight o_known o_hour o_swS o_swW o_waS o_spoons o_kind o_mark o_silver o_fresh o_texts o_tape o_tapeCount o_z o_waiting o_waitingCount L tx tst)) 0 0 (va_A (wHH cA ad bd kd weight known hour swS swW waS spoons kind mark silver fresh texts tape tapeCount z waiting waitingCount o_weight o_known o_hour o_swS o_swW o_waS o_spoons o_kind o_mark o_silver o_fresh o_texts o_tape o_tapeCount o_z o_waiting o_waitingCount L tx tst) sz) := by
  refine ent (cc := cX3_keep) (maxL := 2) (ret := none) (fun A => QV D (tyC cA) A (wHH cA ad bd kd weightR knownR hourR swSR swWR waSR spoonsR kindR markR silverR freshR textsR tapeR tapeCountR zR waitingR waitingCountR o_weight o_known o_hour o_swS o_swW o_waS o_spoons o_kind o_mark o_silver o_fresh o_texts o_tape o_tapeCount o_z o_waiting o_waitingCount L tx tst)) (by decide +kernel) rfl (Nat.le_of_ble_eq_true rfl) ?_
  intro p e s m args below meth c A ls H hx hb hml hr hlk hts hown hA hK hE hP hD hS hv hmm
  have hv : lv_has ls 2 [(0, .ref (ad 0)), (1, .ref (bd 0))] := hv
  have in_3 : ∀ w ∈ u_ws RX3 TX3 18, w ∈ wsX3_keep := fun _ h => List.mem_cons_of_mem _ (List.mem_append_right _ h)
  have w_0 := hts (.fieldLink RX3 43 "SpoonsLast$House" "tape" "[I") (List.mem_of_getElem? (i := 1) rfl)
  have w_1 := hts (.methodLink RX3 63 arraycopyName) (List.mem_of_getElem? (i := 2) rfl)
  have w_2 := hts (.native arraycopyName) (List.mem_of_getElem? (i := 3) rfl)
  have w_3 := hts (.static arraycopyName) (List.mem_of_getElem? (i := 4) rfl)
  have w_4 := hts (.initialized "java/lang/System") (List.mem_of_getElem? (i := 5) rfl)
  have w_5 := hts (.fieldLink RX3 82 "SpoonsLast$House" "tapeCount" "I") (List.mem_of_getElem? (i := 6) rfl)
  have w_6 := hts (.fieldLink RX3 46 "SpoonsLast$House" "z" "I") (List.mem_of_getElem? (i := 7) rfl)
  have w_7 := hts (.fieldLink RX3 50 "SpoonsLast$House" "waiting" "[I") (List.mem_of_getElem? (i := 8) rfl)
  have w_8 := hts (.fieldLink RX3 85 "SpoonsLast$House" "waitingCount" "I") (List.mem_of_getElem? (i := 9) rfl)
  generalize hQ : MQ below _ args s 0 0 A = Q
  have hP : va_P D vwCl (wHH cA ad bd kd weight known hour swS swW waS spoons kind mark silver fresh texts tape tapeCount z waiting waitingCount o_weight o_known o_hour o_swS o_swW o_waS o_spoons o_kind o_mark o_silver o_fresh o_texts o_tape o_tapeCount o_z o_waiting o_waitingCount L tx tst) H := hP
  unfold fX3_keep at h
  refine lv_aload_n hx hb dX3_keep_0 rfl (lv_at hv 0 rfl) ?_
  refine lv_aload_n hx hb dX3_keep_1 rfl (lv_at hv 1 rfl) ?_
  obtain ⟨⟨weight_1, known_2, hour_3, swS_4, swW_5, waS_6, spoons_7, kind_8, mark_9, silver_10, fresh_11, texts_12⟩, hf_13, h⟩ := bd_ex h
  have sb := Sb.same hP hD hS hA
  refine calV (va_runV (As := [.ref (bd 0)]) (rest := []) ⟨hx, hb, hml, hown, hts⟩ (c_X3_follow l G D cA ad bd kd _ weight known hour swS swW waS spoons kind mark silver fresh texts tape tapeCount z waiting waitingCount o_weight o_known o_hour o_swS o_swW o_waS o_spoons o_kind o_mark o_silver o_fresh o_texts o_tape o_tapeCount o_z o_waiting o_waitingCount L tx tst weight_1 known_2 hour_3 swS_4 swW_5 waS_6 spoons_7 kind_8 mark_9 silver_10 fresh_11 texts_12 hf_13) (cwV 1 hts gX3_keep_X3_follow rfl rfl rfl (by decide +kernel) ⟨Nat.le_of_ble_eq_true rfl, Nat.le_of_ble_eq_true rfl⟩) (pvV hE hK hS sb (va_recv hK hP (ci := 3) (q0 := 0) rfl rfl)) rfl rfl hv.1 rfl (lv_room (Nat.le_of_ble_eq_true rfl)) dX3_keep_2 ⟨Nat.le_of_ble_eq_true rfl, Nat.le_of_ble_eq_true rfl⟩) hS sb (Jn.same sb) (fun H locs hP hD hS => ?_)
  have hP : va_P D vwCl (wHH cA ad bd kd weight_1 known_2 hour_3 swS_4 swW_5 waS_6 spoons_7 kind_8 mark_9 silver_10 fresh_11 texts_12 tape tapeCount z waiting waitingCount o_weight o_known o_hour o_swS o_swW o_waS o_spoons o_kind o_mark o_silver o_fresh o_texts o_tape o_tapeCount o_z o_waiting o_waitingCount L tx tst) H := hP
  have hD : va_D A (wHH cA ad bd kd weight_1 known_2 hour_3 swS_4 swW_5 waS_6 spoons_7 kind_8 mark_9 silver_10 fresh_11 texts_12 tape tapeCount z waiting waitingCount o_weight o_known o_hour o_swS o_swW o_waS o_spoons o_kind o_mark o_silver o_fresh o_texts o_tape o_tapeCount o_z o_waiting o_waitingCount L tx tst) := hD
  refine lv_aload_n hx hb dX3_keep_5 rfl (lv_at hv 1 rfl) ?_
  refine va_get (D := D) (ci := 3) (v := .ref (bd 14)) (C := RX3) (T := TX3) (N := 18) hx hb hts in_3 hown hK hP 12 rfl rfl 13 (by decide) w_0 (fun _ h9 => h9) rfl dX3_keep_6 ?_
  refine lv_iconst (v := (0 : Int32)) hx hb dX3_keep_9 (by decide) ?_
  refine lv_aload_n hx hb dX3_keep_10 rfl (lv_at hv 0 rfl) ?_
  refine va_get (D := D) (ci := 3) (v := .ref (ad 14)) (C := RX3) (T := TX3) (N := 18) hx hb hts in_3 hown hK hP 0 rfl rfl 13 (by decide) w_0 (fun _ h9 => h9) rfl dX3_keep_11 ?_
  refine lv_iconst (v := (0 : Int32)) hx hb dX3_keep_14 (by decide) ?_
  refine lv_bipush (v := (50 : Int32)) hx hb dX3_keep_15 (by decide) ?_
  obtain ⟨tape_14, etape_14, h⟩ := bnd_ex h
  refine va_copyi (D := D) hx hb (hml.trans hv.1.symm) hown w_1 w_2 w_3 w_4 hK hP hD hS 22 10 0 0 rfl rfl rfl rfl rfl (by decide) (by decide) (by decide) (by decide) (by decide) (fun _ _ => rfl) (Nat.le_of_ble_eq_true rfl) (by decide +kernel) dX3_keep_17 (fun H locs hP hD hS => ?_)
  rw [← etape_14] at hP hD
  have hP : va_P D vwCl (wHH cA ad bd kd weight_1 known_2 hour_3 swS_4 swW_5 waS_6 spoons_7 kind_8 mark_9 silver_10 fresh_11 texts_12 tape_14 tapeCount z waiting waitingCount o_weight o_known o_hour o_swS o_swW o_waS o_spoons o_kind o_mark o_silver o_fresh o_texts o_tape o_tapeCount o_z o_waiting o_waitingCount L tx tst) H := hP
  have hD : va_D A (wHH cA ad bd kd weight_1 known_2 hour_3 swS_4 swW_5 waS_6 spoons_7 kind_8 mark_9 silver_10 fresh_11 texts_12 tape_14 tapeCount z waiting waitingCount o_weight o_known o_hour o_swS o_swW o_waS o_spoons o_kind o_mark o_silver o_fresh o_texts o_tape o_tapeCount o_z o_waiting o_waitingCount L tx tst) := hD
  refine lv_aload_n hx hb dX3_keep_20 rfl (lv_at hv 0 rfl) ?_
  refine lv_aload_n hx hb dX3_keep_21 rfl (lv_at hv 1 rfl) ?_
  refine va_get (D := D) (ci := 3) (v := .int o_tapeCount) (C := RX3) (T := TX3) (N := 18) hx hb hts in_3 hown hK hP 12 rfl rfl 14 (by decide) w_5 (fun _ h9 => h9) rfl dX3_keep_22 ?_
  refine va_put (D := D) (ci := 3) (v := .int o_tapeCount) (ty := .int) (C := RX3) (T := TX3) (N := 18) hx hb hts in_3 tyX3 tyX3_ok nmX3 hown hK hP hD hS 0 rfl rfl 14 (by decide) w_5 (fun _ h9 => h9) rfl (by decide +kernel) rfl rfl (Nat.le_of_ble_eq_true rfl) dX3_keep_25 (fun H locs hP hD hS => ?_)
  have hP : va_P D vwCl (wHH cA ad bd kd weight_1 known_2 hour_3 swS_4 swW_5 waS_6 spoons_7 kind_8 mark_9 silver_10 fresh_11 texts_12 tape_14 o_tapeCount z waiting waitingCount o_weight o_known o_hour o_swS o_swW o_waS o_spoons o_kind o_mark o_silver o_fresh o_texts o_tape o_tapeCount o_z o_waiting o_waitingCount L tx tst) H := hP
  have hD : va_D A (wHH cA ad bd kd weight_1 known_2 hour_3 swS_4 swW_5 waS_6 spoons_7 kind_8 mark_9 silver_10 fresh_11 texts_12 tape_14 o_tapeCount z waiting waitingCount o_weight o_known o_hour o_swS o_swW o_waS o_spoons o_kind o_mark o_silver o_fresh o_texts o_tape o_tapeCount o_z o_waiting o_waitingCount L tx tst) := hD
  refine lv_aload_n hx hb dX3_keep_28 rfl (lv_at hv 0 rfl) ?_
  refine lv_aload_n hx hb dX3_keep_29 rfl (lv_at hv 1 rfl) ?_
  refine va_get (D := D) (ci := 3) (v := .int o_z) (C := RX3) (T := TX3) (N := 18) hx hb hts in_3 hown hK hP 12 rfl rfl 15 (by decide) w_6 (fun _ h9 => h9) rfl dX3_keep_30 ?_
  refine va_put (D := D) (ci := 3) (v := .int o_z) (ty := .int) (C := RX3) (T := TX3) (N := 18) hx hb hts in_3 tyX3 tyX3_ok nmX3 hown hK hP hD hS 0 rfl rfl 15 (by decide) w_6 (fun _ h9 => h9) rfl (by decide +kernel) rfl rfl (Nat.le_of_ble_eq_true rfl) dX3_keep_33 (fun H locs hP hD hS => ?_)
  have hP : va_P D vwCl (wHH cA ad bd kd weight_1 known_2 hour_3 swS_4 swW_5 waS_6 spoons_7 kind_8 mark_9 silver_10 fresh_11 texts_12 tape_14 o_tapeCount o_z waiting waitingCount o_weight o_known o_hour o_swS o_swW o_waS o_spoons o_kind o_mark o_silver o_fresh o_texts o_tape o_tapeCount o_z o_waiting o_waitingCount L tx tst) H := hP
  have hD : va_D A (wHH cA ad bd kd weight_1 known_2 hour_3 swS_4 swW_5 waS_6 spoons_7 kind_8 mark_9 silver_10 fresh_11 texts_12 tape_14 o_tapeCount o_z waiting waitingCount o_weight o_known o_hour o_swS o_swW o_waS o_spoons o_kind o_mark o_silver o_fresh o_texts o_tape o_tapeCount o_z o_waiting o_waitingCount L tx tst) := hD
  refine lv_aload_n hx hb dX3_keep_36 rfl (lv_at hv 1 rfl) ?_
  refine va_get (D := D) (ci := 3) (v := .ref (bd 17)) (C := RX3) (T := TX3) (N := 18) hx hb hts in_3 hown hK hP 12 rfl rfl 16 (by decide) w_7 (fun _ h9 => h9) rfl dX3_keep_37 ?_
  refine lv_iconst (v := (0 : Int32)) hx hb dX3_keep_40 (by decide) ?_
  refine lv_aload_n hx hb dX3_keep_41 rfl (lv_at hv 0 rfl) ?_
  refine va_get (D := D) (ci := 3) (v := .ref (ad 17)) (C := RX3) (T := TX3) (N := 18) hx hb hts in_3 hown hK hP 0 rfl rfl 16 (by decide) w_7 (fun _ h9 => h9) rfl dX3_keep_42 ?_
  refine lv_iconst (v := (0 : Int32)) hx hb dX3_keep_45 (by decide) ?_
  refine lv_bipush (v := (20 : Int32)) hx hb dX3_keep_46 (by decide) ?_
  obtain ⟨waiting_15, ewaiting_15, h⟩ := bnd_ex h
  refine va_copyi (D := D) hx hb (hml.trans hv.1.symm) hown w_1 w_2 w_3 w_4 hK hP hD hS 23 11 0 0 rfl rfl rfl rfl rfl (by decide) (by decide) (by decide) (by decide) (by decide) (fun _ _ => rfl) (Nat.le_of_ble_eq_true rfl) (by decide +kernel) dX3_keep_48 (fun H locs hP hD hS => ?_)
  rw [← ewaiting_15] at hP hD
  have hP : va_P D vwCl (wHH cA ad bd kd weight_1 known_2 hour_3 swS_4 swW_5 waS_6 spoons_7 kind_8 mark_9 silver_10 fresh_11 texts_12 tape_14 o_tapeCount o_z waiting_15 waitingCount o_weight o_known o_hour o_swS o_swW o_waS o_spoons o_kind o_mark o_silver o_fresh o_texts o_tape o_tapeCount o_z o_waiting o_waitingCount L tx tst) H := hP
  have hD : va_D A (wHH cA ad bd kd weight_1 known_2 hour_3 swS_4 swW_5 waS_6 spoons_7 kind_8 mark_9 silver_10 fresh_11 texts_12 tape_14 o_tapeCount o_z waiting_15 waitingCount o_weight o_known o_hour o_swS o_swW o_waS o_spoons o_kind o_mark o_silver o_fresh o_texts o_tape o_tapeCount o_z o_waiting o_waitingCount L tx tst) := hD
  refine lv_aload_n hx hb dX3_keep_51 rfl (lv_at hv 0 rfl) ?_
  refine lv_aload_n hx hb dX3_keep_52 rfl (lv_at hv 1 rfl) ?_
  refine va_get (D := D) (ci := 3) (v := .int o_waitingCount) (C := RX3) (T := TX3) (N := 18) hx hb hts in_3 hown hK hP 12 rfl rfl 17 (by decide) w_8 (fun _ h9 => h9) rfl dX3_keep_53 ?_
  refine va_put (D := D) (ci := 3) (v := .int o_waitingCount) (ty := .int) (C := RX3) (T := TX3) (N := 18) hx hb hts in_3 tyX3 tyX3_ok nmX3 hown hK hP hD hS 0 rfl rfl 17 (by decide) w_8 (fun _ h9 => h9) rfl (by decide +kernel) rfl rfl (Nat.le_of_ble_eq_true rfl) dX3_keep_56 (fun H locs hP hD hS => ?_)
  have hP : va_P D vwCl (wHH cA ad bd kd weight_1 known_2 hour_3 swS_4 swW_5 waS_6 spoons_7 kind_8 mark_9 silver_10 fresh_11 texts_12 tape_14 o_tapeCount o_z waiting_15 o_waitingCount o_weight o_known o_hour o_swS o_swW o_waS o_spoons o_kind o_mark o_silver o_fresh o_texts o_tape o_tapeCount o_z o_waiting o_waitingCount L tx tst) H := hP
  have hD : va_D A (wHH cA ad bd kd weight_1 known_2 hour_3 swS_4 swW_5 waS_6 spoons_7 kind_8 mark_9 silver_10 fresh_11 texts_12 tape_14 o_tapeCount o_z waiting_15 o_waitingCount o_weight o_known o_hour o_swS o_swW o_waS o_spoons o_kind o_mark o_silver o_fresh o_texts o_tape o_tapeCount o_z o_waiting o_waitingCount L tx tst) := hD
  have h := Option.some.inj h
  have ee0 : weight_1 = weightR := congrArg (fun q => q.1) h
  have ee1 : known_2 = knownR := congrArg (fun q => q.2.1) h
  have ee2 : hour_3 = hourR := congrArg (fun q => q.2.2.1) h
  have ee3 : swS_4 = swSR := congrArg (fun q => q.2.2.2.1) h
  have ee4 : swW_5 = swWR := congrArg (fun q => q.2.2.2.2.1) h
  have ee5 : waS_6 = waSR := congrArg (fun q => q.2.2.2.2.2.1) h
  have ee6 : spoons_7 = spoonsR := congrArg (fun q => q.2.2.2.2.2.2.1) h
  have ee7 : kind_8 = kindR := congrArg (fun q => q.2.2.2.2.2.2.2.1) h
  have ee8 : mark_9 = markR := congrArg (fun q => q.2.2.2.2.2.2.2.2.1) h
  have ee9 : silver_10 = silverR := congrArg (fun q => q.2.2.2.2.2.2.2.2.2.1) h
  have ee10 : fresh_11 = freshR := congrArg (fun q => q.2.2.2.2.2.2.2.2.2.2.1) h
  have ee11 : texts_12 = textsR := congrArg (fun q => q.2.2.2.2.2.2.2.2.2.2.2.1) h
  have ee12 : tape_14 = tapeR := congrArg (fun q => q.2.2.2.2.2.2.2.2.2.2.2.2.1) h
  have ee13 : o_tapeCount = tapeCountR := congrArg (fun q => q.2.2.2.2.2.2.2.2.2.2.2.2.2.1) h
  have ee14 : o_z = zR := congrArg (fun q => q.2.2.2.2.2.2.2.2.2.2.2.2.2.2.1) h
  have ee15 : waiting_15 = waitingR := congrArg (fun q => q.2.2.2.2.2.2.2.2.2.2.2.2.2.2.2.1) h
  have ee16 : o_waitingCount = waitingCountR := congrArg (fun q => q.2.2.2.2.2.2.2.2.2.2.2.2.2.2.2.2) h
  subst ee0
  subst ee1
  subst ee2
  subst ee3
  subst ee4
  subst ee5
  subst ee6
  subst ee7
  subst ee8
  subst ee9
  subst ee10
  subst ee11
  subst ee12
  subst ee13
  subst ee14
  subst ee15
  subst ee16
  rw [← hQ]
  exact retV hx hb hr hlk hK hP hD hS dX3_keep_59 ⟨Nat.le_of_ble_eq_true rfl, Nat.le_of_ble_eq_true rfl⟩

