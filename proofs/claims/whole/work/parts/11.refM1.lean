def fX12_finds (k : Int32) (found : Nat → Int32) : Option (Int32 × (Nat → Int32)) :=
  ckI k 6 (bnd ((found (k).toNatClampNeg) + (1 : Int32)) fun y_2 => ckI k 6 (bnd (upd found (k).toNatClampNeg y_2) fun found_4 => some (((-1000000000 : Int32) - k), found_4)))
set_option maxHeartbeats 4000000 in
set_option maxRecDepth 100000 in
theorem c_X12_finds (l : Launch) (G : Nat → Nat) (D : va_G) (cA : Nat → ClassId) (ad : Nat → Nat) (sz : Nat) (d : Nat → Int32) (kept : Nat → Int32) (aside : Nat → Int32) (images : Int32) (found : Nat → Int32) (base : Int32) (at0 : Int32) (size : Int32) (fault : Int32) (opened : Int32) (isRub : Int32) (names : Nat → Int32) (code : Nat → Int32) (coded : Int32) (pile : Nat → Int32) (needs : Nat → Int32) (traced : Nat → Int32) (traceMany : Int32) (who : Int32) (bitsOf : Nat → Int32) (sizeOf : Nat → Int32) (number : Nat → Int32) (lifted : Nat → Int32) (k : Int32) (rR : Int32) (foundR : Nat → Int32) (h : fX12_finds k found = some (rR, foundR)) : Met l yX12_finds wsX12_finds ({ frames := 0, cells := 0, slots := 0, locals := 0 } : Room) (PW G D (tyC cA) sz (wM cA ad d kept aside images found base at0 size fault opened isRub names code coded pile needs traced traceMany who bitsOf sizeOf number lifted) [.ref (ad 0), .int k]) (QI D (tyC cA) (va_A (wM cA ad d kept aside images found base at0 size fault opened isRub names code coded pile needs traced traceMany who bitsOf sizeOf number lifted) sz) rR (wM cA ad d kept aside images foundR base at0 size fault opened isRub names code coded pile needs traced traceMany who bitsOf sizeOf number lifted)) 0 0 (va_A (wM cA ad d kept aside images found base at0 size fault opened isRub names code coded pile needs traced traceMany who bitsOf sizeOf number lifted) sz) := by
  refine ent (cc := cX12_finds) (maxL := 2) (ret := (some .int)) (fun A => QI D (tyC cA) A rR (wM cA ad d kept aside images foundR base at0 size fault opened isRub names code coded pile needs traced traceMany who bitsOf sizeOf number lifted)) (by decide +kernel) rfl (Nat.le_of_ble_eq_true rfl) ?_
  intro p e s m args below meth c A ls H hx hb hml hr hlk hts hown hA hK hE hP hD hS hv hmm
  have hv : lv_has ls 2 [(0, .ref (ad 0)), (1, .int k)] := hv
  have in_12 : ∀ w ∈ u_ws RX12 TX12 23, w ∈ wsX12_finds := fun _ h => List.mem_cons_of_mem _ (List.mem_append_right _ h)
  have w_0 := hts (.fieldLink RX12 19 "SpoonsLastModel" "found" "[I") (List.mem_of_getElem? (i := 1) rfl)
  have w_1 := hts (.constant RX12 49 (-1000000000)) (List.mem_of_getElem? (i := 2) rfl)
  generalize hQ : MQ below _ args s 0 0 A = Q
  have hP : va_P D vwCl (wM cA ad d kept aside images found base at0 size fault opened isRub names code coded pile needs traced traceMany who bitsOf sizeOf number lifted) H := hP
  unfold fX12_finds at h
  refine lv_aload_n hx hb dX12_finds_0 rfl (lv_at hv 0 rfl) ?_
  refine va_get (D := D) (ci := 12) (v := .ref (ad 5)) (C := RX12) (T := TX12) (N := 23) hx hb hts in_12 hown hK hP 0 rfl rfl 4 (by decide) w_0 (fun _ h9 => h9) rfl dX12_finds_1 ?_
  refine lv_iload_n hx hb dX12_finds_4 rfl (lv_at hv 1 rfl) ?_
  refine lv_dup2_11 hx hb dX12_finds_5 rfl rfl ?_
  obtain ⟨c_1, h⟩ := ckI_ex h
  refine va_iald (D := D) hx hb hK hP 4 0 rfl rfl c_1 dX12_finds_6 ?_
  refine lv_iconst (v := (1 : Int32)) hx hb dX12_finds_7 (by decide) ?_
  refine lv_iadd hx hb dX12_finds_8 ?_
  obtain ⟨y_2, ey_2, h⟩ := bnd_ex h
  refine lv_nm ey_2 ?_
  obtain ⟨c_3, h⟩ := ckI_ex h
  obtain ⟨found_4, efound_4, h⟩ := bnd_ex h
  refine va_iast (D := D) hx hb hK hP hD hS 4 0 rfl rfl c_3 dX12_finds_9 (fun H locs hP hD hS => ?_)
  rw [← efound_4] at hP hD
  have hP : va_P D vwCl (wM cA ad d kept aside images found_4 base at0 size fault opened isRub names code coded pile needs traced traceMany who bitsOf sizeOf number lifted) H := hP
  have hD : va_D A (wM cA ad d kept aside images found_4 base at0 size fault opened isRub names code coded pile needs traced traceMany who bitsOf sizeOf number lifted) := hD
  refine lv_ldc (v := (-1000000000 : Int32)) hx hb hown w_1 dX12_finds_10 ?_
  refine lv_iload_n hx hb dX12_finds_12 rfl (lv_at hv 1 rfl) ?_
  refine lv_isub hx hb dX12_finds_13 ?_
  have h := Option.some.inj h
  have ee0 : ((-1000000000 : Int32) - k) = rR := congrArg (fun q => q.1) h
  have ee1 : found_4 = foundR := congrArg (fun q => q.2) h
  subst ee0
  subst ee1
  rw [← hQ]
  exact retI hx hb hr hlk hK hP hD hS dX12_finds_14 ⟨Nat.le_of_ble_eq_true rfl, Nat.le_of_ble_eq_true rfl⟩

def fX12_in (v : Int64) (lo : Int64) (hi : Int64) : Option (Int32) :=
  (if (lg_cmp v lo) < 0 then some (0 : Int32) else (if 0 < (lg_cmp v hi) then some (0 : Int32) else some (1 : Int32)))
set_option maxHeartbeats 4000000 in
set_option maxRecDepth 100000 in
theorem c_X12_in (l : Launch) (G : Nat → Nat) (D : va_G) (cA : Nat → ClassId) (sz : Nat) (v : Int64) (lo : Int64) (hi : Int64) (rR : Int32) (h : fX12_in v lo hi = some rR) : Met l yX12_in wsX12_in ({ frames := 0, cells := 0, slots := 0, locals := 0 } : Room) (PW G D (tyC cA) sz (wE) [.long v, .long lo, .long hi]) (QI D (tyC cA) (va_A (wE) sz) rR (wE)) 0 0 (va_A (wE) sz) := by
  refine ent (cc := cX12_in) (maxL := 6) (ret := (some .boolean)) (fun A => QI D (tyC cA) A rR (wE)) (by decide +kernel) rfl (Nat.le_of_ble_eq_true rfl) ?_
  intro p e s m args below meth c A ls H hx hb hml hr hlk hts hown hA hK hE hP hD hS hv hmm
  have hv : lv_has ls 6 [(0, .long v), (2, .long lo), (4, .long hi)] := hv
  generalize hQ : MQ below _ args s 0 0 A = Q
  have hP : va_P D vwCl (wE) H := hP
  unfold fX12_in at h
  refine lv_lload_n hx hb dX12_in_0 rfl (lv_at hv 0 rfl) ?_
  refine lv_lload_n hx hb dX12_in_1 rfl (lv_at hv 1 rfl) ?_
  refine W.lcmp hx hb dX12_in_2 ?_
  refine lv_if_lt (tgt := 17) hx hb dX12_in_3 (by decide) (fun c_1 => ?_) (fun c_1 => ?_)
  · have h := ite_t c_1 h
    refine lv_iconst (v := (0 : Int32)) hx hb dX12_in_17 (by decide) ?_
    have h := Option.some.inj h
    have ee0 : (0 : Int32) = rR := congrArg (fun q => q) h
    subst ee0
    rw [← hQ]
    exact retZ (by decide) hx hb hr hlk hK hP hD hS dX12_in_18 ⟨Nat.le_of_ble_eq_true rfl, Nat.le_of_ble_eq_true rfl⟩
  · have h := ite_f c_1 h
    refine lv_lload_n hx hb dX12_in_6 rfl (lv_at hv 0 rfl) ?_
    refine lv_lload hx hb dX12_in_7 (lv_at hv 2 rfl) ?_
    refine W.lcmp hx hb dX12_in_9 ?_
    refine lv_if_gt (tgt := 17) hx hb dX12_in_10 (by decide) (fun c_2 => ?_) (fun c_2 => ?_)
    · have h := ite_t c_2 h
      refine lv_iconst (v := (0 : Int32)) hx hb dX12_in_17 (by decide) ?_
      have h := Option.some.inj h
      have ee0 : (0 : Int32) = rR := congrArg (fun q => q) h
      subst ee0
      rw [← hQ]
      exact retZ (by decide) hx hb hr hlk hK hP hD hS dX12_in_18 ⟨Nat.le_of_ble_eq_true rfl, Nat.le_of_ble_eq_true rfl⟩
    · have h := ite_f c_2 h
      refine lv_iconst (v := (1 : Int32)) hx hb dX12_in_13 (by decide) ?_
      refine lv_goto (tgt := 18) hx hb dX12_in_14 (by decide) ?_
      have h := Option.some.inj h
      have ee0 : (1 : Int32) = rR := congrArg (fun q => q) h
      subst ee0
      rw [← hQ]
      exact retZ (by decide) hx hb hr hlk hK hP hD hS dX12_in_18 ⟨Nat.le_of_ble_eq_true rfl, Nat.le_of_ble_eq_true rfl⟩

def fX12_held (v : Int32) (lo : Int32) (hi : Int32) : Option (Int32) :=
  (if lo ≤ v then (if v ≤ hi then some v else some hi) else some lo)
set_option maxHeartbeats 4000000 in
set_option maxRecDepth 100000 in
theorem c_X12_held (l : Launch) (G : Nat → Nat) (D : va_G) (cA : Nat → ClassId) (sz : Nat) (v : Int32) (lo : Int32) (hi : Int32) (rR : Int32) (h : fX12_held v lo hi = some rR) : Met l yX12_held wsX12_held ({ frames := 0, cells := 0, slots := 0, locals := 0 } : Room) (PW G D (tyC cA) sz (wE) [.int v, .int lo, .int hi]) (QI D (tyC cA) (va_A (wE) sz) rR (wE)) 0 0 (va_A (wE) sz) := by
  refine ent (cc := cX12_held) (maxL := 3) (ret := (some .int)) (fun A => QI D (tyC cA) A rR (wE)) (by decide +kernel) rfl (Nat.le_of_ble_eq_true rfl) ?_
  intro p e s m args below meth c A ls H hx hb hml hr hlk hts hown hA hK hE hP hD hS hv hmm
  have hv : lv_has ls 3 [(0, .int v), (1, .int lo), (2, .int hi)] := hv
  generalize hQ : MQ below _ args s 0 0 A = Q
  have hP : va_P D vwCl (wE) H := hP
  unfold fX12_held at h
  refine lv_iload_n hx hb dX12_held_0 rfl (lv_at hv 0 rfl) ?_
  refine lv_iload_n hx hb dX12_held_1 rfl (lv_at hv 1 rfl) ?_
  refine lv_icmp_ge (tgt := 9) hx hb dX12_held_2 (by decide) (fun c_1 => ?_) (fun c_1 => ?_)
  · have h := ite_t c_1 h
    refine lv_iload_n hx hb dX12_held_9 rfl (lv_at hv 0 rfl) ?_
    refine lv_iload_n hx hb dX12_held_10 rfl (lv_at hv 2 rfl) ?_
    refine lv_icmp_le (tgt := 18) hx hb dX12_held_11 (by decide) (fun c_2 => ?_) (fun c_2 => ?_)
    · have h := ite_t c_2 h
      refine lv_iload_n hx hb dX12_held_18 rfl (lv_at hv 0 rfl) ?_
      have h := Option.some.inj h
      have ee0 : v = rR := congrArg (fun q => q) h
      subst ee0
      rw [← hQ]
      exact retI hx hb hr hlk hK hP hD hS dX12_held_19 ⟨Nat.le_of_ble_eq_true rfl, Nat.le_of_ble_eq_true rfl⟩
    · have h := ite_f c_2 h
      refine lv_iload_n hx hb dX12_held_14 rfl (lv_at hv 2 rfl) ?_
      refine lv_goto (tgt := 19) hx hb dX12_held_15 (by decide) ?_
      have h := Option.some.inj h
      have ee0 : hi = rR := congrArg (fun q => q) h
      subst ee0
      rw [← hQ]
      exact retI hx hb hr hlk hK hP hD hS dX12_held_19 ⟨Nat.le_of_ble_eq_true rfl, Nat.le_of_ble_eq_true rfl⟩
  · have h := ite_f c_1 h
    refine lv_iload_n hx hb dX12_held_5 rfl (lv_at hv 1 rfl) ?_
    refine lv_goto (tgt := 19) hx hb dX12_held_6 (by decide) ?_
    have h := Option.some.inj h
    have ee0 : lo = rR := congrArg (fun q => q) h
    subst ee0
    rw [← hQ]
    exact retI hx hb hr hlk hK hP hD hS dX12_held_19 ⟨Nat.le_of_ble_eq_true rfl, Nat.le_of_ble_eq_true rfl⟩

def fX12_isSpoon (a : Int32) (d : Nat → Int32) : Option (Int32) :=
  ckI (0 : Int32) 326 (bd (fX12_in ((a).toInt64) (0 : Int64) ((((d ((0 : Int32)).toNatClampNeg) - (1 : Int32))).toInt64)) fun r_2 => ck (isZ r_2 = true) (some r_2))
set_option maxHeartbeats 4000000 in
set_option maxRecDepth 100000 in
theorem c_X12_isSpoon (l : Launch) (G : Nat → Nat) (D : va_G) (cA : Nat → ClassId) (ad : Nat → Nat) (sz : Nat) (d : Nat → Int32) (kept : Nat → Int32) (aside : Nat → Int32) (images : Int32) (found : Nat → Int32) (base : Int32) (at0 : Int32) (size : Int32) (fault : Int32) (opened : Int32) (isRub : Int32) (names : Nat → Int32) (code : Nat → Int32) (coded : Int32) (pile : Nat → Int32) (needs : Nat → Int32) (traced : Nat → Int32) (traceMany : Int32) (who : Int32) (bitsOf : Nat → Int32) (sizeOf : Nat → Int32) (number : Nat → Int32) (lifted : Nat → Int32) (a : Int32) (rR : Int32) (h : fX12_isSpoon a d = some rR) : Met l yX12_isSpoon wsX12_isSpoon ({ frames := 1, cells := 0, slots := 0, locals := 25 } : Room) (PW G D (tyC cA) sz (wM cA ad d kept aside images found base at0 size fault opened isRub names code coded pile needs traced traceMany who bitsOf sizeOf number lifted) [.ref (ad 0), .int a]) (QI D (tyC cA) (va_A (wM cA ad d kept aside images found base at0 size fault opened isRub names code coded pile needs traced traceMany who bitsOf sizeOf number lifted) sz) rR (wM cA ad d kept aside images found base at0 size fault opened isRub names code coded pile needs traced traceMany who bitsOf sizeOf number lifted)) 0 0 (va_A (wM cA ad d kept aside images found base at0 size fault opened isRub names code coded pile needs traced traceMany who bitsOf sizeOf number lifted) sz) := by
  refine ent (cc := cX12_isSpoon) (maxL := 2) (ret := (some .boolean)) (fun A => QI D (tyC cA) A rR (wM cA ad d kept aside images found base at0 size fault opened isRub names code coded pile needs traced traceMany who bitsOf sizeOf number lifted)) (by decide +kernel) rfl (Nat.le_of_ble_eq_true rfl) ?_
  intro p e s m args below meth c A ls H hx hb hml hr hlk hts hown hA hK hE hP hD hS hv hmm
  have hv : lv_has ls 2 [(0, .ref (ad 0)), (1, .int a)] := hv
  have in_12 : ∀ w ∈ u_ws RX12 TX12 23, w ∈ wsX12_isSpoon := fun _ h => List.mem_cons_of_mem _ (List.mem_append_right _ h)
  have w_0 := hts (.fieldLink RX12 7 "SpoonsLastModel" "d" "[I") (List.mem_of_getElem? (i := 1) rfl)
  generalize hQ : MQ below _ args s 0 0 A = Q
  have hP : va_P D vwCl (wM cA ad d kept aside images found base at0 size fault opened isRub names code coded pile needs traced traceMany who bitsOf sizeOf number lifted) H := hP
  unfold fX12_isSpoon at h
  refine lv_iload_n hx hb dX12_isSpoon_0 rfl (lv_at hv 1 rfl) ?_
  refine lv_i2l (v := (a).toInt64) hx hb dX12_isSpoon_1 rfl ?_
  refine lv_lconst (v := (0 : Int64)) hx hb dX12_isSpoon_2 (by decide) ?_
  refine lv_aload_n hx hb dX12_isSpoon_3 rfl (lv_at hv 0 rfl) ?_
  refine va_get (D := D) (ci := 12) (v := .ref (ad 1)) (C := RX12) (T := TX12) (N := 23) hx hb hts in_12 hown hK hP 0 rfl rfl 0 (by decide) w_0 (fun _ h9 => h9) rfl dX12_isSpoon_4 ?_
  refine lv_iconst (v := (0 : Int32)) hx hb dX12_isSpoon_7 (by decide) ?_
  obtain ⟨c_1, h⟩ := ckI_ex h
  refine va_iald (D := D) hx hb hK hP 1 0 rfl rfl c_1 dX12_isSpoon_8 ?_
  refine lv_iconst (v := (1 : Int32)) hx hb dX12_isSpoon_9 (by decide) ?_
  refine lv_isub hx hb dX12_isSpoon_10 ?_
  refine lv_i2l (v := (((d ((0 : Int32)).toNatClampNeg) - (1 : Int32))).toInt64) hx hb dX12_isSpoon_11 rfl ?_
  obtain ⟨r_2, hf_3, h⟩ := bd_ex h
  have sb := Sb.nil hP hD hS hA
  refine calI (va_runS (As := [.long (a).toInt64, .long (0 : Int64), .long (((d ((0 : Int32)).toNatClampNeg) - (1 : Int32))).toInt64]) (rest := []) ⟨hx, hb, hml, hown, hts⟩ (c_X12_in l G D cA  _ ((a).toInt64) (0 : Int64) ((((d ((0 : Int32)).toNatClampNeg) - (1 : Int32))).toInt64) r_2 hf_3) (va_cwS 3 hts gX12_isSpoon_X12_in rfl rfl rfl (by decide +kernel) ⟨Nat.le_of_ble_eq_true rfl, Nat.le_of_ble_eq_true rfl⟩) (pvS hE hK hS sb) rfl rfl hv.1 rfl (lv_room (Nat.le_of_ble_eq_true rfl)) dX12_isSpoon_12 ⟨Nat.le_of_ble_eq_true rfl, Nat.le_of_ble_eq_true rfl⟩) hS sb (Jn.nil hP hD) (fun H locs hP hD hS => ?_)
  have hP : va_P D vwCl (wM cA ad d kept aside images found base at0 size fault opened isRub names code coded pile needs traced traceMany who bitsOf sizeOf number lifted) H := hP
  have hD : va_D A (wM cA ad d kept aside images found base at0 size fault opened isRub names code coded pile needs traced traceMany who bitsOf sizeOf number lifted) := hD
  obtain ⟨hz, h⟩ := ck_ex h
  have h := Option.some.inj h
  have ee0 : r_2 = rR := congrArg (fun q => q) h
  subst ee0
  rw [← hQ]
  exact retZ hz hx hb hr hlk hK hP hD hS dX12_isSpoon_15 ⟨Nat.le_of_ble_eq_true rfl, Nat.le_of_ble_eq_true rfl⟩

def fX12_isWord (a : Int32) : Option (Int32) :=
  bd (fX12_in ((a).toInt64) (0 : Int64) (11 : Int64)) fun r_1 => ck (isZ r_1 = true) (some r_1)
set_option maxHeartbeats 4000000 in
set_option maxRecDepth 100000 in
theorem c_X12_isWord (l : Launch) (G : Nat → Nat) (D : va_G) (cA : Nat → ClassId) (sz : Nat) (a : Int32) (rR : Int32) (h : fX12_isWord a = some rR) : Met l yX12_isWord wsX12_isWord ({ frames := 1, cells := 0, slots := 0, locals := 25 } : Room) (PW G D (tyC cA) sz (wE) [.int a]) (QI D (tyC cA) (va_A (wE) sz) rR (wE)) 0 0 (va_A (wE) sz) := by
  refine ent (cc := cX12_isWord) (maxL := 1) (ret := (some .boolean)) (fun A => QI D (tyC cA) A rR (wE)) (by decide +kernel) rfl (Nat.le_of_ble_eq_true rfl) ?_
  intro p e s m args below meth c A ls H hx hb hml hr hlk hts hown hA hK hE hP hD hS hv hmm
  have hv : lv_has ls 1 [(0, .int a)] := hv
  have w_0 := hts (.constantLong RX12 54 (11)) (List.mem_of_getElem? (i := 1) rfl)
  generalize hQ : MQ below _ args s 0 0 A = Q
  have hP : va_P D vwCl (wE) H := hP
  unfold fX12_isWord at h
  refine lv_iload_n hx hb dX12_isWord_0 rfl (lv_at hv 0 rfl) ?_
  refine lv_i2l (v := (a).toInt64) hx hb dX12_isWord_1 rfl ?_
  refine lv_lconst (v := (0 : Int64)) hx hb dX12_isWord_2 (by decide) ?_
  refine lv_ldc2 (v := (11 : Int64)) hx hb hown w_0 dX12_isWord_3 ?_
  obtain ⟨r_1, hf_2, h⟩ := bd_ex h
  have sb := Sb.nil hP hD hS hA
  refine calI (va_runS (As := [.long (a).toInt64, .long (0 : Int64), .long (11 : Int64)]) (rest := []) ⟨hx, hb, hml, hown, hts⟩ (c_X12_in l G D cA  _ ((a).toInt64) (0 : Int64) (11 : Int64) r_1 hf_2) (va_cwS 3 hts gX12_isWord_X12_in rfl rfl rfl (by decide +kernel) ⟨Nat.le_of_ble_eq_true rfl, Nat.le_of_ble_eq_true rfl⟩) (pvS hE hK hS sb) rfl rfl hv.1 rfl (lv_room (Nat.le_of_ble_eq_true rfl)) dX12_isWord_6 ⟨Nat.le_of_ble_eq_true rfl, Nat.le_of_ble_eq_true rfl⟩) hS sb (Jn.nil hP hD) (fun H locs hP hD hS => ?_)
  have hP : va_P D vwCl (wE) H := hP
  have hD : va_D A (wE) := hD
  obtain ⟨hz, h⟩ := ck_ex h
  have h := Option.some.inj h
  have ee0 : r_1 = rR := congrArg (fun q => q) h
  subst ee0
  rw [← hQ]
  exact retZ hz hx hb hr hlk hK hP hD hS dX12_isWord_9 ⟨Nat.le_of_ble_eq_true rfl, Nat.le_of_ble_eq_true rfl⟩

def fX12_areWords (a : Int32) : Option (Int32) :=
  bd (fX12_in ((a).toInt64) (0 : Int64) (4095 : Int64)) fun r_1 => ck (isZ r_1 = true) (some r_1)
set_option maxHeartbeats 4000000 in
set_option maxRecDepth 100000 in
theorem c_X12_areWords (l : Launch) (G : Nat → Nat) (D : va_G) (cA : Nat → ClassId) (sz : Nat) (a : Int32) (rR : Int32) (h : fX12_areWords a = some rR) : Met l yX12_areWords wsX12_areWords ({ frames := 1, cells := 0, slots := 0, locals := 25 } : Room) (PW G D (tyC cA) sz (wE) [.int a]) (QI D (tyC cA) (va_A (wE) sz) rR (wE)) 0 0 (va_A (wE) sz) := by
  refine ent (cc := cX12_areWords) (maxL := 1) (ret := (some .boolean)) (fun A => QI D (tyC cA) A rR (wE)) (by decide +kernel) rfl (Nat.le_of_ble_eq_true rfl) ?_
  intro p e s m args below meth c A ls H hx hb hml hr hlk hts hown hA hK hE hP hD hS hv hmm
  have hv : lv_has ls 1 [(0, .int a)] := hv
  have w_0 := hts (.constantLong RX12 56 (4095)) (List.mem_of_getElem? (i := 1) rfl)
  generalize hQ : MQ below _ args s 0 0 A = Q
  have hP : va_P D vwCl (wE) H := hP
  unfold fX12_areWords at h
  refine lv_iload_n hx hb dX12_areWords_0 rfl (lv_at hv 0 rfl) ?_
  refine lv_i2l (v := (a).toInt64) hx hb dX12_areWords_1 rfl ?_
  refine lv_lconst (v := (0 : Int64)) hx hb dX12_areWords_2 (by decide) ?_
  refine lv_ldc2 (v := (4095 : Int64)) hx hb hown w_0 dX12_areWords_3 ?_
  obtain ⟨r_1, hf_2, h⟩ := bd_ex h
  have sb := Sb.nil hP hD hS hA
  refine calI (va_runS (As := [.long (a).toInt64, .long (0 : Int64), .long (4095 : Int64)]) (rest := []) ⟨hx, hb, hml, hown, hts⟩ (c_X12_in l G D cA  _ ((a).toInt64) (0 : Int64) (4095 : Int64) r_1 hf_2) (va_cwS 3 hts gX12_areWords_X12_in rfl rfl rfl (by decide +kernel) ⟨Nat.le_of_ble_eq_true rfl, Nat.le_of_ble_eq_true rfl⟩) (pvS hE hK hS sb) rfl rfl hv.1 rfl (lv_room (Nat.le_of_ble_eq_true rfl)) dX12_areWords_6 ⟨Nat.le_of_ble_eq_true rfl, Nat.le_of_ble_eq_true rfl⟩) hS sb (Jn.nil hP hD) (fun H locs hP hD hS => ?_)
  have hP : va_P D vwCl (wE) H := hP
  have hD : va_D A (wE) := hD
  obtain ⟨hz, h⟩ := ck_ex h
  have h := Option.some.inj h
  have ee0 : r_1 = rR := congrArg (fun q => q) h
  subst ee0
  rw [← hQ]
  exact retZ hz hx hb hr hlk hK hP hD hS dX12_areWords_9 ⟨Nat.le_of_ble_eq_true rfl, Nat.le_of_ble_eq_true rfl⟩

def fX12_of (a : Int32) (b : Int32) (d : Nat → Int32) : Option (Int32) :=
  ckI (((34 : Int32) + ((15 : Int32) * a)) + b) 326 (some (d ((((34 : Int32) + ((15 : Int32) * a)) + b)).toNatClampNeg))
set_option maxHeartbeats 4000000 in
set_option maxRecDepth 100000 in
theorem c_X12_of (l : Launch) (G : Nat → Nat) (D : va_G) (cA : Nat → ClassId) (ad : Nat → Nat) (sz : Nat) (d : Nat → Int32) (kept : Nat → Int32) (aside : Nat → Int32) (images : Int32) (found : Nat → Int32) (base : Int32) (at0 : Int32) (size : Int32) (fault : Int32) (opened : Int32) (isRub : Int32) (names : Nat → Int32) (code : Nat → Int32) (coded : Int32) (pile : Nat → Int32) (needs : Nat → Int32) (traced : Nat → Int32) (traceMany : Int32) (who : Int32) (bitsOf : Nat → Int32) (sizeOf : Nat → Int32) (number : Nat → Int32) (lifted : Nat → Int32) (a : Int32) (b : Int32) (rR : Int32) (h : fX12_of a b d = some rR) : Met l yX12_of wsX12_of ({ frames := 0, cells := 0, slots := 0, locals := 0 } : Room) (PW G D (tyC cA) sz (wM cA ad d kept aside images found base at0 size fault opened isRub names code coded pile needs traced traceMany who bitsOf sizeOf number lifted) [.ref (ad 0), .int a, .int b]) (QI D (tyC cA) (va_A (wM cA ad d kept aside images found base at0 size fault opened isRub names code coded pile needs traced traceMany who bitsOf sizeOf number lifted) sz) rR (wM cA ad d kept aside images found base at0 size fault opened isRub names code coded pile needs traced traceMany who bitsOf sizeOf number lifted)) 0 0 (va_A (wM cA ad d kept aside images found base at0 size fault opened isRub names code coded pile needs traced traceMany who bitsOf sizeOf number lifted) sz) := by
  refine ent (cc := cX12_of) (maxL := 3) (ret := (some .int)) (fun A => QI D (tyC cA) A rR (wM cA ad d kept aside images found base at0 size fault opened isRub names code coded pile needs traced traceMany who bitsOf sizeOf number lifted)) (by decide +kernel) rfl (Nat.le_of_ble_eq_true rfl) ?_
  intro p e s m args below meth c A ls H hx hb hml hr hlk hts hown hA hK hE hP hD hS hv hmm
  have hv : lv_has ls 3 [(0, .ref (ad 0)), (1, .int a), (2, .int b)] := hv
  have in_12 : ∀ w ∈ u_ws RX12 TX12 23, w ∈ wsX12_of := fun _ h => List.mem_cons_of_mem _ (List.mem_append_right _ h)
  have w_0 := hts (.fieldLink RX12 7 "SpoonsLastModel" "d" "[I") (List.mem_of_getElem? (i := 1) rfl)
  generalize hQ : MQ below _ args s 0 0 A = Q
  have hP : va_P D vwCl (wM cA ad d kept aside images found base at0 size fault opened isRub names code coded pile needs traced traceMany who bitsOf sizeOf number lifted) H := hP
  unfold fX12_of at h
  refine lv_aload_n hx hb dX12_of_0 rfl (lv_at hv 0 rfl) ?_
  refine va_get (D := D) (ci := 12) (v := .ref (ad 1)) (C := RX12) (T := TX12) (N := 23) hx hb hts in_12 hown hK hP 0 rfl rfl 0 (by decide) w_0 (fun _ h9 => h9) rfl dX12_of_1 ?_
  refine lv_bipush (v := (34 : Int32)) hx hb dX12_of_4 (by decide) ?_
  refine lv_bipush (v := (15 : Int32)) hx hb dX12_of_6 (by decide) ?_
  refine lv_iload_n hx hb dX12_of_8 rfl (lv_at hv 1 rfl) ?_
  refine lv_imul hx hb dX12_of_9 ?_
  refine lv_iadd hx hb dX12_of_10 ?_
  refine lv_iload_n hx hb dX12_of_11 rfl (lv_at hv 2 rfl) ?_
  refine lv_iadd hx hb dX12_of_12 ?_
  obtain ⟨c_1, h⟩ := ckI_ex h
  refine va_iald (D := D) hx hb hK hP 1 0 rfl rfl c_1 dX12_of_13 ?_
  have h := Option.some.inj h
  have ee0 : (d ((((34 : Int32) + ((15 : Int32) * a)) + b)).toNatClampNeg) = rR := congrArg (fun q => q) h
  subst ee0
  rw [← hQ]
  exact retI hx hb hr hlk hK hP hD hS dX12_of_14 ⟨Nat.le_of_ble_eq_true rfl, Nat.le_of_ble_eq_true rfl⟩

def fX12_sets (a : Int32) (b : Int32) (v : Int32) (d : Nat → Int32) : Option ((Nat → Int32)) :=
  ckI (((34 : Int32) + ((15 : Int32) * a)) + b) 326 (bnd (upd d ((((34 : Int32) + ((15 : Int32) * a)) + b)).toNatClampNeg v) fun d_2 => some d_2)
set_option maxHeartbeats 4000000 in
set_option maxRecDepth 100000 in
theorem c_X12_sets (l : Launch) (G : Nat → Nat) (D : va_G) (cA : Nat → ClassId) (ad : Nat → Nat) (sz : Nat) (d : Nat → Int32) (kept : Nat → Int32) (aside : Nat → Int32) (images : Int32) (found : Nat → Int32) (base : Int32) (at0 : Int32) (size : Int32) (fault : Int32) (opened : Int32) (isRub : Int32) (names : Nat → Int32) (code : Nat → Int32) (coded : Int32) (pile : Nat → Int32) (needs : Nat → Int32) (traced : Nat → Int32) (traceMany : Int32) (who : Int32) (bitsOf : Nat → Int32) (sizeOf : Nat → Int32) (number : Nat → Int32) (lifted : Nat → Int32) (a : Int32) (b : Int32) (v : Int32) (dR : Nat → Int32) (h : fX12_sets a b v d = some dR) : Met l yX12_sets wsX12_sets ({ frames := 0, cells := 0, slots := 0, locals := 0 } : Room) (PW G D (tyC cA) sz (wM cA ad d kept aside images found base at0 size fault opened isRub names code coded pile needs traced traceMany who bitsOf sizeOf number lifted) [.ref (ad 0), .int a, .int b, .int v]) (QV D (tyC cA) (va_A (wM cA ad d kept aside images found base at0 size fault opened isRub names code coded pile needs traced traceMany who bitsOf sizeOf number lifted) sz) (wM cA ad dR kept aside images found base at0 size fault opened isRub names code coded pile needs traced traceMany who bitsOf sizeOf number lifted)) 0 0 (va_A (wM cA ad d kept aside images found base at0 size fault opened isRub names code coded pile needs traced traceMany who bitsOf sizeOf number lifted) sz) := by
  refine ent (cc := cX12_sets) (maxL := 4) (ret := none) (fun A => QV D (tyC cA) A (wM cA ad dR kept aside images found base at0 size fault opened isRub names code coded pile needs traced traceMany who bitsOf sizeOf number lifted)) (by decide +kernel) rfl (Nat.le_of_ble_eq_true rfl) ?_
  intro p e s m args below meth c A ls H hx hb hml hr hlk hts hown hA hK hE hP hD hS hv hmm
  have hv : lv_has ls 4 [(0, .ref (ad 0)), (1, .int a), (2, .int b), (3, .int v)] := hv
  have in_12 : ∀ w ∈ u_ws RX12 TX12 23, w ∈ wsX12_sets := fun _ h => List.mem_cons_of_mem _ (List.mem_append_right _ h)
  have w_0 := hts (.fieldLink RX12 7 "SpoonsLastModel" "d" "[I") (List.mem_of_getElem? (i := 1) rfl)
  generalize hQ : MQ below _ args s 0 0 A = Q
  have hP : va_P D vwCl (wM cA ad d kept aside images found base at0 size fault opened isRub names code coded pile needs traced traceMany who bitsOf sizeOf number lifted) H := hP
  unfold fX12_sets at h
  refine lv_aload_n hx hb dX12_sets_0 rfl (lv_at hv 0 rfl) ?_
  refine va_get (D := D) (ci := 12) (v := .ref (ad 1)) (C := RX12) (T := TX12) (N := 23) hx hb hts in_12 hown hK hP 0 rfl rfl 0 (by decide) w_0 (fun _ h9 => h9) rfl dX12_sets_1 ?_
  refine lv_bipush (v := (34 : Int32)) hx hb dX12_sets_4 (by decide) ?_
  refine lv_bipush (v := (15 : Int32)) hx hb dX12_sets_6 (by decide) ?_
  refine lv_iload_n hx hb dX12_sets_8 rfl (lv_at hv 1 rfl) ?_
  refine lv_imul hx hb dX12_sets_9 ?_
  refine lv_iadd hx hb dX12_sets_10 ?_
  refine lv_iload_n hx hb dX12_sets_11 rfl (lv_at hv 2 rfl) ?_
  refine lv_iadd hx hb dX12_sets_12 ?_
  refine lv_iload_n hx hb dX12_sets_13 rfl (lv_at hv 3 rfl) ?_
  obtain ⟨c_1, h⟩ := ckI_ex h
  obtain ⟨d_2, ed_2, h⟩ := bnd_ex h
  refine va_iast (D := D) hx hb hK hP hD hS 1 0 rfl rfl c_1 dX12_sets_14 (fun H locs hP hD hS => ?_)
  rw [← ed_2] at hP hD
  have hP : va_P D vwCl (wM cA ad d_2 kept aside images found base at0 size fault opened isRub names code coded pile needs traced traceMany who bitsOf sizeOf number lifted) H := hP
  have hD : va_D A (wM cA ad d_2 kept aside images found base at0 size fault opened isRub names code coded pile needs traced traceMany who bitsOf sizeOf number lifted) := hD
  have h := Option.some.inj h
  have ee0 : d_2 = dR := congrArg (fun q => q) h
  subst ee0
  rw [← hQ]
  exact retV hx hb hr hlk hK hP hD hS dX12_sets_15 ⟨Nat.le_of_ble_eq_true rfl, Nat.le_of_ble_eq_true rfl⟩

def fX12_above (a : Int32) : Option (Int32) :=
  (if a ≤ (3 : Int32) then some (0 : Int32) else some (a - (3 : Int32)))
set_option maxHeartbeats 4000000 in
set_option maxRecDepth 100000 in
theorem c_X12_above (l : Launch) (G : Nat → Nat) (D : va_G) (cA : Nat → ClassId) (sz : Nat) (a : Int32) (rR : Int32) (h : fX12_above a = some rR) : Met l yX12_above wsX12_above ({ frames := 0, cells := 0, slots := 0, locals := 0 } : Room) (PW G D (tyC cA) sz (wE) [.int a]) (QI D (tyC cA) (va_A (wE) sz) rR (wE)) 0 0 (va_A (wE) sz) := by
  refine ent (cc := cX12_above) (maxL := 1) (ret := (some .int)) (fun A => QI D (tyC cA) A rR (wE)) (by decide +kernel) rfl (Nat.le_of_ble_eq_true rfl) ?_
  intro p e s m args below meth c A ls H hx hb hml hr hlk hts hown hA hK hE hP hD hS hv hmm
  have hv : lv_has ls 1 [(0, .int a)] := hv
  generalize hQ : MQ below _ args s 0 0 A = Q
  have hP : va_P D vwCl (wE) H := hP
  unfold fX12_above at h
  refine lv_iload_n hx hb dX12_above_0 rfl (lv_at hv 0 rfl) ?_
  refine lv_iconst (v := (3 : Int32)) hx hb dX12_above_1 (by decide) ?_
  refine lv_icmp_le (tgt := 11) hx hb dX12_above_2 (by decide) (fun c_1 => ?_) (fun c_1 => ?_)
  · have h := ite_t c_1 h
    refine lv_iconst (v := (0 : Int32)) hx hb dX12_above_11 (by decide) ?_
    have h := Option.some.inj h
    have ee0 : (0 : Int32) = rR := congrArg (fun q => q) h
    subst ee0
    rw [← hQ]
    exact retI hx hb hr hlk hK hP hD hS dX12_above_12 ⟨Nat.le_of_ble_eq_true rfl, Nat.le_of_ble_eq_true rfl⟩
  · have h := ite_f c_1 h
    refine lv_iload_n hx hb dX12_above_5 rfl (lv_at hv 0 rfl) ?_
    refine lv_iconst (v := (3 : Int32)) hx hb dX12_above_6 (by decide) ?_
    refine lv_isub hx hb dX12_above_7 ?_
    refine lv_goto (tgt := 12) hx hb dX12_above_8 (by decide) ?_
    have h := Option.some.inj h
    have ee0 : (a - (3 : Int32)) = rR := congrArg (fun q => q) h
    subst ee0
    rw [← hQ]
    exact retI hx hb hr hlk hK hP hD hS dX12_above_12 ⟨Nat.le_of_ble_eq_true rfl, Nat.le_of_ble_eq_true rfl⟩

def fX12_becomes (a : Int32) (v : Int32) (d : Nat → Int32) : Option (Int32 × (Nat → Int32)) :=
  ckI a 326 (bnd (d (a).toNatClampNeg) fun y_2 => ckI a 326 (bnd (upd d (a).toNatClampNeg v) fun d_4 => some (y_2, d_4)))
set_option maxHeartbeats 4000000 in
set_option maxRecDepth 100000 in
theorem c_X12_becomes (l : Launch) (G : Nat → Nat) (D : va_G) (cA : Nat → ClassId) (ad : Nat → Nat) (sz : Nat) (d : Nat → Int32) (kept : Nat → Int32) (aside : Nat → Int32) (images : Int32) (found : Nat → Int32) (base : Int32) (at0 : Int32) (size : Int32) (fault : Int32) (opened : Int32) (isRub : Int32) (names : Nat → Int32) (code : Nat → Int32) (coded : Int32) (pile : Nat → Int32) (needs : Nat → Int32) (traced : Nat → Int32) (traceMany : Int32) (who : Int32) (bitsOf : Nat → Int32) (sizeOf : Nat → Int32) (number : Nat → Int32) (lifted : Nat → Int32) (a : Int32) (v : Int32) (rR : Int32) (dR : Nat → Int32) (h : fX12_becomes a v d = some (rR, dR)) : Met l yX12_becomes wsX12_becomes ({ frames := 0, cells := 0, slots := 0, locals := 0 } : Room) (PW G D (tyC cA) sz (wM cA ad d kept aside images found base at0 size fault opened isRub names code coded pile needs traced traceMany who bitsOf sizeOf number lifted) [.ref (ad 0), .int a, .int v]) (QI D (tyC cA) (va_A (wM cA ad d kept aside images found base at0 size fault opened isRub names code coded pile needs traced traceMany who bitsOf sizeOf number lifted) sz) rR (wM cA ad dR kept aside images found base at0 size fault opened isRub names code coded pile needs traced traceMany who bitsOf sizeOf number lifted)) 0 0 (va_A (wM cA ad d kept aside images found base at0 size fault opened isRub names code coded pile needs traced traceMany who bitsOf sizeOf number lifted) sz) := by
  refine ent (cc := cX12_becomes) (maxL := 4) (ret := (some .int)) (fun A => QI D (tyC cA) A rR (wM cA ad dR kept aside images found base at0 size fault opened isRub names code coded pile needs traced traceMany who bitsOf sizeOf number lifted)) (by decide +kernel) rfl (Nat.le_of_ble_eq_true rfl) ?_
  intro p e s m args below meth c A ls H hx hb hml hr hlk hts hown hA hK hE hP hD hS hv hmm
  have hv : lv_has ls 4 [(0, .ref (ad 0)), (1, .int a), (2, .int v)] := hv
  have in_12 : ∀ w ∈ u_ws RX12 TX12 23, w ∈ wsX12_becomes := fun _ h => List.mem_cons_of_mem _ (List.mem_append_right _ h)
  have w_0 := hts (.fieldLink RX12 7 "SpoonsLastModel" "d" "[I") (List.mem_of_getElem? (i := 1) rfl)
  generalize hQ : MQ below _ args s 0 0 A = Q
  have hP : va_P D vwCl (wM cA ad d kept aside images found base at0 size fault opened isRub names code coded pile needs traced traceMany who bitsOf sizeOf number lifted) H := hP
  unfold fX12_becomes at h
  refine lv_aload_n hx hb dX12_becomes_0 rfl (lv_at hv 0 rfl) ?_
  refine va_get (D := D) (ci := 12) (v := .ref (ad 1)) (C := RX12) (T := TX12) (N := 23) hx hb hts in_12 hown hK hP 0 rfl rfl 0 (by decide) w_0 (fun _ h9 => h9) rfl dX12_becomes_1 ?_
  refine lv_iload_n hx hb dX12_becomes_4 rfl (lv_at hv 1 rfl) ?_
  obtain ⟨c_1, h⟩ := ckI_ex h
  refine va_iald (D := D) hx hb hK hP 1 0 rfl rfl c_1 dX12_becomes_5 ?_
  obtain ⟨y_2, ey_2, h⟩ := bnd_ex h
  refine lv_nm ey_2 ?_
  refine lv_istore_n (lv' := [(3, .int y_2), (0, .ref (ad 0)), (1, .int a), (2, .int v)]) hx hb dX12_becomes_6 rfl hv (by decide) rfl (fun ls hv => ?_)
  refine lv_aload_n hx hb dX12_becomes_7 rfl (lv_at hv 1 rfl) ?_
  refine va_get (D := D) (ci := 12) (v := .ref (ad 1)) (C := RX12) (T := TX12) (N := 23) hx hb hts in_12 hown hK hP 0 rfl rfl 0 (by decide) w_0 (fun _ h9 => h9) rfl dX12_becomes_8 ?_
  refine lv_iload_n hx hb dX12_becomes_11 rfl (lv_at hv 2 rfl) ?_
  refine lv_iload_n hx hb dX12_becomes_12 rfl (lv_at hv 3 rfl) ?_
  obtain ⟨c_3, h⟩ := ckI_ex h
  obtain ⟨d_4, ed_4, h⟩ := bnd_ex h
  refine va_iast (D := D) hx hb hK hP hD hS 1 0 rfl rfl c_3 dX12_becomes_13 (fun H locs hP hD hS => ?_)
  rw [← ed_4] at hP hD
  have hP : va_P D vwCl (wM cA ad d_4 kept aside images found base at0 size fault opened isRub names code coded pile needs traced traceMany who bitsOf sizeOf number lifted) H := hP
  have hD : va_D A (wM cA ad d_4 kept aside images found base at0 size fault opened isRub names code coded pile needs traced traceMany who bitsOf sizeOf number lifted) := hD
  refine lv_iload_n hx hb dX12_becomes_14 rfl (lv_at hv 0 rfl) ?_
  have h := Option.some.inj h
  have ee0 : y_2 = rR := congrArg (fun q => q.1) h
  have ee1 : d_4 = dR := congrArg (fun q => q.2) h
  subst ee0
  subst ee1
  rw [← hQ]
  exact retI hx hb hr hlk hK hP hD hS dX12_becomes_15 ⟨Nat.le_of_ble_eq_true rfl, Nat.le_of_ble_eq_true rfl⟩

def fX12_ones_4B (v0_4 : Int32) (v1_4b : Int32) (v2_4b : Int32) : Option ((Int32 × Int32) ⊕ (Int32 × Int32)) :=
  (if (12 : Int32) ≤ v2_4b then some (.inr (v1_4b, v2_4b)) else bnd (v1_4b + ((v0_4 >>> (v2_4b &&& 31)) &&& (1 : Int32))) fun y_2 => bnd (v2_4b + (1 : Int32)) fun y_3 => some (.inl (y_2, y_3)))
def fX12_ones_4 (v0_4 : Int32) (v1_4 : Int32) (v2_4 : Int32) : Option (Int32) :=
  bd (lp (fun σ : Int32 × Int32 => fX12_ones_4B v0_4 (σ.1) (σ.2)) FU (v1_4, v2_4)) fun ρ => match ρ with | (v1_4r, v2_4r) => some v1_4r
def fX12_ones (a : Int32) : Option (Int32) :=
  fX12_ones_4 a (0 : Int32) (0 : Int32)
set_option maxHeartbeats 4000000 in
set_option maxRecDepth 100000 in
theorem c_X12_ones (l : Launch) (G : Nat → Nat) (D : va_G) (cA : Nat → ClassId) (sz : Nat) (a : Int32) (rR : Int32) (h : fX12_ones a = some rR) : Met l yX12_ones wsX12_ones ({ frames := 0, cells := 0, slots := 0, locals := 0 } : Room) (PW G D (tyC cA) sz (wE) [.int a]) (QI D (tyC cA) (va_A (wE) sz) rR (wE)) 0 0 (va_A (wE) sz) := by
  refine ent (cc := cX12_ones) (maxL := 3) (ret := (some .int)) (fun A => QI D (tyC cA) A rR (wE)) (by decide +kernel) rfl (Nat.le_of_ble_eq_true rfl) ?_
  intro p e s m args below meth c A ls H hx hb hml hr hlk hts hown hA hK hE hP hD hS hv hmm
  have hv : lv_has ls 3 [(0, .int a)] := hv
  generalize hQ : MQ below _ args s 0 0 A = Q
  have C_4 : ∀ (v0_4 : Int32) (v1_4 : Int32) (v2_4 : Int32), fX12_ones_4 v0_4 v1_4 v2_4 = some rR → WW p l e ({ frames := 0, cells := 0, slots := 0, locals := 0 } : Room) s m args below meth c D A 0 0 Q (wE) 3 [(0, .int v0_4), (1, .int v1_4), (2, .int v2_4)] 4 [] := by
    intro v0_4 v1_4 v2_4 h
    unfold fX12_ones_4 at h
    obtain ⟨⟨v1_4r, v2_4r⟩, ho, h⟩ := bd_ex h
    have LE : WW p l e ({ frames := 0, cells := 0, slots := 0, locals := 0 } : Room) s m args below meth c D A 0 0 Q (wE) 3 [(1, .int v1_4r)] 24 [] := by
      intro H locs ls hP hD hS hv
      refine lv_iload_n hx hb dX12_ones_24 rfl (lv_at hv 0 rfl) ?_
      have h := Option.some.inj h
      have ee0 : v1_4r = rR := congrArg (fun q => q) h
      subst ee0
      rw [← hQ]
      exact retI hx hb hr hlk hK hP hD hS dX12_ones_25 ⟨Nat.le_of_ble_eq_true rfl, Nat.le_of_ble_eq_true rfl⟩
    have LB : ∀ (nf : Nat) (v1_4b : Int32) (v2_4b : Int32), lp (fun σ : Int32 × Int32 => fX12_ones_4B v0_4 (σ.1) (σ.2)) nf (v1_4b, v2_4b) = some (v1_4r, v2_4r) → WW p l e ({ frames := 0, cells := 0, slots := 0, locals := 0 } : Room) s m args below meth c D A 0 0 Q (wE) 3 [(0, .int v0_4), (1, .int v1_4b), (2, .int v2_4b)] 4 [] := by
      intro nf
      induction nf with
      | zero => intro v1_4b v2_4b hl; cases hl
      | succ nf ih =>
        intro v1_4b v2_4b hl
        obtain ⟨x, h, hl⟩ := lp_ex hl
        have h : fX12_ones_4B v0_4 v1_4b v2_4b = some x := h
        unfold fX12_ones_4B at h
        intro H locs ls hP hD hS hv
        refine lv_iload_n hx hb dX12_ones_4 rfl (lv_at hv 2 rfl) ?_
        refine lv_bipush (v := (12 : Int32)) hx hb dX12_ones_5 (by decide) ?_
        refine lv_icmp_ge (tgt := 24) hx hb dX12_ones_7 (by decide) (fun c_1 => ?_) (fun c_1 => ?_)
        · have h := ite_t c_1 h
          cases h
          have hl : some (v1_4b, v2_4b) = some (v1_4r, v2_4r) := hl
          have hl := Option.some.inj hl
          have ee0 : v1_4b = v1_4r := congrArg (fun q => q.1) hl
          have ee1 : v2_4b = v2_4r := congrArg (fun q => q.2) hl
          subst ee0
          subst ee1
          exact LE _ _ _ hP hD hS (lv_sub hv [1] rfl)
        · have h := ite_f c_1 h
          refine lv_iload_n hx hb dX12_ones_10 rfl (lv_at hv 1 rfl) ?_
          refine lv_iload_n hx hb dX12_ones_11 rfl (lv_at hv 0 rfl) ?_
          refine lv_iload_n hx hb dX12_ones_12 rfl (lv_at hv 2 rfl) ?_
          refine lv_ishr hx hb dX12_ones_13 ?_
          refine lv_iconst (v := (1 : Int32)) hx hb dX12_ones_14 (by decide) ?_
          refine lv_iand hx hb dX12_ones_15 ?_
          refine lv_iadd hx hb dX12_ones_16 ?_
          obtain ⟨y_2, ey_2, h⟩ := bnd_ex h
          refine lv_nm ey_2 ?_
          refine lv_istore_n (lv' := [(1, .int y_2), (0, .int v0_4), (2, .int v2_4b)]) hx hb dX12_ones_17 rfl hv (by decide) rfl (fun ls hv => ?_)
          obtain ⟨y_3, ey_3, h⟩ := bnd_ex h
          refine lv_iinc (v := y_3) (lv' := [(2, .int y_3), (1, .int y_2), (0, .int v0_4)]) hx hb dX12_ones_18 hv (k := 2) rfl (by rw [ey_3]; rfl) (by decide) rfl (fun ls hv => ?_)
          refine lv_goto (tgt := 4) hx hb dX12_ones_21 (by decide) ?_
          cases h
          exact ih y_2 y_3 hl _ _ _ hP hD hS (lv_sub hv [2, 1, 0] rfl)
    exact LB FU v1_4 v2_4 ho
  have hP : va_P D vwCl (wE) H := hP
  unfold fX12_ones at h
  refine lv_iconst (v := (0 : Int32)) hx hb dX12_ones_0 (by decide) ?_
  refine lv_istore_n (lv' := [(1, .int (0 : Int32)), (0, .int a)]) hx hb dX12_ones_1 rfl hv (by decide) rfl (fun ls hv => ?_)
  refine lv_iconst (v := (0 : Int32)) hx hb dX12_ones_2 (by decide) ?_
  refine lv_istore_n (lv' := [(2, .int (0 : Int32)), (1, .int (0 : Int32)), (0, .int a)]) hx hb dX12_ones_3 rfl hv (by decide) rfl (fun ls hv => ?_)
  exact C_4 a (0 : Int32) (0 : Int32) h _ _ _ hP hD hS (lv_sub hv [2, 1, 0] rfl)

def fX12_keepAside_2B (d : Nat → Int32) (v1_2b : Int32) (aside_2b : Nat → Int32) : Option ((Int32 × (Nat → Int32)) ⊕ (Int32 × (Nat → Int32))) :=
  (if (154 : Int32) ≤ v1_2b then some (.inr (v1_2b, aside_2b)) else ckI v1_2b 326 (bnd (d (v1_2b).toNatClampNeg) fun y_3 => ckI v1_2b 154 (bnd (upd aside_2b (v1_2b).toNatClampNeg y_3) fun aside_5 => bnd (v1_2b + (1 : Int32)) fun y_6 => some (.inl (y_6, aside_5)))))
def fX12_keepAside_2 (v1_2 : Int32) (d : Nat → Int32) (aside_2 : Nat → Int32) : Option ((Nat → Int32)) :=
  bd (lp (fun σ : Int32 × (Nat → Int32) => fX12_keepAside_2B d (σ.1) (σ.2)) FU (v1_2, aside_2)) fun ρ => match ρ with | (v1_2r, aside_2r) => some aside_2r
def fX12_keepAside (d : Nat → Int32) (aside : Nat → Int32) : Option ((Nat → Int32)) :=
  fX12_keepAside_2 (0 : Int32) d aside
set_option maxHeartbeats 4000000 in
set_option maxRecDepth 100000 in
theorem c_X12_keepAside (l : Launch) (G : Nat → Nat) (D : va_G) (cA : Nat → ClassId) (ad : Nat → Nat) (sz : Nat) (d : Nat → Int32) (kept : Nat → Int32) (aside : Nat → Int32) (images : Int32) (found : Nat → Int32) (base : Int32) (at0 : Int32) (size : Int32) (fault : Int32) (opened : Int32) (isRub : Int32) (names : Nat → Int32) (code : Nat → Int32) (coded : Int32) (pile : Nat → Int32) (needs : Nat → Int32) (traced : Nat → Int32) (traceMany : Int32) (who : Int32) (bitsOf : Nat → Int32) (sizeOf : Nat → Int32) (number : Nat → Int32) (lifted : Nat → Int32) (asideR : Nat → Int32) (h : fX12_keepAside d aside = some asideR) : Met l yX12_keepAside wsX12_keepAside ({ frames := 0, cells := 0, slots := 0, locals := 0 } : Room) (PW G D (tyC cA) sz (wM cA ad d kept aside images found base at0 size fault opened isRub names code coded pile needs traced traceMany who bitsOf sizeOf number lifted) [.ref (ad 0)]) (QV D (tyC cA) (va_A (wM cA ad d kept aside images found base at0 size fault opened isRub names code coded pile needs traced traceMany who bitsOf sizeOf number lifted) sz) (wM cA ad d kept asideR images found base at0 size fault opened isRub names code coded pile needs traced traceMany who bitsOf sizeOf number lifted)) 0 0 (va_A (wM cA ad d kept aside images found base at0 size fault opened isRub names code coded pile needs traced traceMany who bitsOf sizeOf number lifted) sz) := by
  refine ent (cc := cX12_keepAside) (maxL := 2) (ret := none) (fun A => QV D (tyC cA) A (wM cA ad d kept asideR images found base at0 size fault opened isRub names code coded pile needs traced traceMany who bitsOf sizeOf number lifted)) (by decide +kernel) rfl (Nat.le_of_ble_eq_true rfl) ?_
  intro p e s m args below meth c A ls H hx hb hml hr hlk hts hown hA hK hE hP hD hS hv hmm
  have hv : lv_has ls 2 [(0, .ref (ad 0))] := hv
  have in_12 : ∀ w ∈ u_ws RX12 TX12 23, w ∈ wsX12_keepAside := fun _ h => List.mem_cons_of_mem _ (List.mem_append_right _ h)
  have w_0 := hts (.fieldLink RX12 16 "SpoonsLastModel" "aside" "[I") (List.mem_of_getElem? (i := 1) rfl)
  have w_1 := hts (.fieldLink RX12 7 "SpoonsLastModel" "d" "[I") (List.mem_of_getElem? (i := 2) rfl)
  generalize hQ : MQ below _ args s 0 0 A = Q
  have C_2 : ∀ (v1_2 : Int32) (aside_2 : Nat → Int32), fX12_keepAside_2 v1_2 d aside_2 = some asideR → WW p l e ({ frames := 0, cells := 0, slots := 0, locals := 0 } : Room) s m args below meth c D A 0 0 Q (wM cA ad d kept aside_2 images found base at0 size fault opened isRub names code coded pile needs traced traceMany who bitsOf sizeOf number lifted) 2 [(0, .ref (ad 0)), (1, .int v1_2)] 2 [] := by
    intro v1_2 aside_2 h
    unfold fX12_keepAside_2 at h
    obtain ⟨⟨v1_2r, aside_2r⟩, ho, h⟩ := bd_ex h
    have LE : WW p l e ({ frames := 0, cells := 0, slots := 0, locals := 0 } : Room) s m args below meth c D A 0 0 Q (wM cA ad d kept aside_2r images found base at0 size fault opened isRub names code coded pile needs traced traceMany who bitsOf sizeOf number lifted) 2 [] 27 [] := by
      intro H locs ls hP hD hS hv
      have h := Option.some.inj h
      have ee0 : aside_2r = asideR := congrArg (fun q => q) h
      subst ee0
      rw [← hQ]
      exact retV hx hb hr hlk hK hP hD hS dX12_keepAside_27 ⟨Nat.le_of_ble_eq_true rfl, Nat.le_of_ble_eq_true rfl⟩
    have LB : ∀ (nf : Nat) (v1_2b : Int32) (aside_2b : Nat → Int32), lp (fun σ : Int32 × (Nat → Int32) => fX12_keepAside_2B d (σ.1) (σ.2)) nf (v1_2b, aside_2b) = some (v1_2r, aside_2r) → WW p l e ({ frames := 0, cells := 0, slots := 0, locals := 0 } : Room) s m args below meth c D A 0 0 Q (wM cA ad d kept aside_2b images found base at0 size fault opened isRub names code coded pile needs traced traceMany who bitsOf sizeOf number lifted) 2 [(0, .ref (ad 0)), (1, .int v1_2b)] 2 [] := by
      intro nf
      induction nf with
      | zero => intro v1_2b aside_2b hl; cases hl
      | succ nf ih =>
        intro v1_2b aside_2b hl
        obtain ⟨x, h, hl⟩ := lp_ex hl
        have h : fX12_keepAside_2B d v1_2b aside_2b = some x := h
        unfold fX12_keepAside_2B at h
        intro H locs ls hP hD hS hv
        refine lv_iload_n hx hb dX12_keepAside_2 rfl (lv_at hv 1 rfl) ?_
        refine lv_sipush (v := (154 : Int32)) hx hb dX12_keepAside_3 (by decide) ?_
        refine lv_icmp_ge (tgt := 27) hx hb dX12_keepAside_6 (by decide) (fun c_1 => ?_) (fun c_1 => ?_)
        · have h := ite_t c_1 h
          cases h
          have hl : some (v1_2b, aside_2b) = some (v1_2r, aside_2r) := hl
          have hl := Option.some.inj hl
          have ee0 : v1_2b = v1_2r := congrArg (fun q => q.1) hl
          have ee1 : aside_2b = aside_2r := congrArg (fun q => q.2) hl
          subst ee0
          subst ee1
          exact LE _ _ _ hP hD hS (lv_sub hv [] rfl)
        · have h := ite_f c_1 h
          refine lv_aload_n hx hb dX12_keepAside_9 rfl (lv_at hv 0 rfl) ?_
          refine va_get (D := D) (ci := 12) (v := .ref (ad 3)) (C := RX12) (T := TX12) (N := 23) hx hb hts in_12 hown hK hP 0 rfl rfl 2 (by decide) w_0 (fun _ h9 => h9) rfl dX12_keepAside_10 ?_
          refine lv_iload_n hx hb dX12_keepAside_13 rfl (lv_at hv 1 rfl) ?_
          refine lv_aload_n hx hb dX12_keepAside_14 rfl (lv_at hv 0 rfl) ?_
          refine va_get (D := D) (ci := 12) (v := .ref (ad 1)) (C := RX12) (T := TX12) (N := 23) hx hb hts in_12 hown hK hP 0 rfl rfl 0 (by decide) w_1 (fun _ h9 => h9) rfl dX12_keepAside_15 ?_
          refine lv_iload_n hx hb dX12_keepAside_18 rfl (lv_at hv 1 rfl) ?_
          obtain ⟨c_2, h⟩ := ckI_ex h
          refine va_iald (D := D) hx hb hK hP 1 0 rfl rfl c_2 dX12_keepAside_19 ?_
          obtain ⟨y_3, ey_3, h⟩ := bnd_ex h
          refine lv_nm ey_3 ?_
          obtain ⟨c_4, h⟩ := ckI_ex h
          obtain ⟨aside_5, easide_5, h⟩ := bnd_ex h
          refine va_iast (D := D) hx hb hK hP hD hS 3 0 rfl rfl c_4 dX12_keepAside_20 (fun H locs hP hD hS => ?_)
          rw [← easide_5] at hP hD
          have hP : va_P D vwCl (wM cA ad d kept aside_5 images found base at0 size fault opened isRub names code coded pile needs traced traceMany who bitsOf sizeOf number lifted) H := hP
          have hD : va_D A (wM cA ad d kept aside_5 images found base at0 size fault opened isRub names code coded pile needs traced traceMany who bitsOf sizeOf number lifted) := hD
          obtain ⟨y_6, ey_6, h⟩ := bnd_ex h
          refine lv_iinc (v := y_6) (lv' := [(1, .int y_6), (0, .ref (ad 0))]) hx hb dX12_keepAside_21 hv (k := 1) rfl (by rw [ey_6]; rfl) (by decide) rfl (fun ls hv => ?_)
          refine lv_goto (tgt := 2) hx hb dX12_keepAside_24 (by decide) ?_
          cases h
          exact ih y_6 aside_5 hl _ _ _ hP hD hS (lv_sub hv [1, 0] rfl)
    exact LB FU v1_2 aside_2 ho
  have hP : va_P D vwCl (wM cA ad d kept aside images found base at0 size fault opened isRub names code coded pile needs traced traceMany who bitsOf sizeOf number lifted) H := hP
  unfold fX12_keepAside at h
  refine lv_iconst (v := (0 : Int32)) hx hb dX12_keepAside_0 (by decide) ?_
  refine lv_istore_n (lv' := [(1, .int (0 : Int32)), (0, .ref (ad 0))]) hx hb dX12_keepAside_1 rfl hv (by decide) rfl (fun ls hv => ?_)
  exact C_2 (0 : Int32) aside h _ _ _ hP hD hS (lv_sub hv [1, 0] rfl)

def fX12_putBack_2B (aside : Nat → Int32) (v1_2b : Int32) (d_2b : Nat → Int32) : Option ((Int32 × (Nat → Int32)) ⊕ (Int32 × (Nat → Int32))) :=
  (if (154 : Int32) ≤ v1_2b then some (.inr (v1_2b, d_2b)) else ckI v1_2b 154 (bnd (aside (v1_2b).toNatClampNeg) fun y_3 => ckI v1_2b 326 (bnd (upd d_2b (v1_2b).toNatClampNeg y_3) fun d_5 => bnd (v1_2b + (1 : Int32)) fun y_6 => some (.inl (y_6, d_5)))))
def fX12_putBack_2 (v1_2 : Int32) (d_2 : Nat → Int32) (aside : Nat → Int32) : Option ((Nat → Int32)) :=
  bd (lp (fun σ : Int32 × (Nat → Int32) => fX12_putBack_2B aside (σ.1) (σ.2)) FU (v1_2, d_2)) fun ρ => match ρ with | (v1_2r, d_2r) => some d_2r
def fX12_putBack (d : Nat → Int32) (aside : Nat → Int32) : Option ((Nat → Int32)) :=
  fX12_putBack_2 (0 : Int32) d aside
set_option maxHeartbeats 4000000 in
set_option maxRecDepth 100000 in
theorem c_X12_putBack (l : Launch) (G : Nat → Nat) (D : va_G) (cA : Nat → ClassId) (ad : Nat → Nat) (sz : Nat) (d : Nat → Int32) (kept : Nat → Int32) (aside : Nat → Int32) (images : Int32) (found : Nat → Int32) (base : Int32) (at0 : Int32) (size : Int32) (fault : Int32) (opened : Int32) (isRub : Int32) (names : Nat → Int32) (code : Nat → Int32) (coded : Int32) (pile : Nat → Int32) (needs : Nat → Int32) (traced : Nat → Int32) (traceMany : Int32) (who : Int32) (bitsOf : Nat → Int32) (sizeOf : Nat → Int32) (number : Nat → Int32) (lifted : Nat → Int32) (dR : Nat → Int32) (h : fX12_putBack d aside = some dR) : Met l yX12_putBack wsX12_putBack ({ frames := 0, cells := 0, slots := 0, locals := 0 } : Room) (PW G D (tyC cA) sz (wM cA ad d kept aside images found base at0 size fault opened isRub names code coded pile needs traced traceMany who bitsOf sizeOf number lifted) [.ref (ad 0)]) (QV D (tyC cA) (va_A (wM cA ad d kept aside images found base at0 size fault opened isRub names code coded pile needs traced traceMany who bitsOf sizeOf number lifted) sz) (wM cA ad dR kept aside images found base at0 size fault opened isRub names code coded pile needs traced traceMany who bitsOf sizeOf number lifted)) 0 0 (va_A (wM cA ad d kept aside images found base at0 size fault opened isRub names code coded pile needs traced traceMany who bitsOf sizeOf number lifted) sz) := by
  refine ent (cc := cX12_putBack) (maxL := 2) (ret := none) (fun A => QV D (tyC cA) A (wM cA ad dR kept aside images found base at0 size fault opened isRub names code coded pile needs traced traceMany who bitsOf sizeOf number lifted)) (by decide +kernel) rfl (Nat.le_of_ble_eq_true rfl) ?_
  intro p e s m args below meth c A ls H hx hb hml hr hlk hts hown hA hK hE hP hD hS hv hmm
  have hv : lv_has ls 2 [(0, .ref (ad 0))] := hv
  have in_12 : ∀ w ∈ u_ws RX12 TX12 23, w ∈ wsX12_putBack := fun _ h => List.mem_cons_of_mem _ (List.mem_append_right _ h)
  have w_0 := hts (.fieldLink RX12 7 "SpoonsLastModel" "d" "[I") (List.mem_of_getElem? (i := 1) rfl)
  have w_1 := hts (.fieldLink RX12 16 "SpoonsLastModel" "aside" "[I") (List.mem_of_getElem? (i := 2) rfl)
  generalize hQ : MQ below _ args s 0 0 A = Q
  have C_2 : ∀ (v1_2 : Int32) (d_2 : Nat → Int32), fX12_putBack_2 v1_2 d_2 aside = some dR → WW p l e ({ frames := 0, cells := 0, slots := 0, locals := 0 } : Room) s m args below meth c D A 0 0 Q (wM cA ad d_2 kept aside images found base at0 size fault opened isRub names code coded pile needs traced traceMany who bitsOf sizeOf number lifted) 2 [(0, .ref (ad 0)), (1, .int v1_2)] 2 [] := by
    intro v1_2 d_2 h
    unfold fX12_putBack_2 at h
    obtain ⟨⟨v1_2r, d_2r⟩, ho, h⟩ := bd_ex h
    have LE : WW p l e ({ frames := 0, cells := 0, slots := 0, locals := 0 } : Room) s m args below meth c D A 0 0 Q (wM cA ad d_2r kept aside images found base at0 size fault opened isRub names code coded pile needs traced traceMany who bitsOf sizeOf number lifted) 2 [] 27 [] := by
      intro H locs ls hP hD hS hv
      have h := Option.some.inj h
      have ee0 : d_2r = dR := congrArg (fun q => q) h
      subst ee0
      rw [← hQ]
      exact retV hx hb hr hlk hK hP hD hS dX12_putBack_27 ⟨Nat.le_of_ble_eq_true rfl, Nat.le_of_ble_eq_true rfl⟩
    have LB : ∀ (nf : Nat) (v1_2b : Int32) (d_2b : Nat → Int32), lp (fun σ : Int32 × (Nat → Int32) => fX12_putBack_2B aside (σ.1) (σ.2)) nf (v1_2b, d_2b) = some (v1_2r, d_2r) → WW p l e ({ frames := 0, cells := 0, slots := 0, locals := 0 } : Room) s m args below meth c D A 0 0 Q (wM cA ad d_2b kept aside images found base at0 size fault opened isRub names code coded pile needs traced traceMany who bitsOf sizeOf number lifted) 2 [(0, .ref (ad 0)), (1, .int v1_2b)] 2 [] := by
      intro nf
      induction nf with
      | zero => intro v1_2b d_2b hl; cases hl
      | succ nf ih =>
        intro v1_2b d_2b hl
        obtain ⟨x, h, hl⟩ := lp_ex hl
        have h : fX12_putBack_2B aside v1_2b d_2b = some x := h
        unfold fX12_putBack_2B at h
        intro H locs ls hP hD hS hv
        refine lv_iload_n hx hb dX12_putBack_2 rfl (lv_at hv 1 rfl) ?_
        refine lv_sipush (v := (154 : Int32)) hx hb dX12_putBack_3 (by decide) ?_
        refine lv_icmp_ge (tgt := 27) hx hb dX12_putBack_6 (by decide) (fun c_1 => ?_) (fun c_1 => ?_)
        · have h := ite_t c_1 h
          cases h
          have hl : some (v1_2b, d_2b) = some (v1_2r, d_2r) := hl
          have hl := Option.some.inj hl
          have ee0 : v1_2b = v1_2r := congrArg (fun q => q.1) hl
          have ee1 : d_2b = d_2r := congrArg (fun q => q.2) hl
          subst ee0
          subst ee1
          exact LE _ _ _ hP hD hS (lv_sub hv [] rfl)
        · have h := ite_f c_1 h
          refine lv_aload_n hx hb dX12_putBack_9 rfl (lv_at hv 0 rfl) ?_
          refine va_get (D := D) (ci := 12) (v := .ref (ad 1)) (C := RX12) (T := TX12) (N := 23) hx hb hts in_12 hown hK hP 0 rfl rfl 0 (by decide) w_0 (fun _ h9 => h9) rfl dX12_putBack_10 ?_
          refine lv_iload_n hx hb dX12_putBack_13 rfl (lv_at hv 1 rfl) ?_
          refine lv_aload_n hx hb dX12_putBack_14 rfl (lv_at hv 0 rfl) ?_
          refine va_get (D := D) (ci := 12) (v := .ref (ad 3)) (C := RX12) (T := TX12) (N := 23) hx hb hts in_12 hown hK hP 0 rfl rfl 2 (by decide) w_1 (fun _ h9 => h9) rfl dX12_putBack_15 ?_
          refine lv_iload_n hx hb dX12_putBack_18 rfl (lv_at hv 1 rfl) ?_
          obtain ⟨c_2, h⟩ := ckI_ex h
          refine va_iald (D := D) hx hb hK hP 3 0 rfl rfl c_2 dX12_putBack_19 ?_
          obtain ⟨y_3, ey_3, h⟩ := bnd_ex h
          refine lv_nm ey_3 ?_
          obtain ⟨c_4, h⟩ := ckI_ex h
          obtain ⟨d_5, ed_5, h⟩ := bnd_ex h
          refine va_iast (D := D) hx hb hK hP hD hS 1 0 rfl rfl c_4 dX12_putBack_20 (fun H locs hP hD hS => ?_)
          rw [← ed_5] at hP hD
          have hP : va_P D vwCl (wM cA ad d_5 kept aside images found base at0 size fault opened isRub names code coded pile needs traced traceMany who bitsOf sizeOf number lifted) H := hP
          have hD : va_D A (wM cA ad d_5 kept aside images found base at0 size fault opened isRub names code coded pile needs traced traceMany who bitsOf sizeOf number lifted) := hD
          obtain ⟨y_6, ey_6, h⟩ := bnd_ex h
          refine lv_iinc (v := y_6) (lv' := [(1, .int y_6), (0, .ref (ad 0))]) hx hb dX12_putBack_21 hv (k := 1) rfl (by rw [ey_6]; rfl) (by decide) rfl (fun ls hv => ?_)
          refine lv_goto (tgt := 2) hx hb dX12_putBack_24 (by decide) ?_
          cases h
          exact ih y_6 d_5 hl _ _ _ hP hD hS (lv_sub hv [1, 0] rfl)
    exact LB FU v1_2 d_2 ho
  have hP : va_P D vwCl (wM cA ad d kept aside images found base at0 size fault opened isRub names code coded pile needs traced traceMany who bitsOf sizeOf number lifted) H := hP
  unfold fX12_putBack at h
  refine lv_iconst (v := (0 : Int32)) hx hb dX12_putBack_0 (by decide) ?_
  refine lv_istore_n (lv' := [(1, .int (0 : Int32)), (0, .ref (ad 0))]) hx hb dX12_putBack_1 rfl hv (by decide) rfl (fun ls hv => ?_)
  exact C_2 (0 : Int32) d h _ _ _ hP hD hS (lv_sub hv [1, 0] rfl)

def fX12_here (d : Nat → Int32) (base : Int32) (at0 : Int32) (size : Int32) (fault : Int32) : Option (Int32) :=
  (if size ≤ at0 then some (-1 : Int32) else (if 0 ≤ fault then some (-1 : Int32) else ckI (base + at0) 326 (some (d ((base + at0)).toNatClampNeg))))
set_option maxHeartbeats 4000000 in
set_option maxRecDepth 100000 in
theorem c_X12_here (l : Launch) (G : Nat → Nat) (D : va_G) (cA : Nat → ClassId) (ad : Nat → Nat) (sz : Nat) (d : Nat → Int32) (kept : Nat → Int32) (aside : Nat → Int32) (images : Int32) (found : Nat → Int32) (base : Int32) (at0 : Int32) (size : Int32) (fault : Int32) (opened : Int32) (isRub : Int32) (names : Nat → Int32) (code : Nat → Int32) (coded : Int32) (pile : Nat → Int32) (needs : Nat → Int32) (traced : Nat → Int32) (traceMany : Int32) (who : Int32) (bitsOf : Nat → Int32) (sizeOf : Nat → Int32) (number : Nat → Int32) (lifted : Nat → Int32) (rR : Int32) (h : fX12_here d base at0 size fault = some rR) : Met l yX12_here wsX12_here ({ frames := 0, cells := 0, slots := 0, locals := 0 } : Room) (PW G D (tyC cA) sz (wM cA ad d kept aside images found base at0 size fault opened isRub names code coded pile needs traced traceMany who bitsOf sizeOf number lifted) [.ref (ad 0)]) (QI D (tyC cA) (va_A (wM cA ad d kept aside images found base at0 size fault opened isRub names code coded pile needs traced traceMany who bitsOf sizeOf number lifted) sz) rR (wM cA ad d kept aside images found base at0 size fault opened isRub names code coded pile needs traced traceMany who bitsOf sizeOf number lifted)) 0 0 (va_A (wM cA ad d kept aside images found base at0 size fault opened isRub names code coded pile needs traced traceMany who bitsOf sizeOf number lifted) sz) := by
  refine ent (cc := cX12_here) (maxL := 1) (ret := (some .int)) (fun A => QI D (tyC cA) A rR (wM cA ad d kept aside images found base at0 size fault opened isRub names code coded pile needs traced traceMany who bitsOf sizeOf number lifted)) (by decide +kernel) rfl (Nat.le_of_ble_eq_true rfl) ?_
  intro p e s m args below meth c A ls H hx hb hml hr hlk hts hown hA hK hE hP hD hS hv hmm
  have hv : lv_has ls 1 [(0, .ref (ad 0))] := hv
  have in_12 : ∀ w ∈ u_ws RX12 TX12 23, w ∈ wsX12_here := fun _ h => List.mem_cons_of_mem _ (List.mem_append_right _ h)
  have w_0 := hts (.fieldLink RX12 58 "SpoonsLastModel" "at" "I") (List.mem_of_getElem? (i := 1) rfl)
  have w_1 := hts (.fieldLink RX12 62 "SpoonsLastModel" "size" "I") (List.mem_of_getElem? (i := 2) rfl)
  have w_2 := hts (.fieldLink RX12 65 "SpoonsLastModel" "fault" "I") (List.mem_of_getElem? (i := 3) rfl)
  have w_3 := hts (.fieldLink RX12 7 "SpoonsLastModel" "d" "[I") (List.mem_of_getElem? (i := 4) rfl)
  have w_4 := hts (.fieldLink RX12 68 "SpoonsLastModel" "base" "I") (List.mem_of_getElem? (i := 5) rfl)
  generalize hQ : MQ below _ args s 0 0 A = Q
  have hP : va_P D vwCl (wM cA ad d kept aside images found base at0 size fault opened isRub names code coded pile needs traced traceMany who bitsOf sizeOf number lifted) H := hP
  unfold fX12_here at h
  refine lv_aload_n hx hb dX12_here_0 rfl (lv_at hv 0 rfl) ?_
  refine va_get (D := D) (ci := 12) (v := .int at0) (C := RX12) (T := TX12) (N := 23) hx hb hts in_12 hown hK hP 0 rfl rfl 6 (by decide) w_0 (fun _ h9 => h9) rfl dX12_here_1 ?_
  refine lv_aload_n hx hb dX12_here_4 rfl (lv_at hv 0 rfl) ?_
  refine va_get (D := D) (ci := 12) (v := .int size) (C := RX12) (T := TX12) (N := 23) hx hb hts in_12 hown hK hP 0 rfl rfl 7 (by decide) w_1 (fun _ h9 => h9) rfl dX12_here_5 ?_
  refine lv_icmp_ge (tgt := 35) hx hb dX12_here_8 (by decide) (fun c_1 => ?_) (fun c_1 => ?_)
  · have h := ite_t c_1 h
    refine lv_iconst (v := (-1 : Int32)) hx hb dX12_here_35 (by decide) ?_
    have h := Option.some.inj h
    have ee0 : (-1 : Int32) = rR := congrArg (fun q => q) h
    subst ee0
    rw [← hQ]
    exact retI hx hb hr hlk hK hP hD hS dX12_here_36 ⟨Nat.le_of_ble_eq_true rfl, Nat.le_of_ble_eq_true rfl⟩
  · have h := ite_f c_1 h
    refine lv_aload_n hx hb dX12_here_11 rfl (lv_at hv 0 rfl) ?_
    refine va_get (D := D) (ci := 12) (v := .int fault) (C := RX12) (T := TX12) (N := 23) hx hb hts in_12 hown hK hP 0 rfl rfl 8 (by decide) w_2 (fun _ h9 => h9) rfl dX12_here_12 ?_
    refine lv_if_ge (tgt := 35) hx hb dX12_here_15 (by decide) (fun c_2 => ?_) (fun c_2 => ?_)
    · have h := ite_t c_2 h
      refine lv_iconst (v := (-1 : Int32)) hx hb dX12_here_35 (by decide) ?_
      have h := Option.some.inj h
      have ee0 : (-1 : Int32) = rR := congrArg (fun q => q) h
      subst ee0
      rw [← hQ]
      exact retI hx hb hr hlk hK hP hD hS dX12_here_36 ⟨Nat.le_of_ble_eq_true rfl, Nat.le_of_ble_eq_true rfl⟩
    · have h := ite_f c_2 h
      refine lv_aload_n hx hb dX12_here_18 rfl (lv_at hv 0 rfl) ?_
      refine va_get (D := D) (ci := 12) (v := .ref (ad 1)) (C := RX12) (T := TX12) (N := 23) hx hb hts in_12 hown hK hP 0 rfl rfl 0 (by decide) w_3 (fun _ h9 => h9) rfl dX12_here_19 ?_
      refine lv_aload_n hx hb dX12_here_22 rfl (lv_at hv 0 rfl) ?_
      refine va_get (D := D) (ci := 12) (v := .int base) (C := RX12) (T := TX12) (N := 23) hx hb hts in_12 hown hK hP 0 rfl rfl 5 (by decide) w_4 (fun _ h9 => h9) rfl dX12_here_23 ?_
      refine lv_aload_n hx hb dX12_here_26 rfl (lv_at hv 0 rfl) ?_
      refine va_get (D := D) (ci := 12) (v := .int at0) (C := RX12) (T := TX12) (N := 23) hx hb hts in_12 hown hK hP 0 rfl rfl 6 (by decide) w_0 (fun _ h9 => h9) rfl dX12_here_27 ?_
      refine lv_iadd hx hb dX12_here_30 ?_
      obtain ⟨c_3, h⟩ := ckI_ex h
      refine va_iald (D := D) hx hb hK hP 1 0 rfl rfl c_3 dX12_here_31 ?_
      refine lv_goto (tgt := 36) hx hb dX12_here_32 (by decide) ?_
      have h := Option.some.inj h
      have ee0 : (d ((base + at0)).toNatClampNeg) = rR := congrArg (fun q => q) h
      subst ee0
      rw [← hQ]
      exact retI hx hb hr hlk hK hP hD hS dX12_here_36 ⟨Nat.le_of_ble_eq_true rfl, Nat.le_of_ble_eq_true rfl⟩

def fX12_wrong (at0 : Int32) (fault : Int32) : Option (Int32) :=
  (if 0 ≤ fault then some fault else some at0)
set_option maxHeartbeats 4000000 in
set_option maxRecDepth 100000 in
theorem c_X12_wrong (l : Launch) (G : Nat → Nat) (D : va_G) (cA : Nat → ClassId) (ad : Nat → Nat) (sz : Nat) (d : Nat → Int32) (kept : Nat → Int32) (aside : Nat → Int32) (images : Int32) (found : Nat → Int32) (base : Int32) (at0 : Int32) (size : Int32) (fault : Int32) (opened : Int32) (isRub : Int32) (names : Nat → Int32) (code : Nat → Int32) (coded : Int32) (pile : Nat → Int32) (needs : Nat → Int32) (traced : Nat → Int32) (traceMany : Int32) (who : Int32) (bitsOf : Nat → Int32) (sizeOf : Nat → Int32) (number : Nat → Int32) (lifted : Nat → Int32) (faultR : Int32) (h : fX12_wrong at0 fault = some faultR) : Met l yX12_wrong wsX12_wrong ({ frames := 0, cells := 0, slots := 0, locals := 0 } : Room) (PW G D (tyC cA) sz (wM cA ad d kept aside images found base at0 size fault opened isRub names code coded pile needs traced traceMany who bitsOf sizeOf number lifted) [.ref (ad 0)]) (QV D (tyC cA) (va_A (wM cA ad d kept aside images found base at0 size fault opened isRub names code coded pile needs traced traceMany who bitsOf sizeOf number lifted) sz) (wM cA ad d kept aside images found base at0 size faultR opened isRub names code coded pile needs traced traceMany who bitsOf sizeOf number lifted)) 0 0 (va_A (wM cA ad d kept aside images found base at0 size fault opened isRub names code coded pile needs traced traceMany who bitsOf sizeOf number lifted) sz) := by
  refine ent (cc := cX12_wrong) (maxL := 1) (ret := none) (fun A => QV D (tyC cA) A (wM cA ad d kept aside images found base at0 size faultR opened isRub names code coded pile needs traced traceMany who bitsOf sizeOf number lifted)) (by decide +kernel) rfl (Nat.le_of_ble_eq_true rfl) ?_
  intro p e s m args below meth c A ls H hx hb hml hr hlk hts hown hA hK hE hP hD hS hv hmm
  have hv : lv_has ls 1 [(0, .ref (ad 0))] := hv
  have in_12 : ∀ w ∈ u_ws RX12 TX12 23, w ∈ wsX12_wrong := fun _ h => List.mem_cons_of_mem _ (List.mem_append_right _ h)
  have w_0 := hts (.fieldLink RX12 65 "SpoonsLastModel" "fault" "I") (List.mem_of_getElem? (i := 1) rfl)
  have w_1 := hts (.fieldLink RX12 58 "SpoonsLastModel" "at" "I") (List.mem_of_getElem? (i := 2) rfl)
  generalize hQ : MQ below _ args s 0 0 A = Q
  have hP : va_P D vwCl (wM cA ad d kept aside images found base at0 size fault opened isRub names code coded pile needs traced traceMany who bitsOf sizeOf number lifted) H := hP
  unfold fX12_wrong at h
  refine lv_aload_n hx hb dX12_wrong_0 rfl (lv_at hv 0 rfl) ?_
  refine lv_aload_n hx hb dX12_wrong_1 rfl (lv_at hv 0 rfl) ?_
  refine va_get (D := D) (ci := 12) (v := .int fault) (C := RX12) (T := TX12) (N := 23) hx hb hts in_12 hown hK hP 0 rfl rfl 8 (by decide) w_0 (fun _ h9 => h9) rfl dX12_wrong_2 ?_
  refine lv_if_ge (tgt := 15) hx hb dX12_wrong_5 (by decide) (fun c_1 => ?_) (fun c_1 => ?_)
  · have h := ite_t c_1 h
    refine lv_aload_n hx hb dX12_wrong_15 rfl (lv_at hv 0 rfl) ?_
    refine va_get (D := D) (ci := 12) (v := .int fault) (C := RX12) (T := TX12) (N := 23) hx hb hts in_12 hown hK hP 0 rfl rfl 8 (by decide) w_0 (fun _ h9 => h9) rfl dX12_wrong_16 ?_
    refine va_put (D := D) (ci := 12) (v := .int fault) (ty := .int) (C := RX12) (T := TX12) (N := 23) hx hb hts in_12 tyX12 tyX12_ok nmX12 hown hK hP hD hS 0 rfl rfl 8 (by decide) w_0 (fun _ h9 => h9) rfl (by decide +kernel) rfl rfl (Nat.le_of_ble_eq_true rfl) dX12_wrong_19 (fun H locs hP hD hS => ?_)
    have hP : va_P D vwCl (wM cA ad d kept aside images found base at0 size fault opened isRub names code coded pile needs traced traceMany who bitsOf sizeOf number lifted) H := hP
    have hD : va_D A (wM cA ad d kept aside images found base at0 size fault opened isRub names code coded pile needs traced traceMany who bitsOf sizeOf number lifted) := hD
    have h := Option.some.inj h
    have ee0 : fault = faultR := congrArg (fun q => q) h
    subst ee0
    rw [← hQ]
    exact retV hx hb hr hlk hK hP hD hS dX12_wrong_22 ⟨Nat.le_of_ble_eq_true rfl, Nat.le_of_ble_eq_true rfl⟩
  · have h := ite_f c_1 h
    refine lv_aload_n hx hb dX12_wrong_8 rfl (lv_at hv 0 rfl) ?_
    refine va_get (D := D) (ci := 12) (v := .int at0) (C := RX12) (T := TX12) (N := 23) hx hb hts in_12 hown hK hP 0 rfl rfl 6 (by decide) w_1 (fun _ h9 => h9) rfl dX12_wrong_9 ?_
    refine lv_goto (tgt := 19) hx hb dX12_wrong_12 (by decide) ?_
    refine va_put (D := D) (ci := 12) (v := .int at0) (ty := .int) (C := RX12) (T := TX12) (N := 23) hx hb hts in_12 tyX12 tyX12_ok nmX12 hown hK hP hD hS 0 rfl rfl 8 (by decide) w_0 (fun _ h9 => h9) rfl (by decide +kernel) rfl rfl (Nat.le_of_ble_eq_true rfl) dX12_wrong_19 (fun H locs hP hD hS => ?_)
    have hP : va_P D vwCl (wM cA ad d kept aside images found base at0 size at0 opened isRub names code coded pile needs traced traceMany who bitsOf sizeOf number lifted) H := hP
    have hD : va_D A (wM cA ad d kept aside images found base at0 size at0 opened isRub names code coded pile needs traced traceMany who bitsOf sizeOf number lifted) := hD
    have h := Option.some.inj h
    have ee0 : at0 = faultR := congrArg (fun q => q) h
    subst ee0
    rw [← hQ]
    exact retV hx hb hr hlk hK hP hD hS dX12_wrong_22 ⟨Nat.le_of_ble_eq_true rfl, Nat.le_of_ble_eq_true rfl⟩

def fX12_takes (k : Int32) (d : Nat → Int32) (base : Int32) (at0 : Int32) (size : Int32) (fault : Int32) : Option (Int32 × Int32) :=
  bd (fX12_here d base at0 size fault) fun r_1 => (if r_1 = k then bnd (at0 + (1 : Int32)) fun y_4 => some ((1 : Int32), y_4) else some ((0 : Int32), at0))
set_option maxHeartbeats 4000000 in
set_option maxRecDepth 100000 in
theorem c_X12_takes (l : Launch) (G : Nat → Nat) (D : va_G) (cA : Nat → ClassId) (ad : Nat → Nat) (sz : Nat) (d : Nat → Int32) (kept : Nat → Int32) (aside : Nat → Int32) (images : Int32) (found : Nat → Int32) (base : Int32) (at0 : Int32) (size : Int32) (fault : Int32) (opened : Int32) (isRub : Int32) (names : Nat → Int32) (code : Nat → Int32) (coded : Int32) (pile : Nat → Int32) (needs : Nat → Int32) (traced : Nat → Int32) (traceMany : Int32) (who : Int32) (bitsOf : Nat → Int32) (sizeOf : Nat → Int32) (number : Nat → Int32) (lifted : Nat → Int32) (k : Int32) (rR : Int32) (at0R : Int32) (h : fX12_takes k d base at0 size fault = some (rR, at0R)) : Met l yX12_takes wsX12_takes ({ frames := 1, cells := 0, slots := 0, locals := 20 } : Room) (PW G D (tyC cA) sz (wM cA ad d kept aside images found base at0 size fault opened isRub names code coded pile needs traced traceMany who bitsOf sizeOf number lifted) [.ref (ad 0), .int k]) (QI D (tyC cA) (va_A (wM cA ad d kept aside images found base at0 size fault opened isRub names code coded pile needs traced traceMany who bitsOf sizeOf number lifted) sz) rR (wM cA ad d kept aside images found base at0R size fault opened isRub names code coded pile needs traced traceMany who bitsOf sizeOf number lifted)) 0 0 (va_A (wM cA ad d kept aside images found base at0 size fault opened isRub names code coded pile needs traced traceMany who bitsOf sizeOf number lifted) sz) := by
  refine ent (cc := cX12_takes) (maxL := 2) (ret := (some .boolean)) (fun A => QI D (tyC cA) A rR (wM cA ad d kept aside images found base at0R size fault opened isRub names code coded pile needs traced traceMany who bitsOf sizeOf number lifted)) (by decide +kernel) rfl (Nat.le_of_ble_eq_true rfl) ?_
  intro p e s m args below meth c A ls H hx hb hml hr hlk hts hown hA hK hE hP hD hS hv hmm
  have hv : lv_has ls 2 [(0, .ref (ad 0)), (1, .int k)] := hv
  have in_12 : ∀ w ∈ u_ws RX12 TX12 23, w ∈ wsX12_takes := fun _ h => List.mem_cons_of_mem _ (List.mem_append_right _ h)
  have w_0 := hts (.fieldLink RX12 58 "SpoonsLastModel" "at" "I") (List.mem_of_getElem? (i := 1) rfl)
  generalize hQ : MQ below _ args s 0 0 A = Q
  have hP : va_P D vwCl (wM cA ad d kept aside images found base at0 size fault opened isRub names code coded pile needs traced traceMany who bitsOf sizeOf number lifted) H := hP
  unfold fX12_takes at h
  refine lv_aload_n hx hb dX12_takes_0 rfl (lv_at hv 0 rfl) ?_
  obtain ⟨r_1, hf_2, h⟩ := bd_ex h
  have sb := Sb.same hP hD hS hA
  refine calI (va_runV (As := []) (rest := []) ⟨hx, hb, hml, hown, hts⟩ (c_X12_here l G D cA ad _ d kept aside images found base at0 size fault opened isRub names code coded pile needs traced traceMany who bitsOf sizeOf number lifted r_1 hf_2) (cwV 0 hts gX12_takes_X12_here rfl rfl rfl (by decide +kernel) ⟨Nat.le_of_ble_eq_true rfl, Nat.le_of_ble_eq_true rfl⟩) (pvV hE hK hS sb (va_recv hK hP (ci := 12) (q0 := 0) rfl rfl)) rfl rfl hv.1 rfl (lv_room (Nat.le_of_ble_eq_true rfl)) dX12_takes_1 ⟨Nat.le_of_ble_eq_true rfl, Nat.le_of_ble_eq_true rfl⟩) hS sb (Jn.same sb) (fun H locs hP hD hS => ?_)
  have hP : va_P D vwCl (wM cA ad d kept aside images found base at0 size fault opened isRub names code coded pile needs traced traceMany who bitsOf sizeOf number lifted) H := hP
  have hD : va_D A (wM cA ad d kept aside images found base at0 size fault opened isRub names code coded pile needs traced traceMany who bitsOf sizeOf number lifted) := hD
  refine lv_iload_n hx hb dX12_takes_4 rfl (lv_at hv 1 rfl) ?_
  refine lv_icmp_eq (tgt := 10) hx hb dX12_takes_5 (by decide) (fun c_3 => ?_) (fun c_3 => ?_)
  · have h := ite_t c_3 h
    refine lv_aload_n hx hb dX12_takes_10 rfl (lv_at hv 0 rfl) ?_
    refine lv_dup hx hb dX12_takes_11 rfl ?_
    refine va_get (D := D) (ci := 12) (v := .int at0) (C := RX12) (T := TX12) (N := 23) hx hb hts in_12 hown hK hP 0 rfl rfl 6 (by decide) w_0 (fun _ h9 => h9) rfl dX12_takes_12 ?_
    refine lv_iconst (v := (1 : Int32)) hx hb dX12_takes_15 (by decide) ?_
    refine lv_iadd hx hb dX12_takes_16 ?_
    obtain ⟨y_4, ey_4, h⟩ := bnd_ex h
    refine lv_nm ey_4 ?_
    refine va_put (D := D) (ci := 12) (v := .int y_4) (ty := .int) (C := RX12) (T := TX12) (N := 23) hx hb hts in_12 tyX12 tyX12_ok nmX12 hown hK hP hD hS 0 rfl rfl 6 (by decide) w_0 (fun _ h9 => h9) rfl (by decide +kernel) rfl rfl (Nat.le_of_ble_eq_true rfl) dX12_takes_17 (fun H locs hP hD hS => ?_)
    have hP : va_P D vwCl (wM cA ad d kept aside images found base y_4 size fault opened isRub names code coded pile needs traced traceMany who bitsOf sizeOf number lifted) H := hP
    have hD : va_D A (wM cA ad d kept aside images found base y_4 size fault opened isRub names code coded pile needs traced traceMany who bitsOf sizeOf number lifted) := hD
    refine lv_iconst (v := (1 : Int32)) hx hb dX12_takes_20 (by decide) ?_
    have h := Option.some.inj h
    have ee0 : (1 : Int32) = rR := congrArg (fun q => q.1) h
    have ee1 : y_4 = at0R := congrArg (fun q => q.2) h
    subst ee0
    subst ee1
    rw [← hQ]
    exact retZ (by decide) hx hb hr hlk hK hP hD hS dX12_takes_21 ⟨Nat.le_of_ble_eq_true rfl, Nat.le_of_ble_eq_true rfl⟩
  · have h := ite_f c_3 h
    refine lv_iconst (v := (0 : Int32)) hx hb dX12_takes_8 (by decide) ?_
    have h := Option.some.inj h
    have ee0 : (0 : Int32) = rR := congrArg (fun q => q.1) h
    have ee1 : at0 = at0R := congrArg (fun q => q.2) h
    subst ee0
    subst ee1
    rw [← hQ]
    exact retZ (by decide) hx hb hr hlk hK hP hD hS dX12_takes_9 ⟨Nat.le_of_ble_eq_true rfl, Nat.le_of_ble_eq_true rfl⟩

def fX12_nameOf_37 (v1_37 : Int32) (k0_37 : Int32) (k1_37 : Int32) (isRub : Int32) : Option (Int32) :=
  (if k1_37 = k0_37 then some (1 : Int32) else (if isRub = 0 then (if v1_37 = (115 : Int32) then some (2 : Int32) else some (-1 : Int32)) else (if v1_37 = (110 : Int32) then some (2 : Int32) else some (-1 : Int32))))
def fX12_nameOf_15 (v1_15 : Int32) (k0_15 : Int32) (k1_15 : Int32) (isRub : Int32) : Option (Int32) :=
  (if k1_15 = k0_15 then some (0 : Int32) else (if isRub = 0 then fX12_nameOf_37 v1_15 (119 : Int32) v1_15 isRub else fX12_nameOf_37 v1_15 (115 : Int32) v1_15 isRub))
def fX12_nameOf (k : Int32) (isRub : Int32) : Option (Int32) :=
  (if isRub = 0 then fX12_nameOf_15 k (107 : Int32) k isRub else fX12_nameOf_15 k (114 : Int32) k isRub)
set_option maxHeartbeats 4000000 in
set_option maxRecDepth 100000 in
theorem c_X12_nameOf (l : Launch) (G : Nat → Nat) (D : va_G) (cA : Nat → ClassId) (ad : Nat → Nat) (sz : Nat) (d : Nat → Int32) (kept : Nat → Int32) (aside : Nat → Int32) (images : Int32) (found : Nat → Int32) (base : Int32) (at0 : Int32) (size : Int32) (fault : Int32) (opened : Int32) (isRub : Int32) (names : Nat → Int32) (code : Nat → Int32) (coded : Int32) (pile : Nat → Int32) (needs : Nat → Int32) (traced : Nat → Int32) (traceMany : Int32) (who : Int32) (bitsOf : Nat → Int32) (sizeOf : Nat → Int32) (number : Nat → Int32) (lifted : Nat → Int32) (k : Int32) (rR : Int32) (h : fX12_nameOf k isRub = some rR) : Met l yX12_nameOf wsX12_nameOf ({ frames := 0, cells := 0, slots := 0, locals := 0 } : Room) (PW G D (tyC cA) sz (wM cA ad d kept aside images found base at0 size fault opened isRub names code coded pile needs traced traceMany who bitsOf sizeOf number lifted) [.ref (ad 0), .int k]) (QI D (tyC cA) (va_A (wM cA ad d kept aside images found base at0 size fault opened isRub names code coded pile needs traced traceMany who bitsOf sizeOf number lifted) sz) rR (wM cA ad d kept aside images found base at0 size fault opened isRub names code coded pile needs traced traceMany who bitsOf sizeOf number lifted)) 0 0 (va_A (wM cA ad d kept aside images found base at0 size fault opened isRub names code coded pile needs traced traceMany who bitsOf sizeOf number lifted) sz) := by
  refine ent (cc := cX12_nameOf) (maxL := 2) (ret := (some .int)) (fun A => QI D (tyC cA) A rR (wM cA ad d kept aside images found base at0 size fault opened isRub names code coded pile needs traced traceMany who bitsOf sizeOf number lifted)) (by decide +kernel) rfl (Nat.le_of_ble_eq_true rfl) ?_
  intro p e s m args below meth c A ls H hx hb hml hr hlk hts hown hA hK hE hP hD hS hv hmm
  have hv : lv_has ls 2 [(0, .ref (ad 0)), (1, .int k)] := hv
  have in_12 : ∀ w ∈ u_ws RX12 TX12 23, w ∈ wsX12_nameOf := fun _ h => List.mem_cons_of_mem _ (List.mem_append_right _ h)
  have w_0 := hts (.fieldLink RX12 75 "SpoonsLastModel" "isRub" "Z") (List.mem_of_getElem? (i := 1) rfl)
  generalize hQ : MQ below _ args s 0 0 A = Q
  have C_37 : ∀ (v1_37 : Int32) (k0_37 : Int32) (k1_37 : Int32), fX12_nameOf_37 v1_37 k0_37 k1_37 isRub = some rR → WW p l e ({ frames := 0, cells := 0, slots := 0, locals := 0 } : Room) s m args below meth c D A 0 0 Q (wM cA ad d kept aside images found base at0 size fault opened isRub names code coded pile needs traced traceMany who bitsOf sizeOf number lifted) 2 [(0, .ref (ad 0)), (1, .int v1_37)] 37 [.int k0_37, .int k1_37] := by
    intro v1_37 k0_37 k1_37 h
    unfold fX12_nameOf_37 at h
    intro H locs ls hP hD hS hv
    refine lv_icmp_ne (tgt := 44) hx hb dX12_nameOf_37 (by decide) (fun c_4 => ?_) (fun c_4 => ?_)
    · have h := ite_f c_4 h
      refine lv_iload_n hx hb dX12_nameOf_44 rfl (lv_at hv 1 rfl) ?_
      refine lv_aload_n hx hb dX12_nameOf_45 rfl (lv_at hv 0 rfl) ?_
      refine va_get (D := D) (ci := 12) (v := .int isRub) (C := RX12) (T := TX12) (N := 23) hx hb hts in_12 hown hK hP 0 rfl rfl 10 (by decide) w_0 (fun _ h9 => h9) rfl dX12_nameOf_46 ?_
      refine lv_if_eq (tgt := 57) hx hb dX12_nameOf_49 (by decide) (fun c_5 => ?_) (fun c_5 => ?_)
      · have h := ite_t c_5 h
        refine lv_bipush (v := (115 : Int32)) hx hb dX12_nameOf_57 (by decide) ?_
        refine lv_icmp_ne (tgt := 66) hx hb dX12_nameOf_59 (by decide) (fun c_6 => ?_) (fun c_6 => ?_)
        · have h := ite_f c_6 h
          refine lv_iconst (v := (-1 : Int32)) hx hb dX12_nameOf_66 (by decide) ?_
          have h := Option.some.inj h
          have ee0 : (-1 : Int32) = rR := congrArg (fun q => q) h
          subst ee0
          rw [← hQ]
          exact retI hx hb hr hlk hK hP hD hS dX12_nameOf_67 ⟨Nat.le_of_ble_eq_true rfl, Nat.le_of_ble_eq_true rfl⟩
        · have h := ite_t c_6 h
          refine lv_iconst (v := (2 : Int32)) hx hb dX12_nameOf_62 (by decide) ?_
          refine lv_goto (tgt := 67) hx hb dX12_nameOf_63 (by decide) ?_
          have h := Option.some.inj h
          have ee0 : (2 : Int32) = rR := congrArg (fun q => q) h
          subst ee0
          rw [← hQ]
          exact retI hx hb hr hlk hK hP hD hS dX12_nameOf_67 ⟨Nat.le_of_ble_eq_true rfl, Nat.le_of_ble_eq_true rfl⟩
      · have h := ite_f c_5 h
        refine lv_bipush (v := (110 : Int32)) hx hb dX12_nameOf_52 (by decide) ?_
        refine lv_goto (tgt := 59) hx hb dX12_nameOf_54 (by decide) ?_
        refine lv_icmp_ne (tgt := 66) hx hb dX12_nameOf_59 (by decide) (fun c_7 => ?_) (fun c_7 => ?_)
        · have h := ite_f c_7 h
          refine lv_iconst (v := (-1 : Int32)) hx hb dX12_nameOf_66 (by decide) ?_
          have h := Option.some.inj h
          have ee0 : (-1 : Int32) = rR := congrArg (fun q => q) h
          subst ee0
          rw [← hQ]
          exact retI hx hb hr hlk hK hP hD hS dX12_nameOf_67 ⟨Nat.le_of_ble_eq_true rfl, Nat.le_of_ble_eq_true rfl⟩
        · have h := ite_t c_7 h
          refine lv_iconst (v := (2 : Int32)) hx hb dX12_nameOf_62 (by decide) ?_
          refine lv_goto (tgt := 67) hx hb dX12_nameOf_63 (by decide) ?_
          have h := Option.some.inj h
          have ee0 : (2 : Int32) = rR := congrArg (fun q => q) h
          subst ee0
          rw [← hQ]
          exact retI hx hb hr hlk hK hP hD hS dX12_nameOf_67 ⟨Nat.le_of_ble_eq_true rfl, Nat.le_of_ble_eq_true rfl⟩
    · have h := ite_t c_4 h
      refine lv_iconst (v := (1 : Int32)) hx hb dX12_nameOf_40 (by decide) ?_
      refine lv_goto (tgt := 67) hx hb dX12_nameOf_41 (by decide) ?_
      have h := Option.some.inj h
      have ee0 : (1 : Int32) = rR := congrArg (fun q => q) h
      subst ee0
      rw [← hQ]
      exact retI hx hb hr hlk hK hP hD hS dX12_nameOf_67 ⟨Nat.le_of_ble_eq_true rfl, Nat.le_of_ble_eq_true rfl⟩
  have C_15 : ∀ (v1_15 : Int32) (k0_15 : Int32) (k1_15 : Int32), fX12_nameOf_15 v1_15 k0_15 k1_15 isRub = some rR → WW p l e ({ frames := 0, cells := 0, slots := 0, locals := 0 } : Room) s m args below meth c D A 0 0 Q (wM cA ad d kept aside images found base at0 size fault opened isRub names code coded pile needs traced traceMany who bitsOf sizeOf number lifted) 2 [(0, .ref (ad 0)), (1, .int v1_15)] 15 [.int k0_15, .int k1_15] := by
    intro v1_15 k0_15 k1_15 h
    unfold fX12_nameOf_15 at h
    intro H locs ls hP hD hS hv
    refine lv_icmp_ne (tgt := 22) hx hb dX12_nameOf_15 (by decide) (fun c_2 => ?_) (fun c_2 => ?_)
    · have h := ite_f c_2 h
      refine lv_iload_n hx hb dX12_nameOf_22 rfl (lv_at hv 1 rfl) ?_
      refine lv_aload_n hx hb dX12_nameOf_23 rfl (lv_at hv 0 rfl) ?_
      refine va_get (D := D) (ci := 12) (v := .int isRub) (C := RX12) (T := TX12) (N := 23) hx hb hts in_12 hown hK hP 0 rfl rfl 10 (by decide) w_0 (fun _ h9 => h9) rfl dX12_nameOf_24 ?_
      refine lv_if_eq (tgt := 35) hx hb dX12_nameOf_27 (by decide) (fun c_3 => ?_) (fun c_3 => ?_)
      · have h := ite_t c_3 h
        refine lv_bipush (v := (119 : Int32)) hx hb dX12_nameOf_35 (by decide) ?_
        exact C_37 v1_15 (119 : Int32) v1_15 h _ _ _ hP hD hS (lv_sub hv [0, 1] rfl)
      · have h := ite_f c_3 h
        refine lv_bipush (v := (115 : Int32)) hx hb dX12_nameOf_30 (by decide) ?_
        refine lv_goto (tgt := 37) hx hb dX12_nameOf_32 (by decide) ?_
        exact C_37 v1_15 (115 : Int32) v1_15 h _ _ _ hP hD hS (lv_sub hv [0, 1] rfl)
    · have h := ite_t c_2 h
      refine lv_iconst (v := (0 : Int32)) hx hb dX12_nameOf_18 (by decide) ?_
      refine lv_goto (tgt := 67) hx hb dX12_nameOf_19 (by decide) ?_
      have h := Option.some.inj h
      have ee0 : (0 : Int32) = rR := congrArg (fun q => q) h
      subst ee0
      rw [← hQ]
      exact retI hx hb hr hlk hK hP hD hS dX12_nameOf_67 ⟨Nat.le_of_ble_eq_true rfl, Nat.le_of_ble_eq_true rfl⟩
  have hP : va_P D vwCl (wM cA ad d kept aside images found base at0 size fault opened isRub names code coded pile needs traced traceMany who bitsOf sizeOf number lifted) H := hP
  unfold fX12_nameOf at h
  refine lv_iload_n hx hb dX12_nameOf_0 rfl (lv_at hv 1 rfl) ?_
  refine lv_aload_n hx hb dX12_nameOf_1 rfl (lv_at hv 0 rfl) ?_
  refine va_get (D := D) (ci := 12) (v := .int isRub) (C := RX12) (T := TX12) (N := 23) hx hb hts in_12 hown hK hP 0 rfl rfl 10 (by decide) w_0 (fun _ h9 => h9) rfl dX12_nameOf_2 ?_
  refine lv_if_eq (tgt := 13) hx hb dX12_nameOf_5 (by decide) (fun c_1 => ?_) (fun c_1 => ?_)
  · have h := ite_t c_1 h
    refine lv_bipush (v := (107 : Int32)) hx hb dX12_nameOf_13 (by decide) ?_
    exact C_15 k (107 : Int32) k h _ _ _ hP hD hS (lv_sub hv [0, 1] rfl)
  · have h := ite_f c_1 h
    refine lv_bipush (v := (114 : Int32)) hx hb dX12_nameOf_8 (by decide) ?_
    refine lv_goto (tgt := 15) hx hb dX12_nameOf_10 (by decide) ?_
    exact C_15 k (114 : Int32) k h _ _ _ hP hD hS (lv_sub hv [0, 1] rfl)

def fX12_lay (v : Int32) (fault : Int32) (code : Nat → Int32) (coded : Int32) : Option ((Nat → Int32) × Int32) :=
  (if 0 ≤ fault then some (code, coded) else ckI coded 60 (bnd (upd code (coded).toNatClampNeg v) fun code_3 => bnd (coded + (1 : Int32)) fun y_4 => some (code_3, y_4)))
set_option maxHeartbeats 4000000 in
set_option maxRecDepth 100000 in
theorem c_X12_lay (l : Launch) (G : Nat → Nat) (D : va_G) (cA : Nat → ClassId) (ad : Nat → Nat) (sz : Nat) (d : Nat → Int32) (kept : Nat → Int32) (aside : Nat → Int32) (images : Int32) (found : Nat → Int32) (base : Int32) (at0 : Int32) (size : Int32) (fault : Int32) (opened : Int32) (isRub : Int32) (names : Nat → Int32) (code : Nat → Int32) (coded : Int32) (pile : Nat → Int32) (needs : Nat → Int32) (traced : Nat → Int32) (traceMany : Int32) (who : Int32) (bitsOf : Nat → Int32) (sizeOf : Nat → Int32) (number : Nat → Int32) (lifted : Nat → Int32) (v : Int32) (codeR : Nat → Int32) (codedR : Int32) (h : fX12_lay v fault code coded = some (codeR, codedR)) : Met l yX12_lay wsX12_lay ({ frames := 0, cells := 0, slots := 0, locals := 0 } : Room) (PW G D (tyC cA) sz (wM cA ad d kept aside images found base at0 size fault opened isRub names code coded pile needs traced traceMany who bitsOf sizeOf number lifted) [.ref (ad 0), .int v]) (QV D (tyC cA) (va_A (wM cA ad d kept aside images found base at0 size fault opened isRub names code coded pile needs traced traceMany who bitsOf sizeOf number lifted) sz) (wM cA ad d kept aside images found base at0 size fault opened isRub names codeR codedR pile needs traced traceMany who bitsOf sizeOf number lifted)) 0 0 (va_A (wM cA ad d kept aside images found base at0 size fault opened isRub names code coded pile needs traced traceMany who bitsOf sizeOf number lifted) sz) := by
  refine ent (cc := cX12_lay) (maxL := 2) (ret := none) (fun A => QV D (tyC cA) A (wM cA ad d kept aside images found base at0 size fault opened isRub names codeR codedR pile needs traced traceMany who bitsOf sizeOf number lifted)) (by decide +kernel) rfl (Nat.le_of_ble_eq_true rfl) ?_
  intro p e s m args below meth c A ls H hx hb hml hr hlk hts hown hA hK hE hP hD hS hv hmm
  have hv : lv_has ls 2 [(0, .ref (ad 0)), (1, .int v)] := hv
  have in_12 : ∀ w ∈ u_ws RX12 TX12 23, w ∈ wsX12_lay := fun _ h => List.mem_cons_of_mem _ (List.mem_append_right _ h)
  have w_0 := hts (.fieldLink RX12 65 "SpoonsLastModel" "fault" "I") (List.mem_of_getElem? (i := 1) rfl)
  have w_1 := hts (.fieldLink RX12 25 "SpoonsLastModel" "code" "[I") (List.mem_of_getElem? (i := 2) rfl)
  have w_2 := hts (.fieldLink RX12 79 "SpoonsLastModel" "coded" "I") (List.mem_of_getElem? (i := 3) rfl)
  generalize hQ : MQ below _ args s 0 0 A = Q
  have hP : va_P D vwCl (wM cA ad d kept aside images found base at0 size fault opened isRub names code coded pile needs traced traceMany who bitsOf sizeOf number lifted) H := hP
  unfold fX12_lay at h
  refine lv_aload_n hx hb dX12_lay_0 rfl (lv_at hv 0 rfl) ?_
  refine va_get (D := D) (ci := 12) (v := .int fault) (C := RX12) (T := TX12) (N := 23) hx hb hts in_12 hown hK hP 0 rfl rfl 8 (by decide) w_0 (fun _ h9 => h9) rfl dX12_lay_1 ?_
  refine lv_if_ge (tgt := 27) hx hb dX12_lay_4 (by decide) (fun c_1 => ?_) (fun c_1 => ?_)
  · have h := ite_t c_1 h
    have h := Option.some.inj h
    have ee0 : code = codeR := congrArg (fun q => q.1) h
    have ee1 : coded = codedR := congrArg (fun q => q.2) h
    subst ee0
    subst ee1
    rw [← hQ]
    exact retV hx hb hr hlk hK hP hD hS dX12_lay_27 ⟨Nat.le_of_ble_eq_true rfl, Nat.le_of_ble_eq_true rfl⟩
  · have h := ite_f c_1 h
    refine lv_aload_n hx hb dX12_lay_7 rfl (lv_at hv 0 rfl) ?_
    refine va_get (D := D) (ci := 12) (v := .ref (ad 13)) (C := RX12) (T := TX12) (N := 23) hx hb hts in_12 hown hK hP 0 rfl rfl 12 (by decide) w_1 (fun _ h9 => h9) rfl dX12_lay_8 ?_
    refine lv_aload_n hx hb dX12_lay_11 rfl (lv_at hv 0 rfl) ?_
    refine va_get (D := D) (ci := 12) (v := .int coded) (C := RX12) (T := TX12) (N := 23) hx hb hts in_12 hown hK hP 0 rfl rfl 13 (by decide) w_2 (fun _ h9 => h9) rfl dX12_lay_12 ?_
    refine lv_iload_n hx hb dX12_lay_15 rfl (lv_at hv 1 rfl) ?_
    obtain ⟨c_2, h⟩ := ckI_ex h
    obtain ⟨code_3, ecode_3, h⟩ := bnd_ex h
    refine va_iast (D := D) hx hb hK hP hD hS 6 0 rfl rfl c_2 dX12_lay_16 (fun H locs hP hD hS => ?_)
    rw [← ecode_3] at hP hD
    have hP : va_P D vwCl (wM cA ad d kept aside images found base at0 size fault opened isRub names code_3 coded pile needs traced traceMany who bitsOf sizeOf number lifted) H := hP
    have hD : va_D A (wM cA ad d kept aside images found base at0 size fault opened isRub names code_3 coded pile needs traced traceMany who bitsOf sizeOf number lifted) := hD
    refine lv_aload_n hx hb dX12_lay_17 rfl (lv_at hv 0 rfl) ?_
    refine lv_dup hx hb dX12_lay_18 rfl ?_
    refine va_get (D := D) (ci := 12) (v := .int coded) (C := RX12) (T := TX12) (N := 23) hx hb hts in_12 hown hK hP 0 rfl rfl 13 (by decide) w_2 (fun _ h9 => h9) rfl dX12_lay_19 ?_
    refine lv_iconst (v := (1 : Int32)) hx hb dX12_lay_22 (by decide) ?_
    refine lv_iadd hx hb dX12_lay_23 ?_
    obtain ⟨y_4, ey_4, h⟩ := bnd_ex h
    refine lv_nm ey_4 ?_
    refine va_put (D := D) (ci := 12) (v := .int y_4) (ty := .int) (C := RX12) (T := TX12) (N := 23) hx hb hts in_12 tyX12 tyX12_ok nmX12 hown hK hP hD hS 0 rfl rfl 13 (by decide) w_2 (fun _ h9 => h9) rfl (by decide +kernel) rfl rfl (Nat.le_of_ble_eq_true rfl) dX12_lay_24 (fun H locs hP hD hS => ?_)
    have hP : va_P D vwCl (wM cA ad d kept aside images found base at0 size fault opened isRub names code_3 y_4 pile needs traced traceMany who bitsOf sizeOf number lifted) H := hP
    have hD : va_D A (wM cA ad d kept aside images found base at0 size fault opened isRub names code_3 y_4 pile needs traced traceMany who bitsOf sizeOf number lifted) := hD
    have h := Option.some.inj h
    have ee0 : code_3 = codeR := congrArg (fun q => q.1) h
    have ee1 : y_4 = codedR := congrArg (fun q => q.2) h
    subst ee0
    subst ee1
    rw [← hQ]
    exact retV hx hb hr hlk hK hP hD hS dX12_lay_27 ⟨Nat.le_of_ble_eq_true rfl, Nat.le_of_ble_eq_true rfl⟩

