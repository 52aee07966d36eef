def fX12_word (a : Int32) (v : Int32) (d : Nat → Int32) (found : Nat → Int32) : Option (Int32 × (Nat → Int32) × (Nat → Int32)) :=
  bd (fX12_isWord a) fun r_1 => (if r_1 = 0 then bd (fX12_finds (1 : Int32) found) fun (r_4, found_5) => some (r_4, d, found_5) else bd (fX12_in ((v).toInt64) (0 : Int64) (9 : Int64)) fun r_7 => (if r_7 = 0 then bd (fX12_finds (1 : Int32) found) fun (r_10, found_11) => some (r_10, d, found_11) else bd (fX12_becomes ((6 : Int32) + a) v d) fun (r_13, d_14) => some (r_13, d_14, found)))
set_option maxHeartbeats 4000000 in
set_option maxRecDepth 100000 in
theorem c_X12_word (l : Launch) (G : Nat → Nat) (D : va_G) (cA : Nat → ClassId) (ad : Nat → Nat) (sz : Nat) (d : Nat → Int32) (kept : Nat → Int32) (aside : Nat → Int32) (images : Int32) (found : Nat → Int32) (base : Int32) (at0 : Int32) (size : Int32) (fault : Int32) (opened : Int32) (isRub : Int32) (names : Nat → Int32) (code : Nat → Int32) (coded : Int32) (pile : Nat → Int32) (needs : Nat → Int32) (traced : Nat → Int32) (traceMany : Int32) (who : Int32) (bitsOf : Nat → Int32) (sizeOf : Nat → Int32) (number : Nat → Int32) (lifted : Nat → Int32) (a : Int32) (v : Int32) (rR : Int32) (dR : Nat → Int32) (foundR : Nat → Int32) (h : fX12_word a v d found = some (rR, dR, foundR)) : Met l yX12_word wsX12_word ({ frames := 2, cells := 0, slots := 0, locals := 45 } : Room) (PW G D (tyC cA) sz (wM cA ad d kept aside images found base at0 size fault opened isRub names code coded pile needs traced traceMany who bitsOf sizeOf number lifted) [.ref (ad 0), .int a, .int v]) (QI D (tyC cA) (va_A (wM cA ad d kept aside images found base at0 size fault opened isRub names code coded pile needs traced traceMany who bitsOf sizeOf number lifted) sz) rR (wM cA ad dR kept aside images foundR base at0 size fault opened isRub names code coded pile needs traced traceMany who bitsOf sizeOf number lifted)) 0 0 (va_A (wM cA ad d kept aside images found base at0 size fault opened isRub names code coded pile needs traced traceMany who bitsOf sizeOf number lifted) sz) := by
  refine ent (cc := cX12_word) (maxL := 3) (ret := (some .int)) (fun A => QI D (tyC cA) A rR (wM cA ad dR kept aside images foundR base at0 size fault opened isRub names code coded pile needs traced traceMany who bitsOf sizeOf number lifted)) (by decide +kernel) rfl (Nat.le_of_ble_eq_true rfl) ?_
  intro p e s m args below meth c A ls H hx hb hml hr hlk hts hown hA hK hE hP hD hS hv hmm
  have hv : lv_has ls 3 [(0, .ref (ad 0)), (1, .int a), (2, .int v)] := hv
  have w_0 := hts (.constantLong RX12 194 (9)) (List.mem_of_getElem? (i := 1) rfl)
  generalize hQ : MQ below _ args s 0 0 A = Q
  have hP : va_P D vwCl (wM cA ad d kept aside images found base at0 size fault opened isRub names code coded pile needs traced traceMany who bitsOf sizeOf number lifted) H := hP
  unfold fX12_word at h
  refine lv_iload_n hx hb dX12_word_0 rfl (lv_at hv 1 rfl) ?_
  obtain ⟨r_1, hf_2, h⟩ := bd_ex h
  have sb := Sb.nil hP hD hS hA
  refine calI (va_runS (As := [.int a]) (rest := []) ⟨hx, hb, hml, hown, hts⟩ (c_X12_isWord l G D cA  _ a r_1 hf_2) (va_cwS 1 hts gX12_word_X12_isWord rfl rfl rfl (by decide +kernel) ⟨Nat.le_of_ble_eq_true rfl, Nat.le_of_ble_eq_true rfl⟩) (pvS hE hK hS sb) rfl rfl hv.1 rfl (lv_room (Nat.le_of_ble_eq_true rfl)) dX12_word_1 ⟨Nat.le_of_ble_eq_true rfl, Nat.le_of_ble_eq_true rfl⟩) hS sb (Jn.nil hP hD) (fun H locs hP hD hS => ?_)
  have hP : va_P D vwCl (wM cA ad d kept aside images found base at0 size fault opened isRub names code coded pile needs traced traceMany who bitsOf sizeOf number lifted) H := hP
  have hD : va_D A (wM cA ad d kept aside images found base at0 size fault opened isRub names code coded pile needs traced traceMany who bitsOf sizeOf number lifted) := hD
  refine lv_if_eq (tgt := 31) hx hb dX12_word_4 (by decide) (fun c_3 => ?_) (fun c_3 => ?_)
  · have h := ite_t c_3 h
    refine lv_aload_n hx hb dX12_word_31 rfl (lv_at hv 0 rfl) ?_
    refine lv_iconst (v := (1 : Int32)) hx hb dX12_word_32 (by decide) ?_
    obtain ⟨⟨r_4, found_5⟩, hf_6, h⟩ := bd_ex h
    have sb := Sb.same hP hD hS hA
    refine calI (va_runV (As := [.int (1 : Int32)]) (rest := []) ⟨hx, hb, hml, hown, hts⟩ (c_X12_finds l G D cA ad _ d kept aside images found base at0 size fault opened isRub names code coded pile needs traced traceMany who bitsOf sizeOf number lifted (1 : Int32) r_4 found_5 hf_6) (cwV 1 hts gX12_word_X12_finds rfl rfl rfl (by decide +kernel) ⟨Nat.le_of_ble_eq_true rfl, Nat.le_of_ble_eq_true rfl⟩) (pvV hE hK hS sb (va_recv hK hP (ci := 12) (q0 := 0) rfl rfl)) rfl rfl hv.1 rfl (lv_room (Nat.le_of_ble_eq_true rfl)) dX12_word_33 ⟨Nat.le_of_ble_eq_true rfl, Nat.le_of_ble_eq_true rfl⟩) hS sb (Jn.same sb) (fun H locs hP hD hS => ?_)
    have hP : va_P D vwCl (wM cA ad d kept aside images found_5 base at0 size fault opened isRub names code coded pile needs traced traceMany who bitsOf sizeOf number lifted) H := hP
    have hD : va_D A (wM cA ad d kept aside images found_5 base at0 size fault opened isRub names code coded pile needs traced traceMany who bitsOf sizeOf number lifted) := hD
    have h := Option.some.inj h
    have ee0 : r_4 = rR := congrArg (fun q => q.1) h
    have ee1 : d = dR := congrArg (fun q => q.2.1) h
    have ee2 : found_5 = foundR := congrArg (fun q => q.2.2) h
    subst ee0
    subst ee1
    subst ee2
    rw [← hQ]
    exact retI hx hb hr hlk hK hP hD hS dX12_word_36 ⟨Nat.le_of_ble_eq_true rfl, Nat.le_of_ble_eq_true rfl⟩
  · have h := ite_f c_3 h
    refine lv_iload_n hx hb dX12_word_7 rfl (lv_at hv 2 rfl) ?_
    refine lv_i2l (v := (v).toInt64) hx hb dX12_word_8 rfl ?_
    refine lv_lconst (v := (0 : Int64)) hx hb dX12_word_9 (by decide) ?_
    refine lv_ldc2 (v := (9 : Int64)) hx hb hown w_0 dX12_word_10 ?_
    obtain ⟨r_7, hf_8, h⟩ := bd_ex h
    have sb := Sb.nil hP hD hS hA
    refine calI (va_runS (As := [.long (v).toInt64, .long (0 : Int64), .long (9 : Int64)]) (rest := []) ⟨hx, hb, hml, hown, hts⟩ (c_X12_in l G D cA  _ ((v).toInt64) (0 : Int64) (9 : Int64) r_7 hf_8) (va_cwS 3 hts gX12_word_X12_in rfl rfl rfl (by decide +kernel) ⟨Nat.le_of_ble_eq_true rfl, Nat.le_of_ble_eq_true rfl⟩) (pvS hE hK hS sb) rfl rfl hv.1 rfl (lv_room (Nat.le_of_ble_eq_true rfl)) dX12_word_13 ⟨Nat.le_of_ble_eq_true rfl, Nat.le_of_ble_eq_true rfl⟩) hS sb (Jn.nil hP hD) (fun H locs hP hD hS => ?_)
    have hP : va_P D vwCl (wM cA ad d kept aside images found base at0 size fault opened isRub names code coded pile needs traced traceMany who bitsOf sizeOf number lifted) H := hP
    have hD : va_D A (wM cA ad d kept aside images found base at0 size fault opened isRub names code coded pile needs traced traceMany who bitsOf sizeOf number lifted) := hD
    refine lv_if_eq (tgt := 31) hx hb dX12_word_16 (by decide) (fun c_9 => ?_) (fun c_9 => ?_)
    · have h := ite_t c_9 h
      refine lv_aload_n hx hb dX12_word_31 rfl (lv_at hv 0 rfl) ?_
      refine lv_iconst (v := (1 : Int32)) hx hb dX12_word_32 (by decide) ?_
      obtain ⟨⟨r_10, found_11⟩, hf_12, h⟩ := bd_ex h
      have sb := Sb.same hP hD hS hA
      refine calI (va_runV (As := [.int (1 : Int32)]) (rest := []) ⟨hx, hb, hml, hown, hts⟩ (c_X12_finds l G D cA ad _ d kept aside images found base at0 size fault opened isRub names code coded pile needs traced traceMany who bitsOf sizeOf number lifted (1 : Int32) r_10 found_11 hf_12) (cwV 1 hts gX12_word_X12_finds rfl rfl rfl (by decide +kernel) ⟨Nat.le_of_ble_eq_true rfl, Nat.le_of_ble_eq_true rfl⟩) (pvV hE hK hS sb (va_recv hK hP (ci := 12) (q0 := 0) rfl rfl)) rfl rfl hv.1 rfl (lv_room (Nat.le_of_ble_eq_true rfl)) dX12_word_33 ⟨Nat.le_of_ble_eq_true rfl, Nat.le_of_ble_eq_true rfl⟩) hS sb (Jn.same sb) (fun H locs hP hD hS => ?_)
      have hP : va_P D vwCl (wM cA ad d kept aside images found_11 base at0 size fault opened isRub names code coded pile needs traced traceMany who bitsOf sizeOf number lifted) H := hP
      have hD : va_D A (wM cA ad d kept aside images found_11 base at0 size fault opened isRub names code coded pile needs traced traceMany who bitsOf sizeOf number lifted) := hD
      have h := Option.some.inj h
      have ee0 : r_10 = rR := congrArg (fun q => q.1) h
      have ee1 : d = dR := congrArg (fun q => q.2.1) h
      have ee2 : found_11 = foundR := congrArg (fun q => q.2.2) h
      subst ee0
      subst ee1
      subst ee2
      rw [← hQ]
      exact retI hx hb hr hlk hK hP hD hS dX12_word_36 ⟨Nat.le_of_ble_eq_true rfl, Nat.le_of_ble_eq_true rfl⟩
    · have h := ite_f c_9 h
      refine lv_aload_n hx hb dX12_word_19 rfl (lv_at hv 0 rfl) ?_
      refine lv_bipush (v := (6 : Int32)) hx hb dX12_word_20 (by decide) ?_
      refine lv_iload_n hx hb dX12_word_22 rfl (lv_at hv 1 rfl) ?_
      refine lv_iadd hx hb dX12_word_23 ?_
      refine lv_iload_n hx hb dX12_word_24 rfl (lv_at hv 2 rfl) ?_
      obtain ⟨⟨r_13, d_14⟩, hf_15, h⟩ := bd_ex h
      have sb := Sb.same hP hD hS hA
      refine calI (va_runV (As := [.int ((6 : Int32) + a), .int v]) (rest := []) ⟨hx, hb, hml, hown, hts⟩ (c_X12_becomes l G D cA ad _ d kept aside images found base at0 size fault opened isRub names code coded pile needs traced traceMany who bitsOf sizeOf number lifted ((6 : Int32) + a) v r_13 d_14 hf_15) (cwV 2 hts gX12_word_X12_becomes rfl rfl rfl (by decide +kernel) ⟨Nat.le_of_ble_eq_true rfl, Nat.le_of_ble_eq_true rfl⟩) (pvV hE hK hS sb (va_recv hK hP (ci := 12) (q0 := 0) rfl rfl)) rfl rfl hv.1 rfl (lv_room (Nat.le_of_ble_eq_true rfl)) dX12_word_25 ⟨Nat.le_of_ble_eq_true rfl, Nat.le_of_ble_eq_true rfl⟩) hS sb (Jn.same sb) (fun H locs hP hD hS => ?_)
      have hP : va_P D vwCl (wM cA ad d_14 kept aside images found base at0 size fault opened isRub names code coded pile needs traced traceMany who bitsOf sizeOf number lifted) H := hP
      have hD : va_D A (wM cA ad d_14 kept aside images found base at0 size fault opened isRub names code coded pile needs traced traceMany who bitsOf sizeOf number lifted) := hD
      refine lv_goto (tgt := 36) hx hb dX12_word_28 (by decide) ?_
      have h := Option.some.inj h
      have ee0 : r_13 = rR := congrArg (fun q => q.1) h
      have ee1 : d_14 = dR := congrArg (fun q => q.2.1) h
      have ee2 : found = foundR := congrArg (fun q => q.2.2) h
      subst ee0
      subst ee1
      subst ee2
      rw [← hQ]
      exact retI hx hb hr hlk hK hP hD hS dX12_word_36 ⟨Nat.le_of_ble_eq_true rfl, Nat.le_of_ble_eq_true rfl⟩

def fX12_spoonsWith_33 (v1_4 : Int32) (v3_33 : Int32) (k0_33 : Int32) (k1_33 : Int32) (d : Nat → Int32) : Option ((Int32 × Int32) ⊕ (Int32 × Int32)) :=
  bnd (k1_33 ||| k0_33) fun y_6 => bnd (v3_33 + (1 : Int32)) fun y_7 => some (.inl (y_6, y_7))
def fX12_spoonsWith_4B (v1_4 : Int32) (d : Nat → Int32) (v2_4b : Int32) (v3_4b : Int32) : Option ((Int32 × Int32) ⊕ (Int32 × Int32)) :=
  ckI (0 : Int32) 326 ((if (d ((0 : Int32)).toNatClampNeg) ≤ v3_4b then some (.inr (v2_4b, v3_4b)) else bd (fX12_of v3_4b ((3 : Int32) + v1_4) d) fun r_3 => (if r_3 ≤ 0 then fX12_spoonsWith_33 v1_4 v3_4b (0 : Int32) v2_4b d else fX12_spoonsWith_33 v1_4 v3_4b ((1 : Int32) <<< (v3_4b &&& 31)) v2_4b d)))
def fX12_spoonsWith_4 (v1_4 : Int32) (v2_4 : Int32) (v3_4 : Int32) (d : Nat → Int32) : Option (Int32) :=
  bd (lp (fun σ : Int32 × Int32 => fX12_spoonsWith_4B v1_4 d (σ.1) (σ.2)) FU (v2_4, v3_4)) fun ρ => match ρ with | (v2_4r, v3_4r) => some v2_4r
def fX12_spoonsWith (a : Int32) (d : Nat → Int32) : Option (Int32) :=
  fX12_spoonsWith_4 a (0 : Int32) (0 : Int32) d
set_option maxHeartbeats 4000000 in
set_option maxRecDepth 100000 in
theorem c_X12_spoonsWith (l : Launch) (G : Nat → Nat) (D : va_G) (cA : Nat → ClassId) (ad : Nat → Nat) (sz : Nat) (d : Nat → Int32) (kept : Nat → Int32) (aside : Nat → Int32) (images : Int32) (found : Nat → Int32) (base : Int32) (at0 : Int32) (size : Int32) (fault : Int32) (opened : Int32) (isRub : Int32) (names : Nat → Int32) (code : Nat → Int32) (coded : Int32) (pile : Nat → Int32) (needs : Nat → Int32) (traced : Nat → Int32) (traceMany : Int32) (who : Int32) (bitsOf : Nat → Int32) (sizeOf : Nat → Int32) (number : Nat → Int32) (lifted : Nat → Int32) (a : Int32) (rR : Int32) (h : fX12_spoonsWith a d = some rR) : Met l yX12_spoonsWith wsX12_spoonsWith ({ frames := 1, cells := 0, slots := 0, locals := 22 } : Room) (PW G D (tyC cA) sz (wM cA ad d kept aside images found base at0 size fault opened isRub names code coded pile needs traced traceMany who bitsOf sizeOf number lifted) [.ref (ad 0), .int a]) (QI D (tyC cA) (va_A (wM cA ad d kept aside images found base at0 size fault opened isRub names code coded pile needs traced traceMany who bitsOf sizeOf number lifted) sz) rR (wM cA ad d kept aside images found base at0 size fault opened isRub names code coded pile needs traced traceMany who bitsOf sizeOf number lifted)) 0 0 (va_A (wM cA ad d kept aside images found base at0 size fault opened isRub names code coded pile needs traced traceMany who bitsOf sizeOf number lifted) sz) := by
  refine ent (cc := cX12_spoonsWith) (maxL := 4) (ret := (some .int)) (fun A => QI D (tyC cA) A rR (wM cA ad d kept aside images found base at0 size fault opened isRub names code coded pile needs traced traceMany who bitsOf sizeOf number lifted)) (by decide +kernel) rfl (Nat.le_of_ble_eq_true rfl) ?_
  intro p e s m args below meth c A ls H hx hb hml hr hlk hts hown hA hK hE hP hD hS hv hmm
  have hv : lv_has ls 4 [(0, .ref (ad 0)), (1, .int a)] := hv
  have in_12 : ∀ w ∈ u_ws RX12 TX12 23, w ∈ wsX12_spoonsWith := fun _ h => List.mem_cons_of_mem _ (List.mem_append_right _ h)
  have w_0 := hts (.fieldLink RX12 7 "SpoonsLastModel" "d" "[I") (List.mem_of_getElem? (i := 1) rfl)
  generalize hQ : MQ below _ args s 0 0 A = Q
  have C_4 : ∀ (v1_4 : Int32) (v2_4 : Int32) (v3_4 : Int32), fX12_spoonsWith_4 v1_4 v2_4 v3_4 d = some rR → WW p l e ({ frames := 1, cells := 0, slots := 0, locals := 22 } : Room) s m args below meth c D A 0 0 Q (wM cA ad d kept aside images found base at0 size fault opened isRub names code coded pile needs traced traceMany who bitsOf sizeOf number lifted) 4 [(0, .ref (ad 0)), (1, .int v1_4), (2, .int v2_4), (3, .int v3_4)] 4 [] := by
    intro v1_4 v2_4 v3_4 h
    unfold fX12_spoonsWith_4 at h
    obtain ⟨⟨v2_4r, v3_4r⟩, ho, h⟩ := bd_ex h
    have LE : WW p l e ({ frames := 1, cells := 0, slots := 0, locals := 22 } : Room) s m args below meth c D A 0 0 Q (wM cA ad d kept aside images found base at0 size fault opened isRub names code coded pile needs traced traceMany who bitsOf sizeOf number lifted) 4 [(2, .int v2_4r)] 41 [] := by
      intro H locs ls hP hD hS hv
      refine lv_iload_n hx hb dX12_spoonsWith_41 rfl (lv_at hv 0 rfl) ?_
      have h := Option.some.inj h
      have ee0 : v2_4r = rR := congrArg (fun q => q) h
      subst ee0
      rw [← hQ]
      exact retI hx hb hr hlk hK hP hD hS dX12_spoonsWith_42 ⟨Nat.le_of_ble_eq_true rfl, Nat.le_of_ble_eq_true rfl⟩
    have LB : ∀ (nf : Nat) (v2_4b : Int32) (v3_4b : Int32), lp (fun σ : Int32 × Int32 => fX12_spoonsWith_4B v1_4 d (σ.1) (σ.2)) nf (v2_4b, v3_4b) = some (v2_4r, v3_4r) → WW p l e ({ frames := 1, cells := 0, slots := 0, locals := 22 } : Room) s m args below meth c D A 0 0 Q (wM cA ad d kept aside images found base at0 size fault opened isRub names code coded pile needs traced traceMany who bitsOf sizeOf number lifted) 4 [(0, .ref (ad 0)), (1, .int v1_4), (2, .int v2_4b), (3, .int v3_4b)] 4 [] := by
      intro nf
      induction nf with
      | zero => intro v2_4b v3_4b hl; cases hl
      | succ nf ih =>
        intro v2_4b v3_4b hl
        obtain ⟨x, h, hl⟩ := lp_ex hl
        have h : fX12_spoonsWith_4B v1_4 d v2_4b v3_4b = some x := h
        unfold fX12_spoonsWith_4B at h
        have C_33 : ∀ (v3_33 : Int32) (k0_33 : Int32) (k1_33 : Int32) (x : (Int32 × Int32) ⊕ (Int32 × Int32)), fX12_spoonsWith_33 v1_4 v3_33 k0_33 k1_33 d = some x → lpk (fun σ : Int32 × Int32 => fX12_spoonsWith_4B v1_4 d (σ.1) (σ.2)) nf x = some (v2_4r, v3_4r) → WW p l e ({ frames := 1, cells := 0, slots := 0, locals := 22 } : Room) s m args below meth c D A 0 0 Q (wM cA ad d kept aside images found base at0 size fault opened isRub names code coded pile needs traced traceMany who bitsOf sizeOf number lifted) 4 [(0, .ref (ad 0)), (1, .int v1_4), (3, .int v3_33)] 33 [.int k0_33, .int k1_33] := by
          intro v3_33 k0_33 k1_33 x h hl
          unfold fX12_spoonsWith_33 at h
          intro H locs ls hP hD hS hv
          refine lv_ior hx hb dX12_spoonsWith_33 ?_
          obtain ⟨y_6, ey_6, h⟩ := bnd_ex h
          refine lv_nm ey_6 ?_
          refine lv_istore_n (lv' := [(2, .int y_6), (0, .ref (ad 0)), (1, .int v1_4), (3, .int v3_33)]) hx hb dX12_spoonsWith_34 rfl hv (by decide) rfl (fun ls hv => ?_)
          obtain ⟨y_7, ey_7, h⟩ := bnd_ex h
          refine lv_iinc (v := y_7) (lv' := [(3, .int y_7), (2, .int y_6), (0, .ref (ad 0)), (1, .int v1_4)]) hx hb dX12_spoonsWith_35 hv (k := 3) rfl (by rw [ey_7]; rfl) (by decide) rfl (fun ls hv => ?_)
          refine lv_goto (tgt := 4) hx hb dX12_spoonsWith_38 (by decide) ?_
          cases h
          exact ih y_6 y_7 hl _ _ _ hP hD hS (lv_sub hv [2, 3, 1, 0] rfl)
        intro H locs ls hP hD hS hv
        refine lv_iload_n hx hb dX12_spoonsWith_4 rfl (lv_at hv 3 rfl) ?_
        refine lv_aload_n hx hb dX12_spoonsWith_5 rfl (lv_at hv 0 rfl) ?_
        refine va_get (D := D) (ci := 12) (v := .ref (ad 1)) (C := RX12) (T := TX12) (N := 23) hx hb hts in_12 hown hK hP 0 rfl rfl 0 (by decide) w_0 (fun _ h9 => h9) rfl dX12_spoonsWith_6 ?_
        refine lv_iconst (v := (0 : Int32)) hx hb dX12_spoonsWith_9 (by decide) ?_
        obtain ⟨c_1, h⟩ := ckI_ex h
        refine va_iald (D := D) hx hb hK hP 1 0 rfl rfl c_1 dX12_spoonsWith_10 ?_
        refine lv_icmp_ge (tgt := 41) hx hb dX12_spoonsWith_11 (by decide) (fun c_2 => ?_) (fun c_2 => ?_)
        · have h := ite_t c_2 h
          cases h
          have hl : some (v2_4b, v3_4b) = some (v2_4r, v3_4r) := hl
          have hl := Option.some.inj hl
          have ee0 : v2_4b = v2_4r := congrArg (fun q => q.1) hl
          have ee1 : v3_4b = v3_4r := congrArg (fun q => q.2) hl
          subst ee0
          subst ee1
          exact LE _ _ _ hP hD hS (lv_sub hv [2] rfl)
        · have h := ite_f c_2 h
          refine lv_iload_n hx hb dX12_spoonsWith_14 rfl (lv_at hv 2 rfl) ?_
          refine lv_aload_n hx hb dX12_spoonsWith_15 rfl (lv_at hv 0 rfl) ?_
          refine lv_iload_n hx hb dX12_spoonsWith_16 rfl (lv_at hv 3 rfl) ?_
          refine lv_iconst (v := (3 : Int32)) hx hb dX12_spoonsWith_17 (by decide) ?_
          refine lv_iload_n hx hb dX12_spoonsWith_18 rfl (lv_at hv 1 rfl) ?_
          refine lv_iadd hx hb dX12_spoonsWith_19 ?_
          obtain ⟨r_3, hf_4, h⟩ := bd_ex h
          have sb := Sb.same hP hD hS hA
          refine calI (va_runV (As := [.int v3_4b, .int ((3 : Int32) + v1_4)]) (rest := [.int v2_4b]) ⟨hx, hb, hml, hown, hts⟩ (c_X12_of l G D cA ad _ d kept aside images found base at0 size fault opened isRub names code coded pile needs traced traceMany who bitsOf sizeOf number lifted v3_4b ((3 : Int32) + v1_4) r_3 hf_4) (cwV 2 hts gX12_spoonsWith_X12_of rfl rfl rfl (by decide +kernel) ⟨Nat.le_of_ble_eq_true rfl, Nat.le_of_ble_eq_true rfl⟩) (pvV hE hK hS sb (va_recv hK hP (ci := 12) (q0 := 0) rfl rfl)) rfl rfl hv.1 rfl (lv_room (Nat.le_of_ble_eq_true rfl)) dX12_spoonsWith_20 ⟨Nat.le_of_ble_eq_true rfl, Nat.le_of_ble_eq_true rfl⟩) hS sb (Jn.same sb) (fun H locs hP hD hS => ?_)
          have hP : va_P D vwCl (wM cA ad d kept aside images found base at0 size fault opened isRub names code coded pile needs traced traceMany who bitsOf sizeOf number lifted) H := hP
          have hD : va_D A (wM cA ad d kept aside images found base at0 size fault opened isRub names code coded pile needs traced traceMany who bitsOf sizeOf number lifted) := hD
          refine lv_if_le (tgt := 32) hx hb dX12_spoonsWith_23 (by decide) (fun c_5 => ?_) (fun c_5 => ?_)
          · have h := ite_t c_5 h
            refine lv_iconst (v := (0 : Int32)) hx hb dX12_spoonsWith_32 (by decide) ?_
            exact C_33 v3_4b (0 : Int32) v2_4b _ h hl _ _ _ hP hD hS (lv_sub hv [0, 1, 3] rfl)
          · have h := ite_f c_5 h
            refine lv_iconst (v := (1 : Int32)) hx hb dX12_spoonsWith_26 (by decide) ?_
            refine lv_iload_n hx hb dX12_spoonsWith_27 rfl (lv_at hv 3 rfl) ?_
            refine lv_ishl hx hb dX12_spoonsWith_28 ?_
            refine lv_goto (tgt := 33) hx hb dX12_spoonsWith_29 (by decide) ?_
            exact C_33 v3_4b ((1 : Int32) <<< (v3_4b &&& 31)) v2_4b _ h hl _ _ _ hP hD hS (lv_sub hv [0, 1, 3] rfl)
    exact LB FU v2_4 v3_4 ho
  have hP : va_P D vwCl (wM cA ad d kept aside images found base at0 size fault opened isRub names code coded pile needs traced traceMany who bitsOf sizeOf number lifted) H := hP
  unfold fX12_spoonsWith at h
  refine lv_iconst (v := (0 : Int32)) hx hb dX12_spoonsWith_0 (by decide) ?_
  refine lv_istore_n (lv' := [(2, .int (0 : Int32)), (0, .ref (ad 0)), (1, .int a)]) hx hb dX12_spoonsWith_1 rfl hv (by decide) rfl (fun ls hv => ?_)
  refine lv_iconst (v := (0 : Int32)) hx hb dX12_spoonsWith_2 (by decide) ?_
  refine lv_istore_n (lv' := [(3, .int (0 : Int32)), (2, .int (0 : Int32)), (0, .ref (ad 0)), (1, .int a)]) hx hb dX12_spoonsWith_3 rfl hv (by decide) rfl (fun ls hv => ?_)
  exact C_4 a (0 : Int32) (0 : Int32) h _ _ _ hP hD hS (lv_sub hv [2, 3, 1, 0] rfl)

def fX12_ofWord (a : Int32) (what : Int32) (d : Nat → Int32) (found : Nat → Int32) : Option (Int32 × (Nat → Int32)) :=
  bd (fX12_isWord a) fun r_1 => (if r_1 = 0 then bd (fX12_finds (1 : Int32) found) fun (r_4, found_5) => some (r_4, found_5) else bd (fX12_in ((what).toInt64) (0 : Int64) (2 : Int64)) fun r_7 => (if r_7 = 0 then bd (fX12_finds (1 : Int32) found) fun (r_16, found_17) => some (r_16, found_17) else (if what = 0 then ckI ((6 : Int32) + a) 326 (some ((d (((6 : Int32) + a)).toNatClampNeg), found)) else (if what = (1 : Int32) then ckI (2 : Int32) 326 (some ((((d ((2 : Int32)).toNatClampNeg) >>> (a &&& 31)) &&& (1 : Int32)), found)) else bd (fX12_spoonsWith a d) fun r_12 => some (r_12, found)))))
set_option maxHeartbeats 4000000 in
set_option maxRecDepth 100000 in
theorem c_X12_ofWord (l : Launch) (G : Nat → Nat) (D : va_G) (cA : Nat → ClassId) (ad : Nat → Nat) (sz : Nat) (d : Nat → Int32) (kept : Nat → Int32) (aside : Nat → Int32) (images : Int32) (found : Nat → Int32) (base : Int32) (at0 : Int32) (size : Int32) (fault : Int32) (opened : Int32) (isRub : Int32) (names : Nat → Int32) (code : Nat → Int32) (coded : Int32) (pile : Nat → Int32) (needs : Nat → Int32) (traced : Nat → Int32) (traceMany : Int32) (who : Int32) (bitsOf : Nat → Int32) (sizeOf : Nat → Int32) (number : Nat → Int32) (lifted : Nat → Int32) (a : Int32) (what : Int32) (rR : Int32) (foundR : Nat → Int32) (h : fX12_ofWord a what d found = some (rR, foundR)) : Met l yX12_ofWord wsX12_ofWord ({ frames := 2, cells := 0, slots := 0, locals := 45 } : Room) (PW G D (tyC cA) sz (wM cA ad d kept aside images found base at0 size fault opened isRub names code coded pile needs traced traceMany who bitsOf sizeOf number lifted) [.ref (ad 0), .int a, .int what]) (QI D (tyC cA) (va_A (wM cA ad d kept aside images found base at0 size fault opened isRub names code coded pile needs traced traceMany who bitsOf sizeOf number lifted) sz) rR (wM cA ad d kept aside images foundR base at0 size fault opened isRub names code coded pile needs traced traceMany who bitsOf sizeOf number lifted)) 0 0 (va_A (wM cA ad d kept aside images found base at0 size fault opened isRub names code coded pile needs traced traceMany who bitsOf sizeOf number lifted) sz) := by
  refine ent (cc := cX12_ofWord) (maxL := 3) (ret := (some .int)) (fun A => QI D (tyC cA) A rR (wM cA ad d kept aside images foundR base at0 size fault opened isRub names code coded pile needs traced traceMany who bitsOf sizeOf number lifted)) (by decide +kernel) rfl (Nat.le_of_ble_eq_true rfl) ?_
  intro p e s m args below meth c A ls H hx hb hml hr hlk hts hown hA hK hE hP hD hS hv hmm
  have hv : lv_has ls 3 [(0, .ref (ad 0)), (1, .int a), (2, .int what)] := hv
  have in_12 : ∀ w ∈ u_ws RX12 TX12 23, w ∈ wsX12_ofWord := fun _ h => List.mem_cons_of_mem _ (List.mem_append_right _ h)
  have w_0 := hts (.constantLong RX12 199 (2)) (List.mem_of_getElem? (i := 1) rfl)
  have w_1 := hts (.fieldLink RX12 7 "SpoonsLastModel" "d" "[I") (List.mem_of_getElem? (i := 2) rfl)
  generalize hQ : MQ below _ args s 0 0 A = Q
  have hP : va_P D vwCl (wM cA ad d kept aside images found base at0 size fault opened isRub names code coded pile needs traced traceMany who bitsOf sizeOf number lifted) H := hP
  unfold fX12_ofWord at h
  refine lv_iload_n hx hb dX12_ofWord_0 rfl (lv_at hv 1 rfl) ?_
  obtain ⟨r_1, hf_2, h⟩ := bd_ex h
  have sb := Sb.nil hP hD hS hA
  refine calI (va_runS (As := [.int a]) (rest := []) ⟨hx, hb, hml, hown, hts⟩ (c_X12_isWord l G D cA  _ a r_1 hf_2) (va_cwS 1 hts gX12_ofWord_X12_isWord rfl rfl rfl (by decide +kernel) ⟨Nat.le_of_ble_eq_true rfl, Nat.le_of_ble_eq_true rfl⟩) (pvS hE hK hS sb) rfl rfl hv.1 rfl (lv_room (Nat.le_of_ble_eq_true rfl)) dX12_ofWord_1 ⟨Nat.le_of_ble_eq_true rfl, Nat.le_of_ble_eq_true rfl⟩) hS sb (Jn.nil hP hD) (fun H locs hP hD hS => ?_)
  have hP : va_P D vwCl (wM cA ad d kept aside images found base at0 size fault opened isRub names code coded pile needs traced traceMany who bitsOf sizeOf number lifted) H := hP
  have hD : va_D A (wM cA ad d kept aside images found base at0 size fault opened isRub names code coded pile needs traced traceMany who bitsOf sizeOf number lifted) := hD
  refine lv_if_eq (tgt := 19) hx hb dX12_ofWord_4 (by decide) (fun c_3 => ?_) (fun c_3 => ?_)
  · have h := ite_t c_3 h
    refine lv_aload_n hx hb dX12_ofWord_19 rfl (lv_at hv 0 rfl) ?_
    refine lv_iconst (v := (1 : Int32)) hx hb dX12_ofWord_20 (by decide) ?_
    obtain ⟨⟨r_4, found_5⟩, hf_6, h⟩ := bd_ex h
    have sb := Sb.same hP hD hS hA
    refine calI (va_runV (As := [.int (1 : Int32)]) (rest := []) ⟨hx, hb, hml, hown, hts⟩ (c_X12_finds l G D cA ad _ d kept aside images found base at0 size fault opened isRub names code coded pile needs traced traceMany who bitsOf sizeOf number lifted (1 : Int32) r_4 found_5 hf_6) (cwV 1 hts gX12_ofWord_X12_finds rfl rfl rfl (by decide +kernel) ⟨Nat.le_of_ble_eq_true rfl, Nat.le_of_ble_eq_true rfl⟩) (pvV hE hK hS sb (va_recv hK hP (ci := 12) (q0 := 0) rfl rfl)) rfl rfl hv.1 rfl (lv_room (Nat.le_of_ble_eq_true rfl)) dX12_ofWord_21 ⟨Nat.le_of_ble_eq_true rfl, Nat.le_of_ble_eq_true rfl⟩) hS sb (Jn.same sb) (fun H locs hP hD hS => ?_)
    have hP : va_P D vwCl (wM cA ad d kept aside images found_5 base at0 size fault opened isRub names code coded pile needs traced traceMany who bitsOf sizeOf number lifted) H := hP
    have hD : va_D A (wM cA ad d kept aside images found_5 base at0 size fault opened isRub names code coded pile needs traced traceMany who bitsOf sizeOf number lifted) := hD
    have h := Option.some.inj h
    have ee0 : r_4 = rR := congrArg (fun q => q.1) h
    have ee1 : found_5 = foundR := congrArg (fun q => q.2) h
    subst ee0
    subst ee1
    rw [← hQ]
    exact retI hx hb hr hlk hK hP hD hS dX12_ofWord_24 ⟨Nat.le_of_ble_eq_true rfl, Nat.le_of_ble_eq_true rfl⟩
  · have h := ite_f c_3 h
    refine lv_iload_n hx hb dX12_ofWord_7 rfl (lv_at hv 2 rfl) ?_
    refine lv_i2l (v := (what).toInt64) hx hb dX12_ofWord_8 rfl ?_
    refine lv_lconst (v := (0 : Int64)) hx hb dX12_ofWord_9 (by decide) ?_
    refine lv_ldc2 (v := (2 : Int64)) hx hb hown w_0 dX12_ofWord_10 ?_
    obtain ⟨r_7, hf_8, h⟩ := bd_ex h
    have sb := Sb.nil hP hD hS hA
    refine calI (va_runS (As := [.long (what).toInt64, .long (0 : Int64), .long (2 : Int64)]) (rest := []) ⟨hx, hb, hml, hown, hts⟩ (c_X12_in l G D cA  _ ((what).toInt64) (0 : Int64) (2 : Int64) r_7 hf_8) (va_cwS 3 hts gX12_ofWord_X12_in rfl rfl rfl (by decide +kernel) ⟨Nat.le_of_ble_eq_true rfl, Nat.le_of_ble_eq_true rfl⟩) (pvS hE hK hS sb) rfl rfl hv.1 rfl (lv_room (Nat.le_of_ble_eq_true rfl)) dX12_ofWord_13 ⟨Nat.le_of_ble_eq_true rfl, Nat.le_of_ble_eq_true rfl⟩) hS sb (Jn.nil hP hD) (fun H locs hP hD hS => ?_)
    have hP : va_P D vwCl (wM cA ad d kept aside images found base at0 size fault opened isRub names code coded pile needs traced traceMany who bitsOf sizeOf number lifted) H := hP
    have hD : va_D A (wM cA ad d kept aside images found base at0 size fault opened isRub names code coded pile needs traced traceMany who bitsOf sizeOf number lifted) := hD
    refine lv_if_ne (tgt := 25) hx hb dX12_ofWord_16 (by decide) (fun c_9 => ?_) (fun c_9 => ?_)
    · have h := ite_f c_9 h
      refine lv_iload_n hx hb dX12_ofWord_25 rfl (lv_at hv 2 rfl) ?_
      refine lv_if_ne (tgt := 41) hx hb dX12_ofWord_26 (by decide) (fun c_10 => ?_) (fun c_10 => ?_)
      · have h := ite_f c_10 h
        refine lv_iload_n hx hb dX12_ofWord_41 rfl (lv_at hv 2 rfl) ?_
        refine lv_iconst (v := (1 : Int32)) hx hb dX12_ofWord_42 (by decide) ?_
        refine lv_icmp_ne (tgt := 59) hx hb dX12_ofWord_43 (by decide) (fun c_11 => ?_) (fun c_11 => ?_)
        · have h := ite_f c_11 h
          refine lv_aload_n hx hb dX12_ofWord_59 rfl (lv_at hv 0 rfl) ?_
          refine lv_iload_n hx hb dX12_ofWord_60 rfl (lv_at hv 1 rfl) ?_
          obtain ⟨r_12, hf_13, h⟩ := bd_ex h
          have sb := Sb.same hP hD hS hA
          refine calI (va_runV (As := [.int a]) (rest := []) ⟨hx, hb, hml, hown, hts⟩ (c_X12_spoonsWith l G D cA ad _ d kept aside images found base at0 size fault opened isRub names code coded pile needs traced traceMany who bitsOf sizeOf number lifted a r_12 hf_13) (cwV 1 hts gX12_ofWord_X12_spoonsWith rfl rfl rfl (by decide +kernel) ⟨Nat.le_of_ble_eq_true rfl, Nat.le_of_ble_eq_true rfl⟩) (pvV hE hK hS sb (va_recv hK hP (ci := 12) (q0 := 0) rfl rfl)) rfl rfl hv.1 rfl (lv_room (Nat.le_of_ble_eq_true rfl)) dX12_ofWord_61 ⟨Nat.le_of_ble_eq_true rfl, Nat.le_of_ble_eq_true rfl⟩) hS sb (Jn.same sb) (fun H locs hP hD hS => ?_)
          have hP : va_P D vwCl (wM cA ad d kept aside images found base at0 size fault opened isRub names code coded pile needs traced traceMany who bitsOf sizeOf number lifted) H := hP
          have hD : va_D A (wM cA ad d kept aside images found base at0 size fault opened isRub names code coded pile needs traced traceMany who bitsOf sizeOf number lifted) := hD
          have h := Option.some.inj h
          have ee0 : r_12 = rR := congrArg (fun q => q.1) h
          have ee1 : found = foundR := congrArg (fun q => q.2) h
          subst ee0
          subst ee1
          rw [← hQ]
          exact retI hx hb hr hlk hK hP hD hS dX12_ofWord_64 ⟨Nat.le_of_ble_eq_true rfl, Nat.le_of_ble_eq_true rfl⟩
        · have h := ite_t c_11 h
          refine lv_aload_n hx hb dX12_ofWord_46 rfl (lv_at hv 0 rfl) ?_
          refine va_get (D := D) (ci := 12) (v := .ref (ad 1)) (C := RX12) (T := TX12) (N := 23) hx hb hts in_12 hown hK hP 0 rfl rfl 0 (by decide) w_1 (fun _ h9 => h9) rfl dX12_ofWord_47 ?_
          refine lv_iconst (v := (2 : Int32)) hx hb dX12_ofWord_50 (by decide) ?_
          obtain ⟨c_14, h⟩ := ckI_ex h
          refine va_iald (D := D) hx hb hK hP 1 0 rfl rfl c_14 dX12_ofWord_51 ?_
          refine lv_iload_n hx hb dX12_ofWord_52 rfl (lv_at hv 1 rfl) ?_
          refine lv_ishr hx hb dX12_ofWord_53 ?_
          refine lv_iconst (v := (1 : Int32)) hx hb dX12_ofWord_54 (by decide) ?_
          refine lv_iand hx hb dX12_ofWord_55 ?_
          refine lv_goto (tgt := 64) hx hb dX12_ofWord_56 (by decide) ?_
          have h := Option.some.inj h
          have ee0 : (((d ((2 : Int32)).toNatClampNeg) >>> (a &&& 31)) &&& (1 : Int32)) = rR := congrArg (fun q => q.1) h
          have ee1 : found = foundR := congrArg (fun q => q.2) h
          subst ee0
          subst ee1
          rw [← hQ]
          exact retI hx hb hr hlk hK hP hD hS dX12_ofWord_64 ⟨Nat.le_of_ble_eq_true rfl, Nat.le_of_ble_eq_true rfl⟩
      · have h := ite_t c_10 h
        refine lv_aload_n hx hb dX12_ofWord_29 rfl (lv_at hv 0 rfl) ?_
        refine va_get (D := D) (ci := 12) (v := .ref (ad 1)) (C := RX12) (T := TX12) (N := 23) hx hb hts in_12 hown hK hP 0 rfl rfl 0 (by decide) w_1 (fun _ h9 => h9) rfl dX12_ofWord_30 ?_
        refine lv_bipush (v := (6 : Int32)) hx hb dX12_ofWord_33 (by decide) ?_
        refine lv_iload_n hx hb dX12_ofWord_35 rfl (lv_at hv 1 rfl) ?_
        refine lv_iadd hx hb dX12_ofWord_36 ?_
        obtain ⟨c_15, h⟩ := ckI_ex h
        refine va_iald (D := D) hx hb hK hP 1 0 rfl rfl c_15 dX12_ofWord_37 ?_
        refine lv_goto (tgt := 64) hx hb dX12_ofWord_38 (by decide) ?_
        have h := Option.some.inj h
        have ee0 : (d (((6 : Int32) + a)).toNatClampNeg) = rR := congrArg (fun q => q.1) h
        have ee1 : found = foundR := congrArg (fun q => q.2) h
        subst ee0
        subst ee1
        rw [← hQ]
        exact retI hx hb hr hlk hK hP hD hS dX12_ofWord_64 ⟨Nat.le_of_ble_eq_true rfl, Nat.le_of_ble_eq_true rfl⟩
    · have h := ite_t c_9 h
      refine lv_aload_n hx hb dX12_ofWord_19 rfl (lv_at hv 0 rfl) ?_
      refine lv_iconst (v := (1 : Int32)) hx hb dX12_ofWord_20 (by decide) ?_
      obtain ⟨⟨r_16, found_17⟩, hf_18, h⟩ := bd_ex h
      have sb := Sb.same hP hD hS hA
      refine calI (va_runV (As := [.int (1 : Int32)]) (rest := []) ⟨hx, hb, hml, hown, hts⟩ (c_X12_finds l G D cA ad _ d kept aside images found base at0 size fault opened isRub names code coded pile needs traced traceMany who bitsOf sizeOf number lifted (1 : Int32) r_16 found_17 hf_18) (cwV 1 hts gX12_ofWord_X12_finds rfl rfl rfl (by decide +kernel) ⟨Nat.le_of_ble_eq_true rfl, Nat.le_of_ble_eq_true rfl⟩) (pvV hE hK hS sb (va_recv hK hP (ci := 12) (q0 := 0) rfl rfl)) rfl rfl hv.1 rfl (lv_room (Nat.le_of_ble_eq_true rfl)) dX12_ofWord_21 ⟨Nat.le_of_ble_eq_true rfl, Nat.le_of_ble_eq_true rfl⟩) hS sb (Jn.same sb) (fun H locs hP hD hS => ?_)
      have hP : va_P D vwCl (wM cA ad d kept aside images found_17 base at0 size fault opened isRub names code coded pile needs traced traceMany who bitsOf sizeOf number lifted) H := hP
      have hD : va_D A (wM cA ad d kept aside images found_17 base at0 size fault opened isRub names code coded pile needs traced traceMany who bitsOf sizeOf number lifted) := hD
      have h := Option.some.inj h
      have ee0 : r_16 = rR := congrArg (fun q => q.1) h
      have ee1 : found_17 = foundR := congrArg (fun q => q.2) h
      subst ee0
      subst ee1
      rw [← hQ]
      exact retI hx hb hr hlk hK hP hD hS dX12_ofWord_24 ⟨Nat.le_of_ble_eq_true rfl, Nat.le_of_ble_eq_true rfl⟩

def fX12_known (a : Int32) (d : Nat → Int32) (found : Nat → Int32) : Option (Int32 × (Nat → Int32) × (Nat → Int32)) :=
  bd (fX12_areWords a) fun r_1 => (if r_1 = 0 then bd (fX12_finds (1 : Int32) found) fun (r_4, found_5) => some (r_4, d, found_5) else bd (fX12_becomes (2 : Int32) a d) fun (r_7, d_8) => some (r_7, d_8, found))
set_option maxHeartbeats 4000000 in
set_option maxRecDepth 100000 in
theorem c_X12_known (l : Launch) (G : Nat → Nat) (D : va_G) (cA : Nat → ClassId) (ad : Nat → Nat) (sz : Nat) (d : Nat → Int32) (kept : Nat → Int32) (aside : Nat → Int32) (images : Int32) (found : Nat → Int32) (base : Int32) (at0 : Int32) (size : Int32) (fault : Int32) (opened : Int32) (isRub : Int32) (names : Nat → Int32) (code : Nat → Int32) (coded : Int32) (pile : Nat → Int32) (needs : Nat → Int32) (traced : Nat → Int32) (traceMany : Int32) (who : Int32) (bitsOf : Nat → Int32) (sizeOf : Nat → Int32) (number : Nat → Int32) (lifted : Nat → Int32) (a : Int32) (rR : Int32) (dR : Nat → Int32) (foundR : Nat → Int32) (h : fX12_known a d found = some (rR, dR, foundR)) : Met l yX12_known wsX12_known ({ frames := 2, cells := 0, slots := 0, locals := 45 } : Room) (PW G D (tyC cA) sz (wM cA ad d kept aside images found base at0 size fault opened isRub names code coded pile needs traced traceMany who bitsOf sizeOf number lifted) [.ref (ad 0), .int a]) (QI D (tyC cA) (va_A (wM cA ad d kept aside images found base at0 size fault opened isRub names code coded pile needs traced traceMany who bitsOf sizeOf number lifted) sz) rR (wM cA ad dR kept aside images foundR base at0 size fault opened isRub names code coded pile needs traced traceMany who bitsOf sizeOf number lifted)) 0 0 (va_A (wM cA ad d kept aside images found base at0 size fault opened isRub names code coded pile needs traced traceMany who bitsOf sizeOf number lifted) sz) := by
  refine ent (cc := cX12_known) (maxL := 2) (ret := (some .int)) (fun A => QI D (tyC cA) A rR (wM cA ad dR kept aside images foundR base at0 size fault opened isRub names code coded pile needs traced traceMany who bitsOf sizeOf number lifted)) (by decide +kernel) rfl (Nat.le_of_ble_eq_true rfl) ?_
  intro p e s m args below meth c A ls H hx hb hml hr hlk hts hown hA hK hE hP hD hS hv hmm
  have hv : lv_has ls 2 [(0, .ref (ad 0)), (1, .int a)] := hv
  generalize hQ : MQ below _ args s 0 0 A = Q
  have hP : va_P D vwCl (wM cA ad d kept aside images found base at0 size fault opened isRub names code coded pile needs traced traceMany who bitsOf sizeOf number lifted) H := hP
  unfold fX12_known at h
  refine lv_iload_n hx hb dX12_known_0 rfl (lv_at hv 1 rfl) ?_
  obtain ⟨r_1, hf_2, h⟩ := bd_ex h
  have sb := Sb.nil hP hD hS hA
  refine calI (va_runS (As := [.int a]) (rest := []) ⟨hx, hb, hml, hown, hts⟩ (c_X12_areWords l G D cA  _ a r_1 hf_2) (va_cwS 1 hts gX12_known_X12_areWords rfl rfl rfl (by decide +kernel) ⟨Nat.le_of_ble_eq_true rfl, Nat.le_of_ble_eq_true rfl⟩) (pvS hE hK hS sb) rfl rfl hv.1 rfl (lv_room (Nat.le_of_ble_eq_true rfl)) dX12_known_1 ⟨Nat.le_of_ble_eq_true rfl, Nat.le_of_ble_eq_true rfl⟩) hS sb (Jn.nil hP hD) (fun H locs hP hD hS => ?_)
  have hP : va_P D vwCl (wM cA ad d kept aside images found base at0 size fault opened isRub names code coded pile needs traced traceMany who bitsOf sizeOf number lifted) H := hP
  have hD : va_D A (wM cA ad d kept aside images found base at0 size fault opened isRub names code coded pile needs traced traceMany who bitsOf sizeOf number lifted) := hD
  refine lv_if_eq (tgt := 16) hx hb dX12_known_4 (by decide) (fun c_3 => ?_) (fun c_3 => ?_)
  · have h := ite_t c_3 h
    refine lv_aload_n hx hb dX12_known_16 rfl (lv_at hv 0 rfl) ?_
    refine lv_iconst (v := (1 : Int32)) hx hb dX12_known_17 (by decide) ?_
    obtain ⟨⟨r_4, found_5⟩, hf_6, h⟩ := bd_ex h
    have sb := Sb.same hP hD hS hA
    refine calI (va_runV (As := [.int (1 : Int32)]) (rest := []) ⟨hx, hb, hml, hown, hts⟩ (c_X12_finds l G D cA ad _ d kept aside images found base at0 size fault opened isRub names code coded pile needs traced traceMany who bitsOf sizeOf number lifted (1 : Int32) r_4 found_5 hf_6) (cwV 1 hts gX12_known_X12_finds rfl rfl rfl (by decide +kernel) ⟨Nat.le_of_ble_eq_true rfl, Nat.le_of_ble_eq_true rfl⟩) (pvV hE hK hS sb (va_recv hK hP (ci := 12) (q0 := 0) rfl rfl)) rfl rfl hv.1 rfl (lv_room (Nat.le_of_ble_eq_true rfl)) dX12_known_18 ⟨Nat.le_of_ble_eq_true rfl, Nat.le_of_ble_eq_true rfl⟩) hS sb (Jn.same sb) (fun H locs hP hD hS => ?_)
    have hP : va_P D vwCl (wM cA ad d kept aside images found_5 base at0 size fault opened isRub names code coded pile needs traced traceMany who bitsOf sizeOf number lifted) H := hP
    have hD : va_D A (wM cA ad d kept aside images found_5 base at0 size fault opened isRub names code coded pile needs traced traceMany who bitsOf sizeOf number lifted) := hD
    have h := Option.some.inj h
    have ee0 : r_4 = rR := congrArg (fun q => q.1) h
    have ee1 : d = dR := congrArg (fun q => q.2.1) h
    have ee2 : found_5 = foundR := congrArg (fun q => q.2.2) h
    subst ee0
    subst ee1
    subst ee2
    rw [← hQ]
    exact retI hx hb hr hlk hK hP hD hS dX12_known_21 ⟨Nat.le_of_ble_eq_true rfl, Nat.le_of_ble_eq_true rfl⟩
  · have h := ite_f c_3 h
    refine lv_aload_n hx hb dX12_known_7 rfl (lv_at hv 0 rfl) ?_
    refine lv_iconst (v := (2 : Int32)) hx hb dX12_known_8 (by decide) ?_
    refine lv_iload_n hx hb dX12_known_9 rfl (lv_at hv 1 rfl) ?_
    obtain ⟨⟨r_7, d_8⟩, hf_9, h⟩ := bd_ex h
    have sb := Sb.same hP hD hS hA
    refine calI (va_runV (As := [.int (2 : Int32), .int a]) (rest := []) ⟨hx, hb, hml, hown, hts⟩ (c_X12_becomes l G D cA ad _ d kept aside images found base at0 size fault opened isRub names code coded pile needs traced traceMany who bitsOf sizeOf number lifted (2 : Int32) a r_7 d_8 hf_9) (cwV 2 hts gX12_known_X12_becomes rfl rfl rfl (by decide +kernel) ⟨Nat.le_of_ble_eq_true rfl, Nat.le_of_ble_eq_true rfl⟩) (pvV hE hK hS sb (va_recv hK hP (ci := 12) (q0 := 0) rfl rfl)) rfl rfl hv.1 rfl (lv_room (Nat.le_of_ble_eq_true rfl)) dX12_known_10 ⟨Nat.le_of_ble_eq_true rfl, Nat.le_of_ble_eq_true rfl⟩) hS sb (Jn.same sb) (fun H locs hP hD hS => ?_)
    have hP : va_P D vwCl (wM cA ad d_8 kept aside images found base at0 size fault opened isRub names code coded pile needs traced traceMany who bitsOf sizeOf number lifted) H := hP
    have hD : va_D A (wM cA ad d_8 kept aside images found base at0 size fault opened isRub names code coded pile needs traced traceMany who bitsOf sizeOf number lifted) := hD
    refine lv_goto (tgt := 21) hx hb dX12_known_13 (by decide) ?_
    have h := Option.some.inj h
    have ee0 : r_7 = rR := congrArg (fun q => q.1) h
    have ee1 : d_8 = dR := congrArg (fun q => q.2.1) h
    have ee2 : found = foundR := congrArg (fun q => q.2.2) h
    subst ee0
    subst ee1
    subst ee2
    rw [← hQ]
    exact retI hx hb hr hlk hK hP hD hS dX12_known_21 ⟨Nat.le_of_ble_eq_true rfl, Nat.le_of_ble_eq_true rfl⟩

def fX12_swallowOf (a : Int32) (d : Nat → Int32) : Option (Int32) :=
  ckI ((18 : Int32) + a) 326 (ckI ((24 : Int32) + a) 326 (some (((12 : Int32) * ((d (((18 : Int32) + a)).toNatClampNeg) + (1 : Int32))) + (d (((24 : Int32) + a)).toNatClampNeg))))
set_option maxHeartbeats 4000000 in
set_option maxRecDepth 100000 in
theorem c_X12_swallowOf (l : Launch) (G : Nat → Nat) (D : va_G) (cA : Nat → ClassId) (ad : Nat → Nat) (sz : Nat) (d : Nat → Int32) (kept : Nat → Int32) (aside : Nat → Int32) (images : Int32) (found : Nat → Int32) (base : Int32) (at0 : Int32) (size : Int32) (fault : Int32) (opened : Int32) (isRub : Int32) (names : Nat → Int32) (code : Nat → Int32) (coded : Int32) (pile : Nat → Int32) (needs : Nat → Int32) (traced : Nat → Int32) (traceMany : Int32) (who : Int32) (bitsOf : Nat → Int32) (sizeOf : Nat → Int32) (number : Nat → Int32) (lifted : Nat → Int32) (a : Int32) (rR : Int32) (h : fX12_swallowOf a d = some rR) : Met l yX12_swallowOf wsX12_swallowOf ({ frames := 0, cells := 0, slots := 0, locals := 0 } : Room) (PW G D (tyC cA) sz (wM cA ad d kept aside images found base at0 size fault opened isRub names code coded pile needs traced traceMany who bitsOf sizeOf number lifted) [.ref (ad 0), .int a]) (QI D (tyC cA) (va_A (wM cA ad d kept aside images found base at0 size fault opened isRub names code coded pile needs traced traceMany who bitsOf sizeOf number lifted) sz) rR (wM cA ad d kept aside images found base at0 size fault opened isRub names code coded pile needs traced traceMany who bitsOf sizeOf number lifted)) 0 0 (va_A (wM cA ad d kept aside images found base at0 size fault opened isRub names code coded pile needs traced traceMany who bitsOf sizeOf number lifted) sz) := by
  refine ent (cc := cX12_swallowOf) (maxL := 2) (ret := (some .int)) (fun A => QI D (tyC cA) A rR (wM cA ad d kept aside images found base at0 size fault opened isRub names code coded pile needs traced traceMany who bitsOf sizeOf number lifted)) (by decide +kernel) rfl (Nat.le_of_ble_eq_true rfl) ?_
  intro p e s m args below meth c A ls H hx hb hml hr hlk hts hown hA hK hE hP hD hS hv hmm
  have hv : lv_has ls 2 [(0, .ref (ad 0)), (1, .int a)] := hv
  have in_12 : ∀ w ∈ u_ws RX12 TX12 23, w ∈ wsX12_swallowOf := fun _ h => List.mem_cons_of_mem _ (List.mem_append_right _ h)
  have w_0 := hts (.fieldLink RX12 7 "SpoonsLastModel" "d" "[I") (List.mem_of_getElem? (i := 1) rfl)
  generalize hQ : MQ below _ args s 0 0 A = Q
  have hP : va_P D vwCl (wM cA ad d kept aside images found base at0 size fault opened isRub names code coded pile needs traced traceMany who bitsOf sizeOf number lifted) H := hP
  unfold fX12_swallowOf at h
  refine lv_bipush (v := (12 : Int32)) hx hb dX12_swallowOf_0 (by decide) ?_
  refine lv_aload_n hx hb dX12_swallowOf_2 rfl (lv_at hv 0 rfl) ?_
  refine va_get (D := D) (ci := 12) (v := .ref (ad 1)) (C := RX12) (T := TX12) (N := 23) hx hb hts in_12 hown hK hP 0 rfl rfl 0 (by decide) w_0 (fun _ h9 => h9) rfl dX12_swallowOf_3 ?_
  refine lv_bipush (v := (18 : Int32)) hx hb dX12_swallowOf_6 (by decide) ?_
  refine lv_iload_n hx hb dX12_swallowOf_8 rfl (lv_at hv 1 rfl) ?_
  refine lv_iadd hx hb dX12_swallowOf_9 ?_
  obtain ⟨c_1, h⟩ := ckI_ex h
  refine va_iald (D := D) hx hb hK hP 1 0 rfl rfl c_1 dX12_swallowOf_10 ?_
  refine lv_iconst (v := (1 : Int32)) hx hb dX12_swallowOf_11 (by decide) ?_
  refine lv_iadd hx hb dX12_swallowOf_12 ?_
  refine lv_imul hx hb dX12_swallowOf_13 ?_
  refine lv_aload_n hx hb dX12_swallowOf_14 rfl (lv_at hv 0 rfl) ?_
  refine va_get (D := D) (ci := 12) (v := .ref (ad 1)) (C := RX12) (T := TX12) (N := 23) hx hb hts in_12 hown hK hP 0 rfl rfl 0 (by decide) w_0 (fun _ h9 => h9) rfl dX12_swallowOf_15 ?_
  refine lv_bipush (v := (24 : Int32)) hx hb dX12_swallowOf_18 (by decide) ?_
  refine lv_iload_n hx hb dX12_swallowOf_20 rfl (lv_at hv 1 rfl) ?_
  refine lv_iadd hx hb dX12_swallowOf_21 ?_
  obtain ⟨c_2, h⟩ := ckI_ex h
  refine va_iald (D := D) hx hb hK hP 1 0 rfl rfl c_2 dX12_swallowOf_22 ?_
  refine lv_iadd hx hb dX12_swallowOf_23 ?_
  have h := Option.some.inj h
  have ee0 : (((12 : Int32) * ((d (((18 : Int32) + a)).toNatClampNeg) + (1 : Int32))) + (d (((24 : Int32) + a)).toNatClampNeg)) = rR := congrArg (fun q => q) h
  subst ee0
  rw [← hQ]
  exact retI hx hb hr hlk hK hP hD hS dX12_swallowOf_24 ⟨Nat.le_of_ble_eq_true rfl, Nat.le_of_ble_eq_true rfl⟩

def fX12_swallow_33 (d_33 : Nat → Int32) (found_33 : Nat → Int32) : Option (Int32 × (Nat → Int32) × (Nat → Int32)) :=
  bd (fX12_finds (1 : Int32) found_33) fun (r_4, found_5) => some (r_4, d_33, found_5)
def fX12_swallow (a : Int32) (b : Int32) (k : Int32) (d : Nat → Int32) (found : Nat → Int32) : Option (Int32 × (Nat → Int32) × (Nat → Int32)) :=
  bd (fX12_in ((a).toInt64) (0 : Int64) (5 : Int64)) fun r_1 => (if r_1 = 0 then fX12_swallow_33 d found else bd (fX12_in ((b).toInt64) (-1 : Int64) (7 : Int64)) fun r_7 => (if r_7 = 0 then fX12_swallow_33 d found else bd (fX12_isWord k) fun r_10 => (if r_10 = 0 then fX12_swallow_33 d found else bd (fX12_swallowOf a d) fun r_13 => ckI ((18 : Int32) + a) 326 (bnd (upd d (((18 : Int32) + a)).toNatClampNeg b) fun d_16 => ckI ((24 : Int32) + a) 326 (bnd (upd d_16 (((24 : Int32) + a)).toNatClampNeg k) fun d_18 => some (r_13, d_18, found))))))
set_option maxHeartbeats 4000000 in
set_option maxRecDepth 100000 in
theorem c_X12_swallow (l : Launch) (G : Nat → Nat) (D : va_G) (cA : Nat → ClassId) (ad : Nat → Nat) (sz : Nat) (d : Nat → Int32) (kept : Nat → Int32) (aside : Nat → Int32) (images : Int32) (found : Nat → Int32) (base : Int32) (at0 : Int32) (size : Int32) (fault : Int32) (opened : Int32) (isRub : Int32) (names : Nat → Int32) (code : Nat → Int32) (coded : Int32) (pile : Nat → Int32) (needs : Nat → Int32) (traced : Nat → Int32) (traceMany : Int32) (who : Int32) (bitsOf : Nat → Int32) (sizeOf : Nat → Int32) (number : Nat → Int32) (lifted : Nat → Int32) (a : Int32) (b : Int32) (k : Int32) (rR : Int32) (dR : Nat → Int32) (foundR : Nat → Int32) (h : fX12_swallow a b k d found = some (rR, dR, foundR)) : Met l yX12_swallow wsX12_swallow ({ frames := 2, cells := 0, slots := 0, locals := 45 } : Room) (PW G D (tyC cA) sz (wM cA ad d kept aside images found base at0 size fault opened isRub names code coded pile needs traced traceMany who bitsOf sizeOf number lifted) [.ref (ad 0), .int a, .int b, .int k]) (QI D (tyC cA) (va_A (wM cA ad d kept aside images found base at0 size fault opened isRub names code coded pile needs traced traceMany who bitsOf sizeOf number lifted) sz) rR (wM cA ad dR kept aside images foundR base at0 size fault opened isRub names code coded pile needs traced traceMany who bitsOf sizeOf number lifted)) 0 0 (va_A (wM cA ad d kept aside images found base at0 size fault opened isRub names code coded pile needs traced traceMany who bitsOf sizeOf number lifted) sz) := by
  refine ent (cc := cX12_swallow) (maxL := 5) (ret := (some .int)) (fun A => QI D (tyC cA) A rR (wM cA ad dR kept aside images foundR base at0 size fault opened isRub names code coded pile needs traced traceMany who bitsOf sizeOf number lifted)) (by decide +kernel) rfl (Nat.le_of_ble_eq_true rfl) ?_
  intro p e s m args below meth c A ls H hx hb hml hr hlk hts hown hA hK hE hP hD hS hv hmm
  have hv : lv_has ls 5 [(0, .ref (ad 0)), (1, .int a), (2, .int b), (3, .int k)] := hv
  have in_12 : ∀ w ∈ u_ws RX12 TX12 23, w ∈ wsX12_swallow := fun _ h => List.mem_cons_of_mem _ (List.mem_append_right _ h)
  have w_0 := hts (.constantLong RX12 207 (5)) (List.mem_of_getElem? (i := 1) rfl)
  have w_1 := hts (.constantLong RX12 209 (-1)) (List.mem_of_getElem? (i := 2) rfl)
  have w_2 := hts (.constantLong RX12 211 (7)) (List.mem_of_getElem? (i := 3) rfl)
  have w_3 := hts (.fieldLink RX12 7 "SpoonsLastModel" "d" "[I") (List.mem_of_getElem? (i := 4) rfl)
  generalize hQ : MQ below _ args s 0 0 A = Q
  have C_33 : ∀ (d_33 : Nat → Int32) (found_33 : Nat → Int32), fX12_swallow_33 d_33 found_33 = some (rR, dR, foundR) → WW p l e ({ frames := 2, cells := 0, slots := 0, locals := 45 } : Room) s m args below meth c D A 0 0 Q (wM cA ad d_33 kept aside images found_33 base at0 size fault opened isRub names code coded pile needs traced traceMany who bitsOf sizeOf number lifted) 5 [(0, .ref (ad 0))] 33 [] := by
    intro d_33 found_33 h
    unfold fX12_swallow_33 at h
    intro H locs ls hP hD hS hv
    refine lv_aload_n hx hb dX12_swallow_33 rfl (lv_at hv 0 rfl) ?_
    refine lv_iconst (v := (1 : Int32)) hx hb dX12_swallow_34 (by decide) ?_
    obtain ⟨⟨r_4, found_5⟩, hf_6, h⟩ := bd_ex h
    have sb := Sb.same hP hD hS hA
    refine calI (va_runV (As := [.int (1 : Int32)]) (rest := []) ⟨hx, hb, hml, hown, hts⟩ (c_X12_finds l G D cA ad _ d_33 kept aside images found_33 base at0 size fault opened isRub names code coded pile needs traced traceMany who bitsOf sizeOf number lifted (1 : Int32) r_4 found_5 hf_6) (cwV 1 hts gX12_swallow_X12_finds rfl rfl rfl (by decide +kernel) ⟨Nat.le_of_ble_eq_true rfl, Nat.le_of_ble_eq_true rfl⟩) (pvV hE hK hS sb (va_recv hK hP (ci := 12) (q0 := 0) rfl rfl)) rfl rfl hv.1 rfl (lv_room (Nat.le_of_ble_eq_true rfl)) dX12_swallow_35 ⟨Nat.le_of_ble_eq_true rfl, Nat.le_of_ble_eq_true rfl⟩) hS sb (Jn.same sb) (fun H locs hP hD hS => ?_)
    have hP : va_P D vwCl (wM cA ad d_33 kept aside images found_5 base at0 size fault opened isRub names code coded pile needs traced traceMany who bitsOf sizeOf number lifted) H := hP
    have hD : va_D A (wM cA ad d_33 kept aside images found_5 base at0 size fault opened isRub names code coded pile needs traced traceMany who bitsOf sizeOf number lifted) := hD
    have h := Option.some.inj h
    have ee0 : r_4 = rR := congrArg (fun q => q.1) h
    have ee1 : d_33 = dR := congrArg (fun q => q.2.1) h
    have ee2 : found_5 = foundR := congrArg (fun q => q.2.2) h
    subst ee0
    subst ee1
    subst ee2
    rw [← hQ]
    exact retI hx hb hr hlk hK hP hD hS dX12_swallow_38 ⟨Nat.le_of_ble_eq_true rfl, Nat.le_of_ble_eq_true rfl⟩
  have hP : va_P D vwCl (wM cA ad d kept aside images found base at0 size fault opened isRub names code coded pile needs traced traceMany who bitsOf sizeOf number lifted) H := hP
  unfold fX12_swallow at h
  refine lv_iload_n hx hb dX12_swallow_0 rfl (lv_at hv 1 rfl) ?_
  refine lv_i2l (v := (a).toInt64) hx hb dX12_swallow_1 rfl ?_
  refine lv_lconst (v := (0 : Int64)) hx hb dX12_swallow_2 (by decide) ?_
  refine lv_ldc2 (v := (5 : Int64)) hx hb hown w_0 dX12_swallow_3 ?_
  obtain ⟨r_1, hf_2, h⟩ := bd_ex h
  have sb := Sb.nil hP hD hS hA
  refine calI (va_runS (As := [.long (a).toInt64, .long (0 : Int64), .long (5 : Int64)]) (rest := []) ⟨hx, hb, hml, hown, hts⟩ (c_X12_in l G D cA  _ ((a).toInt64) (0 : Int64) (5 : Int64) r_1 hf_2) (va_cwS 3 hts gX12_swallow_X12_in rfl rfl rfl (by decide +kernel) ⟨Nat.le_of_ble_eq_true rfl, Nat.le_of_ble_eq_true rfl⟩) (pvS hE hK hS sb) rfl rfl hv.1 rfl (lv_room (Nat.le_of_ble_eq_true rfl)) dX12_swallow_6 ⟨Nat.le_of_ble_eq_true rfl, Nat.le_of_ble_eq_true rfl⟩) hS sb (Jn.nil hP hD) (fun H locs hP hD hS => ?_)
  have hP : va_P D vwCl (wM cA ad d kept aside images found base at0 size fault opened isRub names code coded pile needs traced traceMany who bitsOf sizeOf number lifted) H := hP
  have hD : va_D A (wM cA ad d kept aside images found base at0 size fault opened isRub names code coded pile needs traced traceMany who bitsOf sizeOf number lifted) := hD
  refine lv_if_eq (tgt := 33) hx hb dX12_swallow_9 (by decide) (fun c_3 => ?_) (fun c_3 => ?_)
  · have h := ite_t c_3 h
    exact C_33 d found h _ _ _ hP hD hS (lv_sub hv [0] rfl)
  · have h := ite_f c_3 h
    refine lv_iload_n hx hb dX12_swallow_12 rfl (lv_at hv 2 rfl) ?_
    refine lv_i2l (v := (b).toInt64) hx hb dX12_swallow_13 rfl ?_
    refine lv_ldc2 (v := (-1 : Int64)) hx hb hown w_1 dX12_swallow_14 ?_
    refine lv_ldc2 (v := (7 : Int64)) hx hb hown w_2 dX12_swallow_17 ?_
    obtain ⟨r_7, hf_8, h⟩ := bd_ex h
    have sb := Sb.nil hP hD hS hA
    refine calI (va_runS (As := [.long (b).toInt64, .long (-1 : Int64), .long (7 : Int64)]) (rest := []) ⟨hx, hb, hml, hown, hts⟩ (c_X12_in l G D cA  _ ((b).toInt64) (-1 : Int64) (7 : Int64) r_7 hf_8) (va_cwS 3 hts gX12_swallow_X12_in rfl rfl rfl (by decide +kernel) ⟨Nat.le_of_ble_eq_true rfl, Nat.le_of_ble_eq_true rfl⟩) (pvS hE hK hS sb) rfl rfl hv.1 rfl (lv_room (Nat.le_of_ble_eq_true rfl)) dX12_swallow_20 ⟨Nat.le_of_ble_eq_true rfl, Nat.le_of_ble_eq_true rfl⟩) hS sb (Jn.nil hP hD) (fun H locs hP hD hS => ?_)
    have hP : va_P D vwCl (wM cA ad d kept aside images found base at0 size fault opened isRub names code coded pile needs traced traceMany who bitsOf sizeOf number lifted) H := hP
    have hD : va_D A (wM cA ad d kept aside images found base at0 size fault opened isRub names code coded pile needs traced traceMany who bitsOf sizeOf number lifted) := hD
    refine lv_if_eq (tgt := 33) hx hb dX12_swallow_23 (by decide) (fun c_9 => ?_) (fun c_9 => ?_)
    · have h := ite_t c_9 h
      exact C_33 d found h _ _ _ hP hD hS (lv_sub hv [0] rfl)
    · have h := ite_f c_9 h
      refine lv_iload_n hx hb dX12_swallow_26 rfl (lv_at hv 3 rfl) ?_
      obtain ⟨r_10, hf_11, h⟩ := bd_ex h
      have sb := Sb.nil hP hD hS hA
      refine calI (va_runS (As := [.int k]) (rest := []) ⟨hx, hb, hml, hown, hts⟩ (c_X12_isWord l G D cA  _ k r_10 hf_11) (va_cwS 1 hts gX12_swallow_X12_isWord rfl rfl rfl (by decide +kernel) ⟨Nat.le_of_ble_eq_true rfl, Nat.le_of_ble_eq_true rfl⟩) (pvS hE hK hS sb) rfl rfl hv.1 rfl (lv_room (Nat.le_of_ble_eq_true rfl)) dX12_swallow_27 ⟨Nat.le_of_ble_eq_true rfl, Nat.le_of_ble_eq_true rfl⟩) hS sb (Jn.nil hP hD) (fun H locs hP hD hS => ?_)
      have hP : va_P D vwCl (wM cA ad d kept aside images found base at0 size fault opened isRub names code coded pile needs traced traceMany who bitsOf sizeOf number lifted) H := hP
      have hD : va_D A (wM cA ad d kept aside images found base at0 size fault opened isRub names code coded pile needs traced traceMany who bitsOf sizeOf number lifted) := hD
      refine lv_if_ne (tgt := 39) hx hb dX12_swallow_30 (by decide) (fun c_12 => ?_) (fun c_12 => ?_)
      · have h := ite_f c_12 h
        refine lv_aload_n hx hb dX12_swallow_39 rfl (lv_at hv 0 rfl) ?_
        refine lv_iload_n hx hb dX12_swallow_40 rfl (lv_at hv 1 rfl) ?_
        obtain ⟨r_13, hf_14, h⟩ := bd_ex h
        have sb := Sb.same hP hD hS hA
        refine calI (va_runV (As := [.int a]) (rest := []) ⟨hx, hb, hml, hown, hts⟩ (c_X12_swallowOf l G D cA ad _ d kept aside images found base at0 size fault opened isRub names code coded pile needs traced traceMany who bitsOf sizeOf number lifted a r_13 hf_14) (cwV 1 hts gX12_swallow_X12_swallowOf rfl rfl rfl (by decide +kernel) ⟨Nat.le_of_ble_eq_true rfl, Nat.le_of_ble_eq_true rfl⟩) (pvV hE hK hS sb (va_recv hK hP (ci := 12) (q0 := 0) rfl rfl)) rfl rfl hv.1 rfl (lv_room (Nat.le_of_ble_eq_true rfl)) dX12_swallow_41 ⟨Nat.le_of_ble_eq_true rfl, Nat.le_of_ble_eq_true rfl⟩) hS sb (Jn.same sb) (fun H locs hP hD hS => ?_)
        have hP : va_P D vwCl (wM cA ad d kept aside images found base at0 size fault opened isRub names code coded pile needs traced traceMany who bitsOf sizeOf number lifted) H := hP
        have hD : va_D A (wM cA ad d kept aside images found base at0 size fault opened isRub names code coded pile needs traced traceMany who bitsOf sizeOf number lifted) := hD
        refine lv_istore (lv' := [(4, .int r_13), (0, .ref (ad 0)), (1, .int a), (2, .int b), (3, .int k)]) hx hb dX12_swallow_44 hv (by decide) rfl (fun ls hv => ?_)
        refine lv_aload_n hx hb dX12_swallow_46 rfl (lv_at hv 1 rfl) ?_
        refine va_get (D := D) (ci := 12) (v := .ref (ad 1)) (C := RX12) (T := TX12) (N := 23) hx hb hts in_12 hown hK hP 0 rfl rfl 0 (by decide) w_3 (fun _ h9 => h9) rfl dX12_swallow_47 ?_
        refine lv_bipush (v := (18 : Int32)) hx hb dX12_swallow_50 (by decide) ?_
        refine lv_iload_n hx hb dX12_swallow_52 rfl (lv_at hv 2 rfl) ?_
        refine lv_iadd hx hb dX12_swallow_53 ?_
        refine lv_iload_n hx hb dX12_swallow_54 rfl (lv_at hv 3 rfl) ?_
        obtain ⟨c_15, h⟩ := ckI_ex h
        obtain ⟨d_16, ed_16, h⟩ := bnd_ex h
        refine va_iast (D := D) hx hb hK hP hD hS 1 0 rfl rfl c_15 dX12_swallow_55 (fun H locs hP hD hS => ?_)
        rw [← ed_16] at hP hD
        have hP : va_P D vwCl (wM cA ad d_16 kept aside images found base at0 size fault opened isRub names code coded pile needs traced traceMany who bitsOf sizeOf number lifted) H := hP
        have hD : va_D A (wM cA ad d_16 kept aside images found base at0 size fault opened isRub names code coded pile needs traced traceMany who bitsOf sizeOf number lifted) := hD
        refine lv_aload_n hx hb dX12_swallow_56 rfl (lv_at hv 1 rfl) ?_
        refine va_get (D := D) (ci := 12) (v := .ref (ad 1)) (C := RX12) (T := TX12) (N := 23) hx hb hts in_12 hown hK hP 0 rfl rfl 0 (by decide) w_3 (fun _ h9 => h9) rfl dX12_swallow_57 ?_
        refine lv_bipush (v := (24 : Int32)) hx hb dX12_swallow_60 (by decide) ?_
        refine lv_iload_n hx hb dX12_swallow_62 rfl (lv_at hv 2 rfl) ?_
        refine lv_iadd hx hb dX12_swallow_63 ?_
        refine lv_iload_n hx hb dX12_swallow_64 rfl (lv_at hv 4 rfl) ?_
        obtain ⟨c_17, h⟩ := ckI_ex h
        obtain ⟨d_18, ed_18, h⟩ := bnd_ex h
        refine va_iast (D := D) hx hb hK hP hD hS 1 0 rfl rfl c_17 dX12_swallow_65 (fun H locs hP hD hS => ?_)
        rw [← ed_18] at hP hD
        have hP : va_P D vwCl (wM cA ad d_18 kept aside images found base at0 size fault opened isRub names code coded pile needs traced traceMany who bitsOf sizeOf number lifted) H := hP
        have hD : va_D A (wM cA ad d_18 kept aside images found base at0 size fault opened isRub names code coded pile needs traced traceMany who bitsOf sizeOf number lifted) := hD
        refine lv_iload hx hb dX12_swallow_66 (lv_at hv 0 rfl) ?_
        have h := Option.some.inj h
        have ee0 : r_13 = rR := congrArg (fun q => q.1) h
        have ee1 : d_18 = dR := congrArg (fun q => q.2.1) h
        have ee2 : found = foundR := congrArg (fun q => q.2.2) h
        subst ee0
        subst ee1
        subst ee2
        rw [← hQ]
        exact retI hx hb hr hlk hK hP hD hS dX12_swallow_68 ⟨Nat.le_of_ble_eq_true rfl, Nat.le_of_ble_eq_true rfl⟩
      · have h := ite_t c_12 h
        exact C_33 d found h _ _ _ hP hD hS (lv_sub hv [0] rfl)

def fX12_ofSwallow (a : Int32) (d : Nat → Int32) (found : Nat → Int32) : Option (Int32 × (Nat → Int32)) :=
  bd (fX12_in ((a).toInt64) (0 : Int64) (5 : Int64)) fun r_1 => (if r_1 = 0 then bd (fX12_finds (1 : Int32) found) fun (r_4, found_5) => some (r_4, found_5) else bd (fX12_swallowOf a d) fun r_7 => some (r_7, found))
set_option maxHeartbeats 4000000 in
set_option maxRecDepth 100000 in
theorem c_X12_ofSwallow (l : Launch) (G : Nat → Nat) (D : va_G) (cA : Nat → ClassId) (ad : Nat → Nat) (sz : Nat) (d : Nat → Int32) (kept : Nat → Int32) (aside : Nat → Int32) (images : Int32) (found : Nat → Int32) (base : Int32) (at0 : Int32) (size : Int32) (fault : Int32) (opened : Int32) (isRub : Int32) (names : Nat → Int32) (code : Nat → Int32) (coded : Int32) (pile : Nat → Int32) (needs : Nat → Int32) (traced : Nat → Int32) (traceMany : Int32) (who : Int32) (bitsOf : Nat → Int32) (sizeOf : Nat → Int32) (number : Nat → Int32) (lifted : Nat → Int32) (a : Int32) (rR : Int32) (foundR : Nat → Int32) (h : fX12_ofSwallow a d found = some (rR, foundR)) : Met l yX12_ofSwallow wsX12_ofSwallow ({ frames := 1, cells := 0, slots := 0, locals := 25 } : Room) (PW G D (tyC cA) sz (wM cA ad d kept aside images found base at0 size fault opened isRub names code coded pile needs traced traceMany who bitsOf sizeOf number lifted) [.ref (ad 0), .int a]) (QI D (tyC cA) (va_A (wM cA ad d kept aside images found base at0 size fault opened isRub names code coded pile needs traced traceMany who bitsOf sizeOf number lifted) sz) rR (wM cA ad d kept aside images foundR base at0 size fault opened isRub names code coded pile needs traced traceMany who bitsOf sizeOf number lifted)) 0 0 (va_A (wM cA ad d kept aside images found base at0 size fault opened isRub names code coded pile needs traced traceMany who bitsOf sizeOf number lifted) sz) := by
  refine ent (cc := cX12_ofSwallow) (maxL := 2) (ret := (some .int)) (fun A => QI D (tyC cA) A rR (wM cA ad d kept aside images foundR base at0 size fault opened isRub names code coded pile needs traced traceMany who bitsOf sizeOf number lifted)) (by decide +kernel) rfl (Nat.le_of_ble_eq_true rfl) ?_
  intro p e s m args below meth c A ls H hx hb hml hr hlk hts hown hA hK hE hP hD hS hv hmm
  have hv : lv_has ls 2 [(0, .ref (ad 0)), (1, .int a)] := hv
  have w_0 := hts (.constantLong RX12 207 (5)) (List.mem_of_getElem? (i := 1) rfl)
  generalize hQ : MQ below _ args s 0 0 A = Q
  have hP : va_P D vwCl (wM cA ad d kept aside images found base at0 size fault opened isRub names code coded pile needs traced traceMany who bitsOf sizeOf number lifted) H := hP
  unfold fX12_ofSwallow at h
  refine lv_iload_n hx hb dX12_ofSwallow_0 rfl (lv_at hv 1 rfl) ?_
  refine lv_i2l (v := (a).toInt64) hx hb dX12_ofSwallow_1 rfl ?_
  refine lv_lconst (v := (0 : Int64)) hx hb dX12_ofSwallow_2 (by decide) ?_
  refine lv_ldc2 (v := (5 : Int64)) hx hb hown w_0 dX12_ofSwallow_3 ?_
  obtain ⟨r_1, hf_2, h⟩ := bd_ex h
  have sb := Sb.nil hP hD hS hA
  refine calI (va_runS (As := [.long (a).toInt64, .long (0 : Int64), .long (5 : Int64)]) (rest := []) ⟨hx, hb, hml, hown, hts⟩ (c_X12_in l G D cA  _ ((a).toInt64) (0 : Int64) (5 : Int64) r_1 hf_2) (va_cwS 3 hts gX12_ofSwallow_X12_in rfl rfl rfl (by decide +kernel) ⟨Nat.le_of_ble_eq_true rfl, Nat.le_of_ble_eq_true rfl⟩) (pvS hE hK hS sb) rfl rfl hv.1 rfl (lv_room (Nat.le_of_ble_eq_true rfl)) dX12_ofSwallow_6 ⟨Nat.le_of_ble_eq_true rfl, Nat.le_of_ble_eq_true rfl⟩) hS sb (Jn.nil hP hD) (fun H locs hP hD hS => ?_)
  have hP : va_P D vwCl (wM cA ad d kept aside images found base at0 size fault opened isRub names code coded pile needs traced traceMany who bitsOf sizeOf number lifted) H := hP
  have hD : va_D A (wM cA ad d kept aside images found base at0 size fault opened isRub names code coded pile needs traced traceMany who bitsOf sizeOf number lifted) := hD
  refine lv_if_eq (tgt := 20) hx hb dX12_ofSwallow_9 (by decide) (fun c_3 => ?_) (fun c_3 => ?_)
  · have h := ite_t c_3 h
    refine lv_aload_n hx hb dX12_ofSwallow_20 rfl (lv_at hv 0 rfl) ?_
    refine lv_iconst (v := (1 : Int32)) hx hb dX12_ofSwallow_21 (by decide) ?_
    obtain ⟨⟨r_4, found_5⟩, hf_6, h⟩ := bd_ex h
    have sb := Sb.same hP hD hS hA
    refine calI (va_runV (As := [.int (1 : Int32)]) (rest := []) ⟨hx, hb, hml, hown, hts⟩ (c_X12_finds l G D cA ad _ d kept aside images found base at0 size fault opened isRub names code coded pile needs traced traceMany who bitsOf sizeOf number lifted (1 : Int32) r_4 found_5 hf_6) (cwV 1 hts gX12_ofSwallow_X12_finds rfl rfl rfl (by decide +kernel) ⟨Nat.le_of_ble_eq_true rfl, Nat.le_of_ble_eq_true rfl⟩) (pvV hE hK hS sb (va_recv hK hP (ci := 12) (q0 := 0) rfl rfl)) rfl rfl hv.1 rfl (lv_room (Nat.le_of_ble_eq_true rfl)) dX12_ofSwallow_22 ⟨Nat.le_of_ble_eq_true rfl, Nat.le_of_ble_eq_true rfl⟩) hS sb (Jn.same sb) (fun H locs hP hD hS => ?_)
    have hP : va_P D vwCl (wM cA ad d kept aside images found_5 base at0 size fault opened isRub names code coded pile needs traced traceMany who bitsOf sizeOf number lifted) H := hP
    have hD : va_D A (wM cA ad d kept aside images found_5 base at0 size fault opened isRub names code coded pile needs traced traceMany who bitsOf sizeOf number lifted) := hD
    have h := Option.some.inj h
    have ee0 : r_4 = rR := congrArg (fun q => q.1) h
    have ee1 : found_5 = foundR := congrArg (fun q => q.2) h
    subst ee0
    subst ee1
    rw [← hQ]
    exact retI hx hb hr hlk hK hP hD hS dX12_ofSwallow_25 ⟨Nat.le_of_ble_eq_true rfl, Nat.le_of_ble_eq_true rfl⟩
  · have h := ite_f c_3 h
    refine lv_aload_n hx hb dX12_ofSwallow_12 rfl (lv_at hv 0 rfl) ?_
    refine lv_iload_n hx hb dX12_ofSwallow_13 rfl (lv_at hv 1 rfl) ?_
    obtain ⟨r_7, hf_8, h⟩ := bd_ex h
    have sb := Sb.same hP hD hS hA
    refine calI (va_runV (As := [.int a]) (rest := []) ⟨hx, hb, hml, hown, hts⟩ (c_X12_swallowOf l G D cA ad _ d kept aside images found base at0 size fault opened isRub names code coded pile needs traced traceMany who bitsOf sizeOf number lifted a r_7 hf_8) (cwV 1 hts gX12_ofSwallow_X12_swallowOf rfl rfl rfl (by decide +kernel) ⟨Nat.le_of_ble_eq_true rfl, Nat.le_of_ble_eq_true rfl⟩) (pvV hE hK hS sb (va_recv hK hP (ci := 12) (q0 := 0) rfl rfl)) rfl rfl hv.1 rfl (lv_room (Nat.le_of_ble_eq_true rfl)) dX12_ofSwallow_14 ⟨Nat.le_of_ble_eq_true rfl, Nat.le_of_ble_eq_true rfl⟩) hS sb (Jn.same sb) (fun H locs hP hD hS => ?_)
    have hP : va_P D vwCl (wM cA ad d kept aside images found base at0 size fault opened isRub names code coded pile needs traced traceMany who bitsOf sizeOf number lifted) H := hP
    have hD : va_D A (wM cA ad d kept aside images found base at0 size fault opened isRub names code coded pile needs traced traceMany who bitsOf sizeOf number lifted) := hD
    refine lv_goto (tgt := 25) hx hb dX12_ofSwallow_17 (by decide) ?_
    have h := Option.some.inj h
    have ee0 : r_7 = rR := congrArg (fun q => q.1) h
    have ee1 : found = foundR := congrArg (fun q => q.2) h
    subst ee0
    subst ee1
    rw [← hQ]
    exact retI hx hb hr hlk hK hP hD hS dX12_ofSwallow_25 ⟨Nat.le_of_ble_eq_true rfl, Nat.le_of_ble_eq_true rfl⟩

def fX12_wash (a : Int32) (b : Int32) (d : Nat → Int32) (found : Nat → Int32) : Option (Int32 × (Nat → Int32) × (Nat → Int32)) :=
  bd (fX12_in ((a).toInt64) (0 : Int64) (3 : Int64)) fun r_1 => (if r_1 = 0 then bd (fX12_finds (1 : Int32) found) fun (r_4, found_5) => some (r_4, d, found_5) else bd (fX12_in ((b).toInt64) (-1 : Int64) (7 : Int64)) fun r_7 => (if r_7 = 0 then bd (fX12_finds (1 : Int32) found) fun (r_10, found_11) => some (r_10, d, found_11) else bd (fX12_becomes ((30 : Int32) + a) b d) fun (r_13, d_14) => some (((1 : Int32) + r_13), d_14, found)))
set_option maxHeartbeats 4000000 in
set_option maxRecDepth 100000 in
theorem c_X12_wash (l : Launch) (G : Nat → Nat) (D : va_G) (cA : Nat → ClassId) (ad : Nat → Nat) (sz : Nat) (d : Nat → Int32) (kept : Nat → Int32) (aside : Nat → Int32) (images : Int32) (found : Nat → Int32) (base : Int32) (at0 : Int32) (size : Int32) (fault : Int32) (opened : Int32) (isRub : Int32) (names : Nat → Int32) (code : Nat → Int32) (coded : Int32) (pile : Nat → Int32) (needs : Nat → Int32) (traced : Nat → Int32) (traceMany : Int32) (who : Int32) (bitsOf : Nat → Int32) (sizeOf : Nat → Int32) (number : Nat → Int32) (lifted : Nat → Int32) (a : Int32) (b : Int32) (rR : Int32) (dR : Nat → Int32) (foundR : Nat → Int32) (h : fX12_wash a b d found = some (rR, dR, foundR)) : Met l yX12_wash wsX12_wash ({ frames := 1, cells := 0, slots := 0, locals := 25 } : Room) (PW G D (tyC cA) sz (wM cA ad d kept aside images found base at0 size fault opened isRub names code coded pile needs traced traceMany who bitsOf sizeOf number lifted) [.ref (ad 0), .int a, .int b]) (QI D (tyC cA) (va_A (wM cA ad d kept aside images found base at0 size fault opened isRub names code coded pile needs traced traceMany who bitsOf sizeOf number lifted) sz) rR (wM cA ad dR kept aside images foundR base at0 size fault opened isRub names code coded pile needs traced traceMany who bitsOf sizeOf number lifted)) 0 0 (va_A (wM cA ad d kept aside images found base at0 size fault opened isRub names code coded pile needs traced traceMany who bitsOf sizeOf number lifted) sz) := by
  refine ent (cc := cX12_wash) (maxL := 3) (ret := (some .int)) (fun A => QI D (tyC cA) A rR (wM cA ad dR kept aside images foundR base at0 size fault opened isRub names code coded pile needs traced traceMany who bitsOf sizeOf number lifted)) (by decide +kernel) rfl (Nat.le_of_ble_eq_true rfl) ?_
  intro p e s m args below meth c A ls H hx hb hml hr hlk hts hown hA hK hE hP hD hS hv hmm
  have hv : lv_has ls 3 [(0, .ref (ad 0)), (1, .int a), (2, .int b)] := hv
  have w_0 := hts (.constantLong RX12 216 (3)) (List.mem_of_getElem? (i := 1) rfl)
  have w_1 := hts (.constantLong RX12 209 (-1)) (List.mem_of_getElem? (i := 2) rfl)
  have w_2 := hts (.constantLong RX12 211 (7)) (List.mem_of_getElem? (i := 3) rfl)
  generalize hQ : MQ below _ args s 0 0 A = Q
  have hP : va_P D vwCl (wM cA ad d kept aside images found base at0 size fault opened isRub names code coded pile needs traced traceMany who bitsOf sizeOf number lifted) H := hP
  unfold fX12_wash at h
  refine lv_iload_n hx hb dX12_wash_0 rfl (lv_at hv 1 rfl) ?_
  refine lv_i2l (v := (a).toInt64) hx hb dX12_wash_1 rfl ?_
  refine lv_lconst (v := (0 : Int64)) hx hb dX12_wash_2 (by decide) ?_
  refine lv_ldc2 (v := (3 : Int64)) hx hb hown w_0 dX12_wash_3 ?_
  obtain ⟨r_1, hf_2, h⟩ := bd_ex h
  have sb := Sb.nil hP hD hS hA
  refine calI (va_runS (As := [.long (a).toInt64, .long (0 : Int64), .long (3 : Int64)]) (rest := []) ⟨hx, hb, hml, hown, hts⟩ (c_X12_in l G D cA  _ ((a).toInt64) (0 : Int64) (3 : Int64) r_1 hf_2) (va_cwS 3 hts gX12_wash_X12_in rfl rfl rfl (by decide +kernel) ⟨Nat.le_of_ble_eq_true rfl, Nat.le_of_ble_eq_true rfl⟩) (pvS hE hK hS sb) rfl rfl hv.1 rfl (lv_room (Nat.le_of_ble_eq_true rfl)) dX12_wash_6 ⟨Nat.le_of_ble_eq_true rfl, Nat.le_of_ble_eq_true rfl⟩) hS sb (Jn.nil hP hD) (fun H locs hP hD hS => ?_)
  have hP : va_P D vwCl (wM cA ad d kept aside images found base at0 size fault opened isRub names code coded pile needs traced traceMany who bitsOf sizeOf number lifted) H := hP
  have hD : va_D A (wM cA ad d kept aside images found base at0 size fault opened isRub names code coded pile needs traced traceMany who bitsOf sizeOf number lifted) := hD
  refine lv_if_eq (tgt := 40) hx hb dX12_wash_9 (by decide) (fun c_3 => ?_) (fun c_3 => ?_)
  · have h := ite_t c_3 h
    refine lv_aload_n hx hb dX12_wash_40 rfl (lv_at hv 0 rfl) ?_
    refine lv_iconst (v := (1 : Int32)) hx hb dX12_wash_41 (by decide) ?_
    obtain ⟨⟨r_4, found_5⟩, hf_6, h⟩ := bd_ex h
    have sb := Sb.same hP hD hS hA
    refine calI (va_runV (As := [.int (1 : Int32)]) (rest := []) ⟨hx, hb, hml, hown, hts⟩ (c_X12_finds l G D cA ad _ d kept aside images found base at0 size fault opened isRub names code coded pile needs traced traceMany who bitsOf sizeOf number lifted (1 : Int32) r_4 found_5 hf_6) (cwV 1 hts gX12_wash_X12_finds rfl rfl rfl (by decide +kernel) ⟨Nat.le_of_ble_eq_true rfl, Nat.le_of_ble_eq_true rfl⟩) (pvV hE hK hS sb (va_recv hK hP (ci := 12) (q0 := 0) rfl rfl)) rfl rfl hv.1 rfl (lv_room (Nat.le_of_ble_eq_true rfl)) dX12_wash_42 ⟨Nat.le_of_ble_eq_true rfl, Nat.le_of_ble_eq_true rfl⟩) hS sb (Jn.same sb) (fun H locs hP hD hS => ?_)
    have hP : va_P D vwCl (wM cA ad d kept aside images found_5 base at0 size fault opened isRub names code coded pile needs traced traceMany who bitsOf sizeOf number lifted) H := hP
    have hD : va_D A (wM cA ad d kept aside images found_5 base at0 size fault opened isRub names code coded pile needs traced traceMany who bitsOf sizeOf number lifted) := hD
    have h := Option.some.inj h
    have ee0 : r_4 = rR := congrArg (fun q => q.1) h
    have ee1 : d = dR := congrArg (fun q => q.2.1) h
    have ee2 : found_5 = foundR := congrArg (fun q => q.2.2) h
    subst ee0
    subst ee1
    subst ee2
    rw [← hQ]
    exact retI hx hb hr hlk hK hP hD hS dX12_wash_45 ⟨Nat.le_of_ble_eq_true rfl, Nat.le_of_ble_eq_true rfl⟩
  · have h := ite_f c_3 h
    refine lv_iload_n hx hb dX12_wash_12 rfl (lv_at hv 2 rfl) ?_
    refine lv_i2l (v := (b).toInt64) hx hb dX12_wash_13 rfl ?_
    refine lv_ldc2 (v := (-1 : Int64)) hx hb hown w_1 dX12_wash_14 ?_
    refine lv_ldc2 (v := (7 : Int64)) hx hb hown w_2 dX12_wash_17 ?_
    obtain ⟨r_7, hf_8, h⟩ := bd_ex h
    have sb := Sb.nil hP hD hS hA
    refine calI (va_runS (As := [.long (b).toInt64, .long (-1 : Int64), .long (7 : Int64)]) (rest := []) ⟨hx, hb, hml, hown, hts⟩ (c_X12_in l G D cA  _ ((b).toInt64) (-1 : Int64) (7 : Int64) r_7 hf_8) (va_cwS 3 hts gX12_wash_X12_in rfl rfl rfl (by decide +kernel) ⟨Nat.le_of_ble_eq_true rfl, Nat.le_of_ble_eq_true rfl⟩) (pvS hE hK hS sb) rfl rfl hv.1 rfl (lv_room (Nat.le_of_ble_eq_true rfl)) dX12_wash_20 ⟨Nat.le_of_ble_eq_true rfl, Nat.le_of_ble_eq_true rfl⟩) hS sb (Jn.nil hP hD) (fun H locs hP hD hS => ?_)
    have hP : va_P D vwCl (wM cA ad d kept aside images found base at0 size fault opened isRub names code coded pile needs traced traceMany who bitsOf sizeOf number lifted) H := hP
    have hD : va_D A (wM cA ad d kept aside images found base at0 size fault opened isRub names code coded pile needs traced traceMany who bitsOf sizeOf number lifted) := hD
    refine lv_if_eq (tgt := 40) hx hb dX12_wash_23 (by decide) (fun c_9 => ?_) (fun c_9 => ?_)
    · have h := ite_t c_9 h
      refine lv_aload_n hx hb dX12_wash_40 rfl (lv_at hv 0 rfl) ?_
      refine lv_iconst (v := (1 : Int32)) hx hb dX12_wash_41 (by decide) ?_
      obtain ⟨⟨r_10, found_11⟩, hf_12, h⟩ := bd_ex h
      have sb := Sb.same hP hD hS hA
      refine calI (va_runV (As := [.int (1 : Int32)]) (rest := []) ⟨hx, hb, hml, hown, hts⟩ (c_X12_finds l G D cA ad _ d kept aside images found base at0 size fault opened isRub names code coded pile needs traced traceMany who bitsOf sizeOf number lifted (1 : Int32) r_10 found_11 hf_12) (cwV 1 hts gX12_wash_X12_finds rfl rfl rfl (by decide +kernel) ⟨Nat.le_of_ble_eq_true rfl, Nat.le_of_ble_eq_true rfl⟩) (pvV hE hK hS sb (va_recv hK hP (ci := 12) (q0 := 0) rfl rfl)) rfl rfl hv.1 rfl (lv_room (Nat.le_of_ble_eq_true rfl)) dX12_wash_42 ⟨Nat.le_of_ble_eq_true rfl, Nat.le_of_ble_eq_true rfl⟩) hS sb (Jn.same sb) (fun H locs hP hD hS => ?_)
      have hP : va_P D vwCl (wM cA ad d kept aside images found_11 base at0 size fault opened isRub names code coded pile needs traced traceMany who bitsOf sizeOf number lifted) H := hP
      have hD : va_D A (wM cA ad d kept aside images found_11 base at0 size fault opened isRub names code coded pile needs traced traceMany who bitsOf sizeOf number lifted) := hD
      have h := Option.some.inj h
      have ee0 : r_10 = rR := congrArg (fun q => q.1) h
      have ee1 : d = dR := congrArg (fun q => q.2.1) h
      have ee2 : found_11 = foundR := congrArg (fun q => q.2.2) h
      subst ee0
      subst ee1
      subst ee2
      rw [← hQ]
      exact retI hx hb hr hlk hK hP hD hS dX12_wash_45 ⟨Nat.le_of_ble_eq_true rfl, Nat.le_of_ble_eq_true rfl⟩
    · have h := ite_f c_9 h
      refine lv_iconst (v := (1 : Int32)) hx hb dX12_wash_26 (by decide) ?_
      refine lv_aload_n hx hb dX12_wash_27 rfl (lv_at hv 0 rfl) ?_
      refine lv_bipush (v := (30 : Int32)) hx hb dX12_wash_28 (by decide) ?_
      refine lv_iload_n hx hb dX12_wash_30 rfl (lv_at hv 1 rfl) ?_
      refine lv_iadd hx hb dX12_wash_31 ?_
      refine lv_iload_n hx hb dX12_wash_32 rfl (lv_at hv 2 rfl) ?_
      obtain ⟨⟨r_13, d_14⟩, hf_15, h⟩ := bd_ex h
      have sb := Sb.same hP hD hS hA
      refine calI (va_runV (As := [.int ((30 : Int32) + a), .int b]) (rest := [.int (1 : Int32)]) ⟨hx, hb, hml, hown, hts⟩ (c_X12_becomes l G D cA ad _ d kept aside images found base at0 size fault opened isRub names code coded pile needs traced traceMany who bitsOf sizeOf number lifted ((30 : Int32) + a) b r_13 d_14 hf_15) (cwV 2 hts gX12_wash_X12_becomes rfl rfl rfl (by decide +kernel) ⟨Nat.le_of_ble_eq_true rfl, Nat.le_of_ble_eq_true rfl⟩) (pvV hE hK hS sb (va_recv hK hP (ci := 12) (q0 := 0) rfl rfl)) rfl rfl hv.1 rfl (lv_room (Nat.le_of_ble_eq_true rfl)) dX12_wash_33 ⟨Nat.le_of_ble_eq_true rfl, Nat.le_of_ble_eq_true rfl⟩) hS sb (Jn.same sb) (fun H locs hP hD hS => ?_)
      have hP : va_P D vwCl (wM cA ad d_14 kept aside images found base at0 size fault opened isRub names code coded pile needs traced traceMany who bitsOf sizeOf number lifted) H := hP
      have hD : va_D A (wM cA ad d_14 kept aside images found base at0 size fault opened isRub names code coded pile needs traced traceMany who bitsOf sizeOf number lifted) := hD
      refine lv_iadd hx hb dX12_wash_36 ?_
      refine lv_goto (tgt := 45) hx hb dX12_wash_37 (by decide) ?_
      have h := Option.some.inj h
      have ee0 : ((1 : Int32) + r_13) = rR := congrArg (fun q => q.1) h
      have ee1 : d_14 = dR := congrArg (fun q => q.2.1) h
      have ee2 : found = foundR := congrArg (fun q => q.2.2) h
      subst ee0
      subst ee1
      subst ee2
      rw [← hQ]
      exact retI hx hb hr hlk hK hP hD hS dX12_wash_45 ⟨Nat.le_of_ble_eq_true rfl, Nat.le_of_ble_eq_true rfl⟩

def fX12_ofWash (a : Int32) (d : Nat → Int32) (found : Nat → Int32) : Option (Int32 × (Nat → Int32)) :=
  bd (fX12_in ((a).toInt64) (0 : Int64) (3 : Int64)) fun r_1 => (if r_1 = 0 then bd (fX12_finds (1 : Int32) found) fun (r_4, found_5) => some (r_4, found_5) else ckI ((30 : Int32) + a) 326 (some (((1 : Int32) + (d (((30 : Int32) + a)).toNatClampNeg)), found)))
set_option maxHeartbeats 4000000 in
set_option maxRecDepth 100000 in
theorem c_X12_ofWash (l : Launch) (G : Nat → Nat) (D : va_G) (cA : Nat → ClassId) (ad : Nat → Nat) (sz : Nat) (d : Nat → Int32) (kept : Nat → Int32) (aside : Nat → Int32) (images : Int32) (found : Nat → Int32) (base : Int32) (at0 : Int32) (size : Int32) (fault : Int32) (opened : Int32) (isRub : Int32) (names : Nat → Int32) (code : Nat → Int32) (coded : Int32) (pile : Nat → Int32) (needs : Nat → Int32) (traced : Nat → Int32) (traceMany : Int32) (who : Int32) (bitsOf : Nat → Int32) (sizeOf : Nat → Int32) (number : Nat → Int32) (lifted : Nat → Int32) (a : Int32) (rR : Int32) (foundR : Nat → Int32) (h : fX12_ofWash a d found = some (rR, foundR)) : Met l yX12_ofWash wsX12_ofWash ({ frames := 1, cells := 0, slots := 0, locals := 25 } : Room) (PW G D (tyC cA) sz (wM cA ad d kept aside images found base at0 size fault opened isRub names code coded pile needs traced traceMany who bitsOf sizeOf number lifted) [.ref (ad 0), .int a]) (QI D (tyC cA) (va_A (wM cA ad d kept aside images found base at0 size fault opened isRub names code coded pile needs traced traceMany who bitsOf sizeOf number lifted) sz) rR (wM cA ad d kept aside images foundR base at0 size fault opened isRub names code coded pile needs traced traceMany who bitsOf sizeOf number lifted)) 0 0 (va_A (wM cA ad d kept aside images found base at0 size fault opened isRub names code coded pile needs traced traceMany who bitsOf sizeOf number lifted) sz) := by
  refine ent (cc := cX12_ofWash) (maxL := 2) (ret := (some .int)) (fun A => QI D (tyC cA) A rR (wM cA ad d kept aside images foundR base at0 size fault opened isRub names code coded pile needs traced traceMany who bitsOf sizeOf number lifted)) (by decide +kernel) rfl (Nat.le_of_ble_eq_true rfl) ?_
  intro p e s m args below meth c A ls H hx hb hml hr hlk hts hown hA hK hE hP hD hS hv hmm
  have hv : lv_has ls 2 [(0, .ref (ad 0)), (1, .int a)] := hv
  have in_12 : ∀ w ∈ u_ws RX12 TX12 23, w ∈ wsX12_ofWash := fun _ h => List.mem_cons_of_mem _ (List.mem_append_right _ h)
  have w_0 := hts (.constantLong RX12 216 (3)) (List.mem_of_getElem? (i := 1) rfl)
  have w_1 := hts (.fieldLink RX12 7 "SpoonsLastModel" "d" "[I") (List.mem_of_getElem? (i := 2) rfl)
  generalize hQ : MQ below _ args s 0 0 A = Q
  have hP : va_P D vwCl (wM cA ad d kept aside images found base at0 size fault opened isRub names code coded pile needs traced traceMany who bitsOf sizeOf number lifted) H := hP
  unfold fX12_ofWash at h
  refine lv_iload_n hx hb dX12_ofWash_0 rfl (lv_at hv 1 rfl) ?_
  refine lv_i2l (v := (a).toInt64) hx hb dX12_ofWash_1 rfl ?_
  refine lv_lconst (v := (0 : Int64)) hx hb dX12_ofWash_2 (by decide) ?_
  refine lv_ldc2 (v := (3 : Int64)) hx hb hown w_0 dX12_ofWash_3 ?_
  obtain ⟨r_1, hf_2, h⟩ := bd_ex h
  have sb := Sb.nil hP hD hS hA
  refine calI (va_runS (As := [.long (a).toInt64, .long (0 : Int64), .long (3 : Int64)]) (rest := []) ⟨hx, hb, hml, hown, hts⟩ (c_X12_in l G D cA  _ ((a).toInt64) (0 : Int64) (3 : Int64) r_1 hf_2) (va_cwS 3 hts gX12_ofWash_X12_in rfl rfl rfl (by decide +kernel) ⟨Nat.le_of_ble_eq_true rfl, Nat.le_of_ble_eq_true rfl⟩) (pvS hE hK hS sb) rfl rfl hv.1 rfl (lv_room (Nat.le_of_ble_eq_true rfl)) dX12_ofWash_6 ⟨Nat.le_of_ble_eq_true rfl, Nat.le_of_ble_eq_true rfl⟩) hS sb (Jn.nil hP hD) (fun H locs hP hD hS => ?_)
  have hP : va_P D vwCl (wM cA ad d kept aside images found base at0 size fault opened isRub names code coded pile needs traced traceMany who bitsOf sizeOf number lifted) H := hP
  have hD : va_D A (wM cA ad d kept aside images found base at0 size fault opened isRub names code coded pile needs traced traceMany who bitsOf sizeOf number lifted) := hD
  refine lv_if_eq (tgt := 26) hx hb dX12_ofWash_9 (by decide) (fun c_3 => ?_) (fun c_3 => ?_)
  · have h := ite_t c_3 h
    refine lv_aload_n hx hb dX12_ofWash_26 rfl (lv_at hv 0 rfl) ?_
    refine lv_iconst (v := (1 : Int32)) hx hb dX12_ofWash_27 (by decide) ?_
    obtain ⟨⟨r_4, found_5⟩, hf_6, h⟩ := bd_ex h
    have sb := Sb.same hP hD hS hA
    refine calI (va_runV (As := [.int (1 : Int32)]) (rest := []) ⟨hx, hb, hml, hown, hts⟩ (c_X12_finds l G D cA ad _ d kept aside images found base at0 size fault opened isRub names code coded pile needs traced traceMany who bitsOf sizeOf number lifted (1 : Int32) r_4 found_5 hf_6) (cwV 1 hts gX12_ofWash_X12_finds rfl rfl rfl (by decide +kernel) ⟨Nat.le_of_ble_eq_true rfl, Nat.le_of_ble_eq_true rfl⟩) (pvV hE hK hS sb (va_recv hK hP (ci := 12) (q0 := 0) rfl rfl)) rfl rfl hv.1 rfl (lv_room (Nat.le_of_ble_eq_true rfl)) dX12_ofWash_28 ⟨Nat.le_of_ble_eq_true rfl, Nat.le_of_ble_eq_true rfl⟩) hS sb (Jn.same sb) (fun H locs hP hD hS => ?_)
    have hP : va_P D vwCl (wM cA ad d kept aside images found_5 base at0 size fault opened isRub names code coded pile needs traced traceMany who bitsOf sizeOf number lifted) H := hP
    have hD : va_D A (wM cA ad d kept aside images found_5 base at0 size fault opened isRub names code coded pile needs traced traceMany who bitsOf sizeOf number lifted) := hD
    have h := Option.some.inj h
    have ee0 : r_4 = rR := congrArg (fun q => q.1) h
    have ee1 : found_5 = foundR := congrArg (fun q => q.2) h
    subst ee0
    subst ee1
    rw [← hQ]
    exact retI hx hb hr hlk hK hP hD hS dX12_ofWash_31 ⟨Nat.le_of_ble_eq_true rfl, Nat.le_of_ble_eq_true rfl⟩
  · have h := ite_f c_3 h
    refine lv_iconst (v := (1 : Int32)) hx hb dX12_ofWash_12 (by decide) ?_
    refine lv_aload_n hx hb dX12_ofWash_13 rfl (lv_at hv 0 rfl) ?_
    refine va_get (D := D) (ci := 12) (v := .ref (ad 1)) (C := RX12) (T := TX12) (N := 23) hx hb hts in_12 hown hK hP 0 rfl rfl 0 (by decide) w_1 (fun _ h9 => h9) rfl dX12_ofWash_14 ?_
    refine lv_bipush (v := (30 : Int32)) hx hb dX12_ofWash_17 (by decide) ?_
    refine lv_iload_n hx hb dX12_ofWash_19 rfl (lv_at hv 1 rfl) ?_
    refine lv_iadd hx hb dX12_ofWash_20 ?_
    obtain ⟨c_7, h⟩ := ckI_ex h
    refine va_iald (D := D) hx hb hK hP 1 0 rfl rfl c_7 dX12_ofWash_21 ?_
    refine lv_iadd hx hb dX12_ofWash_22 ?_
    refine lv_goto (tgt := 31) hx hb dX12_ofWash_23 (by decide) ?_
    have h := Option.some.inj h
    have ee0 : ((1 : Int32) + (d (((30 : Int32) + a)).toNatClampNeg)) = rR := congrArg (fun q => q.1) h
    have ee1 : found = foundR := congrArg (fun q => q.2) h
    subst ee0
    subst ee1
    rw [← hQ]
    exact retI hx hb hr hlk hK hP hD hS dX12_ofWash_31 ⟨Nat.le_of_ble_eq_true rfl, Nat.le_of_ble_eq_true rfl⟩

def fX12_isKm (a : Int32) : Option (Int32) :=
  bd (fX12_in ((a).toInt64) (0 : Int64) (69 : Int64)) fun r_1 => ck (isZ r_1 = true) (some r_1)
set_option maxHeartbeats 4000000 in
set_option maxRecDepth 100000 in
theorem c_X12_isKm (l : Launch) (G : Nat → Nat) (D : va_G) (cA : Nat → ClassId) (sz : Nat) (a : Int32) (rR : Int32) (h : fX12_isKm a = some rR) : Met l yX12_isKm wsX12_isKm ({ frames := 1, cells := 0, slots := 0, locals := 25 } : Room) (PW G D (tyC cA) sz (wE) [.int a]) (QI D (tyC cA) (va_A (wE) sz) rR (wE)) 0 0 (va_A (wE) sz) := by
  refine ent (cc := cX12_isKm) (maxL := 1) (ret := (some .boolean)) (fun A => QI D (tyC cA) A rR (wE)) (by decide +kernel) rfl (Nat.le_of_ble_eq_true rfl) ?_
  intro p e s m args below meth c A ls H hx hb hml hr hlk hts hown hA hK hE hP hD hS hv hmm
  have hv : lv_has ls 1 [(0, .int a)] := hv
  have w_0 := hts (.constantLong RX12 218 (69)) (List.mem_of_getElem? (i := 1) rfl)
  generalize hQ : MQ below _ args s 0 0 A = Q
  have hP : va_P D vwCl (wE) H := hP
  unfold fX12_isKm at h
  refine lv_iload_n hx hb dX12_isKm_0 rfl (lv_at hv 0 rfl) ?_
  refine lv_i2l (v := (a).toInt64) hx hb dX12_isKm_1 rfl ?_
  refine lv_lconst (v := (0 : Int64)) hx hb dX12_isKm_2 (by decide) ?_
  refine lv_ldc2 (v := (69 : Int64)) hx hb hown w_0 dX12_isKm_3 ?_
  obtain ⟨r_1, hf_2, h⟩ := bd_ex h
  have sb := Sb.nil hP hD hS hA
  refine calI (va_runS (As := [.long (a).toInt64, .long (0 : Int64), .long (69 : Int64)]) (rest := []) ⟨hx, hb, hml, hown, hts⟩ (c_X12_in l G D cA  _ ((a).toInt64) (0 : Int64) (69 : Int64) r_1 hf_2) (va_cwS 3 hts gX12_isKm_X12_in rfl rfl rfl (by decide +kernel) ⟨Nat.le_of_ble_eq_true rfl, Nat.le_of_ble_eq_true rfl⟩) (pvS hE hK hS sb) rfl rfl hv.1 rfl (lv_room (Nat.le_of_ble_eq_true rfl)) dX12_isKm_6 ⟨Nat.le_of_ble_eq_true rfl, Nat.le_of_ble_eq_true rfl⟩) hS sb (Jn.nil hP hD) (fun H locs hP hD hS => ?_)
  have hP : va_P D vwCl (wE) H := hP
  have hD : va_D A (wE) := hD
  obtain ⟨hz, h⟩ := ck_ex h
  have h := Option.some.inj h
  have ee0 : r_1 = rR := congrArg (fun q => q) h
  subst ee0
  rw [← hQ]
  exact retZ hz hx hb hr hlk hK hP hD hS dX12_isKm_9 ⟨Nat.le_of_ble_eq_true rfl, Nat.le_of_ble_eq_true rfl⟩

def fX12_spoon_79B (v3_79 : Int32) (found_79 : Nat → Int32) (v4_79b : Int32) (d_79b : Nat → Int32) : Option ((Int32 × (Nat → Int32)) ⊕ (Int32 × (Nat → Int32))) :=
  (if (12 : Int32) ≤ v4_79b then some (.inr (v4_79b, d_79b)) else bd (fX12_sets v3_79 ((3 : Int32) + v4_79b) (0 : Int32) d_79b) fun d_25 => bnd (v4_79b + (1 : Int32)) fun y_27 => some (.inl (y_27, d_25)))
def fX12_spoon_79 (v3_79 : Int32) (v4_79 : Int32) (d_79 : Nat → Int32) (found_79 : Nat → Int32) : Option (Int32 × (Nat → Int32) × (Nat → Int32)) :=
  bd (lp (fun σ : Int32 × (Nat → Int32) => fX12_spoon_79B v3_79 found_79 (σ.1) (σ.2)) FU (v4_79, d_79)) fun ρ => match ρ with | (v4_79r, d_79r) => ckI (0 : Int32) 326 (bnd ((d_79r ((0 : Int32)).toNatClampNeg) + (1 : Int32)) fun y_21 => ckI (0 : Int32) 326 (bnd (upd d_79r ((0 : Int32)).toNatClampNeg y_21) fun d_23 => some (v3_79, d_23, found_79)))
def fX12_spoon (a : Int32) (b : Int32) (d : Nat → Int32) (found : Nat → Int32) : Option (Int32 × (Nat → Int32) × (Nat → Int32)) :=
  bd (fX12_isKm a) fun r_1 => (if r_1 = 0 then bd (fX12_finds (1 : Int32) found) fun (r_4, found_5) => some (r_4, d, found_5) else bd (fX12_in ((b).toInt64) (0 : Int64) (99 : Int64)) fun r_7 => (if r_7 = 0 then bd (fX12_finds (1 : Int32) found) fun (r_31, found_32) => some (r_31, d, found_32) else ckI (0 : Int32) 326 ((if (d ((0 : Int32)).toNatClampNeg) = (8 : Int32) then bd (fX12_finds (4 : Int32) found) fun (r_28, found_29) => some (r_28, d, found_29) else ckI (0 : Int32) 326 (bnd (d ((0 : Int32)).toNatClampNeg) fun y_13 => bd (fX12_sets y_13 (0 : Int32) (a / (10 : Int32)) d) fun d_14 => bd (fX12_sets y_13 (1 : Int32) (a - a / (10 : Int32) * (10 : Int32)) d_14) fun d_16 => bd (fX12_sets y_13 (2 : Int32) b d_16) fun d_18 => fX12_spoon_79 y_13 (0 : Int32) d_18 found)))))
set_option maxHeartbeats 4000000 in
set_option maxRecDepth 100000 in
theorem c_X12_spoon (l : Launch) (G : Nat → Nat) (D : va_G) (cA : Nat → ClassId) (ad : Nat → Nat) (sz : Nat) (d : Nat → Int32) (kept : Nat → Int32) (aside : Nat → Int32) (images : Int32) (found : Nat → Int32) (base : Int32) (at0 : Int32) (size : Int32) (fault : Int32) (opened : Int32) (isRub : Int32) (names : Nat → Int32) (code : Nat → Int32) (coded : Int32) (pile : Nat → Int32) (needs : Nat → Int32) (traced : Nat → Int32) (traceMany : Int32) (who : Int32) (bitsOf : Nat → Int32) (sizeOf : Nat → Int32) (number : Nat → Int32) (lifted : Nat → Int32) (a : Int32) (b : Int32) (rR : Int32) (dR : Nat → Int32) (foundR : Nat → Int32) (h : fX12_spoon a b d found = some (rR, dR, foundR)) : Met l yX12_spoon wsX12_spoon ({ frames := 2, cells := 0, slots := 0, locals := 45 } : Room) (PW G D (tyC cA) sz (wM cA ad d kept aside images found base at0 size fault opened isRub names code coded pile needs traced traceMany who bitsOf sizeOf number lifted) [.ref (ad 0), .int a, .int b]) (QI D (tyC cA) (va_A (wM cA ad d kept aside images found base at0 size fault opened isRub names code coded pile needs traced traceMany who bitsOf sizeOf number lifted) sz) rR (wM cA ad dR kept aside images foundR base at0 size fault opened isRub names code coded pile needs traced traceMany who bitsOf sizeOf number lifted)) 0 0 (va_A (wM cA ad d kept aside images found base at0 size fault opened isRub names code coded pile needs traced traceMany who bitsOf sizeOf number lifted) sz) := by
  refine ent (cc := cX12_spoon) (maxL := 5) (ret := (some .int)) (fun A => QI D (tyC cA) A rR (wM cA ad dR kept aside images foundR base at0 size fault opened isRub names code coded pile needs traced traceMany who bitsOf sizeOf number lifted)) (by decide +kernel) rfl (Nat.le_of_ble_eq_true rfl) ?_
  intro p e s m args below meth c A ls H hx hb hml hr hlk hts hown hA hK hE hP hD hS hv hmm
  have hv : lv_has ls 5 [(0, .ref (ad 0)), (1, .int a), (2, .int b)] := hv
  have in_12 : ∀ w ∈ u_ws RX12 TX12 23, w ∈ wsX12_spoon := fun _ h => List.mem_cons_of_mem _ (List.mem_append_right _ h)
  have w_0 := hts (.constantLong RX12 223 (99)) (List.mem_of_getElem? (i := 1) rfl)
  have w_1 := hts (.fieldLink RX12 7 "SpoonsLastModel" "d" "[I") (List.mem_of_getElem? (i := 2) rfl)
  generalize hQ : MQ below _ args s 0 0 A = Q
  have C_79 : ∀ (v3_79 : Int32) (v4_79 : Int32) (d_79 : Nat → Int32) (found_79 : Nat → Int32), fX12_spoon_79 v3_79 v4_79 d_79 found_79 = some (rR, dR, foundR) → WW p l e ({ frames := 2, cells := 0, slots := 0, locals := 45 } : Room) s m args below meth c D A 0 0 Q (wM cA ad d_79 kept aside images found_79 base at0 size fault opened isRub names code coded pile needs traced traceMany who bitsOf sizeOf number lifted) 5 [(0, .ref (ad 0)), (3, .int v3_79), (4, .int v4_79)] 79 [] := by
    intro v3_79 v4_79 d_79 found_79 h
    unfold fX12_spoon_79 at h
    obtain ⟨⟨v4_79r, d_79r⟩, ho, h⟩ := bd_ex h
    have LE : WW p l e ({ frames := 2, cells := 0, slots := 0, locals := 45 } : Room) s m args below meth c D A 0 0 Q (wM cA ad d_79r kept aside images found_79 base at0 size fault opened isRub names code coded pile needs traced traceMany who bitsOf sizeOf number lifted) 5 [(0, .ref (ad 0)), (3, .int v3_79)] 102 [] := by
      intro H locs ls hP hD hS hv
      refine lv_aload_n hx hb dX12_spoon_102 rfl (lv_at hv 0 rfl) ?_
      refine va_get (D := D) (ci := 12) (v := .ref (ad 1)) (C := RX12) (T := TX12) (N := 23) hx hb hts in_12 hown hK hP 0 rfl rfl 0 (by decide) w_1 (fun _ h9 => h9) rfl dX12_spoon_103 ?_
      refine lv_iconst (v := (0 : Int32)) hx hb dX12_spoon_106 (by decide) ?_
      refine lv_dup2_11 hx hb dX12_spoon_107 rfl rfl ?_
      obtain ⟨c_20, h⟩ := ckI_ex h
      refine va_iald (D := D) hx hb hK hP 1 0 rfl rfl c_20 dX12_spoon_108 ?_
      refine lv_iconst (v := (1 : Int32)) hx hb dX12_spoon_109 (by decide) ?_
      refine lv_iadd hx hb dX12_spoon_110 ?_
      obtain ⟨y_21, ey_21, h⟩ := bnd_ex h
      refine lv_nm ey_21 ?_
      obtain ⟨c_22, h⟩ := ckI_ex h
      obtain ⟨d_23, ed_23, h⟩ := bnd_ex h
      refine va_iast (D := D) hx hb hK hP hD hS 1 0 rfl rfl c_22 dX12_spoon_111 (fun H locs hP hD hS => ?_)
      rw [← ed_23] at hP hD
      have hP : va_P D vwCl (wM cA ad d_23 kept aside images found_79 base at0 size fault opened isRub names code coded pile needs traced traceMany who bitsOf sizeOf number lifted) H := hP
      have hD : va_D A (wM cA ad d_23 kept aside images found_79 base at0 size fault opened isRub names code coded pile needs traced traceMany who bitsOf sizeOf number lifted) := hD
      refine lv_iload_n hx hb dX12_spoon_112 rfl (lv_at hv 1 rfl) ?_
      have h := Option.some.inj h
      have ee0 : v3_79 = rR := congrArg (fun q => q.1) h
      have ee1 : d_23 = dR := congrArg (fun q => q.2.1) h
      have ee2 : found_79 = foundR := congrArg (fun q => q.2.2) h
      subst ee0
      subst ee1
      subst ee2
      rw [← hQ]
      exact retI hx hb hr hlk hK hP hD hS dX12_spoon_113 ⟨Nat.le_of_ble_eq_true rfl, Nat.le_of_ble_eq_true rfl⟩
    have LB : ∀ (nf : Nat) (v4_79b : Int32) (d_79b : Nat → Int32), lp (fun σ : Int32 × (Nat → Int32) => fX12_spoon_79B v3_79 found_79 (σ.1) (σ.2)) nf (v4_79b, d_79b) = some (v4_79r, d_79r) → WW p l e ({ frames := 2, cells := 0, slots := 0, locals := 45 } : Room) s m args below meth c D A 0 0 Q (wM cA ad d_79b kept aside images found_79 base at0 size fault opened isRub names code coded pile needs traced traceMany who bitsOf sizeOf number lifted) 5 [(0, .ref (ad 0)), (3, .int v3_79), (4, .int v4_79b)] 79 [] := by
      intro nf
      induction nf with
      | zero => intro v4_79b d_79b hl; cases hl
      | succ nf ih =>
        intro v4_79b d_79b hl
        obtain ⟨x, h, hl⟩ := lp_ex hl
        have h : fX12_spoon_79B v3_79 found_79 v4_79b d_79b = some x := h
        unfold fX12_spoon_79B at h
        intro H locs ls hP hD hS hv
        refine lv_iload hx hb dX12_spoon_79 (lv_at hv 2 rfl) ?_
        refine lv_bipush (v := (12 : Int32)) hx hb dX12_spoon_81 (by decide) ?_
        refine lv_icmp_ge (tgt := 102) hx hb dX12_spoon_83 (by decide) (fun c_24 => ?_) (fun c_24 => ?_)
        · have h := ite_t c_24 h
          cases h
          have hl : some (v4_79b, d_79b) = some (v4_79r, d_79r) := hl
          have hl := Option.some.inj hl
          have ee0 : v4_79b = v4_79r := congrArg (fun q => q.1) hl
          have ee1 : d_79b = d_79r := congrArg (fun q => q.2) hl
          subst ee0
          subst ee1
          exact LE _ _ _ hP hD hS (lv_sub hv [0, 1] rfl)
        · have h := ite_f c_24 h
          refine lv_aload_n hx hb dX12_spoon_86 rfl (lv_at hv 0 rfl) ?_
          refine lv_iload_n hx hb dX12_spoon_87 rfl (lv_at hv 1 rfl) ?_
          refine lv_iconst (v := (3 : Int32)) hx hb dX12_spoon_88 (by decide) ?_
          refine lv_iload hx hb dX12_spoon_89 (lv_at hv 2 rfl) ?_
          refine lv_iadd hx hb dX12_spoon_91 ?_
          refine lv_iconst (v := (0 : Int32)) hx hb dX12_spoon_92 (by decide) ?_
          obtain ⟨d_25, hf_26, h⟩ := bd_ex h
          have sb := Sb.same hP hD hS hA
          refine calV (va_runV (As := [.int v3_79, .int ((3 : Int32) + v4_79b), .int (0 : Int32)]) (rest := []) ⟨hx, hb, hml, hown, hts⟩ (c_X12_sets l G D cA ad _ d_79b kept aside images found_79 base at0 size fault opened isRub names code coded pile needs traced traceMany who bitsOf sizeOf number lifted v3_79 ((3 : Int32) + v4_79b) (0 : Int32) d_25 hf_26) (cwV 3 hts gX12_spoon_X12_sets rfl rfl rfl (by decide +kernel) ⟨Nat.le_of_ble_eq_true rfl, Nat.le_of_ble_eq_true rfl⟩) (pvV hE hK hS sb (va_recv hK hP (ci := 12) (q0 := 0) rfl rfl)) rfl rfl hv.1 rfl (lv_room (Nat.le_of_ble_eq_true rfl)) dX12_spoon_93 ⟨Nat.le_of_ble_eq_true rfl, Nat.le_of_ble_eq_true rfl⟩) hS sb (Jn.same sb) (fun H locs hP hD hS => ?_)
          have hP : va_P D vwCl (wM cA ad d_25 kept aside images found_79 base at0 size fault opened isRub names code coded pile needs traced traceMany who bitsOf sizeOf number lifted) H := hP
          have hD : va_D A (wM cA ad d_25 kept aside images found_79 base at0 size fault opened isRub names code coded pile needs traced traceMany who bitsOf sizeOf number lifted) := hD
          obtain ⟨y_27, ey_27, h⟩ := bnd_ex h
          refine lv_iinc (v := y_27) (lv' := [(4, .int y_27), (0, .ref (ad 0)), (3, .int v3_79)]) hx hb dX12_spoon_96 hv (k := 2) rfl (by rw [ey_27]; rfl) (by decide) rfl (fun ls hv => ?_)
          refine lv_goto (tgt := 79) hx hb dX12_spoon_99 (by decide) ?_
          cases h
          exact ih y_27 d_25 hl _ _ _ hP hD hS (lv_sub hv [1, 2, 0] rfl)
    exact LB FU v4_79 d_79 ho
  have hP : va_P D vwCl (wM cA ad d kept aside images found base at0 size fault opened isRub names code coded pile needs traced traceMany who bitsOf sizeOf number lifted) H := hP
  unfold fX12_spoon at h
  refine lv_iload_n hx hb dX12_spoon_0 rfl (lv_at hv 1 rfl) ?_
  obtain ⟨r_1, hf_2, h⟩ := bd_ex h
  have sb := Sb.nil hP hD hS hA
  refine calI (va_runS (As := [.int a]) (rest := []) ⟨hx, hb, hml, hown, hts⟩ (c_X12_isKm l G D cA  _ a r_1 hf_2) (va_cwS 1 hts gX12_spoon_X12_isKm rfl rfl rfl (by decide +kernel) ⟨Nat.le_of_ble_eq_true rfl, Nat.le_of_ble_eq_true rfl⟩) (pvS hE hK hS sb) rfl rfl hv.1 rfl (lv_room (Nat.le_of_ble_eq_true rfl)) dX12_spoon_1 ⟨Nat.le_of_ble_eq_true rfl, Nat.le_of_ble_eq_true rfl⟩) hS sb (Jn.nil hP hD) (fun H locs hP hD hS => ?_)
  have hP : va_P D vwCl (wM cA ad d kept aside images found base at0 size fault opened isRub names code coded pile needs traced traceMany who bitsOf sizeOf number lifted) H := hP
  have hD : va_D A (wM cA ad d kept aside images found base at0 size fault opened isRub names code coded pile needs traced traceMany who bitsOf sizeOf number lifted) := hD
  refine lv_if_eq (tgt := 19) hx hb dX12_spoon_4 (by decide) (fun c_3 => ?_) (fun c_3 => ?_)
  · have h := ite_t c_3 h
    refine lv_aload_n hx hb dX12_spoon_19 rfl (lv_at hv 0 rfl) ?_
    refine lv_iconst (v := (1 : Int32)) hx hb dX12_spoon_20 (by decide) ?_
    obtain ⟨⟨r_4, found_5⟩, hf_6, h⟩ := bd_ex h
    have sb := Sb.same hP hD hS hA
    refine calI (va_runV (As := [.int (1 : Int32)]) (rest := []) ⟨hx, hb, hml, hown, hts⟩ (c_X12_finds l G D cA ad _ d kept aside images found base at0 size fault opened isRub names code coded pile needs traced traceMany who bitsOf sizeOf number lifted (1 : Int32) r_4 found_5 hf_6) (cwV 1 hts gX12_spoon_X12_finds rfl rfl rfl (by decide +kernel) ⟨Nat.le_of_ble_eq_true rfl, Nat.le_of_ble_eq_true rfl⟩) (pvV hE hK hS sb (va_recv hK hP (ci := 12) (q0 := 0) rfl rfl)) rfl rfl hv.1 rfl (lv_room (Nat.le_of_ble_eq_true rfl)) dX12_spoon_21 ⟨Nat.le_of_ble_eq_true rfl, Nat.le_of_ble_eq_true rfl⟩) hS sb (Jn.same sb) (fun H locs hP hD hS => ?_)
    have hP : va_P D vwCl (wM cA ad d kept aside images found_5 base at0 size fault opened isRub names code coded pile needs traced traceMany who bitsOf sizeOf number lifted) H := hP
    have hD : va_D A (wM cA ad d kept aside images found_5 base at0 size fault opened isRub names code coded pile needs traced traceMany who bitsOf sizeOf number lifted) := hD
    have h := Option.some.inj h
    have ee0 : r_4 = rR := congrArg (fun q => q.1) h
    have ee1 : d = dR := congrArg (fun q => q.2.1) h
    have ee2 : found_5 = foundR := congrArg (fun q => q.2.2) h
    subst ee0
    subst ee1
    subst ee2
    rw [← hQ]
    exact retI hx hb hr hlk hK hP hD hS dX12_spoon_24 ⟨Nat.le_of_ble_eq_true rfl, Nat.le_of_ble_eq_true rfl⟩
  · have h := ite_f c_3 h
    refine lv_iload_n hx hb dX12_spoon_7 rfl (lv_at hv 2 rfl) ?_
    refine lv_i2l (v := (b).toInt64) hx hb dX12_spoon_8 rfl ?_
    refine lv_lconst (v := (0 : Int64)) hx hb dX12_spoon_9 (by decide) ?_
    refine lv_ldc2 (v := (99 : Int64)) hx hb hown w_0 dX12_spoon_10 ?_
    obtain ⟨r_7, hf_8, h⟩ := bd_ex h
    have sb := Sb.nil hP hD hS hA
    refine calI (va_runS (As := [.long (b).toInt64, .long (0 : Int64), .long (99 : Int64)]) (rest := []) ⟨hx, hb, hml, hown, hts⟩ (c_X12_in l G D cA  _ ((b).toInt64) (0 : Int64) (99 : Int64) r_7 hf_8) (va_cwS 3 hts gX12_spoon_X12_in rfl rfl rfl (by decide +kernel) ⟨Nat.le_of_ble_eq_true rfl, Nat.le_of_ble_eq_true rfl⟩) (pvS hE hK hS sb) rfl rfl hv.1 rfl (lv_room (Nat.le_of_ble_eq_true rfl)) dX12_spoon_13 ⟨Nat.le_of_ble_eq_true rfl, Nat.le_of_ble_eq_true rfl⟩) hS sb (Jn.nil hP hD) (fun H locs hP hD hS => ?_)
    have hP : va_P D vwCl (wM cA ad d kept aside images found base at0 size fault opened isRub names code coded pile needs traced traceMany who bitsOf sizeOf number lifted) H := hP
    have hD : va_D A (wM cA ad d kept aside images found base at0 size fault opened isRub names code coded pile needs traced traceMany who bitsOf sizeOf number lifted) := hD
    refine lv_if_ne (tgt := 25) hx hb dX12_spoon_16 (by decide) (fun c_9 => ?_) (fun c_9 => ?_)
    · have h := ite_f c_9 h
      refine lv_aload_n hx hb dX12_spoon_25 rfl (lv_at hv 0 rfl) ?_
      refine va_get (D := D) (ci := 12) (v := .ref (ad 1)) (C := RX12) (T := TX12) (N := 23) hx hb hts in_12 hown hK hP 0 rfl rfl 0 (by decide) w_1 (fun _ h9 => h9) rfl dX12_spoon_26 ?_
      refine lv_iconst (v := (0 : Int32)) hx hb dX12_spoon_29 (by decide) ?_
      obtain ⟨c_10, h⟩ := ckI_ex h
      refine va_iald (D := D) hx hb hK hP 1 0 rfl rfl c_10 dX12_spoon_30 ?_
      refine lv_bipush (v := (8 : Int32)) hx hb dX12_spoon_31 (by decide) ?_
      refine lv_icmp_ne (tgt := 42) hx hb dX12_spoon_33 (by decide) (fun c_11 => ?_) (fun c_11 => ?_)
      · have h := ite_f c_11 h
        refine lv_aload_n hx hb dX12_spoon_42 rfl (lv_at hv 0 rfl) ?_
        refine va_get (D := D) (ci := 12) (v := .ref (ad 1)) (C := RX12) (T := TX12) (N := 23) hx hb hts in_12 hown hK hP 0 rfl rfl 0 (by decide) w_1 (fun _ h9 => h9) rfl dX12_spoon_43 ?_
        refine lv_iconst (v := (0 : Int32)) hx hb dX12_spoon_46 (by decide) ?_
        obtain ⟨c_12, h⟩ := ckI_ex h
        refine va_iald (D := D) hx hb hK hP 1 0 rfl rfl c_12 dX12_spoon_47 ?_
        obtain ⟨y_13, ey_13, h⟩ := bnd_ex h
        refine lv_nm ey_13 ?_
        refine lv_istore_n (lv' := [(3, .int y_13), (0, .ref (ad 0)), (1, .int a), (2, .int b)]) hx hb dX12_spoon_48 rfl hv (by decide) rfl (fun ls hv => ?_)
        refine lv_aload_n hx hb dX12_spoon_49 rfl (lv_at hv 1 rfl) ?_
        refine lv_iload_n hx hb dX12_spoon_50 rfl (lv_at hv 0 rfl) ?_
        refine lv_iconst (v := (0 : Int32)) hx hb dX12_spoon_51 (by decide) ?_
        refine lv_iload_n hx hb dX12_spoon_52 rfl (lv_at hv 2 rfl) ?_
        refine lv_bipush (v := (10 : Int32)) hx hb dX12_spoon_53 (by decide) ?_
        refine lv_idiv hx hb dX12_spoon_55 (by decide) ?_
        obtain ⟨d_14, hf_15, h⟩ := bd_ex h
        have sb := Sb.same hP hD hS hA
        refine calV (va_runV (As := [.int y_13, .int (0 : Int32), .int (a / (10 : Int32))]) (rest := []) ⟨hx, hb, hml, hown, hts⟩ (c_X12_sets l G D cA ad _ d kept aside images found base at0 size fault opened isRub names code coded pile needs traced traceMany who bitsOf sizeOf number lifted y_13 (0 : Int32) (a / (10 : Int32)) d_14 hf_15) (cwV 3 hts gX12_spoon_X12_sets rfl rfl rfl (by decide +kernel) ⟨Nat.le_of_ble_eq_true rfl, Nat.le_of_ble_eq_true rfl⟩) (pvV hE hK hS sb (va_recv hK hP (ci := 12) (q0 := 0) rfl rfl)) rfl rfl hv.1 rfl (lv_room (Nat.le_of_ble_eq_true rfl)) dX12_spoon_56 ⟨Nat.le_of_ble_eq_true rfl, Nat.le_of_ble_eq_true rfl⟩) hS sb (Jn.same sb) (fun H locs hP hD hS => ?_)
        have hP : va_P D vwCl (wM cA ad d_14 kept aside images found base at0 size fault opened isRub names code coded pile needs traced traceMany who bitsOf sizeOf number lifted) H := hP
        have hD : va_D A (wM cA ad d_14 kept aside images found base at0 size fault opened isRub names code coded pile needs traced traceMany who bitsOf sizeOf number lifted) := hD
        refine lv_aload_n hx hb dX12_spoon_59 rfl (lv_at hv 1 rfl) ?_
        refine lv_iload_n hx hb dX12_spoon_60 rfl (lv_at hv 0 rfl) ?_
        refine lv_iconst (v := (1 : Int32)) hx hb dX12_spoon_61 (by decide) ?_
        refine lv_iload_n hx hb dX12_spoon_62 rfl (lv_at hv 2 rfl) ?_
        refine lv_bipush (v := (10 : Int32)) hx hb dX12_spoon_63 (by decide) ?_
        refine lv_irem hx hb dX12_spoon_65 (by decide) ?_
        obtain ⟨d_16, hf_17, h⟩ := bd_ex h
        have sb := Sb.same hP hD hS hA
        refine calV (va_runV (As := [.int y_13, .int (1 : Int32), .int (a - a / (10 : Int32) * (10 : Int32))]) (rest := []) ⟨hx, hb, hml, hown, hts⟩ (c_X12_sets l G D cA ad _ d_14 kept aside images found base at0 size fault opened isRub names code coded pile needs traced traceMany who bitsOf sizeOf number lifted y_13 (1 : Int32) (a - a / (10 : Int32) * (10 : Int32)) d_16 hf_17) (cwV 3 hts gX12_spoon_X12_sets rfl rfl rfl (by decide +kernel) ⟨Nat.le_of_ble_eq_true rfl, Nat.le_of_ble_eq_true rfl⟩) (pvV hE hK hS sb (va_recv hK hP (ci := 12) (q0 := 0) rfl rfl)) rfl rfl hv.1 rfl (lv_room (Nat.le_of_ble_eq_true rfl)) dX12_spoon_66 ⟨Nat.le_of_ble_eq_true rfl, Nat.le_of_ble_eq_true rfl⟩) hS sb (Jn.same sb) (fun H locs hP hD hS => ?_)
        have hP : va_P D vwCl (wM cA ad d_16 kept aside images found base at0 size fault opened isRub names code coded pile needs traced traceMany who bitsOf sizeOf number lifted) H := hP
        have hD : va_D A (wM cA ad d_16 kept aside images found base at0 size fault opened isRub names code coded pile needs traced traceMany who bitsOf sizeOf number lifted) := hD
        refine lv_aload_n hx hb dX12_spoon_69 rfl (lv_at hv 1 rfl) ?_
        refine lv_iload_n hx hb dX12_spoon_70 rfl (lv_at hv 0 rfl) ?_
        refine lv_iconst (v := (2 : Int32)) hx hb dX12_spoon_71 (by decide) ?_
        refine lv_iload_n hx hb dX12_spoon_72 rfl (lv_at hv 3 rfl) ?_
        obtain ⟨d_18, hf_19, h⟩ := bd_ex h
        have sb := Sb.same hP hD hS hA
        refine calV (va_runV (As := [.int y_13, .int (2 : Int32), .int b]) (rest := []) ⟨hx, hb, hml, hown, hts⟩ (c_X12_sets l G D cA ad _ d_16 kept aside images found base at0 size fault opened isRub names code coded pile needs traced traceMany who bitsOf sizeOf number lifted y_13 (2 : Int32) b d_18 hf_19) (cwV 3 hts gX12_spoon_X12_sets rfl rfl rfl (by decide +kernel) ⟨Nat.le_of_ble_eq_true rfl, Nat.le_of_ble_eq_true rfl⟩) (pvV hE hK hS sb (va_recv hK hP (ci := 12) (q0 := 0) rfl rfl)) rfl rfl hv.1 rfl (lv_room (Nat.le_of_ble_eq_true rfl)) dX12_spoon_73 ⟨Nat.le_of_ble_eq_true rfl, Nat.le_of_ble_eq_true rfl⟩) hS sb (Jn.same sb) (fun H locs hP hD hS => ?_)
        have hP : va_P D vwCl (wM cA ad d_18 kept aside images found base at0 size fault opened isRub names code coded pile needs traced traceMany who bitsOf sizeOf number lifted) H := hP
        have hD : va_D A (wM cA ad d_18 kept aside images found base at0 size fault opened isRub names code coded pile needs traced traceMany who bitsOf sizeOf number lifted) := hD
        refine lv_iconst (v := (0 : Int32)) hx hb dX12_spoon_76 (by decide) ?_
        refine lv_istore (lv' := [(4, .int (0 : Int32)), (3, .int y_13), (0, .ref (ad 0)), (1, .int a), (2, .int b)]) hx hb dX12_spoon_77 hv (by decide) rfl (fun ls hv => ?_)
        exact C_79 y_13 (0 : Int32) d_18 found h _ _ _ hP hD hS (lv_sub hv [2, 1, 0] rfl)
      · have h := ite_t c_11 h
        refine lv_aload_n hx hb dX12_spoon_36 rfl (lv_at hv 0 rfl) ?_
        refine lv_iconst (v := (4 : Int32)) hx hb dX12_spoon_37 (by decide) ?_
        obtain ⟨⟨r_28, found_29⟩, hf_30, h⟩ := bd_ex h
        have sb := Sb.same hP hD hS hA
        refine calI (va_runV (As := [.int (4 : Int32)]) (rest := []) ⟨hx, hb, hml, hown, hts⟩ (c_X12_finds l G D cA ad _ d kept aside images found base at0 size fault opened isRub names code coded pile needs traced traceMany who bitsOf sizeOf number lifted (4 : Int32) r_28 found_29 hf_30) (cwV 1 hts gX12_spoon_X12_finds rfl rfl rfl (by decide +kernel) ⟨Nat.le_of_ble_eq_true rfl, Nat.le_of_ble_eq_true rfl⟩) (pvV hE hK hS sb (va_recv hK hP (ci := 12) (q0 := 0) rfl rfl)) rfl rfl hv.1 rfl (lv_room (Nat.le_of_ble_eq_true rfl)) dX12_spoon_38 ⟨Nat.le_of_ble_eq_true rfl, Nat.le_of_ble_eq_true rfl⟩) hS sb (Jn.same sb) (fun H locs hP hD hS => ?_)
        have hP : va_P D vwCl (wM cA ad d kept aside images found_29 base at0 size fault opened isRub names code coded pile needs traced traceMany who bitsOf sizeOf number lifted) H := hP
        have hD : va_D A (wM cA ad d kept aside images found_29 base at0 size fault opened isRub names code coded pile needs traced traceMany who bitsOf sizeOf number lifted) := hD
        have h := Option.some.inj h
        have ee0 : r_28 = rR := congrArg (fun q => q.1) h
        have ee1 : d = dR := congrArg (fun q => q.2.1) h
        have ee2 : found_29 = foundR := congrArg (fun q => q.2.2) h
        subst ee0
        subst ee1
        subst ee2
        rw [← hQ]
        exact retI hx hb hr hlk hK hP hD hS dX12_spoon_41 ⟨Nat.le_of_ble_eq_true rfl, Nat.le_of_ble_eq_true rfl⟩
    · have h := ite_t c_9 h
      refine lv_aload_n hx hb dX12_spoon_19 rfl (lv_at hv 0 rfl) ?_
      refine lv_iconst (v := (1 : Int32)) hx hb dX12_spoon_20 (by decide) ?_
      obtain ⟨⟨r_31, found_32⟩, hf_33, h⟩ := bd_ex h
      have sb := Sb.same hP hD hS hA
      refine calI (va_runV (As := [.int (1 : Int32)]) (rest := []) ⟨hx, hb, hml, hown, hts⟩ (c_X12_finds l G D cA ad _ d kept aside images found base at0 size fault opened isRub names code coded pile needs traced traceMany who bitsOf sizeOf number lifted (1 : Int32) r_31 found_32 hf_33) (cwV 1 hts gX12_spoon_X12_finds rfl rfl rfl (by decide +kernel) ⟨Nat.le_of_ble_eq_true rfl, Nat.le_of_ble_eq_true rfl⟩) (pvV hE hK hS sb (va_recv hK hP (ci := 12) (q0 := 0) rfl rfl)) rfl rfl hv.1 rfl (lv_room (Nat.le_of_ble_eq_true rfl)) dX12_spoon_21 ⟨Nat.le_of_ble_eq_true rfl, Nat.le_of_ble_eq_true rfl⟩) hS sb (Jn.same sb) (fun H locs hP hD hS => ?_)
      have hP : va_P D vwCl (wM cA ad d kept aside images found_32 base at0 size fault opened isRub names code coded pile needs traced traceMany who bitsOf sizeOf number lifted) H := hP
      have hD : va_D A (wM cA ad d kept aside images found_32 base at0 size fault opened isRub names code coded pile needs traced traceMany who bitsOf sizeOf number lifted) := hD
      have h := Option.some.inj h
      have ee0 : r_31 = rR := congrArg (fun q => q.1) h
      have ee1 : d = dR := congrArg (fun q => q.2.1) h
      have ee2 : found_32 = foundR := congrArg (fun q => q.2.2) h
      subst ee0
      subst ee1
      subst ee2
      rw [← hQ]
      exact retI hx hb hr hlk hK hP hD hS dX12_spoon_24 ⟨Nat.le_of_ble_eq_true rfl, Nat.le_of_ble_eq_true rfl⟩

def fX12_ofSpoon (a : Int32) (what : Int32) (d : Nat → Int32) (found : Nat → Int32) (names : Nat → Int32) (pile : Nat → Int32) : Option (Int32 × (Nat → Int32) × (Nat → Int32) × (Nat → Int32)) :=
  bd (fX12_isSpoon a d) fun r_1 => (if r_1 = 0 then bd (fX12_finds (1 : Int32) found) fun (r_4, found_5) => some (r_4, found_5, names, pile) else bd (fX12_in ((what).toInt64) (0 : Int64) (16 : Int64)) fun r_7 => (if r_7 = 0 then bd (fX12_finds (1 : Int32) found) fun (r_23, found_24) => some (r_23, found_24, names, pile) else (if (3 : Int32) ≤ what then (if what = (3 : Int32) then bd (fX12_on a d) fun r_19 => some (r_19, found, names, pile) else (if what = (4 : Int32) then bd (fX12_rubs a d names pile) fun (r_15, names_16, pile_17) => some (r_15, found, names_16, pile_17) else bd (fX12_of a (((3 : Int32) + what) - (5 : Int32)) d) fun r_13 => some (r_13, found, names, pile))) else bd (fX12_of a what d) fun r_21 => some (r_21, found, names, pile))))
set_option maxHeartbeats 4000000 in
set_option maxRecDepth 100000 in
theorem c_X12_ofSpoon (l : Launch) (G : Nat → Nat) (D : va_G) (cA : Nat → ClassId) (ad : Nat → Nat) (sz : Nat) (d : Nat → Int32) (kept : Nat → Int32) (aside : Nat → Int32) (images : Int32) (found : Nat → Int32) (base : Int32) (at0 : Int32) (size : Int32) (fault : Int32) (opened : Int32) (isRub : Int32) (names : Nat → Int32) (code : Nat → Int32) (coded : Int32) (pile : Nat → Int32) (needs : Nat → Int32) (traced : Nat → Int32) (traceMany : Int32) (who : Int32) (bitsOf : Nat → Int32) (sizeOf : Nat → Int32) (number : Nat → Int32) (lifted : Nat → Int32) (a : Int32) (what : Int32) (rR : Int32) (foundR : Nat → Int32) (namesR : Nat → Int32) (pileR : Nat → Int32) (h : fX12_ofSpoon a what d found names pile = some (rR, foundR, namesR, pileR)) : Met l yX12_ofSpoon wsX12_ofSpoon ({ frames := 4, cells := 0, slots := 0, locals := 93 } : Room) (PW G D (tyC cA) sz (wM cA ad d kept aside images found base at0 size fault opened isRub names code coded pile needs traced traceMany who bitsOf sizeOf number lifted) [.ref (ad 0), .int a, .int what]) (QI D (tyC cA) (va_A (wM cA ad d kept aside images found base at0 size fault opened isRub names code coded pile needs traced traceMany who bitsOf sizeOf number lifted) sz) rR (wM cA ad d kept aside images foundR base at0 size fault opened isRub namesR code coded pileR needs traced traceMany who bitsOf sizeOf number lifted)) 0 0 (va_A (wM cA ad d kept aside images found base at0 size fault opened isRub names code coded pile needs traced traceMany who bitsOf sizeOf number lifted) sz) := by
  refine ent (cc := cX12_ofSpoon) (maxL := 3) (ret := (some .int)) (fun A => QI D (tyC cA) A rR (wM cA ad d kept aside images foundR base at0 size fault opened isRub namesR code coded pileR needs traced traceMany who bitsOf sizeOf number lifted)) (by decide +kernel) rfl (Nat.le_of_ble_eq_true rfl) ?_
  intro p e s m args below meth c A ls H hx hb hml hr hlk hts hown hA hK hE hP hD hS hv hmm
  have hv : lv_has ls 3 [(0, .ref (ad 0)), (1, .int a), (2, .int what)] := hv
  have w_0 := hts (.constantLong RX12 225 (16)) (List.mem_of_getElem? (i := 1) rfl)
  generalize hQ : MQ below _ args s 0 0 A = Q
  have hP : va_P D vwCl (wM cA ad d kept aside images found base at0 size fault opened isRub names code coded pile needs traced traceMany who bitsOf sizeOf number lifted) H := hP
  unfold fX12_ofSpoon at h
  refine lv_aload_n hx hb dX12_ofSpoon_0 rfl (lv_at hv 0 rfl) ?_
  refine lv_iload_n hx hb dX12_ofSpoon_1 rfl (lv_at hv 1 rfl) ?_
  obtain ⟨r_1, hf_2, h⟩ := bd_ex h
  have sb := Sb.same hP hD hS hA
  refine calI (va_runV (As := [.int a]) (rest := []) ⟨hx, hb, hml, hown, hts⟩ (c_X12_isSpoon l G D cA ad _ d kept aside images found base at0 size fault opened isRub names code coded pile needs traced traceMany who bitsOf sizeOf number lifted a r_1 hf_2) (cwV 1 hts gX12_ofSpoon_X12_isSpoon rfl rfl rfl (by decide +kernel) ⟨Nat.le_of_ble_eq_true rfl, Nat.le_of_ble_eq_true rfl⟩) (pvV hE hK hS sb (va_recv hK hP (ci := 12) (q0 := 0) rfl rfl)) rfl rfl hv.1 rfl (lv_room (Nat.le_of_ble_eq_true rfl)) dX12_ofSpoon_2 ⟨Nat.le_of_ble_eq_true rfl, Nat.le_of_ble_eq_true rfl⟩) hS sb (Jn.same sb) (fun H locs hP hD hS => ?_)
  have hP : va_P D vwCl (wM cA ad d kept aside images found base at0 size fault opened isRub names code coded pile needs traced traceMany who bitsOf sizeOf number lifted) H := hP
  have hD : va_D A (wM cA ad d kept aside images found base at0 size fault opened isRub names code coded pile needs traced traceMany who bitsOf sizeOf number lifted) := hD
  refine lv_if_eq (tgt := 20) hx hb dX12_ofSpoon_5 (by decide) (fun c_3 => ?_) (fun c_3 => ?_)
  · have h := ite_t c_3 h
    refine lv_aload_n hx hb dX12_ofSpoon_20 rfl (lv_at hv 0 rfl) ?_
    refine lv_iconst (v := (1 : Int32)) hx hb dX12_ofSpoon_21 (by decide) ?_
    obtain ⟨⟨r_4, found_5⟩, hf_6, h⟩ := bd_ex h
    have sb := Sb.same hP hD hS hA
    refine calI (va_runV (As := [.int (1 : Int32)]) (rest := []) ⟨hx, hb, hml, hown, hts⟩ (c_X12_finds l G D cA ad _ d kept aside images found base at0 size fault opened isRub names code coded pile needs traced traceMany who bitsOf sizeOf number lifted (1 : Int32) r_4 found_5 hf_6) (cwV 1 hts gX12_ofSpoon_X12_finds rfl rfl rfl (by decide +kernel) ⟨Nat.le_of_ble_eq_true rfl, Nat.le_of_ble_eq_true rfl⟩) (pvV hE hK hS sb (va_recv hK hP (ci := 12) (q0 := 0) rfl rfl)) rfl rfl hv.1 rfl (lv_room (Nat.le_of_ble_eq_true rfl)) dX12_ofSpoon_22 ⟨Nat.le_of_ble_eq_true rfl, Nat.le_of_ble_eq_true rfl⟩) hS sb (Jn.same sb) (fun H locs hP hD hS => ?_)
    have hP : va_P D vwCl (wM cA ad d kept aside images found_5 base at0 size fault opened isRub names code coded pile needs traced traceMany who bitsOf sizeOf number lifted) H := hP
    have hD : va_D A (wM cA ad d kept aside images found_5 base at0 size fault opened isRub names code coded pile needs traced traceMany who bitsOf sizeOf number lifted) := hD
    have h := Option.some.inj h
    have ee0 : r_4 = rR := congrArg (fun q => q.1) h
    have ee1 : found_5 = foundR := congrArg (fun q => q.2.1) h
    have ee2 : names = namesR := congrArg (fun q => q.2.2.1) h
    have ee3 : pile = pileR := congrArg (fun q => q.2.2.2) h
    subst ee0
    subst ee1
    subst ee2
    subst ee3
    rw [← hQ]
    exact retI hx hb hr hlk hK hP hD hS dX12_ofSpoon_25 ⟨Nat.le_of_ble_eq_true rfl, Nat.le_of_ble_eq_true rfl⟩
  · have h := ite_f c_3 h
    refine lv_iload_n hx hb dX12_ofSpoon_8 rfl (lv_at hv 2 rfl) ?_
    refine lv_i2l (v := (what).toInt64) hx hb dX12_ofSpoon_9 rfl ?_
    refine lv_lconst (v := (0 : Int64)) hx hb dX12_ofSpoon_10 (by decide) ?_
    refine lv_ldc2 (v := (16 : Int64)) hx hb hown w_0 dX12_ofSpoon_11 ?_
    obtain ⟨r_7, hf_8, h⟩ := bd_ex h
    have sb := Sb.nil hP hD hS hA
    refine calI (va_runS (As := [.long (what).toInt64, .long (0 : Int64), .long (16 : Int64)]) (rest := []) ⟨hx, hb, hml, hown, hts⟩ (c_X12_in l G D cA  _ ((what).toInt64) (0 : Int64) (16 : Int64) r_7 hf_8) (va_cwS 3 hts gX12_ofSpoon_X12_in rfl rfl rfl (by decide +kernel) ⟨Nat.le_of_ble_eq_true rfl, Nat.le_of_ble_eq_true rfl⟩) (pvS hE hK hS sb) rfl rfl hv.1 rfl (lv_room (Nat.le_of_ble_eq_true rfl)) dX12_ofSpoon_14 ⟨Nat.le_of_ble_eq_true rfl, Nat.le_of_ble_eq_true rfl⟩) hS sb (Jn.nil hP hD) (fun H locs hP hD hS => ?_)
    have hP : va_P D vwCl (wM cA ad d kept aside images found base at0 size fault opened isRub names code coded pile needs traced traceMany who bitsOf sizeOf number lifted) H := hP
    have hD : va_D A (wM cA ad d kept aside images found base at0 size fault opened isRub names code coded pile needs traced traceMany who bitsOf sizeOf number lifted) := hD
    refine lv_if_ne (tgt := 26) hx hb dX12_ofSpoon_17 (by decide) (fun c_9 => ?_) (fun c_9 => ?_)
    · have h := ite_f c_9 h
      refine lv_iload_n hx hb dX12_ofSpoon_26 rfl (lv_at hv 2 rfl) ?_
      refine lv_iconst (v := (3 : Int32)) hx hb dX12_ofSpoon_27 (by decide) ?_
      refine lv_icmp_ge (tgt := 40) hx hb dX12_ofSpoon_28 (by decide) (fun c_10 => ?_) (fun c_10 => ?_)
      · have h := ite_t c_10 h
        refine lv_iload_n hx hb dX12_ofSpoon_40 rfl (lv_at hv 2 rfl) ?_
        refine lv_iconst (v := (3 : Int32)) hx hb dX12_ofSpoon_41 (by decide) ?_
        refine lv_icmp_ne (tgt := 53) hx hb dX12_ofSpoon_42 (by decide) (fun c_11 => ?_) (fun c_11 => ?_)
        · have h := ite_f c_11 h
          refine lv_iload_n hx hb dX12_ofSpoon_53 rfl (lv_at hv 2 rfl) ?_
          refine lv_iconst (v := (4 : Int32)) hx hb dX12_ofSpoon_54 (by decide) ?_
          refine lv_icmp_ne (tgt := 66) hx hb dX12_ofSpoon_55 (by decide) (fun c_12 => ?_) (fun c_12 => ?_)
          · have h := ite_f c_12 h
            refine lv_aload_n hx hb dX12_ofSpoon_66 rfl (lv_at hv 0 rfl) ?_
            refine lv_iload_n hx hb dX12_ofSpoon_67 rfl (lv_at hv 1 rfl) ?_
            refine lv_iconst (v := (3 : Int32)) hx hb dX12_ofSpoon_68 (by decide) ?_
            refine lv_iload_n hx hb dX12_ofSpoon_69 rfl (lv_at hv 2 rfl) ?_
            refine lv_iadd hx hb dX12_ofSpoon_70 ?_
            refine lv_iconst (v := (5 : Int32)) hx hb dX12_ofSpoon_71 (by decide) ?_
            refine lv_isub hx hb dX12_ofSpoon_72 ?_
            obtain ⟨r_13, hf_14, h⟩ := bd_ex h
            have sb := Sb.same hP hD hS hA
            refine calI (va_runV (As := [.int a, .int (((3 : Int32) + what) - (5 : Int32))]) (rest := []) ⟨hx, hb, hml, hown, hts⟩ (c_X12_of l G D cA ad _ d kept aside images found base at0 size fault opened isRub names code coded pile needs traced traceMany who bitsOf sizeOf number lifted a (((3 : Int32) + what) - (5 : Int32)) r_13 hf_14) (cwV 2 hts gX12_ofSpoon_X12_of rfl rfl rfl (by decide +kernel) ⟨Nat.le_of_ble_eq_true rfl, Nat.le_of_ble_eq_true rfl⟩) (pvV hE hK hS sb (va_recv hK hP (ci := 12) (q0 := 0) rfl rfl)) rfl rfl hv.1 rfl (lv_room (Nat.le_of_ble_eq_true rfl)) dX12_ofSpoon_73 ⟨Nat.le_of_ble_eq_true rfl, Nat.le_of_ble_eq_true rfl⟩) hS sb (Jn.same sb) (fun H locs hP hD hS => ?_)
            have hP : va_P D vwCl (wM cA ad d kept aside images found base at0 size fault opened isRub names code coded pile needs traced traceMany who bitsOf sizeOf number lifted) H := hP
            have hD : va_D A (wM cA ad d kept aside images found base at0 size fault opened isRub names code coded pile needs traced traceMany who bitsOf sizeOf number lifted) := hD
            have h := Option.some.inj h
            have ee0 : r_13 = rR := congrArg (fun q => q.1) h
            have ee1 : found = foundR := congrArg (fun q => q.2.1) h
            have ee2 : names = namesR := congrArg (fun q => q.2.2.1) h
            have ee3 : pile = pileR := congrArg (fun q => q.2.2.2) h
            subst ee0
            subst ee1
            subst ee2
            subst ee3
            rw [← hQ]
            exact retI hx hb hr hlk hK hP hD hS dX12_ofSpoon_76 ⟨Nat.le_of_ble_eq_true rfl, Nat.le_of_ble_eq_true rfl⟩
          · have h := ite_t c_12 h
            refine lv_aload_n hx hb dX12_ofSpoon_58 rfl (lv_at hv 0 rfl) ?_
            refine lv_iload_n hx hb dX12_ofSpoon_59 rfl (lv_at hv 1 rfl) ?_
            obtain ⟨⟨r_15, names_16, pile_17⟩, hf_18, h⟩ := bd_ex h
            have sb := Sb.same hP hD hS hA
            refine calI (va_runV (As := [.int a]) (rest := []) ⟨hx, hb, hml, hown, hts⟩ (c_X12_rubs l G D cA ad _ d kept aside images found base at0 size fault opened isRub names code coded pile needs traced traceMany who bitsOf sizeOf number lifted a r_15 names_16 pile_17 hf_18) (cwV 1 hts gX12_ofSpoon_X12_rubs rfl rfl rfl (by decide +kernel) ⟨Nat.le_of_ble_eq_true rfl, Nat.le_of_ble_eq_true rfl⟩) (pvV hE hK hS sb (va_recv hK hP (ci := 12) (q0 := 0) rfl rfl)) rfl rfl hv.1 rfl (lv_room (Nat.le_of_ble_eq_true rfl)) dX12_ofSpoon_60 ⟨Nat.le_of_ble_eq_true rfl, Nat.le_of_ble_eq_true rfl⟩) hS sb (Jn.same sb) (fun H locs hP hD hS => ?_)
            have hP : va_P D vwCl (wM cA ad d kept aside images found base at0 size fault opened isRub names_16 code coded pile_17 needs traced traceMany who bitsOf sizeOf number lifted) H := hP
            have hD : va_D A (wM cA ad d kept aside images found base at0 size fault opened isRub names_16 code coded pile_17 needs traced traceMany who bitsOf sizeOf number lifted) := hD
            refine lv_goto (tgt := 76) hx hb dX12_ofSpoon_63 (by decide) ?_
            have h := Option.some.inj h
            have ee0 : r_15 = rR := congrArg (fun q => q.1) h
            have ee1 : found = foundR := congrArg (fun q => q.2.1) h
            have ee2 : names_16 = namesR := congrArg (fun q => q.2.2.1) h
            have ee3 : pile_17 = pileR := congrArg (fun q => q.2.2.2) h
            subst ee0
            subst ee1
            subst ee2
            subst ee3
            rw [← hQ]
            exact retI hx hb hr hlk hK hP hD hS dX12_ofSpoon_76 ⟨Nat.le_of_ble_eq_true rfl, Nat.le_of_ble_eq_true rfl⟩
        · have h := ite_t c_11 h
          refine lv_aload_n hx hb dX12_ofSpoon_45 rfl (lv_at hv 0 rfl) ?_
          refine lv_iload_n hx hb dX12_ofSpoon_46 rfl (lv_at hv 1 rfl) ?_
          obtain ⟨r_19, hf_20, h⟩ := bd_ex h
          have sb := Sb.same hP hD hS hA
          refine calI (va_runV (As := [.int a]) (rest := []) ⟨hx, hb, hml, hown, hts⟩ (c_X12_on l G D cA ad _ d kept aside images found base at0 size fault opened isRub names code coded pile needs traced traceMany who bitsOf sizeOf number lifted a r_19 hf_20) (cwV 1 hts gX12_ofSpoon_X12_on rfl rfl rfl (by decide +kernel) ⟨Nat.le_of_ble_eq_true rfl, Nat.le_of_ble_eq_true rfl⟩) (pvV hE hK hS sb (va_recv hK hP (ci := 12) (q0 := 0) rfl rfl)) rfl rfl hv.1 rfl (lv_room (Nat.le_of_ble_eq_true rfl)) dX12_ofSpoon_47 ⟨Nat.le_of_ble_eq_true rfl, Nat.le_of_ble_eq_true rfl⟩) hS sb (Jn.same sb) (fun H locs hP hD hS => ?_)
          have hP : va_P D vwCl (wM cA ad d kept aside images found base at0 size fault opened isRub names code coded pile needs traced traceMany who bitsOf sizeOf number lifted) H := hP
          have hD : va_D A (wM cA ad d kept aside images found base at0 size fault opened isRub names code coded pile needs traced traceMany who bitsOf sizeOf number lifted) := hD
          refine lv_goto (tgt := 76) hx hb dX12_ofSpoon_50 (by decide) ?_
          have h := Option.some.inj h
          have ee0 : r_19 = rR := congrArg (fun q => q.1) h
          have ee1 : found = foundR := congrArg (fun q => q.2.1) h
          have ee2 : names = namesR := congrArg (fun q => q.2.2.1) h
          have ee3 : pile = pileR := congrArg (fun q => q.2.2.2) h
          subst ee0
          subst ee1
          subst ee2
          subst ee3
          rw [← hQ]
          exact retI hx hb hr hlk hK hP hD hS dX12_ofSpoon_76 ⟨Nat.le_of_ble_eq_true rfl, Nat.le_of_ble_eq_true rfl⟩
      · have h := ite_f c_10 h
        refine lv_aload_n hx hb dX12_ofSpoon_31 rfl (lv_at hv 0 rfl) ?_
        refine lv_iload_n hx hb dX12_ofSpoon_32 rfl (lv_at hv 1 rfl) ?_
        refine lv_iload_n hx hb dX12_ofSpoon_33 rfl (lv_at hv 2 rfl) ?_
        obtain ⟨r_21, hf_22, h⟩ := bd_ex h
        have sb := Sb.same hP hD hS hA
        refine calI (va_runV (As := [.int a, .int what]) (rest := []) ⟨hx, hb, hml, hown, hts⟩ (c_X12_of l G D cA ad _ d kept aside images found base at0 size fault opened isRub names code coded pile needs traced traceMany who bitsOf sizeOf number lifted a what r_21 hf_22) (cwV 2 hts gX12_ofSpoon_X12_of rfl rfl rfl (by decide +kernel) ⟨Nat.le_of_ble_eq_true rfl, Nat.le_of_ble_eq_true rfl⟩) (pvV hE hK hS sb (va_recv hK hP (ci := 12) (q0 := 0) rfl rfl)) rfl rfl hv.1 rfl (lv_room (Nat.le_of_ble_eq_true rfl)) dX12_ofSpoon_34 ⟨Nat.le_of_ble_eq_true rfl, Nat.le_of_ble_eq_true rfl⟩) hS sb (Jn.same sb) (fun H locs hP hD hS => ?_)
        have hP : va_P D vwCl (wM cA ad d kept aside images found base at0 size fault opened isRub names code coded pile needs traced traceMany who bitsOf sizeOf number lifted) H := hP
        have hD : va_D A (wM cA ad d kept aside images found base at0 size fault opened isRub names code coded pile needs traced traceMany who bitsOf sizeOf number lifted) := hD
        refine lv_goto (tgt := 76) hx hb dX12_ofSpoon_37 (by decide) ?_
        have h := Option.some.inj h
        have ee0 : r_21 = rR := congrArg (fun q => q.1) h
        have ee1 : found = foundR := congrArg (fun q => q.2.1) h
        have ee2 : names = namesR := congrArg (fun q => q.2.2.1) h
        have ee3 : pile = pileR := congrArg (fun q => q.2.2.2) h
        subst ee0
        subst ee1
        subst ee2
        subst ee3
        rw [← hQ]
        exact retI hx hb hr hlk hK hP hD hS dX12_ofSpoon_76 ⟨Nat.le_of_ble_eq_true rfl, Nat.le_of_ble_eq_true rfl⟩
    · have h := ite_t c_9 h
      refine lv_aload_n hx hb dX12_ofSpoon_20 rfl (lv_at hv 0 rfl) ?_
      refine lv_iconst (v := (1 : Int32)) hx hb dX12_ofSpoon_21 (by decide) ?_
      obtain ⟨⟨r_23, found_24⟩, hf_25, h⟩ := bd_ex h
      have sb := Sb.same hP hD hS hA
      refine calI (va_runV (As := [.int (1 : Int32)]) (rest := []) ⟨hx, hb, hml, hown, hts⟩ (c_X12_finds l G D cA ad _ d kept aside images found base at0 size fault opened isRub names code coded pile needs traced traceMany who bitsOf sizeOf number lifted (1 : Int32) r_23 found_24 hf_25) (cwV 1 hts gX12_ofSpoon_X12_finds rfl rfl rfl (by decide +kernel) ⟨Nat.le_of_ble_eq_true rfl, Nat.le_of_ble_eq_true rfl⟩) (pvV hE hK hS sb (va_recv hK hP (ci := 12) (q0 := 0) rfl rfl)) rfl rfl hv.1 rfl (lv_room (Nat.le_of_ble_eq_true rfl)) dX12_ofSpoon_22 ⟨Nat.le_of_ble_eq_true rfl, Nat.le_of_ble_eq_true rfl⟩) hS sb (Jn.same sb) (fun H locs hP hD hS => ?_)
      have hP : va_P D vwCl (wM cA ad d kept aside images found_24 base at0 size fault opened isRub names code coded pile needs traced traceMany who bitsOf sizeOf number lifted) H := hP
      have hD : va_D A (wM cA ad d kept aside images found_24 base at0 size fault opened isRub names code coded pile needs traced traceMany who bitsOf sizeOf number lifted) := hD
      have h := Option.some.inj h
      have ee0 : r_23 = rR := congrArg (fun q => q.1) h
      have ee1 : found_24 = foundR := congrArg (fun q => q.2.1) h
      have ee2 : names = namesR := congrArg (fun q => q.2.2.1) h
      have ee3 : pile = pileR := congrArg (fun q => q.2.2.2) h
      subst ee0
      subst ee1
      subst ee2
      subst ee3
      rw [← hQ]
      exact retI hx hb hr hlk hK hP hD hS dX12_ofSpoon_25 ⟨Nat.le_of_ble_eq_true rfl, Nat.le_of_ble_eq_true rfl⟩

def fX12_change_42 (d_42 : Nat → Int32) (found_42 : Nat → Int32) : Option (Int32 × (Nat → Int32) × (Nat → Int32)) :=
  bd (fX12_finds (1 : Int32) found_42) fun (r_4, found_5) => some (r_4, d_42, found_5)
def fX12_change_36 (v1_36 : Int32) (v2_36 : Int32) (v3_36 : Int32) (k0_36 : Int64) (k1_36 : Int64) (k2_36 : Int64) (d_36 : Nat → Int32) (found_36 : Nat → Int32) : Option (Int32 × (Nat → Int32) × (Nat → Int32)) :=
  bd (fX12_in k2_36 k1_36 k0_36) fun r_11 => (if r_11 = 0 then fX12_change_42 d_36 found_36 else bd (fX12_becomes ((((34 : Int32) + ((15 : Int32) * v1_36)) + (2 : Int32)) + v2_36) v3_36 d_36) fun (r_14, d_15) => some (r_14, d_15, found_36))
def fX12_change (a : Int32) (what : Int32) (v : Int32) (d : Nat → Int32) (found : Nat → Int32) : Option (Int32 × (Nat → Int32) × (Nat → Int32)) :=
  bd (fX12_isSpoon a d) fun r_1 => (if r_1 = 0 then fX12_change_42 d found else bd (fX12_in ((what).toInt64) (0 : Int64) (12 : Int64)) fun r_7 => (if r_7 = 0 then fX12_change_42 d found else (if what = 0 then fX12_change_36 a what v (99 : Int64) (0 : Int64) ((v).toInt64) d found else fX12_change_36 a what v (9 : Int64) (0 : Int64) ((v).toInt64) d found)))
set_option maxHeartbeats 4000000 in
set_option maxRecDepth 100000 in
theorem c_X12_change (l : Launch) (G : Nat → Nat) (D : va_G) (cA : Nat → ClassId) (ad : Nat → Nat) (sz : Nat) (d : Nat → Int32) (kept : Nat → Int32) (aside : Nat → Int32) (images : Int32) (found : Nat → Int32) (base : Int32) (at0 : Int32) (size : Int32) (fault : Int32) (opened : Int32) (isRub : Int32) (names : Nat → Int32) (code : Nat → Int32) (coded : Int32) (pile : Nat → Int32) (needs : Nat → Int32) (traced : Nat → Int32) (traceMany : Int32) (who : Int32) (bitsOf : Nat → Int32) (sizeOf : Nat → Int32) (number : Nat → Int32) (lifted : Nat → Int32) (a : Int32) (what : Int32) (v : Int32) (rR : Int32) (dR : Nat → Int32) (foundR : Nat → Int32) (h : fX12_change a what v d found = some (rR, dR, foundR)) : Met l yX12_change wsX12_change ({ frames := 2, cells := 0, slots := 0, locals := 46 } : Room) (PW G D (tyC cA) sz (wM cA ad d kept aside images found base at0 size fault opened isRub names code coded pile needs traced traceMany who bitsOf sizeOf number lifted) [.ref (ad 0), .int a, .int what, .int v]) (QI D (tyC cA) (va_A (wM cA ad d kept aside images found base at0 size fault opened isRub names code coded pile needs traced traceMany who bitsOf sizeOf number lifted) sz) rR (wM cA ad dR kept aside images foundR base at0 size fault opened isRub names code coded pile needs traced traceMany who bitsOf sizeOf number lifted)) 0 0 (va_A (wM cA ad d kept aside images found base at0 size fault opened isRub names code coded pile needs traced traceMany who bitsOf sizeOf number lifted) sz) := by
  refine ent (cc := cX12_change) (maxL := 4) (ret := (some .int)) (fun A => QI D (tyC cA) A rR (wM cA ad dR kept aside images foundR base at0 size fault opened isRub names code coded pile needs traced traceMany who bitsOf sizeOf number lifted)) (by decide +kernel) rfl (Nat.le_of_ble_eq_true rfl) ?_
  intro p e s m args below meth c A ls H hx hb hml hr hlk hts hown hA hK hE hP hD hS hv hmm
  have hv : lv_has ls 4 [(0, .ref (ad 0)), (1, .int a), (2, .int what), (3, .int v)] := hv
  have w_0 := hts (.constantLong RX12 227 (12)) (List.mem_of_getElem? (i := 1) rfl)
  have w_1 := hts (.constantLong RX12 194 (9)) (List.mem_of_getElem? (i := 3) rfl)
  have w_2 := hts (.constantLong RX12 223 (99)) (List.mem_of_getElem? (i := 2) rfl)
  generalize hQ : MQ below _ args s 0 0 A = Q
  have C_42 : ∀ (d_42 : Nat → Int32) (found_42 : Nat → Int32), fX12_change_42 d_42 found_42 = some (rR, dR, foundR) → WW p l e ({ frames := 2, cells := 0, slots := 0, locals := 46 } : Room) s m args below meth c D A 0 0 Q (wM cA ad d_42 kept aside images found_42 base at0 size fault opened isRub names code coded pile needs traced traceMany who bitsOf sizeOf number lifted) 4 [(0, .ref (ad 0))] 42 [] := by
    intro d_42 found_42 h
    unfold fX12_change_42 at h
    intro H locs ls hP hD hS hv
    refine lv_aload_n hx hb dX12_change_42 rfl (lv_at hv 0 rfl) ?_
    refine lv_iconst (v := (1 : Int32)) hx hb dX12_change_43 (by decide) ?_
    obtain ⟨⟨r_4, found_5⟩, hf_6, h⟩ := bd_ex h
    have sb := Sb.same hP hD hS hA
    refine calI (va_runV (As := [.int (1 : Int32)]) (rest := []) ⟨hx, hb, hml, hown, hts⟩ (c_X12_finds l G D cA ad _ d_42 kept aside images found_42 base at0 size fault opened isRub names code coded pile needs traced traceMany who bitsOf sizeOf number lifted (1 : Int32) r_4 found_5 hf_6) (cwV 1 hts gX12_change_X12_finds rfl rfl rfl (by decide +kernel) ⟨Nat.le_of_ble_eq_true rfl, Nat.le_of_ble_eq_true rfl⟩) (pvV hE hK hS sb (va_recv hK hP (ci := 12) (q0 := 0) rfl rfl)) rfl rfl hv.1 rfl (lv_room (Nat.le_of_ble_eq_true rfl)) dX12_change_44 ⟨Nat.le_of_ble_eq_true rfl, Nat.le_of_ble_eq_true rfl⟩) hS sb (Jn.same sb) (fun H locs hP hD hS => ?_)
    have hP : va_P D vwCl (wM cA ad d_42 kept aside images found_5 base at0 size fault opened isRub names code coded pile needs traced traceMany who bitsOf sizeOf number lifted) H := hP
    have hD : va_D A (wM cA ad d_42 kept aside images found_5 base at0 size fault opened isRub names code coded pile needs traced traceMany who bitsOf sizeOf number lifted) := hD
    have h := Option.some.inj h
    have ee0 : r_4 = rR := congrArg (fun q => q.1) h
    have ee1 : d_42 = dR := congrArg (fun q => q.2.1) h
    have ee2 : found_5 = foundR := congrArg (fun q => q.2.2) h
    subst ee0
    subst ee1
    subst ee2
    rw [← hQ]
    exact retI hx hb hr hlk hK hP hD hS dX12_change_47 ⟨Nat.le_of_ble_eq_true rfl, Nat.le_of_ble_eq_true rfl⟩
  have C_36 : ∀ (v1_36 : Int32) (v2_36 : Int32) (v3_36 : Int32) (k0_36 : Int64) (k1_36 : Int64) (k2_36 : Int64) (d_36 : Nat → Int32) (found_36 : Nat → Int32), fX12_change_36 v1_36 v2_36 v3_36 k0_36 k1_36 k2_36 d_36 found_36 = some (rR, dR, foundR) → WW p l e ({ frames := 2, cells := 0, slots := 0, locals := 46 } : Room) s m args below meth c D A 0 0 Q (wM cA ad d_36 kept aside images found_36 base at0 size fault opened isRub names code coded pile needs traced traceMany who bitsOf sizeOf number lifted) 4 [(0, .ref (ad 0)), (1, .int v1_36), (2, .int v2_36), (3, .int v3_36)] 36 [.long k0_36, .long k1_36, .long k2_36] := by
    intro v1_36 v2_36 v3_36 k0_36 k1_36 k2_36 d_36 found_36 h
    unfold fX12_change_36 at h
    intro H locs ls hP hD hS hv
    obtain ⟨r_11, hf_12, h⟩ := bd_ex h
    have sb := Sb.nil hP hD hS hA
    refine calI (va_runS (As := [.long k2_36, .long k1_36, .long k0_36]) (rest := []) ⟨hx, hb, hml, hown, hts⟩ (c_X12_in l G D cA  _ k2_36 k1_36 k0_36 r_11 hf_12) (va_cwS 3 hts gX12_change_X12_in rfl rfl rfl (by decide +kernel) ⟨Nat.le_of_ble_eq_true rfl, Nat.le_of_ble_eq_true rfl⟩) (pvS hE hK hS sb) rfl rfl hv.1 rfl (lv_room (Nat.le_of_ble_eq_true rfl)) dX12_change_36 ⟨Nat.le_of_ble_eq_true rfl, Nat.le_of_ble_eq_true rfl⟩) hS sb (Jn.nil hP hD) (fun H locs hP hD hS => ?_)
    have hP : va_P D vwCl (wM cA ad d_36 kept aside images found_36 base at0 size fault opened isRub names code coded pile needs traced traceMany who bitsOf sizeOf number lifted) H := hP
    have hD : va_D A (wM cA ad d_36 kept aside images found_36 base at0 size fault opened isRub names code coded pile needs traced traceMany who bitsOf sizeOf number lifted) := hD
    refine lv_if_ne (tgt := 48) hx hb dX12_change_39 (by decide) (fun c_13 => ?_) (fun c_13 => ?_)
    · have h := ite_f c_13 h
      refine lv_aload_n hx hb dX12_change_48 rfl (lv_at hv 0 rfl) ?_
      refine lv_bipush (v := (34 : Int32)) hx hb dX12_change_49 (by decide) ?_
      refine lv_bipush (v := (15 : Int32)) hx hb dX12_change_51 (by decide) ?_
      refine lv_iload_n hx hb dX12_change_53 rfl (lv_at hv 1 rfl) ?_
      refine lv_imul hx hb dX12_change_54 ?_
      refine lv_iadd hx hb dX12_change_55 ?_
      refine lv_iconst (v := (2 : Int32)) hx hb dX12_change_56 (by decide) ?_
      refine lv_iadd hx hb dX12_change_57 ?_
      refine lv_iload_n hx hb dX12_change_58 rfl (lv_at hv 2 rfl) ?_
      refine lv_iadd hx hb dX12_change_59 ?_
      refine lv_iload_n hx hb dX12_change_60 rfl (lv_at hv 3 rfl) ?_
      obtain ⟨⟨r_14, d_15⟩, hf_16, h⟩ := bd_ex h
      have sb := Sb.same hP hD hS hA
      refine calI (va_runV (As := [.int ((((34 : Int32) + ((15 : Int32) * v1_36)) + (2 : Int32)) + v2_36), .int v3_36]) (rest := []) ⟨hx, hb, hml, hown, hts⟩ (c_X12_becomes l G D cA ad _ d_36 kept aside images found_36 base at0 size fault opened isRub names code coded pile needs traced traceMany who bitsOf sizeOf number lifted ((((34 : Int32) + ((15 : Int32) * v1_36)) + (2 : Int32)) + v2_36) v3_36 r_14 d_15 hf_16) (cwV 2 hts gX12_change_X12_becomes rfl rfl rfl (by decide +kernel) ⟨Nat.le_of_ble_eq_true rfl, Nat.le_of_ble_eq_true rfl⟩) (pvV hE hK hS sb (va_recv hK hP (ci := 12) (q0 := 0) rfl rfl)) rfl rfl hv.1 rfl (lv_room (Nat.le_of_ble_eq_true rfl)) dX12_change_61 ⟨Nat.le_of_ble_eq_true rfl, Nat.le_of_ble_eq_true rfl⟩) hS sb (Jn.same sb) (fun H locs hP hD hS => ?_)
      have hP : va_P D vwCl (wM cA ad d_15 kept aside images found_36 base at0 size fault opened isRub names code coded pile needs traced traceMany who bitsOf sizeOf number lifted) H := hP
      have hD : va_D A (wM cA ad d_15 kept aside images found_36 base at0 size fault opened isRub names code coded pile needs traced traceMany who bitsOf sizeOf number lifted) := hD
      have h := Option.some.inj h
      have ee0 : r_14 = rR := congrArg (fun q => q.1) h
      have ee1 : d_15 = dR := congrArg (fun q => q.2.1) h
      have ee2 : found_36 = foundR := congrArg (fun q => q.2.2) h
      subst ee0
      subst ee1
      subst ee2
      rw [← hQ]
      exact retI hx hb hr hlk hK hP hD hS dX12_change_64 ⟨Nat.le_of_ble_eq_true rfl, Nat.le_of_ble_eq_true rfl⟩
    · have h := ite_t c_13 h
      exact C_42 d_36 found_36 h _ _ _ hP hD hS (lv_sub hv [0] rfl)
  have hP : va_P D vwCl (wM cA ad d kept aside images found base at0 size fault opened isRub names code coded pile needs traced traceMany who bitsOf sizeOf number lifted) H := hP
  unfold fX12_change at h
  refine lv_aload_n hx hb dX12_change_0 rfl (lv_at hv 0 rfl) ?_
  refine lv_iload_n hx hb dX12_change_1 rfl (lv_at hv 1 rfl) ?_
  obtain ⟨r_1, hf_2, h⟩ := bd_ex h
  have sb := Sb.same hP hD hS hA
  refine calI (va_runV (As := [.int a]) (rest := []) ⟨hx, hb, hml, hown, hts⟩ (c_X12_isSpoon l G D cA ad _ d kept aside images found base at0 size fault opened isRub names code coded pile needs traced traceMany who bitsOf sizeOf number lifted a r_1 hf_2) (cwV 1 hts gX12_change_X12_isSpoon rfl rfl rfl (by decide +kernel) ⟨Nat.le_of_ble_eq_true rfl, Nat.le_of_ble_eq_true rfl⟩) (pvV hE hK hS sb (va_recv hK hP (ci := 12) (q0 := 0) rfl rfl)) rfl rfl hv.1 rfl (lv_room (Nat.le_of_ble_eq_true rfl)) dX12_change_2 ⟨Nat.le_of_ble_eq_true rfl, Nat.le_of_ble_eq_true rfl⟩) hS sb (Jn.same sb) (fun H locs hP hD hS => ?_)
  have hP : va_P D vwCl (wM cA ad d kept aside images found base at0 size fault opened isRub names code coded pile needs traced traceMany who bitsOf sizeOf number lifted) H := hP
  have hD : va_D A (wM cA ad d kept aside images found base at0 size fault opened isRub names code coded pile needs traced traceMany who bitsOf sizeOf number lifted) := hD
  refine lv_if_eq (tgt := 42) hx hb dX12_change_5 (by decide) (fun c_3 => ?_) (fun c_3 => ?_)
  · have h := ite_t c_3 h
    exact C_42 d found h _ _ _ hP hD hS (lv_sub hv [0] rfl)
  · have h := ite_f c_3 h
    refine lv_iload_n hx hb dX12_change_8 rfl (lv_at hv 2 rfl) ?_
    refine lv_i2l (v := (what).toInt64) hx hb dX12_change_9 rfl ?_
    refine lv_lconst (v := (0 : Int64)) hx hb dX12_change_10 (by decide) ?_
    refine lv_ldc2 (v := (12 : Int64)) hx hb hown w_0 dX12_change_11 ?_
    obtain ⟨r_7, hf_8, h⟩ := bd_ex h
    have sb := Sb.nil hP hD hS hA
    refine calI (va_runS (As := [.long (what).toInt64, .long (0 : Int64), .long (12 : Int64)]) (rest := []) ⟨hx, hb, hml, hown, hts⟩ (c_X12_in l G D cA  _ ((what).toInt64) (0 : Int64) (12 : Int64) r_7 hf_8) (va_cwS 3 hts gX12_change_X12_in rfl rfl rfl (by decide +kernel) ⟨Nat.le_of_ble_eq_true rfl, Nat.le_of_ble_eq_true rfl⟩) (pvS hE hK hS sb) rfl rfl hv.1 rfl (lv_room (Nat.le_of_ble_eq_true rfl)) dX12_change_14 ⟨Nat.le_of_ble_eq_true rfl, Nat.le_of_ble_eq_true rfl⟩) hS sb (Jn.nil hP hD) (fun H locs hP hD hS => ?_)
    have hP : va_P D vwCl (wM cA ad d kept aside images found base at0 size fault opened isRub names code coded pile needs traced traceMany who bitsOf sizeOf number lifted) H := hP
    have hD : va_D A (wM cA ad d kept aside images found base at0 size fault opened isRub names code coded pile needs traced traceMany who bitsOf sizeOf number lifted) := hD
    refine lv_if_eq (tgt := 42) hx hb dX12_change_17 (by decide) (fun c_9 => ?_) (fun c_9 => ?_)
    · have h := ite_t c_9 h
      exact C_42 d found h _ _ _ hP hD hS (lv_sub hv [0] rfl)
    · have h := ite_f c_9 h
      refine lv_iload_n hx hb dX12_change_20 rfl (lv_at hv 3 rfl) ?_
      refine lv_i2l (v := (v).toInt64) hx hb dX12_change_21 rfl ?_
      refine lv_lconst (v := (0 : Int64)) hx hb dX12_change_22 (by decide) ?_
      refine lv_iload_n hx hb dX12_change_23 rfl (lv_at hv 2 rfl) ?_
      refine lv_if_ne (tgt := 33) hx hb dX12_change_24 (by decide) (fun c_10 => ?_) (fun c_10 => ?_)
      · have h := ite_f c_10 h
        refine lv_ldc2 (v := (9 : Int64)) hx hb hown w_1 dX12_change_33 ?_
        exact C_36 a what v (9 : Int64) (0 : Int64) ((v).toInt64) d found h _ _ _ hP hD hS (lv_sub hv [0, 1, 2, 3] rfl)
      · have h := ite_t c_10 h
        refine lv_ldc2 (v := (99 : Int64)) hx hb hown w_2 dX12_change_27 ?_
        refine lv_goto (tgt := 36) hx hb dX12_change_30 (by decide) ?_
        exact C_36 a what v (99 : Int64) (0 : Int64) ((v).toInt64) d found h _ _ _ hP hD hS (lv_sub hv [0, 1, 2, 3] rfl)

def fX12_become (a : Int32) (b : Int32) (d : Nat → Int32) (found : Nat → Int32) : Option (Int32 × (Nat → Int32) × (Nat → Int32)) :=
  bd (fX12_isSpoon a d) fun r_1 => (if r_1 = 0 then bd (fX12_finds (1 : Int32) found) fun (r_4, found_5) => some (r_4, d, found_5) else bd (fX12_isKm b) fun r_7 => (if r_7 = 0 then bd (fX12_finds (1 : Int32) found) fun (r_15, found_16) => some (r_15, d, found_16) else bd (fX12_sets a (1 : Int32) (b - b / (10 : Int32) * (10 : Int32)) d) fun d_10 => bd (fX12_becomes ((34 : Int32) + ((15 : Int32) * a)) (b / (10 : Int32)) d_10) fun (r_12, d_13) => some (r_12, d_13, found)))
set_option maxHeartbeats 4000000 in
set_option maxRecDepth 100000 in
theorem c_X12_become (l : Launch) (G : Nat → Nat) (D : va_G) (cA : Nat → ClassId) (ad : Nat → Nat) (sz : Nat) (d : Nat → Int32) (kept : Nat → Int32) (aside : Nat → Int32) (images : Int32) (found : Nat → Int32) (base : Int32) (at0 : Int32) (size : Int32) (fault : Int32) (opened : Int32) (isRub : Int32) (names : Nat → Int32) (code : Nat → Int32) (coded : Int32) (pile : Nat → Int32) (needs : Nat → Int32) (traced : Nat → Int32) (traceMany : Int32) (who : Int32) (bitsOf : Nat → Int32) (sizeOf : Nat → Int32) (number : Nat → Int32) (lifted : Nat → Int32) (a : Int32) (b : Int32) (rR : Int32) (dR : Nat → Int32) (foundR : Nat → Int32) (h : fX12_become a b d found = some (rR, dR, foundR)) : Met l yX12_become wsX12_become ({ frames := 2, cells := 0, slots := 0, locals := 46 } : Room) (PW G D (tyC cA) sz (wM cA ad d kept aside images found base at0 size fault opened isRub names code coded pile needs traced traceMany who bitsOf sizeOf number lifted) [.ref (ad 0), .int a, .int b]) (QI D (tyC cA) (va_A (wM cA ad d kept aside images found base at0 size fault opened isRub names code coded pile needs traced traceMany who bitsOf sizeOf number lifted) sz) rR (wM cA ad dR kept aside images foundR base at0 size fault opened isRub names code coded pile needs traced traceMany who bitsOf sizeOf number lifted)) 0 0 (va_A (wM cA ad d kept aside images found base at0 size fault opened isRub names code coded pile needs traced traceMany who bitsOf sizeOf number lifted) sz) := by
  refine ent (cc := cX12_become) (maxL := 3) (ret := (some .int)) (fun A => QI D (tyC cA) A rR (wM cA ad dR kept aside images foundR base at0 size fault opened isRub names code coded pile needs traced traceMany who bitsOf sizeOf number lifted)) (by decide +kernel) rfl (Nat.le_of_ble_eq_true rfl) ?_
  intro p e s m args below meth c A ls H hx hb hml hr hlk hts hown hA hK hE hP hD hS hv hmm
  have hv : lv_has ls 3 [(0, .ref (ad 0)), (1, .int a), (2, .int b)] := hv
  generalize hQ : MQ below _ args s 0 0 A = Q
  have hP : va_P D vwCl (wM cA ad d kept aside images found base at0 size fault opened isRub names code coded pile needs traced traceMany who bitsOf sizeOf number lifted) H := hP
  unfold fX12_become at h
  refine lv_aload_n hx hb dX12_become_0 rfl (lv_at hv 0 rfl) ?_
  refine lv_iload_n hx hb dX12_become_1 rfl (lv_at hv 1 rfl) ?_
  obtain ⟨r_1, hf_2, h⟩ := bd_ex h
  have sb := Sb.same hP hD hS hA
  refine calI (va_runV (As := [.int a]) (rest := []) ⟨hx, hb, hml, hown, hts⟩ (c_X12_isSpoon l G D cA ad _ d kept aside images found base at0 size fault opened isRub names code coded pile needs traced traceMany who bitsOf sizeOf number lifted a r_1 hf_2) (cwV 1 hts gX12_become_X12_isSpoon rfl rfl rfl (by decide +kernel) ⟨Nat.le_of_ble_eq_true rfl, Nat.le_of_ble_eq_true rfl⟩) (pvV hE hK hS sb (va_recv hK hP (ci := 12) (q0 := 0) rfl rfl)) rfl rfl hv.1 rfl (lv_room (Nat.le_of_ble_eq_true rfl)) dX12_become_2 ⟨Nat.le_of_ble_eq_true rfl, Nat.le_of_ble_eq_true rfl⟩) hS sb (Jn.same sb) (fun H locs hP hD hS => ?_)
  have hP : va_P D vwCl (wM cA ad d kept aside images found base at0 size fault opened isRub names code coded pile needs traced traceMany who bitsOf sizeOf number lifted) H := hP
  have hD : va_D A (wM cA ad d kept aside images found base at0 size fault opened isRub names code coded pile needs traced traceMany who bitsOf sizeOf number lifted) := hD
  refine lv_if_eq (tgt := 15) hx hb dX12_become_5 (by decide) (fun c_3 => ?_) (fun c_3 => ?_)
  · have h := ite_t c_3 h
    refine lv_aload_n hx hb dX12_become_15 rfl (lv_at hv 0 rfl) ?_
    refine lv_iconst (v := (1 : Int32)) hx hb dX12_become_16 (by decide) ?_
    obtain ⟨⟨r_4, found_5⟩, hf_6, h⟩ := bd_ex h
    have sb := Sb.same hP hD hS hA
    refine calI (va_runV (As := [.int (1 : Int32)]) (rest := []) ⟨hx, hb, hml, hown, hts⟩ (c_X12_finds l G D cA ad _ d kept aside images found base at0 size fault opened isRub names code coded pile needs traced traceMany who bitsOf sizeOf number lifted (1 : Int32) r_4 found_5 hf_6) (cwV 1 hts gX12_become_X12_finds rfl rfl rfl (by decide +kernel) ⟨Nat.le_of_ble_eq_true rfl, Nat.le_of_ble_eq_true rfl⟩) (pvV hE hK hS sb (va_recv hK hP (ci := 12) (q0 := 0) rfl rfl)) rfl rfl hv.1 rfl (lv_room (Nat.le_of_ble_eq_true rfl)) dX12_become_17 ⟨Nat.le_of_ble_eq_true rfl, Nat.le_of_ble_eq_true rfl⟩) hS sb (Jn.same sb) (fun H locs hP hD hS => ?_)
    have hP : va_P D vwCl (wM cA ad d kept aside images found_5 base at0 size fault opened isRub names code coded pile needs traced traceMany who bitsOf sizeOf number lifted) H := hP
    have hD : va_D A (wM cA ad d kept aside images found_5 base at0 size fault opened isRub names code coded pile needs traced traceMany who bitsOf sizeOf number lifted) := hD
    have h := Option.some.inj h
    have ee0 : r_4 = rR := congrArg (fun q => q.1) h
    have ee1 : d = dR := congrArg (fun q => q.2.1) h
    have ee2 : found_5 = foundR := congrArg (fun q => q.2.2) h
    subst ee0
    subst ee1
    subst ee2
    rw [← hQ]
    exact retI hx hb hr hlk hK hP hD hS dX12_become_20 ⟨Nat.le_of_ble_eq_true rfl, Nat.le_of_ble_eq_true rfl⟩
  · have h := ite_f c_3 h
    refine lv_iload_n hx hb dX12_become_8 rfl (lv_at hv 2 rfl) ?_
    obtain ⟨r_7, hf_8, h⟩ := bd_ex h
    have sb := Sb.nil hP hD hS hA
    refine calI (va_runS (As := [.int b]) (rest := []) ⟨hx, hb, hml, hown, hts⟩ (c_X12_isKm l G D cA  _ b r_7 hf_8) (va_cwS 1 hts gX12_become_X12_isKm rfl rfl rfl (by decide +kernel) ⟨Nat.le_of_ble_eq_true rfl, Nat.le_of_ble_eq_true rfl⟩) (pvS hE hK hS sb) rfl rfl hv.1 rfl (lv_room (Nat.le_of_ble_eq_true rfl)) dX12_become_9 ⟨Nat.le_of_ble_eq_true rfl, Nat.le_of_ble_eq_true rfl⟩) hS sb (Jn.nil hP hD) (fun H locs hP hD hS => ?_)
    have hP : va_P D vwCl (wM cA ad d kept aside images found base at0 size fault opened isRub names code coded pile needs traced traceMany who bitsOf sizeOf number lifted) H := hP
    have hD : va_D A (wM cA ad d kept aside images found base at0 size fault opened isRub names code coded pile needs traced traceMany who bitsOf sizeOf number lifted) := hD
    refine lv_if_ne (tgt := 21) hx hb dX12_become_12 (by decide) (fun c_9 => ?_) (fun c_9 => ?_)
    · have h := ite_f c_9 h
      refine lv_aload_n hx hb dX12_become_21 rfl (lv_at hv 0 rfl) ?_
      refine lv_iload_n hx hb dX12_become_22 rfl (lv_at hv 1 rfl) ?_
      refine lv_iconst (v := (1 : Int32)) hx hb dX12_become_23 (by decide) ?_
      refine lv_iload_n hx hb dX12_become_24 rfl (lv_at hv 2 rfl) ?_
      refine lv_bipush (v := (10 : Int32)) hx hb dX12_become_25 (by decide) ?_
      refine lv_irem hx hb dX12_become_27 (by decide) ?_
      obtain ⟨d_10, hf_11, h⟩ := bd_ex h
      have sb := Sb.same hP hD hS hA
      refine calV (va_runV (As := [.int a, .int (1 : Int32), .int (b - b / (10 : Int32) * (10 : Int32))]) (rest := []) ⟨hx, hb, hml, hown, hts⟩ (c_X12_sets l G D cA ad _ d kept aside images found base at0 size fault opened isRub names code coded pile needs traced traceMany who bitsOf sizeOf number lifted a (1 : Int32) (b - b / (10 : Int32) * (10 : Int32)) d_10 hf_11) (cwV 3 hts gX12_become_X12_sets rfl rfl rfl (by decide +kernel) ⟨Nat.le_of_ble_eq_true rfl, Nat.le_of_ble_eq_true rfl⟩) (pvV hE hK hS sb (va_recv hK hP (ci := 12) (q0 := 0) rfl rfl)) rfl rfl hv.1 rfl (lv_room (Nat.le_of_ble_eq_true rfl)) dX12_become_28 ⟨Nat.le_of_ble_eq_true rfl, Nat.le_of_ble_eq_true rfl⟩) hS sb (Jn.same sb) (fun H locs hP hD hS => ?_)
      have hP : va_P D vwCl (wM cA ad d_10 kept aside images found base at0 size fault opened isRub names code coded pile needs traced traceMany who bitsOf sizeOf number lifted) H := hP
      have hD : va_D A (wM cA ad d_10 kept aside images found base at0 size fault opened isRub names code coded pile needs traced traceMany who bitsOf sizeOf number lifted) := hD
      refine lv_aload_n hx hb dX12_become_31 rfl (lv_at hv 0 rfl) ?_
      refine lv_bipush (v := (34 : Int32)) hx hb dX12_become_32 (by decide) ?_
      refine lv_bipush (v := (15 : Int32)) hx hb dX12_become_34 (by decide) ?_
      refine lv_iload_n hx hb dX12_become_36 rfl (lv_at hv 1 rfl) ?_
      refine lv_imul hx hb dX12_become_37 ?_
      refine lv_iadd hx hb dX12_become_38 ?_
      refine lv_iload_n hx hb dX12_become_39 rfl (lv_at hv 2 rfl) ?_
      refine lv_bipush (v := (10 : Int32)) hx hb dX12_become_40 (by decide) ?_
      refine lv_idiv hx hb dX12_become_42 (by decide) ?_
      obtain ⟨⟨r_12, d_13⟩, hf_14, h⟩ := bd_ex h
      have sb := Sb.same hP hD hS hA
      refine calI (va_runV (As := [.int ((34 : Int32) + ((15 : Int32) * a)), .int (b / (10 : Int32))]) (rest := []) ⟨hx, hb, hml, hown, hts⟩ (c_X12_becomes l G D cA ad _ d_10 kept aside images found base at0 size fault opened isRub names code coded pile needs traced traceMany who bitsOf sizeOf number lifted ((34 : Int32) + ((15 : Int32) * a)) (b / (10 : Int32)) r_12 d_13 hf_14) (cwV 2 hts gX12_become_X12_becomes rfl rfl rfl (by decide +kernel) ⟨Nat.le_of_ble_eq_true rfl, Nat.le_of_ble_eq_true rfl⟩) (pvV hE hK hS sb (va_recv hK hP (ci := 12) (q0 := 0) rfl rfl)) rfl rfl hv.1 rfl (lv_room (Nat.le_of_ble_eq_true rfl)) dX12_become_43 ⟨Nat.le_of_ble_eq_true rfl, Nat.le_of_ble_eq_true rfl⟩) hS sb (Jn.same sb) (fun H locs hP hD hS => ?_)
      have hP : va_P D vwCl (wM cA ad d_13 kept aside images found base at0 size fault opened isRub names code coded pile needs traced traceMany who bitsOf sizeOf number lifted) H := hP
      have hD : va_D A (wM cA ad d_13 kept aside images found base at0 size fault opened isRub names code coded pile needs traced traceMany who bitsOf sizeOf number lifted) := hD
      have h := Option.some.inj h
      have ee0 : r_12 = rR := congrArg (fun q => q.1) h
      have ee1 : d_13 = dR := congrArg (fun q => q.2.1) h
      have ee2 : found = foundR := congrArg (fun q => q.2.2) h
      subst ee0
      subst ee1
      subst ee2
      rw [← hQ]
      exact retI hx hb hr hlk hK hP hD hS dX12_become_46 ⟨Nat.le_of_ble_eq_true rfl, Nat.le_of_ble_eq_true rfl⟩
    · have h := ite_t c_9 h
      refine lv_aload_n hx hb dX12_become_15 rfl (lv_at hv 0 rfl) ?_
      refine lv_iconst (v := (1 : Int32)) hx hb dX12_become_16 (by decide) ?_
      obtain ⟨⟨r_15, found_16⟩, hf_17, h⟩ := bd_ex h
      have sb := Sb.same hP hD hS hA
      refine calI (va_runV (As := [.int (1 : Int32)]) (rest := []) ⟨hx, hb, hml, hown, hts⟩ (c_X12_finds l G D cA ad _ d kept aside images found base at0 size fault opened isRub names code coded pile needs traced traceMany who bitsOf sizeOf number lifted (1 : Int32) r_15 found_16 hf_17) (cwV 1 hts gX12_become_X12_finds rfl rfl rfl (by decide +kernel) ⟨Nat.le_of_ble_eq_true rfl, Nat.le_of_ble_eq_true rfl⟩) (pvV hE hK hS sb (va_recv hK hP (ci := 12) (q0 := 0) rfl rfl)) rfl rfl hv.1 rfl (lv_room (Nat.le_of_ble_eq_true rfl)) dX12_become_17 ⟨Nat.le_of_ble_eq_true rfl, Nat.le_of_ble_eq_true rfl⟩) hS sb (Jn.same sb) (fun H locs hP hD hS => ?_)
      have hP : va_P D vwCl (wM cA ad d kept aside images found_16 base at0 size fault opened isRub names code coded pile needs traced traceMany who bitsOf sizeOf number lifted) H := hP
      have hD : va_D A (wM cA ad d kept aside images found_16 base at0 size fault opened isRub names code coded pile needs traced traceMany who bitsOf sizeOf number lifted) := hD
      have h := Option.some.inj h
      have ee0 : r_15 = rR := congrArg (fun q => q.1) h
      have ee1 : d = dR := congrArg (fun q => q.2.1) h
      have ee2 : found_16 = foundR := congrArg (fun q => q.2.2) h
      subst ee0
      subst ee1
      subst ee2
      rw [← hQ]
      exact retI hx hb hr hlk hK hP hD hS dX12_become_20 ⟨Nat.le_of_ble_eq_true rfl, Nat.le_of_ble_eq_true rfl⟩

def fX12_as_50 (v1_50 : Int32) (d : Nat → Int32) (found_50 : Nat → Int32) : Option (Int32 × (Nat → Int32)) :=
  bd (fX12_of v1_50 (1 : Int32) d) fun r_13 => some (r_13, found_50)
def fX12_as (a : Int32) (b : Int32) (d : Nat → Int32) (found : Nat → Int32) : Option (Int32 × (Nat → Int32)) :=
  bd (fX12_isSpoon a d) fun r_1 => (if r_1 = 0 then bd (fX12_finds (1 : Int32) found) fun (r_4, found_5) => some (r_4, found_5) else bd (fX12_in ((b).toInt64) (0 : Int64) (6 : Int64)) fun r_7 => (if r_7 = 0 then bd (fX12_finds (1 : Int32) found) fun (r_22, found_23) => some (r_22, found_23) else bd (fX12_of a (0 : Int32) d) fun r_10 => (if b = 0 then fX12_as_50 a d found else (if b = r_10 then fX12_as_50 a d found else bd (fX12_above r_10) fun r_16 => (if b = r_16 then fX12_as_50 a d found else bd (fX12_finds (5 : Int32) found) fun (r_19, found_20) => some (r_19, found_20))))))
set_option maxHeartbeats 4000000 in
set_option maxRecDepth 100000 in
theorem c_X12_as (l : Launch) (G : Nat → Nat) (D : va_G) (cA : Nat → ClassId) (ad : Nat → Nat) (sz : Nat) (d : Nat → Int32) (kept : Nat → Int32) (aside : Nat → Int32) (images : Int32) (found : Nat → Int32) (base : Int32) (at0 : Int32) (size : Int32) (fault : Int32) (opened : Int32) (isRub : Int32) (names : Nat → Int32) (code : Nat → Int32) (coded : Int32) (pile : Nat → Int32) (needs : Nat → Int32) (traced : Nat → Int32) (traceMany : Int32) (who : Int32) (bitsOf : Nat → Int32) (sizeOf : Nat → Int32) (number : Nat → Int32) (lifted : Nat → Int32) (a : Int32) (b : Int32) (rR : Int32) (foundR : Nat → Int32) (h : fX12_as a b d found = some (rR, foundR)) : Met l yX12_as wsX12_as ({ frames := 2, cells := 0, slots := 0, locals := 46 } : Room) (PW G D (tyC cA) sz (wM cA ad d kept aside images found base at0 size fault opened isRub names code coded pile needs traced traceMany who bitsOf sizeOf number lifted) [.ref (ad 0), .int a, .int b]) (QI D (tyC cA) (va_A (wM cA ad d kept aside images found base at0 size fault opened isRub names code coded pile needs traced traceMany who bitsOf sizeOf number lifted) sz) rR (wM cA ad d kept aside images foundR base at0 size fault opened isRub names code coded pile needs traced traceMany who bitsOf sizeOf number lifted)) 0 0 (va_A (wM cA ad d kept aside images found base at0 size fault opened isRub names code coded pile needs traced traceMany who bitsOf sizeOf number lifted) sz) := by
  refine ent (cc := cX12_as) (maxL := 4) (ret := (some .int)) (fun A => QI D (tyC cA) A rR (wM cA ad d kept aside images foundR base at0 size fault opened isRub names code coded pile needs traced traceMany who bitsOf sizeOf number lifted)) (by decide +kernel) rfl (Nat.le_of_ble_eq_true rfl) ?_
  intro p e s m args below meth c A ls H hx hb hml hr hlk hts hown hA hK hE hP hD hS hv hmm
  have hv : lv_has ls 4 [(0, .ref (ad 0)), (1, .int a), (2, .int b)] := hv
  have w_0 := hts (.constantLong RX12 229 (6)) (List.mem_of_getElem? (i := 1) rfl)
  generalize hQ : MQ below _ args s 0 0 A = Q
  have C_50 : ∀ (v1_50 : Int32) (found_50 : Nat → Int32), fX12_as_50 v1_50 d found_50 = some (rR, foundR) → WW p l e ({ frames := 2, cells := 0, slots := 0, locals := 46 } : Room) s m args below meth c D A 0 0 Q (wM cA ad d kept aside images found_50 base at0 size fault opened isRub names code coded pile needs traced traceMany who bitsOf sizeOf number lifted) 4 [(0, .ref (ad 0)), (1, .int v1_50)] 50 [] := by
    intro v1_50 found_50 h
    unfold fX12_as_50 at h
    intro H locs ls hP hD hS hv
    refine lv_aload_n hx hb dX12_as_50 rfl (lv_at hv 0 rfl) ?_
    refine lv_iload_n hx hb dX12_as_51 rfl (lv_at hv 1 rfl) ?_
    refine lv_iconst (v := (1 : Int32)) hx hb dX12_as_52 (by decide) ?_
    obtain ⟨r_13, hf_14, h⟩ := bd_ex h
    have sb := Sb.same hP hD hS hA
    refine calI (va_runV (As := [.int v1_50, .int (1 : Int32)]) (rest := []) ⟨hx, hb, hml, hown, hts⟩ (c_X12_of l G D cA ad _ d kept aside images found_50 base at0 size fault opened isRub names code coded pile needs traced traceMany who bitsOf sizeOf number lifted v1_50 (1 : Int32) r_13 hf_14) (cwV 2 hts gX12_as_X12_of rfl rfl rfl (by decide +kernel) ⟨Nat.le_of_ble_eq_true rfl, Nat.le_of_ble_eq_true rfl⟩) (pvV hE hK hS sb (va_recv hK hP (ci := 12) (q0 := 0) rfl rfl)) rfl rfl hv.1 rfl (lv_room (Nat.le_of_ble_eq_true rfl)) dX12_as_53 ⟨Nat.le_of_ble_eq_true rfl, Nat.le_of_ble_eq_true rfl⟩) hS sb (Jn.same sb) (fun H locs hP hD hS => ?_)
    have hP : va_P D vwCl (wM cA ad d kept aside images found_50 base at0 size fault opened isRub names code coded pile needs traced traceMany who bitsOf sizeOf number lifted) H := hP
    have hD : va_D A (wM cA ad d kept aside images found_50 base at0 size fault opened isRub names code coded pile needs traced traceMany who bitsOf sizeOf number lifted) := hD
    refine lv_goto (tgt := 64) hx hb dX12_as_56 (by decide) ?_
    have h := Option.some.inj h
    have ee0 : r_13 = rR := congrArg (fun q => q.1) h
    have ee1 : found_50 = foundR := congrArg (fun q => q.2) h
    subst ee0
    subst ee1
    rw [← hQ]
    exact retI hx hb hr hlk hK hP hD hS dX12_as_64 ⟨Nat.le_of_ble_eq_true rfl, Nat.le_of_ble_eq_true rfl⟩
  have hP : va_P D vwCl (wM cA ad d kept aside images found base at0 size fault opened isRub names code coded pile needs traced traceMany who bitsOf sizeOf number lifted) H := hP
  unfold fX12_as at h
  refine lv_aload_n hx hb dX12_as_0 rfl (lv_at hv 0 rfl) ?_
  refine lv_iload_n hx hb dX12_as_1 rfl (lv_at hv 1 rfl) ?_
  obtain ⟨r_1, hf_2, h⟩ := bd_ex h
  have sb := Sb.same hP hD hS hA
  refine calI (va_runV (As := [.int a]) (rest := []) ⟨hx, hb, hml, hown, hts⟩ (c_X12_isSpoon l G D cA ad _ d kept aside images found base at0 size fault opened isRub names code coded pile needs traced traceMany who bitsOf sizeOf number lifted a r_1 hf_2) (cwV 1 hts gX12_as_X12_isSpoon rfl rfl rfl (by decide +kernel) ⟨Nat.le_of_ble_eq_true rfl, Nat.le_of_ble_eq_true rfl⟩) (pvV hE hK hS sb (va_recv hK hP (ci := 12) (q0 := 0) rfl rfl)) rfl rfl hv.1 rfl (lv_room (Nat.le_of_ble_eq_true rfl)) dX12_as_2 ⟨Nat.le_of_ble_eq_true rfl, Nat.le_of_ble_eq_true rfl⟩) hS sb (Jn.same sb) (fun H locs hP hD hS => ?_)
  have hP : va_P D vwCl (wM cA ad d kept aside images found base at0 size fault opened isRub names code coded pile needs traced traceMany who bitsOf sizeOf number lifted) H := hP
  have hD : va_D A (wM cA ad d kept aside images found base at0 size fault opened isRub names code coded pile needs traced traceMany who bitsOf sizeOf number lifted) := hD
  refine lv_if_eq (tgt := 20) hx hb dX12_as_5 (by decide) (fun c_3 => ?_) (fun c_3 => ?_)
  · have h := ite_t c_3 h
    refine lv_aload_n hx hb dX12_as_20 rfl (lv_at hv 0 rfl) ?_
    refine lv_iconst (v := (1 : Int32)) hx hb dX12_as_21 (by decide) ?_
    obtain ⟨⟨r_4, found_5⟩, hf_6, h⟩ := bd_ex h
    have sb := Sb.same hP hD hS hA
    refine calI (va_runV (As := [.int (1 : Int32)]) (rest := []) ⟨hx, hb, hml, hown, hts⟩ (c_X12_finds l G D cA ad _ d kept aside images found base at0 size fault opened isRub names code coded pile needs traced traceMany who bitsOf sizeOf number lifted (1 : Int32) r_4 found_5 hf_6) (cwV 1 hts gX12_as_X12_finds rfl rfl rfl (by decide +kernel) ⟨Nat.le_of_ble_eq_true rfl, Nat.le_of_ble_eq_true rfl⟩) (pvV hE hK hS sb (va_recv hK hP (ci := 12) (q0 := 0) rfl rfl)) rfl rfl hv.1 rfl (lv_room (Nat.le_of_ble_eq_true rfl)) dX12_as_22 ⟨Nat.le_of_ble_eq_true rfl, Nat.le_of_ble_eq_true rfl⟩) hS sb (Jn.same sb) (fun H locs hP hD hS => ?_)
    have hP : va_P D vwCl (wM cA ad d kept aside images found_5 base at0 size fault opened isRub names code coded pile needs traced traceMany who bitsOf sizeOf number lifted) H := hP
    have hD : va_D A (wM cA ad d kept aside images found_5 base at0 size fault opened isRub names code coded pile needs traced traceMany who bitsOf sizeOf number lifted) := hD
    have h := Option.some.inj h
    have ee0 : r_4 = rR := congrArg (fun q => q.1) h
    have ee1 : found_5 = foundR := congrArg (fun q => q.2) h
    subst ee0
    subst ee1
    rw [← hQ]
    exact retI hx hb hr hlk hK hP hD hS dX12_as_25 ⟨Nat.le_of_ble_eq_true rfl, Nat.le_of_ble_eq_true rfl⟩
  · have h := ite_f c_3 h
    refine lv_iload_n hx hb dX12_as_8 rfl (lv_at hv 2 rfl) ?_
    refine lv_i2l (v := (b).toInt64) hx hb dX12_as_9 rfl ?_
    refine lv_lconst (v := (0 : Int64)) hx hb dX12_as_10 (by decide) ?_
    refine lv_ldc2 (v := (6 : Int64)) hx hb hown w_0 dX12_as_11 ?_
    obtain ⟨r_7, hf_8, h⟩ := bd_ex h
    have sb := Sb.nil hP hD hS hA
    refine calI (va_runS (As := [.long (b).toInt64, .long (0 : Int64), .long (6 : Int64)]) (rest := []) ⟨hx, hb, hml, hown, hts⟩ (c_X12_in l G D cA  _ ((b).toInt64) (0 : Int64) (6 : Int64) r_7 hf_8) (va_cwS 3 hts gX12_as_X12_in rfl rfl rfl (by decide +kernel) ⟨Nat.le_of_ble_eq_true rfl, Nat.le_of_ble_eq_true rfl⟩) (pvS hE hK hS sb) rfl rfl hv.1 rfl (lv_room (Nat.le_of_ble_eq_true rfl)) dX12_as_14 ⟨Nat.le_of_ble_eq_true rfl, Nat.le_of_ble_eq_true rfl⟩) hS sb (Jn.nil hP hD) (fun H locs hP hD hS => ?_)
    have hP : va_P D vwCl (wM cA ad d kept aside images found base at0 size fault opened isRub names code coded pile needs traced traceMany who bitsOf sizeOf number lifted) H := hP
    have hD : va_D A (wM cA ad d kept aside images found base at0 size fault opened isRub names code coded pile needs traced traceMany who bitsOf sizeOf number lifted) := hD
    refine lv_if_ne (tgt := 26) hx hb dX12_as_17 (by decide) (fun c_9 => ?_) (fun c_9 => ?_)
    · have h := ite_f c_9 h
      refine lv_aload_n hx hb dX12_as_26 rfl (lv_at hv 0 rfl) ?_
      refine lv_iload_n hx hb dX12_as_27 rfl (lv_at hv 1 rfl) ?_
      refine lv_iconst (v := (0 : Int32)) hx hb dX12_as_28 (by decide) ?_
      obtain ⟨r_10, hf_11, h⟩ := bd_ex h
      have sb := Sb.same hP hD hS hA
      refine calI (va_runV (As := [.int a, .int (0 : Int32)]) (rest := []) ⟨hx, hb, hml, hown, hts⟩ (c_X12_of l G D cA ad _ d kept aside images found base at0 size fault opened isRub names code coded pile needs traced traceMany who bitsOf sizeOf number lifted a (0 : Int32) r_10 hf_11) (cwV 2 hts gX12_as_X12_of rfl rfl rfl (by decide +kernel) ⟨Nat.le_of_ble_eq_true rfl, Nat.le_of_ble_eq_true rfl⟩) (pvV hE hK hS sb (va_recv hK hP (ci := 12) (q0 := 0) rfl rfl)) rfl rfl hv.1 rfl (lv_room (Nat.le_of_ble_eq_true rfl)) dX12_as_29 ⟨Nat.le_of_ble_eq_true rfl, Nat.le_of_ble_eq_true rfl⟩) hS sb (Jn.same sb) (fun H locs hP hD hS => ?_)
      have hP : va_P D vwCl (wM cA ad d kept aside images found base at0 size fault opened isRub names code coded pile needs traced traceMany who bitsOf sizeOf number lifted) H := hP
      have hD : va_D A (wM cA ad d kept aside images found base at0 size fault opened isRub names code coded pile needs traced traceMany who bitsOf sizeOf number lifted) := hD
      refine lv_istore_n (lv' := [(3, .int r_10), (0, .ref (ad 0)), (1, .int a), (2, .int b)]) hx hb dX12_as_32 rfl hv (by decide) rfl (fun ls hv => ?_)
      refine lv_iload_n hx hb dX12_as_33 rfl (lv_at hv 3 rfl) ?_
      refine lv_if_eq (tgt := 50) hx hb dX12_as_34 (by decide) (fun c_12 => ?_) (fun c_12 => ?_)
      · have h := ite_t c_12 h
        exact C_50 a found h _ _ _ hP hD hS (lv_sub hv [1, 2] rfl)
      · have h := ite_f c_12 h
        refine lv_iload_n hx hb dX12_as_37 rfl (lv_at hv 3 rfl) ?_
        refine lv_iload_n hx hb dX12_as_38 rfl (lv_at hv 0 rfl) ?_
        refine lv_icmp_eq (tgt := 50) hx hb dX12_as_39 (by decide) (fun c_15 => ?_) (fun c_15 => ?_)
        · have h := ite_t c_15 h
          exact C_50 a found h _ _ _ hP hD hS (lv_sub hv [1, 2] rfl)
        · have h := ite_f c_15 h
          refine lv_iload_n hx hb dX12_as_42 rfl (lv_at hv 3 rfl) ?_
          refine lv_iload_n hx hb dX12_as_43 rfl (lv_at hv 0 rfl) ?_
          obtain ⟨r_16, hf_17, h⟩ := bd_ex h
          have sb := Sb.nil hP hD hS hA
          refine calI (va_runS (As := [.int r_10]) (rest := [.int b]) ⟨hx, hb, hml, hown, hts⟩ (c_X12_above l G D cA  _ r_10 r_16 hf_17) (va_cwS 1 hts gX12_as_X12_above rfl rfl rfl (by decide +kernel) ⟨Nat.le_of_ble_eq_true rfl, Nat.le_of_ble_eq_true rfl⟩) (pvS hE hK hS sb) rfl rfl hv.1 rfl (lv_room (Nat.le_of_ble_eq_true rfl)) dX12_as_44 ⟨Nat.le_of_ble_eq_true rfl, Nat.le_of_ble_eq_true rfl⟩) hS sb (Jn.nil hP hD) (fun H locs hP hD hS => ?_)
          have hP : va_P D vwCl (wM cA ad d kept aside images found base at0 size fault opened isRub names code coded pile needs traced traceMany who bitsOf sizeOf number lifted) H := hP
          have hD : va_D A (wM cA ad d kept aside images found base at0 size fault opened isRub names code coded pile needs traced traceMany who bitsOf sizeOf number lifted) := hD
          refine lv_icmp_ne (tgt := 59) hx hb dX12_as_47 (by decide) (fun c_18 => ?_) (fun c_18 => ?_)
          · have h := ite_f c_18 h
            refine lv_aload_n hx hb dX12_as_59 rfl (lv_at hv 1 rfl) ?_
            refine lv_iconst (v := (5 : Int32)) hx hb dX12_as_60 (by decide) ?_
            obtain ⟨⟨r_19, found_20⟩, hf_21, h⟩ := bd_ex h
            have sb := Sb.same hP hD hS hA
            refine calI (va_runV (As := [.int (5 : Int32)]) (rest := []) ⟨hx, hb, hml, hown, hts⟩ (c_X12_finds l G D cA ad _ d kept aside images found base at0 size fault opened isRub names code coded pile needs traced traceMany who bitsOf sizeOf number lifted (5 : Int32) r_19 found_20 hf_21) (cwV 1 hts gX12_as_X12_finds rfl rfl rfl (by decide +kernel) ⟨Nat.le_of_ble_eq_true rfl, Nat.le_of_ble_eq_true rfl⟩) (pvV hE hK hS sb (va_recv hK hP (ci := 12) (q0 := 0) rfl rfl)) rfl rfl hv.1 rfl (lv_room (Nat.le_of_ble_eq_true rfl)) dX12_as_61 ⟨Nat.le_of_ble_eq_true rfl, Nat.le_of_ble_eq_true rfl⟩) hS sb (Jn.same sb) (fun H locs hP hD hS => ?_)
            have hP : va_P D vwCl (wM cA ad d kept aside images found_20 base at0 size fault opened isRub names code coded pile needs traced traceMany who bitsOf sizeOf number lifted) H := hP
            have hD : va_D A (wM cA ad d kept aside images found_20 base at0 size fault opened isRub names code coded pile needs traced traceMany who bitsOf sizeOf number lifted) := hD
            have h := Option.some.inj h
            have ee0 : r_19 = rR := congrArg (fun q => q.1) h
            have ee1 : found_20 = foundR := congrArg (fun q => q.2) h
            subst ee0
            subst ee1
            rw [← hQ]
            exact retI hx hb hr hlk hK hP hD hS dX12_as_64 ⟨Nat.le_of_ble_eq_true rfl, Nat.le_of_ble_eq_true rfl⟩
          · have h := ite_t c_18 h
            exact C_50 a found h _ _ _ hP hD hS (lv_sub hv [1, 2] rfl)
    · have h := ite_t c_9 h
      refine lv_aload_n hx hb dX12_as_20 rfl (lv_at hv 0 rfl) ?_
      refine lv_iconst (v := (1 : Int32)) hx hb dX12_as_21 (by decide) ?_
      obtain ⟨⟨r_22, found_23⟩, hf_24, h⟩ := bd_ex h
      have sb := Sb.same hP hD hS hA
      refine calI (va_runV (As := [.int (1 : Int32)]) (rest := []) ⟨hx, hb, hml, hown, hts⟩ (c_X12_finds l G D cA ad _ d kept aside images found base at0 size fault opened isRub names code coded pile needs traced traceMany who bitsOf sizeOf number lifted (1 : Int32) r_22 found_23 hf_24) (cwV 1 hts gX12_as_X12_finds rfl rfl rfl (by decide +kernel) ⟨Nat.le_of_ble_eq_true rfl, Nat.le_of_ble_eq_true rfl⟩) (pvV hE hK hS sb (va_recv hK hP (ci := 12) (q0 := 0) rfl rfl)) rfl rfl hv.1 rfl (lv_room (Nat.le_of_ble_eq_true rfl)) dX12_as_22 ⟨Nat.le_of_ble_eq_true rfl, Nat.le_of_ble_eq_true rfl⟩) hS sb (Jn.same sb) (fun H locs hP hD hS => ?_)
      have hP : va_P D vwCl (wM cA ad d kept aside images found_23 base at0 size fault opened isRub names code coded pile needs traced traceMany who bitsOf sizeOf number lifted) H := hP
      have hD : va_D A (wM cA ad d kept aside images found_23 base at0 size fault opened isRub names code coded pile needs traced traceMany who bitsOf sizeOf number lifted) := hD
      have h := Option.some.inj h
      have ee0 : r_22 = rR := congrArg (fun q => q.1) h
      have ee1 : found_23 = foundR := congrArg (fun q => q.2) h
      subst ee0
      subst ee1
      rw [← hQ]
      exact retI hx hb hr hlk hK hP hD hS dX12_as_25 ⟨Nat.le_of_ble_eq_true rfl, Nat.le_of_ble_eq_true rfl⟩

def fX12_isLate (n : Int32) (d : Nat → Int32) : Option (Int32) :=
  ckI (1 : Int32) 326 ((if ((d ((1 : Int32)).toNatClampNeg) + n) ≤ (9999 : Int32) then some (0 : Int32) else some (1 : Int32)))
set_option maxHeartbeats 4000000 in
set_option maxRecDepth 100000 in
theorem c_X12_isLate (l : Launch) (G : Nat → Nat) (D : va_G) (cA : Nat → ClassId) (ad : Nat → Nat) (sz : Nat) (d : Nat → Int32) (kept : Nat → Int32) (aside : Nat → Int32) (images : Int32) (found : Nat → Int32) (base : Int32) (at0 : Int32) (size : Int32) (fault : Int32) (opened : Int32) (isRub : Int32) (names : Nat → Int32) (code : Nat → Int32) (coded : Int32) (pile : Nat → Int32) (needs : Nat → Int32) (traced : Nat → Int32) (traceMany : Int32) (who : Int32) (bitsOf : Nat → Int32) (sizeOf : Nat → Int32) (number : Nat → Int32) (lifted : Nat → Int32) (n : Int32) (rR : Int32) (h : fX12_isLate n d = some rR) : Met l yX12_isLate wsX12_isLate ({ frames := 0, cells := 0, slots := 0, locals := 0 } : Room) (PW G D (tyC cA) sz (wM cA ad d kept aside images found base at0 size fault opened isRub names code coded pile needs traced traceMany who bitsOf sizeOf number lifted) [.ref (ad 0), .int n]) (QI D (tyC cA) (va_A (wM cA ad d kept aside images found base at0 size fault opened isRub names code coded pile needs traced traceMany who bitsOf sizeOf number lifted) sz) rR (wM cA ad d kept aside images found base at0 size fault opened isRub names code coded pile needs traced traceMany who bitsOf sizeOf number lifted)) 0 0 (va_A (wM cA ad d kept aside images found base at0 size fault opened isRub names code coded pile needs traced traceMany who bitsOf sizeOf number lifted) sz) := by
  refine ent (cc := cX12_isLate) (maxL := 2) (ret := (some .boolean)) (fun A => QI D (tyC cA) A rR (wM cA ad d kept aside images found base at0 size fault opened isRub names code coded pile needs traced traceMany who bitsOf sizeOf number lifted)) (by decide +kernel) rfl (Nat.le_of_ble_eq_true rfl) ?_
  intro p e s m args below meth c A ls H hx hb hml hr hlk hts hown hA hK hE hP hD hS hv hmm
  have hv : lv_has ls 2 [(0, .ref (ad 0)), (1, .int n)] := hv
  have in_12 : ∀ w ∈ u_ws RX12 TX12 23, w ∈ wsX12_isLate := fun _ h => List.mem_cons_of_mem _ (List.mem_append_right _ h)
  have w_0 := hts (.fieldLink RX12 7 "SpoonsLastModel" "d" "[I") (List.mem_of_getElem? (i := 1) rfl)
  generalize hQ : MQ below _ args s 0 0 A = Q
  have hP : va_P D vwCl (wM cA ad d kept aside images found base at0 size fault opened isRub names code coded pile needs traced traceMany who bitsOf sizeOf number lifted) H := hP
  unfold fX12_isLate at h
  refine lv_aload_n hx hb dX12_isLate_0 rfl (lv_at hv 0 rfl) ?_
  refine va_get (D := D) (ci := 12) (v := .ref (ad 1)) (C := RX12) (T := TX12) (N := 23) hx hb hts in_12 hown hK hP 0 rfl rfl 0 (by decide) w_0 (fun _ h9 => h9) rfl dX12_isLate_1 ?_
  refine lv_iconst (v := (1 : Int32)) hx hb dX12_isLate_4 (by decide) ?_
  obtain ⟨c_1, h⟩ := ckI_ex h
  refine va_iald (D := D) hx hb hK hP 1 0 rfl rfl c_1 dX12_isLate_5 ?_
  refine lv_iload_n hx hb dX12_isLate_6 rfl (lv_at hv 1 rfl) ?_
  refine lv_iadd hx hb dX12_isLate_7 ?_
  refine lv_sipush (v := (9999 : Int32)) hx hb dX12_isLate_8 (by decide) ?_
  refine lv_icmp_le (tgt := 18) hx hb dX12_isLate_11 (by decide) (fun c_2 => ?_) (fun c_2 => ?_)
  · have h := ite_t c_2 h
    refine lv_iconst (v := (0 : Int32)) hx hb dX12_isLate_18 (by decide) ?_
    have h := Option.some.inj h
    have ee0 : (0 : Int32) = rR := congrArg (fun q => q) h
    subst ee0
    rw [← hQ]
    exact retZ (by decide) hx hb hr hlk hK hP hD hS dX12_isLate_19 ⟨Nat.le_of_ble_eq_true rfl, Nat.le_of_ble_eq_true rfl⟩
  · have h := ite_f c_2 h
    refine lv_iconst (v := (1 : Int32)) hx hb dX12_isLate_14 (by decide) ?_
    refine lv_goto (tgt := 19) hx hb dX12_isLate_15 (by decide) ?_
    have h := Option.some.inj h
    have ee0 : (1 : Int32) = rR := congrArg (fun q => q) h
    subst ee0
    rw [← hQ]
    exact retZ (by decide) hx hb hr hlk hK hP hD hS dX12_isLate_19 ⟨Nat.le_of_ble_eq_true rfl, Nat.le_of_ble_eq_true rfl⟩

def fX12_hours (n : Int32) (d : Nat → Int32) (found : Nat → Int32) (names : Nat → Int32) (pile : Nat → Int32) : Option (Int32 × (Nat → Int32) × (Nat → Int32) × (Nat → Int32) × (Nat → Int32)) :=
  bd (fX12_in ((n).toInt64) (1 : Int64) (60 : Int64)) fun r_1 => (if r_1 = 0 then bd (fX12_finds (1 : Int32) found) fun (r_15, found_16) => some (r_15, d, found_16, names, pile) else bd (fX12_isLate n d) fun r_4 => (if r_4 = 0 then bd (fX12_hoursGo n d names pile) fun (d_7, names_8, pile_9) => ckI (2 : Int32) 326 (some ((d_7 ((2 : Int32)).toNatClampNeg), d_7, found, names_8, pile_9)) else bd (fX12_finds (3 : Int32) found) fun (r_12, found_13) => some (r_12, d, found_13, names, pile)))
set_option maxHeartbeats 4000000 in
set_option maxRecDepth 100000 in
theorem c_X12_hours (l : Launch) (G : Nat → Nat) (D : va_G) (cA : Nat → ClassId) (ad : Nat → Nat) (sz : Nat) (d : Nat → Int32) (kept : Nat → Int32) (aside : Nat → Int32) (images : Int32) (found : Nat → Int32) (base : Int32) (at0 : Int32) (size : Int32) (fault : Int32) (opened : Int32) (isRub : Int32) (names : Nat → Int32) (code : Nat → Int32) (coded : Int32) (pile : Nat → Int32) (needs : Nat → Int32) (traced : Nat → Int32) (traceMany : Int32) (who : Int32) (bitsOf : Nat → Int32) (sizeOf : Nat → Int32) (number : Nat → Int32) (lifted : Nat → Int32) (n : Int32) (rR : Int32) (dR : Nat → Int32) (foundR : Nat → Int32) (namesR : Nat → Int32) (pileR : Nat → Int32) (h : fX12_hours n d found names pile = some (rR, dR, foundR, namesR, pileR)) : Met l yX12_hours wsX12_hours ({ frames := 7, cells := 0, slots := 0, locals := 164 } : Room) (PW G D (tyC cA) sz (wM cA ad d kept aside images found base at0 size fault opened isRub names code coded pile needs traced traceMany who bitsOf sizeOf number lifted) [.ref (ad 0), .int n]) (QI D (tyC cA) (va_A (wM cA ad d kept aside images found base at0 size fault opened isRub names code coded pile needs traced traceMany who bitsOf sizeOf number lifted) sz) rR (wM cA ad dR kept aside images foundR base at0 size fault opened isRub namesR code coded pileR needs traced traceMany who bitsOf sizeOf number lifted)) 0 0 (va_A (wM cA ad d kept aside images found base at0 size fault opened isRub names code coded pile needs traced traceMany who bitsOf sizeOf number lifted) sz) := by
  refine ent (cc := cX12_hours) (maxL := 2) (ret := (some .int)) (fun A => QI D (tyC cA) A rR (wM cA ad dR kept aside images foundR base at0 size fault opened isRub namesR code coded pileR needs traced traceMany who bitsOf sizeOf number lifted)) (by decide +kernel) rfl (Nat.le_of_ble_eq_true rfl) ?_
  intro p e s m args below meth c A ls H hx hb hml hr hlk hts hown hA hK hE hP hD hS hv hmm
  have hv : lv_has ls 2 [(0, .ref (ad 0)), (1, .int n)] := hv
  have in_12 : ∀ w ∈ u_ws RX12 TX12 23, w ∈ wsX12_hours := fun _ h => List.mem_cons_of_mem _ (List.mem_append_right _ h)
  have w_0 := hts (.constantLong RX12 234 (60)) (List.mem_of_getElem? (i := 1) rfl)
  have w_1 := hts (.fieldLink RX12 7 "SpoonsLastModel" "d" "[I") (List.mem_of_getElem? (i := 2) rfl)
  generalize hQ : MQ below _ args s 0 0 A = Q
  have hP : va_P D vwCl (wM cA ad d kept aside images found base at0 size fault opened isRub names code coded pile needs traced traceMany who bitsOf sizeOf number lifted) H := hP
  unfold fX12_hours at h
  refine lv_iload_n hx hb dX12_hours_0 rfl (lv_at hv 1 rfl) ?_
  refine lv_i2l (v := (n).toInt64) hx hb dX12_hours_1 rfl ?_
  refine lv_lconst (v := (1 : Int64)) hx hb dX12_hours_2 (by decide) ?_
  refine lv_ldc2 (v := (60 : Int64)) hx hb hown w_0 dX12_hours_3 ?_
  obtain ⟨r_1, hf_2, h⟩ := bd_ex h
  have sb := Sb.nil hP hD hS hA
  refine calI (va_runS (As := [.long (n).toInt64, .long (1 : Int64), .long (60 : Int64)]) (rest := []) ⟨hx, hb, hml, hown, hts⟩ (c_X12_in l G D cA  _ ((n).toInt64) (1 : Int64) (60 : Int64) r_1 hf_2) (va_cwS 3 hts gX12_hours_X12_in rfl rfl rfl (by decide +kernel) ⟨Nat.le_of_ble_eq_true rfl, Nat.le_of_ble_eq_true rfl⟩) (pvS hE hK hS sb) rfl rfl hv.1 rfl (lv_room (Nat.le_of_ble_eq_true rfl)) dX12_hours_6 ⟨Nat.le_of_ble_eq_true rfl, Nat.le_of_ble_eq_true rfl⟩) hS sb (Jn.nil hP hD) (fun H locs hP hD hS => ?_)
  have hP : va_P D vwCl (wM cA ad d kept aside images found base at0 size fault opened isRub names code coded pile needs traced traceMany who bitsOf sizeOf number lifted) H := hP
  have hD : va_D A (wM cA ad d kept aside images found base at0 size fault opened isRub names code coded pile needs traced traceMany who bitsOf sizeOf number lifted) := hD
  refine lv_if_ne (tgt := 18) hx hb dX12_hours_9 (by decide) (fun c_3 => ?_) (fun c_3 => ?_)
  · have h := ite_f c_3 h
    refine lv_aload_n hx hb dX12_hours_18 rfl (lv_at hv 0 rfl) ?_
    refine lv_iload_n hx hb dX12_hours_19 rfl (lv_at hv 1 rfl) ?_
    obtain ⟨r_4, hf_5, h⟩ := bd_ex h
    have sb := Sb.same hP hD hS hA
    refine calI (va_runV (As := [.int n]) (rest := []) ⟨hx, hb, hml, hown, hts⟩ (c_X12_isLate l G D cA ad _ d kept aside images found base at0 size fault opened isRub names code coded pile needs traced traceMany who bitsOf sizeOf number lifted n r_4 hf_5) (cwV 1 hts gX12_hours_X12_isLate rfl rfl rfl (by decide +kernel) ⟨Nat.le_of_ble_eq_true rfl, Nat.le_of_ble_eq_true rfl⟩) (pvV hE hK hS sb (va_recv hK hP (ci := 12) (q0 := 0) rfl rfl)) rfl rfl hv.1 rfl (lv_room (Nat.le_of_ble_eq_true rfl)) dX12_hours_20 ⟨Nat.le_of_ble_eq_true rfl, Nat.le_of_ble_eq_true rfl⟩) hS sb (Jn.same sb) (fun H locs hP hD hS => ?_)
    have hP : va_P D vwCl (wM cA ad d kept aside images found base at0 size fault opened isRub names code coded pile needs traced traceMany who bitsOf sizeOf number lifted) H := hP
    have hD : va_D A (wM cA ad d kept aside images found base at0 size fault opened isRub names code coded pile needs traced traceMany who bitsOf sizeOf number lifted) := hD
    refine lv_if_eq (tgt := 32) hx hb dX12_hours_23 (by decide) (fun c_6 => ?_) (fun c_6 => ?_)
    · have h := ite_t c_6 h
      refine lv_aload_n hx hb dX12_hours_32 rfl (lv_at hv 0 rfl) ?_
      refine lv_iload_n hx hb dX12_hours_33 rfl (lv_at hv 1 rfl) ?_
      obtain ⟨⟨d_7, names_8, pile_9⟩, hf_10, h⟩ := bd_ex h
      have sb := Sb.same hP hD hS hA
      refine calV (va_runV (As := [.int n]) (rest := []) ⟨hx, hb, hml, hown, hts⟩ (c_X12_hoursGo l G D cA ad _ d kept aside images found base at0 size fault opened isRub names code coded pile needs traced traceMany who bitsOf sizeOf number lifted n d_7 names_8 pile_9 hf_10) (cwV 1 hts gX12_hours_X12_hoursGo rfl rfl rfl (by decide +kernel) ⟨Nat.le_of_ble_eq_true rfl, Nat.le_of_ble_eq_true rfl⟩) (pvV hE hK hS sb (va_recv hK hP (ci := 12) (q0 := 0) rfl rfl)) rfl rfl hv.1 rfl (lv_room (Nat.le_of_ble_eq_true rfl)) dX12_hours_34 ⟨Nat.le_of_ble_eq_true rfl, Nat.le_of_ble_eq_true rfl⟩) hS sb (Jn.same sb) (fun H locs hP hD hS => ?_)
      have hP : va_P D vwCl (wM cA ad d_7 kept aside images found base at0 size fault opened isRub names_8 code coded pile_9 needs traced traceMany who bitsOf sizeOf number lifted) H := hP
      have hD : va_D A (wM cA ad d_7 kept aside images found base at0 size fault opened isRub names_8 code coded pile_9 needs traced traceMany who bitsOf sizeOf number lifted) := hD
      refine lv_aload_n hx hb dX12_hours_37 rfl (lv_at hv 0 rfl) ?_
      refine va_get (D := D) (ci := 12) (v := .ref (ad 1)) (C := RX12) (T := TX12) (N := 23) hx hb hts in_12 hown hK hP 0 rfl rfl 0 (by decide) w_1 (fun _ h9 => h9) rfl dX12_hours_38 ?_
      refine lv_iconst (v := (2 : Int32)) hx hb dX12_hours_41 (by decide) ?_
      obtain ⟨c_11, h⟩ := ckI_ex h
      refine va_iald (D := D) hx hb hK hP 1 0 rfl rfl c_11 dX12_hours_42 ?_
      have h := Option.some.inj h
      have ee0 : (d_7 ((2 : Int32)).toNatClampNeg) = rR := congrArg (fun q => q.1) h
      have ee1 : d_7 = dR := congrArg (fun q => q.2.1) h
      have ee2 : found = foundR := congrArg (fun q => q.2.2.1) h
      have ee3 : names_8 = namesR := congrArg (fun q => q.2.2.2.1) h
      have ee4 : pile_9 = pileR := congrArg (fun q => q.2.2.2.2) h
      subst ee0
      subst ee1
      subst ee2
      subst ee3
      subst ee4
      rw [← hQ]
      exact retI hx hb hr hlk hK hP hD hS dX12_hours_43 ⟨Nat.le_of_ble_eq_true rfl, Nat.le_of_ble_eq_true rfl⟩
    · have h := ite_f c_6 h
      refine lv_aload_n hx hb dX12_hours_26 rfl (lv_at hv 0 rfl) ?_
      refine lv_iconst (v := (3 : Int32)) hx hb dX12_hours_27 (by decide) ?_
      obtain ⟨⟨r_12, found_13⟩, hf_14, h⟩ := bd_ex h
      have sb := Sb.same hP hD hS hA
      refine calI (va_runV (As := [.int (3 : Int32)]) (rest := []) ⟨hx, hb, hml, hown, hts⟩ (c_X12_finds l G D cA ad _ d kept aside images found base at0 size fault opened isRub names code coded pile needs traced traceMany who bitsOf sizeOf number lifted (3 : Int32) r_12 found_13 hf_14) (cwV 1 hts gX12_hours_X12_finds rfl rfl rfl (by decide +kernel) ⟨Nat.le_of_ble_eq_true rfl, Nat.le_of_ble_eq_true rfl⟩) (pvV hE hK hS sb (va_recv hK hP (ci := 12) (q0 := 0) rfl rfl)) rfl rfl hv.1 rfl (lv_room (Nat.le_of_ble_eq_true rfl)) dX12_hours_28 ⟨Nat.le_of_ble_eq_true rfl, Nat.le_of_ble_eq_true rfl⟩) hS sb (Jn.same sb) (fun H locs hP hD hS => ?_)
      have hP : va_P D vwCl (wM cA ad d kept aside images found_13 base at0 size fault opened isRub names code coded pile needs traced traceMany who bitsOf sizeOf number lifted) H := hP
      have hD : va_D A (wM cA ad d kept aside images found_13 base at0 size fault opened isRub names code coded pile needs traced traceMany who bitsOf sizeOf number lifted) := hD
      have h := Option.some.inj h
      have ee0 : r_12 = rR := congrArg (fun q => q.1) h
      have ee1 : d = dR := congrArg (fun q => q.2.1) h
      have ee2 : found_13 = foundR := congrArg (fun q => q.2.2.1) h
      have ee3 : names = namesR := congrArg (fun q => q.2.2.2.1) h
      have ee4 : pile = pileR := congrArg (fun q => q.2.2.2.2) h
      subst ee0
      subst ee1
      subst ee2
      subst ee3
      subst ee4
      rw [← hQ]
      exact retI hx hb hr hlk hK hP hD hS dX12_hours_31 ⟨Nat.le_of_ble_eq_true rfl, Nat.le_of_ble_eq_true rfl⟩
  · have h := ite_t c_3 h
    refine lv_aload_n hx hb dX12_hours_12 rfl (lv_at hv 0 rfl) ?_
    refine lv_iconst (v := (1 : Int32)) hx hb dX12_hours_13 (by decide) ?_
    obtain ⟨⟨r_15, found_16⟩, hf_17, h⟩ := bd_ex h
    have sb := Sb.same hP hD hS hA
    refine calI (va_runV (As := [.int (1 : Int32)]) (rest := []) ⟨hx, hb, hml, hown, hts⟩ (c_X12_finds l G D cA ad _ d kept aside images found base at0 size fault opened isRub names code coded pile needs traced traceMany who bitsOf sizeOf number lifted (1 : Int32) r_15 found_16 hf_17) (cwV 1 hts gX12_hours_X12_finds rfl rfl rfl (by decide +kernel) ⟨Nat.le_of_ble_eq_true rfl, Nat.le_of_ble_eq_true rfl⟩) (pvV hE hK hS sb (va_recv hK hP (ci := 12) (q0 := 0) rfl rfl)) rfl rfl hv.1 rfl (lv_room (Nat.le_of_ble_eq_true rfl)) dX12_hours_14 ⟨Nat.le_of_ble_eq_true rfl, Nat.le_of_ble_eq_true rfl⟩) hS sb (Jn.same sb) (fun H locs hP hD hS => ?_)
    have hP : va_P D vwCl (wM cA ad d kept aside images found_16 base at0 size fault opened isRub names code coded pile needs traced traceMany who bitsOf sizeOf number lifted) H := hP
    have hD : va_D A (wM cA ad d kept aside images found_16 base at0 size fault opened isRub names code coded pile needs traced traceMany who bitsOf sizeOf number lifted) := hD
    have h := Option.some.inj h
    have ee0 : r_15 = rR := congrArg (fun q => q.1) h
    have ee1 : d = dR := congrArg (fun q => q.2.1) h
    have ee2 : found_16 = foundR := congrArg (fun q => q.2.2.1) h
    have ee3 : names = namesR := congrArg (fun q => q.2.2.2.1) h
    have ee4 : pile = pileR := congrArg (fun q => q.2.2.2.2) h
    subst ee0
    subst ee1
    subst ee2
    subst ee3
    subst ee4
    rw [← hQ]
    exact retI hx hb hr hlk hK hP hD hS dX12_hours_17 ⟨Nat.le_of_ble_eq_true rfl, Nat.le_of_ble_eq_true rfl⟩

def fX12_draw (d : Nat → Int32) : Option (Int32 × (Nat → Int32)) :=
  ckI (3 : Int32) 326 (bnd (((d ((3 : Int32)).toNatClampNeg) * (1103515245 : Int32)) + (12345 : Int32)) fun y_2 => ckI (3 : Int32) 326 (bnd (upd d ((3 : Int32)).toNatClampNeg y_2) fun d_4 => ckI (3 : Int32) 326 (some ((iushr (d_4 ((3 : Int32)).toNatClampNeg) (8 : Int32)), d_4))))
set_option maxHeartbeats 4000000 in
set_option maxRecDepth 100000 in
theorem c_X12_draw (l : Launch) (G : Nat → Nat) (D : va_G) (cA : Nat → ClassId) (ad : Nat → Nat) (sz : Nat) (d : Nat → Int32) (kept : Nat → Int32) (aside : Nat → Int32) (images : Int32) (found : Nat → Int32) (base : Int32) (at0 : Int32) (size : Int32) (fault : Int32) (opened : Int32) (isRub : Int32) (names : Nat → Int32) (code : Nat → Int32) (coded : Int32) (pile : Nat → Int32) (needs : Nat → Int32) (traced : Nat → Int32) (traceMany : Int32) (who : Int32) (bitsOf : Nat → Int32) (sizeOf : Nat → Int32) (number : Nat → Int32) (lifted : Nat → Int32) (rR : Int32) (dR : Nat → Int32) (h : fX12_draw d = some (rR, dR)) : Met l yX12_draw wsX12_draw ({ frames := 0, cells := 0, slots := 0, locals := 0 } : Room) (PW G D (tyC cA) sz (wM cA ad d kept aside images found base at0 size fault opened isRub names code coded pile needs traced traceMany who bitsOf sizeOf number lifted) [.ref (ad 0)]) (QI D (tyC cA) (va_A (wM cA ad d kept aside images found base at0 size fault opened isRub names code coded pile needs traced traceMany who bitsOf sizeOf number lifted) sz) rR (wM cA ad dR kept aside images found base at0 size fault opened isRub names code coded pile needs traced traceMany who bitsOf sizeOf number lifted)) 0 0 (va_A (wM cA ad d kept aside images found base at0 size fault opened isRub names code coded pile needs traced traceMany who bitsOf sizeOf number lifted) sz) := by
  refine ent (cc := cX12_draw) (maxL := 1) (ret := (some .int)) (fun A => QI D (tyC cA) A rR (wM cA ad dR kept aside images found base at0 size fault opened isRub names code coded pile needs traced traceMany who bitsOf sizeOf number lifted)) (by decide +kernel) rfl (Nat.le_of_ble_eq_true rfl) ?_
  intro p e s m args below meth c A ls H hx hb hml hr hlk hts hown hA hK hE hP hD hS hv hmm
  have hv : lv_has ls 1 [(0, .ref (ad 0))] := hv
  have in_12 : ∀ w ∈ u_ws RX12 TX12 23, w ∈ wsX12_draw := fun _ h => List.mem_cons_of_mem _ (List.mem_append_right _ h)
  have w_0 := hts (.fieldLink RX12 7 "SpoonsLastModel" "d" "[I") (List.mem_of_getElem? (i := 1) rfl)
  have w_1 := hts (.constant RX12 242 (1103515245)) (List.mem_of_getElem? (i := 2) rfl)
  generalize hQ : MQ below _ args s 0 0 A = Q
  have hP : va_P D vwCl (wM cA ad d kept aside images found base at0 size fault opened isRub names code coded pile needs traced traceMany who bitsOf sizeOf number lifted) H := hP
  unfold fX12_draw at h
  refine lv_aload_n hx hb dX12_draw_0 rfl (lv_at hv 0 rfl) ?_
  refine va_get (D := D) (ci := 12) (v := .ref (ad 1)) (C := RX12) (T := TX12) (N := 23) hx hb hts in_12 hown hK hP 0 rfl rfl 0 (by decide) w_0 (fun _ h9 => h9) rfl dX12_draw_1 ?_
  refine lv_iconst (v := (3 : Int32)) hx hb dX12_draw_4 (by decide) ?_
  refine lv_aload_n hx hb dX12_draw_5 rfl (lv_at hv 0 rfl) ?_
  refine va_get (D := D) (ci := 12) (v := .ref (ad 1)) (C := RX12) (T := TX12) (N := 23) hx hb hts in_12 hown hK hP 0 rfl rfl 0 (by decide) w_0 (fun _ h9 => h9) rfl dX12_draw_6 ?_
  refine lv_iconst (v := (3 : Int32)) hx hb dX12_draw_9 (by decide) ?_
  obtain ⟨c_1, h⟩ := ckI_ex h
  refine va_iald (D := D) hx hb hK hP 1 0 rfl rfl c_1 dX12_draw_10 ?_
  refine lv_ldc (v := (1103515245 : Int32)) hx hb hown w_1 dX12_draw_11 ?_
  refine lv_imul hx hb dX12_draw_13 ?_
  refine lv_sipush (v := (12345 : Int32)) hx hb dX12_draw_14 (by decide) ?_
  refine lv_iadd hx hb dX12_draw_17 ?_
  obtain ⟨y_2, ey_2, h⟩ := bnd_ex h
  refine lv_nm ey_2 ?_
  obtain ⟨c_3, h⟩ := ckI_ex h
  obtain ⟨d_4, ed_4, h⟩ := bnd_ex h
  refine va_iast (D := D) hx hb hK hP hD hS 1 0 rfl rfl c_3 dX12_draw_18 (fun H locs hP hD hS => ?_)
  rw [← ed_4] at hP hD
  have hP : va_P D vwCl (wM cA ad d_4 kept aside images found base at0 size fault opened isRub names code coded pile needs traced traceMany who bitsOf sizeOf number lifted) H := hP
  have hD : va_D A (wM cA ad d_4 kept aside images found base at0 size fault opened isRub names code coded pile needs traced traceMany who bitsOf sizeOf number lifted) := hD
  refine lv_aload_n hx hb dX12_draw_19 rfl (lv_at hv 0 rfl) ?_
  refine va_get (D := D) (ci := 12) (v := .ref (ad 1)) (C := RX12) (T := TX12) (N := 23) hx hb hts in_12 hown hK hP 0 rfl rfl 0 (by decide) w_0 (fun _ h9 => h9) rfl dX12_draw_20 ?_
  refine lv_iconst (v := (3 : Int32)) hx hb dX12_draw_23 (by decide) ?_
  obtain ⟨c_5, h⟩ := ckI_ex h
  refine va_iald (D := D) hx hb hK hP 1 0 rfl rfl c_5 dX12_draw_24 ?_
  refine lv_bipush (v := (8 : Int32)) hx hb dX12_draw_25 (by decide) ?_
  refine lv_iushr (v := (iushr (d_4 ((3 : Int32)).toNatClampNeg) (8 : Int32))) hx hb dX12_draw_27 rfl ?_
  have h := Option.some.inj h
  have ee0 : (iushr (d_4 ((3 : Int32)).toNatClampNeg) (8 : Int32)) = rR := congrArg (fun q => q.1) h
  have ee1 : d_4 = dR := congrArg (fun q => q.2) h
  subst ee0
  subst ee1
  rw [← hQ]
  exact retI hx hb hr hlk hK hP hD hS dX12_draw_28 ⟨Nat.le_of_ble_eq_true rfl, Nat.le_of_ble_eq_true rfl⟩

def fX12_loose_34B (v1_34 : Int32) (found_34 : Nat → Int32) (v2_34b : Int32) (d_34b : Nat → Int32) (names_34b : Nat → Int32) (pile_34b : Nat → Int32) : Option ((Int32 × (Nat → Int32) × (Nat → Int32) × (Nat → Int32)) ⊕ (Int32 × (Nat → Int32) × (Nat → Int32) × (Nat → Int32))) :=
  (if v1_34 ≤ v2_34b then some (.inr (v2_34b, d_34b, names_34b, pile_34b)) else ckI (1 : Int32) 326 (bnd ((d_34b ((1 : Int32)).toNatClampNeg) - (d_34b ((1 : Int32)).toNatClampNeg) / (6 : Int32) * (6 : Int32)) fun y_10 => bd (fX12_draw d_34b) fun (r_11, d_12) => bnd (r_11 - r_11 / (8 : Int32) * (8 : Int32)) fun y_14 => ckI ((18 : Int32) + y_10) 326 (bnd (upd d_12 (((18 : Int32) + y_10)).toNatClampNeg y_14) fun d_16 => bd (fX12_draw d_16) fun (r_17, d_18) => bnd (r_17 - r_17 / (12 : Int32) * (12 : Int32)) fun y_20 => ckI ((24 : Int32) + y_10) 326 (bnd (upd d_18 (((24 : Int32) + y_10)).toNatClampNeg y_20) fun d_22 => bd (fX12_hourGoes d_22 names_34b pile_34b) fun (d_23, names_24, pile_25) => bnd (v2_34b + (1 : Int32)) fun y_27 => some (.inl (y_27, d_23, names_24, pile_25))))))
def fX12_loose_34 (v1_34 : Int32) (v2_34 : Int32) (d_34 : Nat → Int32) (found_34 : Nat → Int32) (names_34 : Nat → Int32) (pile_34 : Nat → Int32) : Option (Int32 × (Nat → Int32) × (Nat → Int32) × (Nat → Int32) × (Nat → Int32)) :=
  bd (lp (fun σ : Int32 × (Nat → Int32) × (Nat → Int32) × (Nat → Int32) => fX12_loose_34B v1_34 found_34 (σ.1) (σ.2.1) (σ.2.2.1) (σ.2.2.2)) FU (v2_34, d_34, names_34, pile_34)) fun ρ => match ρ with | (v2_34r, d_34r, names_34r, pile_34r) => ckI (2 : Int32) 326 (some ((d_34r ((2 : Int32)).toNatClampNeg), d_34r, found_34, names_34r, pile_34r))
def fX12_loose (n : Int32) (d : Nat → Int32) (found : Nat → Int32) (names : Nat → Int32) (pile : Nat → Int32) : Option (Int32 × (Nat → Int32) × (Nat → Int32) × (Nat → Int32) × (Nat → Int32)) :=
  bd (fX12_in ((n).toInt64) (1 : Int64) (40 : Int64)) fun r_1 => (if r_1 = 0 then bd (fX12_finds (1 : Int32) found) fun (r_31, found_32) => some (r_31, d, found_32, names, pile) else bd (fX12_isLate n d) fun r_4 => (if r_4 = 0 then fX12_loose_34 n (0 : Int32) d found names pile else bd (fX12_finds (3 : Int32) found) fun (r_28, found_29) => some (r_28, d, found_29, names, pile)))
set_option maxHeartbeats 4000000 in
set_option maxRecDepth 100000 in
theorem c_X12_loose (l : Launch) (G : Nat → Nat) (D : va_G) (cA : Nat → ClassId) (ad : Nat → Nat) (sz : Nat) (d : Nat → Int32) (kept : Nat → Int32) (aside : Nat → Int32) (images : Int32) (found : Nat → Int32) (base : Int32) (at0 : Int32) (size : Int32) (fault : Int32) (opened : Int32) (isRub : Int32) (names : Nat → Int32) (code : Nat → Int32) (coded : Int32) (pile : Nat → Int32) (needs : Nat → Int32) (traced : Nat → Int32) (traceMany : Int32) (who : Int32) (bitsOf : Nat → Int32) (sizeOf : Nat → Int32) (number : Nat → Int32) (lifted : Nat → Int32) (n : Int32) (rR : Int32) (dR : Nat → Int32) (foundR : Nat → Int32) (namesR : Nat → Int32) (pileR : Nat → Int32) (h : fX12_loose n d found names pile = some (rR, dR, foundR, namesR, pileR)) : Met l yX12_loose wsX12_loose ({ frames := 6, cells := 0, slots := 0, locals := 142 } : Room) (PW G D (tyC cA) sz (wM cA ad d kept aside images found base at0 size fault opened isRub names code coded pile needs traced traceMany who bitsOf sizeOf number lifted) [.ref (ad 0), .int n]) (QI D (tyC cA) (va_A (wM cA ad d kept aside images found base at0 size fault opened isRub names code coded pile needs traced traceMany who bitsOf sizeOf number lifted) sz) rR (wM cA ad dR kept aside images foundR base at0 size fault opened isRub namesR code coded pileR needs traced traceMany who bitsOf sizeOf number lifted)) 0 0 (va_A (wM cA ad d kept aside images found base at0 size fault opened isRub names code coded pile needs traced traceMany who bitsOf sizeOf number lifted) sz) := by
  refine ent (cc := cX12_loose) (maxL := 4) (ret := (some .int)) (fun A => QI D (tyC cA) A rR (wM cA ad dR kept aside images foundR base at0 size fault opened isRub namesR code coded pileR needs traced traceMany who bitsOf sizeOf number lifted)) (by decide +kernel) rfl (Nat.le_of_ble_eq_true rfl) ?_
  intro p e s m args below meth c A ls H hx hb hml hr hlk hts hown hA hK hE hP hD hS hv hmm
  have hv : lv_has ls 4 [(0, .ref (ad 0)), (1, .int n)] := hv
  have in_12 : ∀ w ∈ u_ws RX12 TX12 23, w ∈ wsX12_loose := fun _ h => List.mem_cons_of_mem _ (List.mem_append_right _ h)
  have w_0 := hts (.constantLong RX12 243 (40)) (List.mem_of_getElem? (i := 1) rfl)
  have w_1 := hts (.fieldLink RX12 7 "SpoonsLastModel" "d" "[I") (List.mem_of_getElem? (i := 2) rfl)
  generalize hQ : MQ below _ args s 0 0 A = Q
  have C_34 : ∀ (v1_34 : Int32) (v2_34 : Int32) (d_34 : Nat → Int32) (found_34 : Nat → Int32) (names_34 : Nat → Int32) (pile_34 : Nat → Int32), fX12_loose_34 v1_34 v2_34 d_34 found_34 names_34 pile_34 = some (rR, dR, foundR, namesR, pileR) → WW p l e ({ frames := 6, cells := 0, slots := 0, locals := 142 } : Room) s m args below meth c D A 0 0 Q (wM cA ad d_34 kept aside images found_34 base at0 size fault opened isRub names_34 code coded pile_34 needs traced traceMany who bitsOf sizeOf number lifted) 4 [(0, .ref (ad 0)), (1, .int v1_34), (2, .int v2_34)] 34 [] := by
    intro v1_34 v2_34 d_34 found_34 names_34 pile_34 h
    unfold fX12_loose_34 at h
    obtain ⟨⟨v2_34r, d_34r, names_34r, pile_34r⟩, ho, h⟩ := bd_ex h
    have LE : WW p l e ({ frames := 6, cells := 0, slots := 0, locals := 142 } : Room) s m args below meth c D A 0 0 Q (wM cA ad d_34r kept aside images found_34 base at0 size fault opened isRub names_34r code coded pile_34r needs traced traceMany who bitsOf sizeOf number lifted) 4 [(0, .ref (ad 0))] 91 [] := by
      intro H locs ls hP hD hS hv
      refine lv_aload_n hx hb dX12_loose_91 rfl (lv_at hv 0 rfl) ?_
      refine va_get (D := D) (ci := 12) (v := .ref (ad 1)) (C := RX12) (T := TX12) (N := 23) hx hb hts in_12 hown hK hP 0 rfl rfl 0 (by decide) w_1 (fun _ h9 => h9) rfl dX12_loose_92 ?_
      refine lv_iconst (v := (2 : Int32)) hx hb dX12_loose_95 (by decide) ?_
      obtain ⟨c_7, h⟩ := ckI_ex h
      refine va_iald (D := D) hx hb hK hP 1 0 rfl rfl c_7 dX12_loose_96 ?_
      have h := Option.some.inj h
      have ee0 : (d_34r ((2 : Int32)).toNatClampNeg) = rR := congrArg (fun q => q.1) h
      have ee1 : d_34r = dR := congrArg (fun q => q.2.1) h
      have ee2 : found_34 = foundR := congrArg (fun q => q.2.2.1) h
      have ee3 : names_34r = namesR := congrArg (fun q => q.2.2.2.1) h
      have ee4 : pile_34r = pileR := congrArg (fun q => q.2.2.2.2) h
      subst ee0
      subst ee1
      subst ee2
      subst ee3
      subst ee4
      rw [← hQ]
      exact retI hx hb hr hlk hK hP hD hS dX12_loose_97 ⟨Nat.le_of_ble_eq_true rfl, Nat.le_of_ble_eq_true rfl⟩
    have LB : ∀ (nf : Nat) (v2_34b : Int32) (d_34b : Nat → Int32) (names_34b : Nat → Int32) (pile_34b : Nat → Int32), lp (fun σ : Int32 × (Nat → Int32) × (Nat → Int32) × (Nat → Int32) => fX12_loose_34B v1_34 found_34 (σ.1) (σ.2.1) (σ.2.2.1) (σ.2.2.2)) nf (v2_34b, d_34b, names_34b, pile_34b) = some (v2_34r, d_34r, names_34r, pile_34r) → WW p l e ({ frames := 6, cells := 0, slots := 0, locals := 142 } : Room) s m args below meth c D A 0 0 Q (wM cA ad d_34b kept aside images found_34 base at0 size fault opened isRub names_34b code coded pile_34b needs traced traceMany who bitsOf sizeOf number lifted) 4 [(0, .ref (ad 0)), (1, .int v1_34), (2, .int v2_34b)] 34 [] := by
      intro nf
      induction nf with
      | zero => intro v2_34b d_34b names_34b pile_34b hl; cases hl
      | succ nf ih =>
        intro v2_34b d_34b names_34b pile_34b hl
        obtain ⟨x, h, hl⟩ := lp_ex hl
        have h : fX12_loose_34B v1_34 found_34 v2_34b d_34b names_34b pile_34b = some x := h
        unfold fX12_loose_34B at h
        intro H locs ls hP hD hS hv
        refine lv_iload_n hx hb dX12_loose_34 rfl (lv_at hv 2 rfl) ?_
        refine lv_iload_n hx hb dX12_loose_35 rfl (lv_at hv 1 rfl) ?_
        refine lv_icmp_ge (tgt := 91) hx hb dX12_loose_36 (by decide) (fun c_8 => ?_) (fun c_8 => ?_)
        · have h := ite_t c_8 h
          cases h
          have hl : some (v2_34b, d_34b, names_34b, pile_34b) = some (v2_34r, d_34r, names_34r, pile_34r) := hl
          have hl := Option.some.inj hl
          have ee0 : v2_34b = v2_34r := congrArg (fun q => q.1) hl
          have ee1 : d_34b = d_34r := congrArg (fun q => q.2.1) hl
          have ee2 : names_34b = names_34r := congrArg (fun q => q.2.2.1) hl
          have ee3 : pile_34b = pile_34r := congrArg (fun q => q.2.2.2) hl
          subst ee0
          subst ee1
          subst ee2
          subst ee3
          exact LE _ _ _ hP hD hS (lv_sub hv [0] rfl)
        · have h := ite_f c_8 h
          refine lv_aload_n hx hb dX12_loose_39 rfl (lv_at hv 0 rfl) ?_
          refine va_get (D := D) (ci := 12) (v := .ref (ad 1)) (C := RX12) (T := TX12) (N := 23) hx hb hts in_12 hown hK hP 0 rfl rfl 0 (by decide) w_1 (fun _ h9 => h9) rfl dX12_loose_40 ?_
          refine lv_iconst (v := (1 : Int32)) hx hb dX12_loose_43 (by decide) ?_
          obtain ⟨c_9, h⟩ := ckI_ex h
          refine va_iald (D := D) hx hb hK hP 1 0 rfl rfl c_9 dX12_loose_44 ?_
          refine lv_bipush (v := (6 : Int32)) hx hb dX12_loose_45 (by decide) ?_
          refine lv_irem hx hb dX12_loose_47 (by decide) ?_
          obtain ⟨y_10, ey_10, h⟩ := bnd_ex h
          refine lv_nm ey_10 ?_
          refine lv_istore_n (lv' := [(3, .int y_10), (0, .ref (ad 0)), (1, .int v1_34), (2, .int v2_34b)]) hx hb dX12_loose_48 rfl hv (by decide) rfl (fun ls hv => ?_)
          refine lv_aload_n hx hb dX12_loose_49 rfl (lv_at hv 1 rfl) ?_
          refine va_get (D := D) (ci := 12) (v := .ref (ad 1)) (C := RX12) (T := TX12) (N := 23) hx hb hts in_12 hown hK hP 0 rfl rfl 0 (by decide) w_1 (fun _ h9 => h9) rfl dX12_loose_50 ?_
          refine lv_bipush (v := (18 : Int32)) hx hb dX12_loose_53 (by decide) ?_
          refine lv_iload_n hx hb dX12_loose_55 rfl (lv_at hv 0 rfl) ?_
          refine lv_iadd hx hb dX12_loose_56 ?_
          refine lv_aload_n hx hb dX12_loose_57 rfl (lv_at hv 1 rfl) ?_
          obtain ⟨⟨r_11, d_12⟩, hf_13, h⟩ := bd_ex h
          have sb := Sb.same hP hD hS hA
          refine calI (va_runV (As := []) (rest := [.int ((18 : Int32) + y_10), .ref (ad 1)]) ⟨hx, hb, hml, hown, hts⟩ (c_X12_draw l G D cA ad _ d_34b kept aside images found_34 base at0 size fault opened isRub names_34b code coded pile_34b needs traced traceMany who bitsOf sizeOf number lifted r_11 d_12 hf_13) (cwV 0 hts gX12_loose_X12_draw rfl rfl rfl (by decide +kernel) ⟨Nat.le_of_ble_eq_true rfl, Nat.le_of_ble_eq_true rfl⟩) (pvV hE hK hS sb (va_recv hK hP (ci := 12) (q0 := 0) rfl rfl)) rfl rfl hv.1 rfl (lv_room (Nat.le_of_ble_eq_true rfl)) dX12_loose_58 ⟨Nat.le_of_ble_eq_true rfl, Nat.le_of_ble_eq_true rfl⟩) hS sb (Jn.same sb) (fun H locs hP hD hS => ?_)
          have hP : va_P D vwCl (wM cA ad d_12 kept aside images found_34 base at0 size fault opened isRub names_34b code coded pile_34b needs traced traceMany who bitsOf sizeOf number lifted) H := hP
          have hD : va_D A (wM cA ad d_12 kept aside images found_34 base at0 size fault opened isRub names_34b code coded pile_34b needs traced traceMany who bitsOf sizeOf number lifted) := hD
          refine lv_bipush (v := (8 : Int32)) hx hb dX12_loose_61 (by decide) ?_
          refine lv_irem hx hb dX12_loose_63 (by decide) ?_
          obtain ⟨y_14, ey_14, h⟩ := bnd_ex h
          refine lv_nm ey_14 ?_
          obtain ⟨c_15, h⟩ := ckI_ex h
          obtain ⟨d_16, ed_16, h⟩ := bnd_ex h
          refine va_iast (D := D) hx hb hK hP hD hS 1 0 rfl rfl c_15 dX12_loose_64 (fun H locs hP hD hS => ?_)
          rw [← ed_16] at hP hD
          have hP : va_P D vwCl (wM cA ad d_16 kept aside images found_34 base at0 size fault opened isRub names_34b code coded pile_34b needs traced traceMany who bitsOf sizeOf number lifted) H := hP
          have hD : va_D A (wM cA ad d_16 kept aside images found_34 base at0 size fault opened isRub names_34b code coded pile_34b needs traced traceMany who bitsOf sizeOf number lifted) := hD
          refine lv_aload_n hx hb dX12_loose_65 rfl (lv_at hv 1 rfl) ?_
          refine va_get (D := D) (ci := 12) (v := .ref (ad 1)) (C := RX12) (T := TX12) (N := 23) hx hb hts in_12 hown hK hP 0 rfl rfl 0 (by decide) w_1 (fun _ h9 => h9) rfl dX12_loose_66 ?_
          refine lv_bipush (v := (24 : Int32)) hx hb dX12_loose_69 (by decide) ?_
          refine lv_iload_n hx hb dX12_loose_71 rfl (lv_at hv 0 rfl) ?_
          refine lv_iadd hx hb dX12_loose_72 ?_
          refine lv_aload_n hx hb dX12_loose_73 rfl (lv_at hv 1 rfl) ?_
          obtain ⟨⟨r_17, d_18⟩, hf_19, h⟩ := bd_ex h
          have sb := Sb.same hP hD hS hA
          refine calI (va_runV (As := []) (rest := [.int ((24 : Int32) + y_10), .ref (ad 1)]) ⟨hx, hb, hml, hown, hts⟩ (c_X12_draw l G D cA ad _ d_16 kept aside images found_34 base at0 size fault opened isRub names_34b code coded pile_34b needs traced traceMany who bitsOf sizeOf number lifted r_17 d_18 hf_19) (cwV 0 hts gX12_loose_X12_draw rfl rfl rfl (by decide +kernel) ⟨Nat.le_of_ble_eq_true rfl, Nat.le_of_ble_eq_true rfl⟩) (pvV hE hK hS sb (va_recv hK hP (ci := 12) (q0 := 0) rfl rfl)) rfl rfl hv.1 rfl (lv_room (Nat.le_of_ble_eq_true rfl)) dX12_loose_74 ⟨Nat.le_of_ble_eq_true rfl, Nat.le_of_ble_eq_true rfl⟩) hS sb (Jn.same sb) (fun H locs hP hD hS => ?_)
          have hP : va_P D vwCl (wM cA ad d_18 kept aside images found_34 base at0 size fault opened isRub names_34b code coded pile_34b needs traced traceMany who bitsOf sizeOf number lifted) H := hP
          have hD : va_D A (wM cA ad d_18 kept aside images found_34 base at0 size fault opened isRub names_34b code coded pile_34b needs traced traceMany who bitsOf sizeOf number lifted) := hD
          refine lv_bipush (v := (12 : Int32)) hx hb dX12_loose_77 (by decide) ?_
          refine lv_irem hx hb dX12_loose_79 (by decide) ?_
          obtain ⟨y_20, ey_20, h⟩ := bnd_ex h
          refine lv_nm ey_20 ?_
          obtain ⟨c_21, h⟩ := ckI_ex h
          obtain ⟨d_22, ed_22, h⟩ := bnd_ex h
          refine va_iast (D := D) hx hb hK hP hD hS 1 0 rfl rfl c_21 dX12_loose_80 (fun H locs hP hD hS => ?_)
          rw [← ed_22] at hP hD
          have hP : va_P D vwCl (wM cA ad d_22 kept aside images found_34 base at0 size fault opened isRub names_34b code coded pile_34b needs traced traceMany who bitsOf sizeOf number lifted) H := hP
          have hD : va_D A (wM cA ad d_22 kept aside images found_34 base at0 size fault opened isRub names_34b code coded pile_34b needs traced traceMany who bitsOf sizeOf number lifted) := hD
          refine lv_aload_n hx hb dX12_loose_81 rfl (lv_at hv 1 rfl) ?_
          obtain ⟨⟨d_23, names_24, pile_25⟩, hf_26, h⟩ := bd_ex h
          have sb := Sb.same hP hD hS hA
          refine calV (va_runV (As := []) (rest := []) ⟨hx, hb, hml, hown, hts⟩ (c_X12_hourGoes l G D cA ad _ d_22 kept aside images found_34 base at0 size fault opened isRub names_34b code coded pile_34b needs traced traceMany who bitsOf sizeOf number lifted d_23 names_24 pile_25 hf_26) (cwV 0 hts gX12_loose_X12_hourGoes rfl rfl rfl (by decide +kernel) ⟨Nat.le_of_ble_eq_true rfl, Nat.le_of_ble_eq_true rfl⟩) (pvV hE hK hS sb (va_recv hK hP (ci := 12) (q0 := 0) rfl rfl)) rfl rfl hv.1 rfl (lv_room (Nat.le_of_ble_eq_true rfl)) dX12_loose_82 ⟨Nat.le_of_ble_eq_true rfl, Nat.le_of_ble_eq_true rfl⟩) hS sb (Jn.same sb) (fun H locs hP hD hS => ?_)
          have hP : va_P D vwCl (wM cA ad d_23 kept aside images found_34 base at0 size fault opened isRub names_24 code coded pile_25 needs traced traceMany who bitsOf sizeOf number lifted) H := hP
          have hD : va_D A (wM cA ad d_23 kept aside images found_34 base at0 size fault opened isRub names_24 code coded pile_25 needs traced traceMany who bitsOf sizeOf number lifted) := hD
          obtain ⟨y_27, ey_27, h⟩ := bnd_ex h
          refine lv_iinc (v := y_27) (lv' := [(2, .int y_27), (3, .int y_10), (0, .ref (ad 0)), (1, .int v1_34)]) hx hb dX12_loose_85 hv (k := 3) rfl (by rw [ey_27]; rfl) (by decide) rfl (fun ls hv => ?_)
          refine lv_goto (tgt := 34) hx hb dX12_loose_88 (by decide) ?_
          cases h
          exact ih y_27 d_23 names_24 pile_25 hl _ _ _ hP hD hS (lv_sub hv [2, 3, 0] rfl)
    exact LB FU v2_34 d_34 names_34 pile_34 ho
  have hP : va_P D vwCl (wM cA ad d kept aside images found base at0 size fault opened isRub names code coded pile needs traced traceMany who bitsOf sizeOf number lifted) H := hP
  unfold fX12_loose at h
  refine lv_iload_n hx hb dX12_loose_0 rfl (lv_at hv 1 rfl) ?_
  refine lv_i2l (v := (n).toInt64) hx hb dX12_loose_1 rfl ?_
  refine lv_lconst (v := (1 : Int64)) hx hb dX12_loose_2 (by decide) ?_
  refine lv_ldc2 (v := (40 : Int64)) hx hb hown w_0 dX12_loose_3 ?_
  obtain ⟨r_1, hf_2, h⟩ := bd_ex h
  have sb := Sb.nil hP hD hS hA
  refine calI (va_runS (As := [.long (n).toInt64, .long (1 : Int64), .long (40 : Int64)]) (rest := []) ⟨hx, hb, hml, hown, hts⟩ (c_X12_in l G D cA  _ ((n).toInt64) (1 : Int64) (40 : Int64) r_1 hf_2) (va_cwS 3 hts gX12_loose_X12_in rfl rfl rfl (by decide +kernel) ⟨Nat.le_of_ble_eq_true rfl, Nat.le_of_ble_eq_true rfl⟩) (pvS hE hK hS sb) rfl rfl hv.1 rfl (lv_room (Nat.le_of_ble_eq_true rfl)) dX12_loose_6 ⟨Nat.le_of_ble_eq_true rfl, Nat.le_of_ble_eq_true rfl⟩) hS sb (Jn.nil hP hD) (fun H locs hP hD hS => ?_)
  have hP : va_P D vwCl (wM cA ad d kept aside images found base at0 size fault opened isRub names code coded pile needs traced traceMany who bitsOf sizeOf number lifted) H := hP
  have hD : va_D A (wM cA ad d kept aside images found base at0 size fault opened isRub names code coded pile needs traced traceMany who bitsOf sizeOf number lifted) := hD
  refine lv_if_ne (tgt := 18) hx hb dX12_loose_9 (by decide) (fun c_3 => ?_) (fun c_3 => ?_)
  · have h := ite_f c_3 h
    refine lv_aload_n hx hb dX12_loose_18 rfl (lv_at hv 0 rfl) ?_
    refine lv_iload_n hx hb dX12_loose_19 rfl (lv_at hv 1 rfl) ?_
    obtain ⟨r_4, hf_5, h⟩ := bd_ex h
    have sb := Sb.same hP hD hS hA
    refine calI (va_runV (As := [.int n]) (rest := []) ⟨hx, hb, hml, hown, hts⟩ (c_X12_isLate l G D cA ad _ d kept aside images found base at0 size fault opened isRub names code coded pile needs traced traceMany who bitsOf sizeOf number lifted n r_4 hf_5) (cwV 1 hts gX12_loose_X12_isLate rfl rfl rfl (by decide +kernel) ⟨Nat.le_of_ble_eq_true rfl, Nat.le_of_ble_eq_true rfl⟩) (pvV hE hK hS sb (va_recv hK hP (ci := 12) (q0 := 0) rfl rfl)) rfl rfl hv.1 rfl (lv_room (Nat.le_of_ble_eq_true rfl)) dX12_loose_20 ⟨Nat.le_of_ble_eq_true rfl, Nat.le_of_ble_eq_true rfl⟩) hS sb (Jn.same sb) (fun H locs hP hD hS => ?_)
    have hP : va_P D vwCl (wM cA ad d kept aside images found base at0 size fault opened isRub names code coded pile needs traced traceMany who bitsOf sizeOf number lifted) H := hP
    have hD : va_D A (wM cA ad d kept aside images found base at0 size fault opened isRub names code coded pile needs traced traceMany who bitsOf sizeOf number lifted) := hD
    refine lv_if_eq (tgt := 32) hx hb dX12_loose_23 (by decide) (fun c_6 => ?_) (fun c_6 => ?_)
    · have h := ite_t c_6 h
      refine lv_iconst (v := (0 : Int32)) hx hb dX12_loose_32 (by decide) ?_
      refine lv_istore_n (lv' := [(2, .int (0 : Int32)), (0, .ref (ad 0)), (1, .int n)]) hx hb dX12_loose_33 rfl hv (by decide) rfl (fun ls hv => ?_)
      exact C_34 n (0 : Int32) d found names pile h _ _ _ hP hD hS (lv_sub hv [1, 2, 0] rfl)
    · have h := ite_f c_6 h
      refine lv_aload_n hx hb dX12_loose_26 rfl (lv_at hv 0 rfl) ?_
      refine lv_iconst (v := (3 : Int32)) hx hb dX12_loose_27 (by decide) ?_
      obtain ⟨⟨r_28, found_29⟩, hf_30, h⟩ := bd_ex h
      have sb := Sb.same hP hD hS hA
      refine calI (va_runV (As := [.int (3 : Int32)]) (rest := []) ⟨hx, hb, hml, hown, hts⟩ (c_X12_finds l G D cA ad _ d kept aside images found base at0 size fault opened isRub names code coded pile needs traced traceMany who bitsOf sizeOf number lifted (3 : Int32) r_28 found_29 hf_30) (cwV 1 hts gX12_loose_X12_finds rfl rfl rfl (by decide +kernel) ⟨Nat.le_of_ble_eq_true rfl, Nat.le_of_ble_eq_true rfl⟩) (pvV hE hK hS sb (va_recv hK hP (ci := 12) (q0 := 0) rfl rfl)) rfl rfl hv.1 rfl (lv_room (Nat.le_of_ble_eq_true rfl)) dX12_loose_28 ⟨Nat.le_of_ble_eq_true rfl, Nat.le_of_ble_eq_true rfl⟩) hS sb (Jn.same sb) (fun H locs hP hD hS => ?_)
      have hP : va_P D vwCl (wM cA ad d kept aside images found_29 base at0 size fault opened isRub names code coded pile needs traced traceMany who bitsOf sizeOf number lifted) H := hP
      have hD : va_D A (wM cA ad d kept aside images found_29 base at0 size fault opened isRub names code coded pile needs traced traceMany who bitsOf sizeOf number lifted) := hD
      have h := Option.some.inj h
      have ee0 : r_28 = rR := congrArg (fun q => q.1) h
      have ee1 : d = dR := congrArg (fun q => q.2.1) h
      have ee2 : found_29 = foundR := congrArg (fun q => q.2.2.1) h
      have ee3 : names = namesR := congrArg (fun q => q.2.2.2.1) h
      have ee4 : pile = pileR := congrArg (fun q => q.2.2.2.2) h
      subst ee0
      subst ee1
      subst ee2
      subst ee3
      subst ee4
      rw [← hQ]
      exact retI hx hb hr hlk hK hP hD hS dX12_loose_31 ⟨Nat.le_of_ble_eq_true rfl, Nat.le_of_ble_eq_true rfl⟩
  · have h := ite_t c_3 h
    refine lv_aload_n hx hb dX12_loose_12 rfl (lv_at hv 0 rfl) ?_
    refine lv_iconst (v := (1 : Int32)) hx hb dX12_loose_13 (by decide) ?_
    obtain ⟨⟨r_31, found_32⟩, hf_33, h⟩ := bd_ex h
    have sb := Sb.same hP hD hS hA
    refine calI (va_runV (As := [.int (1 : Int32)]) (rest := []) ⟨hx, hb, hml, hown, hts⟩ (c_X12_finds l G D cA ad _ d kept aside images found base at0 size fault opened isRub names code coded pile needs traced traceMany who bitsOf sizeOf number lifted (1 : Int32) r_31 found_32 hf_33) (cwV 1 hts gX12_loose_X12_finds rfl rfl rfl (by decide +kernel) ⟨Nat.le_of_ble_eq_true rfl, Nat.le_of_ble_eq_true rfl⟩) (pvV hE hK hS sb (va_recv hK hP (ci := 12) (q0 := 0) rfl rfl)) rfl rfl hv.1 rfl (lv_room (Nat.le_of_ble_eq_true rfl)) dX12_loose_14 ⟨Nat.le_of_ble_eq_true rfl, Nat.le_of_ble_eq_true rfl⟩) hS sb (Jn.same sb) (fun H locs hP hD hS => ?_)
    have hP : va_P D vwCl (wM cA ad d kept aside images found_32 base at0 size fault opened isRub names code coded pile needs traced traceMany who bitsOf sizeOf number lifted) H := hP
    have hD : va_D A (wM cA ad d kept aside images found_32 base at0 size fault opened isRub names code coded pile needs traced traceMany who bitsOf sizeOf number lifted) := hD
    have h := Option.some.inj h
    have ee0 : r_31 = rR := congrArg (fun q => q.1) h
    have ee1 : d = dR := congrArg (fun q => q.2.1) h
    have ee2 : found_32 = foundR := congrArg (fun q => q.2.2.1) h
    have ee3 : names = namesR := congrArg (fun q => q.2.2.2.1) h
    have ee4 : pile = pileR := congrArg (fun q => q.2.2.2.2) h
    subst ee0
    subst ee1
    subst ee2
    subst ee3
    subst ee4
    rw [← hQ]
    exact retI hx hb hr hlk hK hP hD hS dX12_loose_17 ⟨Nat.le_of_ble_eq_true rfl, Nat.le_of_ble_eq_true rfl⟩

def fX12_seed (v : Int32) (d : Nat → Int32) : Option (Int32 × (Nat → Int32)) :=
  bd (fX12_becomes (3 : Int32) v d) fun (r_1, d_2) => some (r_1, d_2)
set_option maxHeartbeats 4000000 in
set_option maxRecDepth 100000 in
theorem c_X12_seed (l : Launch) (G : Nat → Nat) (D : va_G) (cA : Nat → ClassId) (ad : Nat → Nat) (sz : Nat) (d : Nat → Int32) (kept : Nat → Int32) (aside : Nat → Int32) (images : Int32) (found : Nat → Int32) (base : Int32) (at0 : Int32) (size : Int32) (fault : Int32) (opened : Int32) (isRub : Int32) (names : Nat → Int32) (code : Nat → Int32) (coded : Int32) (pile : Nat → Int32) (needs : Nat → Int32) (traced : Nat → Int32) (traceMany : Int32) (who : Int32) (bitsOf : Nat → Int32) (sizeOf : Nat → Int32) (number : Nat → Int32) (lifted : Nat → Int32) (v : Int32) (rR : Int32) (dR : Nat → Int32) (h : fX12_seed v d = some (rR, dR)) : Met l yX12_seed wsX12_seed ({ frames := 1, cells := 0, slots := 0, locals := 23 } : Room) (PW G D (tyC cA) sz (wM cA ad d kept aside images found base at0 size fault opened isRub names code coded pile needs traced traceMany who bitsOf sizeOf number lifted) [.ref (ad 0), .int v]) (QI D (tyC cA) (va_A (wM cA ad d kept aside images found base at0 size fault opened isRub names code coded pile needs traced traceMany who bitsOf sizeOf number lifted) sz) rR (wM cA ad dR kept aside images found base at0 size fault opened isRub names code coded pile needs traced traceMany who bitsOf sizeOf number lifted)) 0 0 (va_A (wM cA ad d kept aside images found base at0 size fault opened isRub names code coded pile needs traced traceMany who bitsOf sizeOf number lifted) sz) := by
  refine ent (cc := cX12_seed) (maxL := 2) (ret := (some .int)) (fun A => QI D (tyC cA) A rR (wM cA ad dR kept aside images found base at0 size fault opened isRub names code coded pile needs traced traceMany who bitsOf sizeOf number lifted)) (by decide +kernel) rfl (Nat.le_of_ble_eq_true rfl) ?_
  intro p e s m args below meth c A ls H hx hb hml hr hlk hts hown hA hK hE hP hD hS hv hmm
  have hv : lv_has ls 2 [(0, .ref (ad 0)), (1, .int v)] := hv
  generalize hQ : MQ below _ args s 0 0 A = Q
  have hP : va_P D vwCl (wM cA ad d kept aside images found base at0 size fault opened isRub names code coded pile needs traced traceMany who bitsOf sizeOf number lifted) H := hP
  unfold fX12_seed at h
  refine lv_aload_n hx hb dX12_seed_0 rfl (lv_at hv 0 rfl) ?_
  refine lv_iconst (v := (3 : Int32)) hx hb dX12_seed_1 (by decide) ?_
  refine lv_iload_n hx hb dX12_seed_2 rfl (lv_at hv 1 rfl) ?_
  obtain ⟨⟨r_1, d_2⟩, hf_3, h⟩ := bd_ex h
  have sb := Sb.same hP hD hS hA
  refine calI (va_runV (As := [.int (3 : Int32), .int v]) (rest := []) ⟨hx, hb, hml, hown, hts⟩ (c_X12_becomes l G D cA ad _ d kept aside images found base at0 size fault opened isRub names code coded pile needs traced traceMany who bitsOf sizeOf number lifted (3 : Int32) v r_1 d_2 hf_3) (cwV 2 hts gX12_seed_X12_becomes rfl rfl rfl (by decide +kernel) ⟨Nat.le_of_ble_eq_true rfl, Nat.le_of_ble_eq_true rfl⟩) (pvV hE hK hS sb (va_recv hK hP (ci := 12) (q0 := 0) rfl rfl)) rfl rfl hv.1 rfl (lv_room (Nat.le_of_ble_eq_true rfl)) dX12_seed_3 ⟨Nat.le_of_ble_eq_true rfl, Nat.le_of_ble_eq_true rfl⟩) hS sb (Jn.same sb) (fun H locs hP hD hS => ?_)
  have hP : va_P D vwCl (wM cA ad d_2 kept aside images found base at0 size fault opened isRub names code coded pile needs traced traceMany who bitsOf sizeOf number lifted) H := hP
  have hD : va_D A (wM cA ad d_2 kept aside images found base at0 size fault opened isRub names code coded pile needs traced traceMany who bitsOf sizeOf number lifted) := hD
  have h := Option.some.inj h
  have ee0 : r_1 = rR := congrArg (fun q => q.1) h
  have ee1 : d_2 = dR := congrArg (fun q => q.2) h
  subst ee0
  subst ee1
  rw [← hQ]
  exact retI hx hb hr hlk hK hP hD hS dX12_seed_6 ⟨Nat.le_of_ble_eq_true rfl, Nat.le_of_ble_eq_true rfl⟩

def fX12_isAhead (n : Int32) : Option (Int32) :=
  bd (fX12_in ((n).toInt64) (0 : Int64) (60 : Int64)) fun r_1 => ck (isZ r_1 = true) (some r_1)
set_option maxHeartbeats 4000000 in
set_option maxRecDepth 100000 in
theorem c_X12_isAhead (l : Launch) (G : Nat → Nat) (D : va_G) (cA : Nat → ClassId) (sz : Nat) (n : Int32) (rR : Int32) (h : fX12_isAhead n = some rR) : Met l yX12_isAhead wsX12_isAhead ({ frames := 1, cells := 0, slots := 0, locals := 25 } : Room) (PW G D (tyC cA) sz (wE) [.int n]) (QI D (tyC cA) (va_A (wE) sz) rR (wE)) 0 0 (va_A (wE) sz) := by
  refine ent (cc := cX12_isAhead) (maxL := 1) (ret := (some .boolean)) (fun A => QI D (tyC cA) A rR (wE)) (by decide +kernel) rfl (Nat.le_of_ble_eq_true rfl) ?_
  intro p e s m args below meth c A ls H hx hb hml hr hlk hts hown hA hK hE hP hD hS hv hmm
  have hv : lv_has ls 1 [(0, .int n)] := hv
  have w_0 := hts (.constantLong RX12 234 (60)) (List.mem_of_getElem? (i := 1) rfl)
  generalize hQ : MQ below _ args s 0 0 A = Q
  have hP : va_P D vwCl (wE) H := hP
  unfold fX12_isAhead at h
  refine lv_iload_n hx hb dX12_isAhead_0 rfl (lv_at hv 0 rfl) ?_
  refine lv_i2l (v := (n).toInt64) hx hb dX12_isAhead_1 rfl ?_
  refine lv_lconst (v := (0 : Int64)) hx hb dX12_isAhead_2 (by decide) ?_
  refine lv_ldc2 (v := (60 : Int64)) hx hb hown w_0 dX12_isAhead_3 ?_
  obtain ⟨r_1, hf_2, h⟩ := bd_ex h
  have sb := Sb.nil hP hD hS hA
  refine calI (va_runS (As := [.long (n).toInt64, .long (0 : Int64), .long (60 : Int64)]) (rest := []) ⟨hx, hb, hml, hown, hts⟩ (c_X12_in l G D cA  _ ((n).toInt64) (0 : Int64) (60 : Int64) r_1 hf_2) (va_cwS 3 hts gX12_isAhead_X12_in rfl rfl rfl (by decide +kernel) ⟨Nat.le_of_ble_eq_true rfl, Nat.le_of_ble_eq_true rfl⟩) (pvS hE hK hS sb) rfl rfl hv.1 rfl (lv_room (Nat.le_of_ble_eq_true rfl)) dX12_isAhead_6 ⟨Nat.le_of_ble_eq_true rfl, Nat.le_of_ble_eq_true rfl⟩) hS sb (Jn.nil hP hD) (fun H locs hP hD hS => ?_)
  have hP : va_P D vwCl (wE) H := hP
  have hD : va_D A (wE) := hD
  obtain ⟨hz, h⟩ := ck_ex h
  have h := Option.some.inj h
  have ee0 : r_1 = rR := congrArg (fun q => q) h
  subst ee0
  rw [← hQ]
  exact retZ hz hx hb hr hlk hK hP hD hS dX12_isAhead_9 ⟨Nat.le_of_ble_eq_true rfl, Nat.le_of_ble_eq_true rfl⟩

def fX12_then_25 (d_25 : Nat → Int32) (aside_25 : Nat → Int32) (found_25 : Nat → Int32) (names_25 : Nat → Int32) (pile_25 : Nat → Int32) : Option (Int32 × (Nat → Int32) × (Nat → Int32) × (Nat → Int32) × (Nat → Int32) × (Nat → Int32)) :=
  bd (fX12_finds (1 : Int32) found_25) fun (r_4, found_5) => some (r_4, d_25, aside_25, found_5, names_25, pile_25)
def fX12_then (n : Int32) (a : Int32) (what : Int32) (d : Nat → Int32) (aside : Nat → Int32) (found : Nat → Int32) (names : Nat → Int32) (pile : Nat → Int32) : Option (Int32 × (Nat → Int32) × (Nat → Int32) × (Nat → Int32) × (Nat → Int32) × (Nat → Int32)) :=
  bd (fX12_isAhead n) fun r_1 => (if r_1 = 0 then fX12_then_25 d aside found names pile else bd (fX12_isSpoon a d) fun r_7 => (if r_7 = 0 then fX12_then_25 d aside found names pile else bd (fX12_in ((what).toInt64) (0 : Int64) (1 : Int64)) fun r_10 => (if r_10 = 0 then fX12_then_25 d aside found names pile else bd (fX12_keepAside d aside) fun aside_13 => bd (fX12_hoursGo n d names pile) fun (d_15, names_16, pile_17) => (if what = 0 then bd (fX12_of a (2 : Int32) d_15) fun r_24 => bd (fX12_putBack d_15 aside_13) fun d_26 => some (r_24, d_26, aside_13, found, names_16, pile_17) else bd (fX12_on a d_15) fun r_20 => bd (fX12_putBack d_15 aside_13) fun d_22 => some (r_20, d_22, aside_13, found, names_16, pile_17)))))
set_option maxHeartbeats 4000000 in
set_option maxRecDepth 100000 in
theorem c_X12_then (l : Launch) (G : Nat → Nat) (D : va_G) (cA : Nat → ClassId) (ad : Nat → Nat) (sz : Nat) (d : Nat → Int32) (kept : Nat → Int32) (aside : Nat → Int32) (images : Int32) (found : Nat → Int32) (base : Int32) (at0 : Int32) (size : Int32) (fault : Int32) (opened : Int32) (isRub : Int32) (names : Nat → Int32) (code : Nat → Int32) (coded : Int32) (pile : Nat → Int32) (needs : Nat → Int32) (traced : Nat → Int32) (traceMany : Int32) (who : Int32) (bitsOf : Nat → Int32) (sizeOf : Nat → Int32) (number : Nat → Int32) (lifted : Nat → Int32) (n : Int32) (a : Int32) (what : Int32) (rR : Int32) (dR : Nat → Int32) (asideR : Nat → Int32) (foundR : Nat → Int32) (namesR : Nat → Int32) (pileR : Nat → Int32) (h : fX12_then n a what d aside found names pile = some (rR, dR, asideR, foundR, namesR, pileR)) : Met l yX12_then wsX12_then ({ frames := 7, cells := 0, slots := 0, locals := 164 } : Room) (PW G D (tyC cA) sz (wM cA ad d kept aside images found base at0 size fault opened isRub names code coded pile needs traced traceMany who bitsOf sizeOf number lifted) [.ref (ad 0), .int n, .int a, .int what]) (QI D (tyC cA) (va_A (wM cA ad d kept aside images found base at0 size fault opened isRub names code coded pile needs traced traceMany who bitsOf sizeOf number lifted) sz) rR (wM cA ad dR kept asideR images foundR base at0 size fault opened isRub namesR code coded pileR needs traced traceMany who bitsOf sizeOf number lifted)) 0 0 (va_A (wM cA ad d kept aside images found base at0 size fault opened isRub names code coded pile needs traced traceMany who bitsOf sizeOf number lifted) sz) := by
  refine ent (cc := cX12_then) (maxL := 5) (ret := (some .int)) (fun A => QI D (tyC cA) A rR (wM cA ad dR kept asideR images foundR base at0 size fault opened isRub namesR code coded pileR needs traced traceMany who bitsOf sizeOf number lifted)) (by decide +kernel) rfl (Nat.le_of_ble_eq_true rfl) ?_
  intro p e s m args below meth c A ls H hx hb hml hr hlk hts hown hA hK hE hP hD hS hv hmm
  have hv : lv_has ls 5 [(0, .ref (ad 0)), (1, .int n), (2, .int a), (3, .int what)] := hv
  generalize hQ : MQ below _ args s 0 0 A = Q
  have C_25 : ∀ (d_25 : Nat → Int32) (aside_25 : Nat → Int32) (found_25 : Nat → Int32) (names_25 : Nat → Int32) (pile_25 : Nat → Int32), fX12_then_25 d_25 aside_25 found_25 names_25 pile_25 = some (rR, dR, asideR, foundR, namesR, pileR) → WW p l e ({ frames := 7, cells := 0, slots := 0, locals := 164 } : Room) s m args below meth c D A 0 0 Q (wM cA ad d_25 kept aside_25 images found_25 base at0 size fault opened isRub names_25 code coded pile_25 needs traced traceMany who bitsOf sizeOf number lifted) 5 [(0, .ref (ad 0))] 25 [] := by
    intro d_25 aside_25 found_25 names_25 pile_25 h
    unfold fX12_then_25 at h
    intro H locs ls hP hD hS hv
    refine lv_aload_n hx hb dX12_then_25 rfl (lv_at hv 0 rfl) ?_
    refine lv_iconst (v := (1 : Int32)) hx hb dX12_then_26 (by decide) ?_
    obtain ⟨⟨r_4, found_5⟩, hf_6, h⟩ := bd_ex h
    have sb := Sb.same hP hD hS hA
    refine calI (va_runV (As := [.int (1 : Int32)]) (rest := []) ⟨hx, hb, hml, hown, hts⟩ (c_X12_finds l G D cA ad _ d_25 kept aside_25 images found_25 base at0 size fault opened isRub names_25 code coded pile_25 needs traced traceMany who bitsOf sizeOf number lifted (1 : Int32) r_4 found_5 hf_6) (cwV 1 hts gX12_then_X12_finds rfl rfl rfl (by decide +kernel) ⟨Nat.le_of_ble_eq_true rfl, Nat.le_of_ble_eq_true rfl⟩) (pvV hE hK hS sb (va_recv hK hP (ci := 12) (q0 := 0) rfl rfl)) rfl rfl hv.1 rfl (lv_room (Nat.le_of_ble_eq_true rfl)) dX12_then_27 ⟨Nat.le_of_ble_eq_true rfl, Nat.le_of_ble_eq_true rfl⟩) hS sb (Jn.same sb) (fun H locs hP hD hS => ?_)
    have hP : va_P D vwCl (wM cA ad d_25 kept aside_25 images found_5 base at0 size fault opened isRub names_25 code coded pile_25 needs traced traceMany who bitsOf sizeOf number lifted) H := hP
    have hD : va_D A (wM cA ad d_25 kept aside_25 images found_5 base at0 size fault opened isRub names_25 code coded pile_25 needs traced traceMany who bitsOf sizeOf number lifted) := hD
    have h := Option.some.inj h
    have ee0 : r_4 = rR := congrArg (fun q => q.1) h
    have ee1 : d_25 = dR := congrArg (fun q => q.2.1) h
    have ee2 : aside_25 = asideR := congrArg (fun q => q.2.2.1) h
    have ee3 : found_5 = foundR := congrArg (fun q => q.2.2.2.1) h
    have ee4 : names_25 = namesR := congrArg (fun q => q.2.2.2.2.1) h
    have ee5 : pile_25 = pileR := congrArg (fun q => q.2.2.2.2.2) h
    subst ee0
    subst ee1
    subst ee2
    subst ee3
    subst ee4
    subst ee5
    rw [← hQ]
    exact retI hx hb hr hlk hK hP hD hS dX12_then_30 ⟨Nat.le_of_ble_eq_true rfl, Nat.le_of_ble_eq_true rfl⟩
  have hP : va_P D vwCl (wM cA ad d kept aside images found base at0 size fault opened isRub names code coded pile needs traced traceMany who bitsOf sizeOf number lifted) H := hP
  unfold fX12_then at h
  refine lv_iload_n hx hb dX12_then_0 rfl (lv_at hv 1 rfl) ?_
  obtain ⟨r_1, hf_2, h⟩ := bd_ex h
  have sb := Sb.nil hP hD hS hA
  refine calI (va_runS (As := [.int n]) (rest := []) ⟨hx, hb, hml, hown, hts⟩ (c_X12_isAhead l G D cA  _ n r_1 hf_2) (va_cwS 1 hts gX12_then_X12_isAhead rfl rfl rfl (by decide +kernel) ⟨Nat.le_of_ble_eq_true rfl, Nat.le_of_ble_eq_true rfl⟩) (pvS hE hK hS sb) rfl rfl hv.1 rfl (lv_room (Nat.le_of_ble_eq_true rfl)) dX12_then_1 ⟨Nat.le_of_ble_eq_true rfl, Nat.le_of_ble_eq_true rfl⟩) hS sb (Jn.nil hP hD) (fun H locs hP hD hS => ?_)
  have hP : va_P D vwCl (wM cA ad d kept aside images found base at0 size fault opened isRub names code coded pile needs traced traceMany who bitsOf sizeOf number lifted) H := hP
  have hD : va_D A (wM cA ad d kept aside images found base at0 size fault opened isRub names code coded pile needs traced traceMany who bitsOf sizeOf number lifted) := hD
  refine lv_if_eq (tgt := 25) hx hb dX12_then_4 (by decide) (fun c_3 => ?_) (fun c_3 => ?_)
  · have h := ite_t c_3 h
    exact C_25 d aside found names pile h _ _ _ hP hD hS (lv_sub hv [0] rfl)
  · have h := ite_f c_3 h
    refine lv_aload_n hx hb dX12_then_7 rfl (lv_at hv 0 rfl) ?_
    refine lv_iload_n hx hb dX12_then_8 rfl (lv_at hv 2 rfl) ?_
    obtain ⟨r_7, hf_8, h⟩ := bd_ex h
    have sb := Sb.same hP hD hS hA
    refine calI (va_runV (As := [.int a]) (rest := []) ⟨hx, hb, hml, hown, hts⟩ (c_X12_isSpoon l G D cA ad _ d kept aside images found base at0 size fault opened isRub names code coded pile needs traced traceMany who bitsOf sizeOf number lifted a r_7 hf_8) (cwV 1 hts gX12_then_X12_isSpoon rfl rfl rfl (by decide +kernel) ⟨Nat.le_of_ble_eq_true rfl, Nat.le_of_ble_eq_true rfl⟩) (pvV hE hK hS sb (va_recv hK hP (ci := 12) (q0 := 0) rfl rfl)) rfl rfl hv.1 rfl (lv_room (Nat.le_of_ble_eq_true rfl)) dX12_then_9 ⟨Nat.le_of_ble_eq_true rfl, Nat.le_of_ble_eq_true rfl⟩) hS sb (Jn.same sb) (fun H locs hP hD hS => ?_)
    have hP : va_P D vwCl (wM cA ad d kept aside images found base at0 size fault opened isRub names code coded pile needs traced traceMany who bitsOf sizeOf number lifted) H := hP
    have hD : va_D A (wM cA ad d kept aside images found base at0 size fault opened isRub names code coded pile needs traced traceMany who bitsOf sizeOf number lifted) := hD
    refine lv_if_eq (tgt := 25) hx hb dX12_then_12 (by decide) (fun c_9 => ?_) (fun c_9 => ?_)
    · have h := ite_t c_9 h
      exact C_25 d aside found names pile h _ _ _ hP hD hS (lv_sub hv [0] rfl)
    · have h := ite_f c_9 h
      refine lv_iload_n hx hb dX12_then_15 rfl (lv_at hv 3 rfl) ?_
      refine lv_i2l (v := (what).toInt64) hx hb dX12_then_16 rfl ?_
      refine lv_lconst (v := (0 : Int64)) hx hb dX12_then_17 (by decide) ?_
      refine lv_lconst (v := (1 : Int64)) hx hb dX12_then_18 (by decide) ?_
      obtain ⟨r_10, hf_11, h⟩ := bd_ex h
      have sb := Sb.nil hP hD hS hA
      refine calI (va_runS (As := [.long (what).toInt64, .long (0 : Int64), .long (1 : Int64)]) (rest := []) ⟨hx, hb, hml, hown, hts⟩ (c_X12_in l G D cA  _ ((what).toInt64) (0 : Int64) (1 : Int64) r_10 hf_11) (va_cwS 3 hts gX12_then_X12_in rfl rfl rfl (by decide +kernel) ⟨Nat.le_of_ble_eq_true rfl, Nat.le_of_ble_eq_true rfl⟩) (pvS hE hK hS sb) rfl rfl hv.1 rfl (lv_room (Nat.le_of_ble_eq_true rfl)) dX12_then_19 ⟨Nat.le_of_ble_eq_true rfl, Nat.le_of_ble_eq_true rfl⟩) hS sb (Jn.nil hP hD) (fun H locs hP hD hS => ?_)
      have hP : va_P D vwCl (wM cA ad d kept aside images found base at0 size fault opened isRub names code coded pile needs traced traceMany who bitsOf sizeOf number lifted) H := hP
      have hD : va_D A (wM cA ad d kept aside images found base at0 size fault opened isRub names code coded pile needs traced traceMany who bitsOf sizeOf number lifted) := hD
      refine lv_if_ne (tgt := 31) hx hb dX12_then_22 (by decide) (fun c_12 => ?_) (fun c_12 => ?_)
      · have h := ite_f c_12 h
        refine lv_aload_n hx hb dX12_then_31 rfl (lv_at hv 0 rfl) ?_
        obtain ⟨aside_13, hf_14, h⟩ := bd_ex h
        have sb := Sb.same hP hD hS hA
        refine calV (va_runV (As := []) (rest := []) ⟨hx, hb, hml, hown, hts⟩ (c_X12_keepAside l G D cA ad _ d kept aside images found base at0 size fault opened isRub names code coded pile needs traced traceMany who bitsOf sizeOf number lifted aside_13 hf_14) (cwV 0 hts gX12_then_X12_keepAside rfl rfl rfl (by decide +kernel) ⟨Nat.le_of_ble_eq_true rfl, Nat.le_of_ble_eq_true rfl⟩) (pvV hE hK hS sb (va_recv hK hP (ci := 12) (q0 := 0) rfl rfl)) rfl rfl hv.1 rfl (lv_room (Nat.le_of_ble_eq_true rfl)) dX12_then_32 ⟨Nat.le_of_ble_eq_true rfl, Nat.le_of_ble_eq_true rfl⟩) hS sb (Jn.same sb) (fun H locs hP hD hS => ?_)
        have hP : va_P D vwCl (wM cA ad d kept aside_13 images found base at0 size fault opened isRub names code coded pile needs traced traceMany who bitsOf sizeOf number lifted) H := hP
        have hD : va_D A (wM cA ad d kept aside_13 images found base at0 size fault opened isRub names code coded pile needs traced traceMany who bitsOf sizeOf number lifted) := hD
        refine lv_aload_n hx hb dX12_then_35 rfl (lv_at hv 0 rfl) ?_
        refine lv_iload_n hx hb dX12_then_36 rfl (lv_at hv 1 rfl) ?_
        obtain ⟨⟨d_15, names_16, pile_17⟩, hf_18, h⟩ := bd_ex h
        have sb := Sb.same hP hD hS hA
        refine calV (va_runV (As := [.int n]) (rest := []) ⟨hx, hb, hml, hown, hts⟩ (c_X12_hoursGo l G D cA ad _ d kept aside_13 images found base at0 size fault opened isRub names code coded pile needs traced traceMany who bitsOf sizeOf number lifted n d_15 names_16 pile_17 hf_18) (cwV 1 hts gX12_then_X12_hoursGo rfl rfl rfl (by decide +kernel) ⟨Nat.le_of_ble_eq_true rfl, Nat.le_of_ble_eq_true rfl⟩) (pvV hE hK hS sb (va_recv hK hP (ci := 12) (q0 := 0) rfl rfl)) rfl rfl hv.1 rfl (lv_room (Nat.le_of_ble_eq_true rfl)) dX12_then_37 ⟨Nat.le_of_ble_eq_true rfl, Nat.le_of_ble_eq_true rfl⟩) hS sb (Jn.same sb) (fun H locs hP hD hS => ?_)
        have hP : va_P D vwCl (wM cA ad d_15 kept aside_13 images found base at0 size fault opened isRub names_16 code coded pile_17 needs traced traceMany who bitsOf sizeOf number lifted) H := hP
        have hD : va_D A (wM cA ad d_15 kept aside_13 images found base at0 size fault opened isRub names_16 code coded pile_17 needs traced traceMany who bitsOf sizeOf number lifted) := hD
        refine lv_iload_n hx hb dX12_then_40 rfl (lv_at hv 3 rfl) ?_
        refine lv_if_ne (tgt := 53) hx hb dX12_then_41 (by decide) (fun c_19 => ?_) (fun c_19 => ?_)
        · have h := ite_f c_19 h
          refine lv_aload_n hx hb dX12_then_53 rfl (lv_at hv 0 rfl) ?_
          refine lv_iload_n hx hb dX12_then_54 rfl (lv_at hv 2 rfl) ?_
          obtain ⟨r_20, hf_21, h⟩ := bd_ex h
          have sb := Sb.same hP hD hS hA
          refine calI (va_runV (As := [.int a]) (rest := []) ⟨hx, hb, hml, hown, hts⟩ (c_X12_on l G D cA ad _ d_15 kept aside_13 images found base at0 size fault opened isRub names_16 code coded pile_17 needs traced traceMany who bitsOf sizeOf number lifted a r_20 hf_21) (cwV 1 hts gX12_then_X12_on rfl rfl rfl (by decide +kernel) ⟨Nat.le_of_ble_eq_true rfl, Nat.le_of_ble_eq_true rfl⟩) (pvV hE hK hS sb (va_recv hK hP (ci := 12) (q0 := 0) rfl rfl)) rfl rfl hv.1 rfl (lv_room (Nat.le_of_ble_eq_true rfl)) dX12_then_55 ⟨Nat.le_of_ble_eq_true rfl, Nat.le_of_ble_eq_true rfl⟩) hS sb (Jn.same sb) (fun H locs hP hD hS => ?_)
          have hP : va_P D vwCl (wM cA ad d_15 kept aside_13 images found base at0 size fault opened isRub names_16 code coded pile_17 needs traced traceMany who bitsOf sizeOf number lifted) H := hP
          have hD : va_D A (wM cA ad d_15 kept aside_13 images found base at0 size fault opened isRub names_16 code coded pile_17 needs traced traceMany who bitsOf sizeOf number lifted) := hD
          refine lv_istore (lv' := [(4, .int r_20), (0, .ref (ad 0)), (1, .int n), (2, .int a), (3, .int what)]) hx hb dX12_then_58 hv (by decide) rfl (fun ls hv => ?_)
          refine lv_aload_n hx hb dX12_then_60 rfl (lv_at hv 1 rfl) ?_
          obtain ⟨d_22, hf_23, h⟩ := bd_ex h
          have sb := Sb.same hP hD hS hA
          refine calV (va_runV (As := []) (rest := []) ⟨hx, hb, hml, hown, hts⟩ (c_X12_putBack l G D cA ad _ d_15 kept aside_13 images found base at0 size fault opened isRub names_16 code coded pile_17 needs traced traceMany who bitsOf sizeOf number lifted d_22 hf_23) (cwV 0 hts gX12_then_X12_putBack rfl rfl rfl (by decide +kernel) ⟨Nat.le_of_ble_eq_true rfl, Nat.le_of_ble_eq_true rfl⟩) (pvV hE hK hS sb (va_recv hK hP (ci := 12) (q0 := 0) rfl rfl)) rfl rfl hv.1 rfl (lv_room (Nat.le_of_ble_eq_true rfl)) dX12_then_61 ⟨Nat.le_of_ble_eq_true rfl, Nat.le_of_ble_eq_true rfl⟩) hS sb (Jn.same sb) (fun H locs hP hD hS => ?_)
          have hP : va_P D vwCl (wM cA ad d_22 kept aside_13 images found base at0 size fault opened isRub names_16 code coded pile_17 needs traced traceMany who bitsOf sizeOf number lifted) H := hP
          have hD : va_D A (wM cA ad d_22 kept aside_13 images found base at0 size fault opened isRub names_16 code coded pile_17 needs traced traceMany who bitsOf sizeOf number lifted) := hD
          refine lv_iload hx hb dX12_then_64 (lv_at hv 0 rfl) ?_
          have h := Option.some.inj h
          have ee0 : r_20 = rR := congrArg (fun q => q.1) h
          have ee1 : d_22 = dR := congrArg (fun q => q.2.1) h
          have ee2 : aside_13 = asideR := congrArg (fun q => q.2.2.1) h
          have ee3 : found = foundR := congrArg (fun q => q.2.2.2.1) h
          have ee4 : names_16 = namesR := congrArg (fun q => q.2.2.2.2.1) h
          have ee5 : pile_17 = pileR := congrArg (fun q => q.2.2.2.2.2) h
          subst ee0
          subst ee1
          subst ee2
          subst ee3
          subst ee4
          subst ee5
          rw [← hQ]
          exact retI hx hb hr hlk hK hP hD hS dX12_then_66 ⟨Nat.le_of_ble_eq_true rfl, Nat.le_of_ble_eq_true rfl⟩
        · have h := ite_t c_19 h
          refine lv_aload_n hx hb dX12_then_44 rfl (lv_at hv 0 rfl) ?_
          refine lv_iload_n hx hb dX12_then_45 rfl (lv_at hv 2 rfl) ?_
          refine lv_iconst (v := (2 : Int32)) hx hb dX12_then_46 (by decide) ?_
          obtain ⟨r_24, hf_25, h⟩ := bd_ex h
          have sb := Sb.same hP hD hS hA
          refine calI (va_runV (As := [.int a, .int (2 : Int32)]) (rest := []) ⟨hx, hb, hml, hown, hts⟩ (c_X12_of l G D cA ad _ d_15 kept aside_13 images found base at0 size fault opened isRub names_16 code coded pile_17 needs traced traceMany who bitsOf sizeOf number lifted a (2 : Int32) r_24 hf_25) (cwV 2 hts gX12_then_X12_of rfl rfl rfl (by decide +kernel) ⟨Nat.le_of_ble_eq_true rfl, Nat.le_of_ble_eq_true rfl⟩) (pvV hE hK hS sb (va_recv hK hP (ci := 12) (q0 := 0) rfl rfl)) rfl rfl hv.1 rfl (lv_room (Nat.le_of_ble_eq_true rfl)) dX12_then_47 ⟨Nat.le_of_ble_eq_true rfl, Nat.le_of_ble_eq_true rfl⟩) hS sb (Jn.same sb) (fun H locs hP hD hS => ?_)
          have hP : va_P D vwCl (wM cA ad d_15 kept aside_13 images found base at0 size fault opened isRub names_16 code coded pile_17 needs traced traceMany who bitsOf sizeOf number lifted) H := hP
          have hD : va_D A (wM cA ad d_15 kept aside_13 images found base at0 size fault opened isRub names_16 code coded pile_17 needs traced traceMany who bitsOf sizeOf number lifted) := hD
          refine lv_goto (tgt := 58) hx hb dX12_then_50 (by decide) ?_
          refine lv_istore (lv' := [(4, .int r_24), (0, .ref (ad 0)), (1, .int n), (2, .int a), (3, .int what)]) hx hb dX12_then_58 hv (by decide) rfl (fun ls hv => ?_)
          refine lv_aload_n hx hb dX12_then_60 rfl (lv_at hv 1 rfl) ?_
          obtain ⟨d_26, hf_27, h⟩ := bd_ex h
          have sb := Sb.same hP hD hS hA
          refine calV (va_runV (As := []) (rest := []) ⟨hx, hb, hml, hown, hts⟩ (c_X12_putBack l G D cA ad _ d_15 kept aside_13 images found base at0 size fault opened isRub names_16 code coded pile_17 needs traced traceMany who bitsOf sizeOf number lifted d_26 hf_27) (cwV 0 hts gX12_then_X12_putBack rfl rfl rfl (by decide +kernel) ⟨Nat.le_of_ble_eq_true rfl, Nat.le_of_ble_eq_true rfl⟩) (pvV hE hK hS sb (va_recv hK hP (ci := 12) (q0 := 0) rfl rfl)) rfl rfl hv.1 rfl (lv_room (Nat.le_of_ble_eq_true rfl)) dX12_then_61 ⟨Nat.le_of_ble_eq_true rfl, Nat.le_of_ble_eq_true rfl⟩) hS sb (Jn.same sb) (fun H locs hP hD hS => ?_)
          have hP : va_P D vwCl (wM cA ad d_26 kept aside_13 images found base at0 size fault opened isRub names_16 code coded pile_17 needs traced traceMany who bitsOf sizeOf number lifted) H := hP
          have hD : va_D A (wM cA ad d_26 kept aside_13 images found base at0 size fault opened isRub names_16 code coded pile_17 needs traced traceMany who bitsOf sizeOf number lifted) := hD
          refine lv_iload hx hb dX12_then_64 (lv_at hv 0 rfl) ?_
          have h := Option.some.inj h
          have ee0 : r_24 = rR := congrArg (fun q => q.1) h
          have ee1 : d_26 = dR := congrArg (fun q => q.2.1) h
          have ee2 : aside_13 = asideR := congrArg (fun q => q.2.2.1) h
          have ee3 : found = foundR := congrArg (fun q => q.2.2.2.1) h
          have ee4 : names_16 = namesR := congrArg (fun q => q.2.2.2.2.1) h
          have ee5 : pile_17 = pileR := congrArg (fun q => q.2.2.2.2.2) h
          subst ee0
          subst ee1
          subst ee2
          subst ee3
          subst ee4
          subst ee5
          rw [← hQ]
          exact retI hx hb hr hlk hK hP hD hS dX12_then_66 ⟨Nat.le_of_ble_eq_true rfl, Nat.le_of_ble_eq_true rfl⟩
      · have h := ite_t c_12 h
        exact C_25 d aside found names pile h _ _ _ hP hD hS (lv_sub hv [0] rfl)

def fX12_spreadsBehind (n : Int32) (d : Nat → Int32) (aside : Nat → Int32) (names : Nat → Int32) (pile : Nat → Int32) : Option (Int32 × (Nat → Int32) × (Nat → Int32) × (Nat → Int32)) :=
  bd (fX12_hoursGo n d names pile) fun (d_1, names_2, pile_3) => ckI (2 : Int32) 326 (bd (fX12_ones (d_1 ((2 : Int32)).toNatClampNeg)) fun r_6 => bd (fX12_putBack d_1 aside) fun d_8 => some (r_6, d_8, names_2, pile_3))
set_option maxHeartbeats 4000000 in
set_option maxRecDepth 100000 in
theorem c_X12_spreadsBehind (l : Launch) (G : Nat → Nat) (D : va_G) (cA : Nat → ClassId) (ad : Nat → Nat) (sz : Nat) (d : Nat → Int32) (kept : Nat → Int32) (aside : Nat → Int32) (images : Int32) (found : Nat → Int32) (base : Int32) (at0 : Int32) (size : Int32) (fault : Int32) (opened : Int32) (isRub : Int32) (names : Nat → Int32) (code : Nat → Int32) (coded : Int32) (pile : Nat → Int32) (needs : Nat → Int32) (traced : Nat → Int32) (traceMany : Int32) (who : Int32) (bitsOf : Nat → Int32) (sizeOf : Nat → Int32) (number : Nat → Int32) (lifted : Nat → Int32) (n : Int32) (rR : Int32) (dR : Nat → Int32) (namesR : Nat → Int32) (pileR : Nat → Int32) (h : fX12_spreadsBehind n d aside names pile = some (rR, dR, namesR, pileR)) : Met l yX12_spreadsBehind wsX12_spreadsBehind ({ frames := 7, cells := 0, slots := 0, locals := 164 } : Room) (PW G D (tyC cA) sz (wM cA ad d kept aside images found base at0 size fault opened isRub names code coded pile needs traced traceMany who bitsOf sizeOf number lifted) [.ref (ad 0), .int n]) (QI D (tyC cA) (va_A (wM cA ad d kept aside images found base at0 size fault opened isRub names code coded pile needs traced traceMany who bitsOf sizeOf number lifted) sz) rR (wM cA ad dR kept aside images found base at0 size fault opened isRub namesR code coded pileR needs traced traceMany who bitsOf sizeOf number lifted)) 0 0 (va_A (wM cA ad d kept aside images found base at0 size fault opened isRub names code coded pile needs traced traceMany who bitsOf sizeOf number lifted) sz) := by
  refine ent (cc := cX12_spreadsBehind) (maxL := 3) (ret := (some .int)) (fun A => QI D (tyC cA) A rR (wM cA ad dR kept aside images found base at0 size fault opened isRub namesR code coded pileR needs traced traceMany who bitsOf sizeOf number lifted)) (by decide +kernel) rfl (Nat.le_of_ble_eq_true rfl) ?_
  intro p e s m args below meth c A ls H hx hb hml hr hlk hts hown hA hK hE hP hD hS hv hmm
  have hv : lv_has ls 3 [(0, .ref (ad 0)), (1, .int n)] := hv
  have in_12 : ∀ w ∈ u_ws RX12 TX12 23, w ∈ wsX12_spreadsBehind := fun _ h => List.mem_cons_of_mem _ (List.mem_append_right _ h)
  have w_0 := hts (.fieldLink RX12 7 "SpoonsLastModel" "d" "[I") (List.mem_of_getElem? (i := 1) rfl)
  generalize hQ : MQ below _ args s 0 0 A = Q
  have hP : va_P D vwCl (wM cA ad d kept aside images found base at0 size fault opened isRub names code coded pile needs traced traceMany who bitsOf sizeOf number lifted) H := hP
  unfold fX12_spreadsBehind at h
  refine lv_aload_n hx hb dX12_spreadsBehind_0 rfl (lv_at hv 0 rfl) ?_
  refine lv_iload_n hx hb dX12_spreadsBehind_1 rfl (lv_at hv 1 rfl) ?_
  obtain ⟨⟨d_1, names_2, pile_3⟩, hf_4, h⟩ := bd_ex h
  have sb := Sb.same hP hD hS hA
  refine calV (va_runV (As := [.int n]) (rest := []) ⟨hx, hb, hml, hown, hts⟩ (c_X12_hoursGo l G D cA ad _ d kept aside images found base at0 size fault opened isRub names code coded pile needs traced traceMany who bitsOf sizeOf number lifted n d_1 names_2 pile_3 hf_4) (cwV 1 hts gX12_spreadsBehind_X12_hoursGo rfl rfl rfl (by decide +kernel) ⟨Nat.le_of_ble_eq_true rfl, Nat.le_of_ble_eq_true rfl⟩) (pvV hE hK hS sb (va_recv hK hP (ci := 12) (q0 := 0) rfl rfl)) rfl rfl hv.1 rfl (lv_room (Nat.le_of_ble_eq_true rfl)) dX12_spreadsBehind_2 ⟨Nat.le_of_ble_eq_true rfl, Nat.le_of_ble_eq_true rfl⟩) hS sb (Jn.same sb) (fun H locs hP hD hS => ?_)
  have hP : va_P D vwCl (wM cA ad d_1 kept aside images found base at0 size fault opened isRub names_2 code coded pile_3 needs traced traceMany who bitsOf sizeOf number lifted) H := hP
  have hD : va_D A (wM cA ad d_1 kept aside images found base at0 size fault opened isRub names_2 code coded pile_3 needs traced traceMany who bitsOf sizeOf number lifted) := hD
  refine lv_aload_n hx hb dX12_spreadsBehind_5 rfl (lv_at hv 0 rfl) ?_
  refine va_get (D := D) (ci := 12) (v := .ref (ad 1)) (C := RX12) (T := TX12) (N := 23) hx hb hts in_12 hown hK hP 0 rfl rfl 0 (by decide) w_0 (fun _ h9 => h9) rfl dX12_spreadsBehind_6 ?_
  refine lv_iconst (v := (2 : Int32)) hx hb dX12_spreadsBehind_9 (by decide) ?_
  obtain ⟨c_5, h⟩ := ckI_ex h
  refine va_iald (D := D) hx hb hK hP 1 0 rfl rfl c_5 dX12_spreadsBehind_10 ?_
  obtain ⟨r_6, hf_7, h⟩ := bd_ex h
  have sb := Sb.nil hP hD hS hA
  refine calI (va_runS (As := [.int (d_1 ((2 : Int32)).toNatClampNeg)]) (rest := []) ⟨hx, hb, hml, hown, hts⟩ (c_X12_ones l G D cA  _ (d_1 ((2 : Int32)).toNatClampNeg) r_6 hf_7) (va_cwS 1 hts gX12_spreadsBehind_X12_ones rfl rfl rfl (by decide +kernel) ⟨Nat.le_of_ble_eq_true rfl, Nat.le_of_ble_eq_true rfl⟩) (pvS hE hK hS sb) rfl rfl hv.1 rfl (lv_room (Nat.le_of_ble_eq_true rfl)) dX12_spreadsBehind_11 ⟨Nat.le_of_ble_eq_true rfl, Nat.le_of_ble_eq_true rfl⟩) hS sb (Jn.nil hP hD) (fun H locs hP hD hS => ?_)
  have hP : va_P D vwCl (wM cA ad d_1 kept aside images found base at0 size fault opened isRub names_2 code coded pile_3 needs traced traceMany who bitsOf sizeOf number lifted) H := hP
  have hD : va_D A (wM cA ad d_1 kept aside images found base at0 size fault opened isRub names_2 code coded pile_3 needs traced traceMany who bitsOf sizeOf number lifted) := hD
  refine lv_istore_n (lv' := [(2, .int r_6), (0, .ref (ad 0)), (1, .int n)]) hx hb dX12_spreadsBehind_14 rfl hv (by decide) rfl (fun ls hv => ?_)
  refine lv_aload_n hx hb dX12_spreadsBehind_15 rfl (lv_at hv 1 rfl) ?_
  obtain ⟨d_8, hf_9, h⟩ := bd_ex h
  have sb := Sb.same hP hD hS hA
  refine calV (va_runV (As := []) (rest := []) ⟨hx, hb, hml, hown, hts⟩ (c_X12_putBack l G D cA ad _ d_1 kept aside images found base at0 size fault opened isRub names_2 code coded pile_3 needs traced traceMany who bitsOf sizeOf number lifted d_8 hf_9) (cwV 0 hts gX12_spreadsBehind_X12_putBack rfl rfl rfl (by decide +kernel) ⟨Nat.le_of_ble_eq_true rfl, Nat.le_of_ble_eq_true rfl⟩) (pvV hE hK hS sb (va_recv hK hP (ci := 12) (q0 := 0) rfl rfl)) rfl rfl hv.1 rfl (lv_room (Nat.le_of_ble_eq_true rfl)) dX12_spreadsBehind_16 ⟨Nat.le_of_ble_eq_true rfl, Nat.le_of_ble_eq_true rfl⟩) hS sb (Jn.same sb) (fun H locs hP hD hS => ?_)
  have hP : va_P D vwCl (wM cA ad d_8 kept aside images found base at0 size fault opened isRub names_2 code coded pile_3 needs traced traceMany who bitsOf sizeOf number lifted) H := hP
  have hD : va_D A (wM cA ad d_8 kept aside images found base at0 size fault opened isRub names_2 code coded pile_3 needs traced traceMany who bitsOf sizeOf number lifted) := hD
  refine lv_iload_n hx hb dX12_spreadsBehind_19 rfl (lv_at hv 0 rfl) ?_
  have h := Option.some.inj h
  have ee0 : r_6 = rR := congrArg (fun q => q.1) h
  have ee1 : d_8 = dR := congrArg (fun q => q.2.1) h
  have ee2 : names_2 = namesR := congrArg (fun q => q.2.2.1) h
  have ee3 : pile_3 = pileR := congrArg (fun q => q.2.2.2) h
  subst ee0
  subst ee1
  subst ee2
  subst ee3
  rw [← hQ]
  exact retI hx hb hr hlk hK hP hD hS dX12_spreadsBehind_20 ⟨Nat.le_of_ble_eq_true rfl, Nat.le_of_ble_eq_true rfl⟩

def fX12_spreads (n : Int32) (d : Nat → Int32) (aside : Nat → Int32) (found : Nat → Int32) (names : Nat → Int32) (pile : Nat → Int32) : Option (Int32 × (Nat → Int32) × (Nat → Int32) × (Nat → Int32) × (Nat → Int32) × (Nat → Int32)) :=
  bd (fX12_isAhead n) fun r_1 => (if r_1 = 0 then bd (fX12_finds (1 : Int32) found) fun (r_11, found_12) => some (r_11, d, aside, found_12, names, pile) else bd (fX12_keepAside d aside) fun aside_4 => bd (fX12_spreadsBehind n d aside_4 names pile) fun (r_6, d_7, names_8, pile_9) => some (r_6, d_7, aside_4, found, names_8, pile_9))
set_option maxHeartbeats 4000000 in
set_option maxRecDepth 100000 in
theorem c_X12_spreads (l : Launch) (G : Nat → Nat) (D : va_G) (cA : Nat → ClassId) (ad : Nat → Nat) (sz : Nat) (d : Nat → Int32) (kept : Nat → Int32) (aside : Nat → Int32) (images : Int32) (found : Nat → Int32) (base : Int32) (at0 : Int32) (size : Int32) (fault : Int32) (opened : Int32) (isRub : Int32) (names : Nat → Int32) (code : Nat → Int32) (coded : Int32) (pile : Nat → Int32) (needs : Nat → Int32) (traced : Nat → Int32) (traceMany : Int32) (who : Int32) (bitsOf : Nat → Int32) (sizeOf : Nat → Int32) (number : Nat → Int32) (lifted : Nat → Int32) (n : Int32) (rR : Int32) (dR : Nat → Int32) (asideR : Nat → Int32) (foundR : Nat → Int32) (namesR : Nat → Int32) (pileR : Nat → Int32) (h : fX12_spreads n d aside found names pile = some (rR, dR, asideR, foundR, namesR, pileR)) : Met l yX12_spreads wsX12_spreads ({ frames := 8, cells := 0, slots := 0, locals := 186 } : Room) (PW G D (tyC cA) sz (wM cA ad d kept aside images found base at0 size fault opened isRub names code coded pile needs traced traceMany who bitsOf sizeOf number lifted) [.ref (ad 0), .int n]) (QI D (tyC cA) (va_A (wM cA ad d kept aside images found base at0 size fault opened isRub names code coded pile needs traced traceMany who bitsOf sizeOf number lifted) sz) rR (wM cA ad dR kept asideR images foundR base at0 size fault opened isRub namesR code coded pileR needs traced traceMany who bitsOf sizeOf number lifted)) 0 0 (va_A (wM cA ad d kept aside images found base at0 size fault opened isRub names code coded pile needs traced traceMany who bitsOf sizeOf number lifted) sz) := by
  refine ent (cc := cX12_spreads) (maxL := 2) (ret := (some .int)) (fun A => QI D (tyC cA) A rR (wM cA ad dR kept asideR images foundR base at0 size fault opened isRub namesR code coded pileR needs traced traceMany who bitsOf sizeOf number lifted)) (by decide +kernel) rfl (Nat.le_of_ble_eq_true rfl) ?_
  intro p e s m args below meth c A ls H hx hb hml hr hlk hts hown hA hK hE hP hD hS hv hmm
  have hv : lv_has ls 2 [(0, .ref (ad 0)), (1, .int n)] := hv
  generalize hQ : MQ below _ args s 0 0 A = Q
  have hP : va_P D vwCl (wM cA ad d kept aside images found base at0 size fault opened isRub names code coded pile needs traced traceMany who bitsOf sizeOf number lifted) H := hP
  unfold fX12_spreads at h
  refine lv_iload_n hx hb dX12_spreads_0 rfl (lv_at hv 1 rfl) ?_
  obtain ⟨r_1, hf_2, h⟩ := bd_ex h
  have sb := Sb.nil hP hD hS hA
  refine calI (va_runS (As := [.int n]) (rest := []) ⟨hx, hb, hml, hown, hts⟩ (c_X12_isAhead l G D cA  _ n r_1 hf_2) (va_cwS 1 hts gX12_spreads_X12_isAhead rfl rfl rfl (by decide +kernel) ⟨Nat.le_of_ble_eq_true rfl, Nat.le_of_ble_eq_true rfl⟩) (pvS hE hK hS sb) rfl rfl hv.1 rfl (lv_room (Nat.le_of_ble_eq_true rfl)) dX12_spreads_1 ⟨Nat.le_of_ble_eq_true rfl, Nat.le_of_ble_eq_true rfl⟩) hS sb (Jn.nil hP hD) (fun H locs hP hD hS => ?_)
  have hP : va_P D vwCl (wM cA ad d kept aside images found base at0 size fault opened isRub names code coded pile needs traced traceMany who bitsOf sizeOf number lifted) H := hP
  have hD : va_D A (wM cA ad d kept aside images found base at0 size fault opened isRub names code coded pile needs traced traceMany who bitsOf sizeOf number lifted) := hD
  refine lv_if_ne (tgt := 13) hx hb dX12_spreads_4 (by decide) (fun c_3 => ?_) (fun c_3 => ?_)
  · have h := ite_f c_3 h
    refine lv_aload_n hx hb dX12_spreads_13 rfl (lv_at hv 0 rfl) ?_
    obtain ⟨aside_4, hf_5, h⟩ := bd_ex h
    have sb := Sb.same hP hD hS hA
    refine calV (va_runV (As := []) (rest := []) ⟨hx, hb, hml, hown, hts⟩ (c_X12_keepAside l G D cA ad _ d kept aside images found base at0 size fault opened isRub names code coded pile needs traced traceMany who bitsOf sizeOf number lifted aside_4 hf_5) (cwV 0 hts gX12_spreads_X12_keepAside rfl rfl rfl (by decide +kernel) ⟨Nat.le_of_ble_eq_true rfl, Nat.le_of_ble_eq_true rfl⟩) (pvV hE hK hS sb (va_recv hK hP (ci := 12) (q0 := 0) rfl rfl)) rfl rfl hv.1 rfl (lv_room (Nat.le_of_ble_eq_true rfl)) dX12_spreads_14 ⟨Nat.le_of_ble_eq_true rfl, Nat.le_of_ble_eq_true rfl⟩) hS sb (Jn.same sb) (fun H locs hP hD hS => ?_)
    have hP : va_P D vwCl (wM cA ad d kept aside_4 images found base at0 size fault opened isRub names code coded pile needs traced traceMany who bitsOf sizeOf number lifted) H := hP
    have hD : va_D A (wM cA ad d kept aside_4 images found base at0 size fault opened isRub names code coded pile needs traced traceMany who bitsOf sizeOf number lifted) := hD
    refine lv_aload_n hx hb dX12_spreads_17 rfl (lv_at hv 0 rfl) ?_
    refine lv_iload_n hx hb dX12_spreads_18 rfl (lv_at hv 1 rfl) ?_
    obtain ⟨⟨r_6, d_7, names_8, pile_9⟩, hf_10, h⟩ := bd_ex h
    have sb := Sb.same hP hD hS hA
    refine calI (va_runV (As := [.int n]) (rest := []) ⟨hx, hb, hml, hown, hts⟩ (c_X12_spreadsBehind l G D cA ad _ d kept aside_4 images found base at0 size fault opened isRub names code coded pile needs traced traceMany who bitsOf sizeOf number lifted n r_6 d_7 names_8 pile_9 hf_10) (cwV 1 hts gX12_spreads_X12_spreadsBehind rfl rfl rfl (by decide +kernel) ⟨Nat.le_of_ble_eq_true rfl, Nat.le_of_ble_eq_true rfl⟩) (pvV hE hK hS sb (va_recv hK hP (ci := 12) (q0 := 0) rfl rfl)) rfl rfl hv.1 rfl (lv_room (Nat.le_of_ble_eq_true rfl)) dX12_spreads_19 ⟨Nat.le_of_ble_eq_true rfl, Nat.le_of_ble_eq_true rfl⟩) hS sb (Jn.same sb) (fun H locs hP hD hS => ?_)
    have hP : va_P D vwCl (wM cA ad d_7 kept aside_4 images found base at0 size fault opened isRub names_8 code coded pile_9 needs traced traceMany who bitsOf sizeOf number lifted) H := hP
    have hD : va_D A (wM cA ad d_7 kept aside_4 images found base at0 size fault opened isRub names_8 code coded pile_9 needs traced traceMany who bitsOf sizeOf number lifted) := hD
    have h := Option.some.inj h
    have ee0 : r_6 = rR := congrArg (fun q => q.1) h
    have ee1 : d_7 = dR := congrArg (fun q => q.2.1) h
    have ee2 : aside_4 = asideR := congrArg (fun q => q.2.2.1) h
    have ee3 : found = foundR := congrArg (fun q => q.2.2.2.1) h
    have ee4 : names_8 = namesR := congrArg (fun q => q.2.2.2.2.1) h
    have ee5 : pile_9 = pileR := congrArg (fun q => q.2.2.2.2.2) h
    subst ee0
    subst ee1
    subst ee2
    subst ee3
    subst ee4
    subst ee5
    rw [← hQ]
    exact retI hx hb hr hlk hK hP hD hS dX12_spreads_22 ⟨Nat.le_of_ble_eq_true rfl, Nat.le_of_ble_eq_true rfl⟩
  · have h := ite_t c_3 h
    refine lv_aload_n hx hb dX12_spreads_7 rfl (lv_at hv 0 rfl) ?_
    refine lv_iconst (v := (1 : Int32)) hx hb dX12_spreads_8 (by decide) ?_
    obtain ⟨⟨r_11, found_12⟩, hf_13, h⟩ := bd_ex h
    have sb := Sb.same hP hD hS hA
    refine calI (va_runV (As := [.int (1 : Int32)]) (rest := []) ⟨hx, hb, hml, hown, hts⟩ (c_X12_finds l G D cA ad _ d kept aside images found base at0 size fault opened isRub names code coded pile needs traced traceMany who bitsOf sizeOf number lifted (1 : Int32) r_11 found_12 hf_13) (cwV 1 hts gX12_spreads_X12_finds rfl rfl rfl (by decide +kernel) ⟨Nat.le_of_ble_eq_true rfl, Nat.le_of_ble_eq_true rfl⟩) (pvV hE hK hS sb (va_recv hK hP (ci := 12) (q0 := 0) rfl rfl)) rfl rfl hv.1 rfl (lv_room (Nat.le_of_ble_eq_true rfl)) dX12_spreads_9 ⟨Nat.le_of_ble_eq_true rfl, Nat.le_of_ble_eq_true rfl⟩) hS sb (Jn.same sb) (fun H locs hP hD hS => ?_)
    have hP : va_P D vwCl (wM cA ad d kept aside images found_12 base at0 size fault opened isRub names code coded pile needs traced traceMany who bitsOf sizeOf number lifted) H := hP
    have hD : va_D A (wM cA ad d kept aside images found_12 base at0 size fault opened isRub names code coded pile needs traced traceMany who bitsOf sizeOf number lifted) := hD
    have h := Option.some.inj h
    have ee0 : r_11 = rR := congrArg (fun q => q.1) h
    have ee1 : d = dR := congrArg (fun q => q.2.1) h
    have ee2 : aside = asideR := congrArg (fun q => q.2.2.1) h
    have ee3 : found_12 = foundR := congrArg (fun q => q.2.2.2.1) h
    have ee4 : names = namesR := congrArg (fun q => q.2.2.2.2.1) h
    have ee5 : pile = pileR := congrArg (fun q => q.2.2.2.2.2) h
    subst ee0
    subst ee1
    subst ee2
    subst ee3
    subst ee4
    subst ee5
    rw [← hQ]
    exact retI hx hb hr hlk hK hP hD hS dX12_spreads_12 ⟨Nat.le_of_ble_eq_true rfl, Nat.le_of_ble_eq_true rfl⟩

def fX12_when_67 (v2_67 : Int32) (k0_67 : Int32) (d_67 : Nat → Int32) (aside_67 : Nat → Int32) (found_67 : Nat → Int32) (names_67 : Nat → Int32) (pile_67 : Nat → Int32) : Option (Int32 × (Nat → Int32) × (Nat → Int32) × (Nat → Int32) × (Nat → Int32) × (Nat → Int32)) :=
  bd (fX12_putBack d_67 aside_67) fun d_8 => (if k0_67 = 0 then bd (fX12_finds (2 : Int32) found_67) fun (r_11, found_12) => some (r_11, d_8, aside_67, found_12, names_67, pile_67) else some (v2_67, d_8, aside_67, found_67, names_67, pile_67))
def fX12_when_48 (v1_48 : Int32) (v2_48 : Int32) (d_48 : Nat → Int32) (aside_48 : Nat → Int32) (found_48 : Nat → Int32) (names_48 : Nat → Int32) (pile_48 : Nat → Int32) : Option (Int32 × (Nat → Int32) × (Nat → Int32) × (Nat → Int32) × (Nat → Int32) × (Nat → Int32)) :=
  ckI (2 : Int32) 326 ((if (((d_48 ((2 : Int32)).toNatClampNeg) >>> (v1_48 &&& 31)) &&& (1 : Int32)) = (1 : Int32) then fX12_when_67 v2_48 (1 : Int32) d_48 aside_48 found_48 names_48 pile_48 else fX12_when_67 v2_48 (0 : Int32) d_48 aside_48 found_48 names_48 pile_48))
def fX12_when_19B (v1_19 : Int32) (aside_19 : Nat → Int32) (found_19 : Nat → Int32) (v2_19b : Int32) (d_19b : Nat → Int32) (names_19b : Nat → Int32) (pile_19b : Nat → Int32) : Option ((Int32 × (Nat → Int32) × (Nat → Int32) × (Nat → Int32)) ⊕ (Int32 × (Nat → Int32) × (Nat → Int32) × (Nat → Int32))) :=
  (if (60 : Int32) ≤ v2_19b then some (.inr (v2_19b, d_19b, names_19b, pile_19b)) else ckI (2 : Int32) 326 ((if (((d_19b ((2 : Int32)).toNatClampNeg) >>> (v1_19 &&& 31)) &&& (1 : Int32)) = 0 then bd (fX12_hourGoes d_19b names_19b pile_19b) fun (d_17, names_18, pile_19) => bnd (v2_19b + (1 : Int32)) fun y_21 => some (.inl (y_21, d_17, names_18, pile_19)) else some (.inr (v2_19b, d_19b, names_19b, pile_19b)))))
def fX12_when_19 (v1_19 : Int32) (v2_19 : Int32) (d_19 : Nat → Int32) (aside_19 : Nat → Int32) (found_19 : Nat → Int32) (names_19 : Nat → Int32) (pile_19 : Nat → Int32) : Option (Int32 × (Nat → Int32) × (Nat → Int32) × (Nat → Int32) × (Nat → Int32) × (Nat → Int32)) :=
  bd (lp (fun σ : Int32 × (Nat → Int32) × (Nat → Int32) × (Nat → Int32) => fX12_when_19B v1_19 aside_19 found_19 (σ.1) (σ.2.1) (σ.2.2.1) (σ.2.2.2)) FU (v2_19, d_19, names_19, pile_19)) fun ρ => match ρ with | (v2_19r, d_19r, names_19r, pile_19r) => fX12_when_48 v1_19 v2_19r d_19r aside_19 found_19 names_19r pile_19r
def fX12_when (a : Int32) (d : Nat → Int32) (aside : Nat → Int32) (found : Nat → Int32) (names : Nat → Int32) (pile : Nat → Int32) : Option (Int32 × (Nat → Int32) × (Nat → Int32) × (Nat → Int32) × (Nat → Int32) × (Nat → Int32)) :=
  bd (fX12_isWord a) fun r_1 => (if r_1 = 0 then bd (fX12_finds (1 : Int32) found) fun (r_22, found_23) => some (r_22, d, aside, found_23, names, pile) else bd (fX12_keepAside d aside) fun aside_4 => fX12_when_19 a (0 : Int32) d aside_4 found names pile)
set_option maxHeartbeats 4000000 in
set_option maxRecDepth 100000 in
theorem c_X12_when (l : Launch) (G : Nat → Nat) (D : va_G) (cA : Nat → ClassId) (ad : Nat → Nat) (sz : Nat) (d : Nat → Int32) (kept : Nat → Int32) (aside : Nat → Int32) (images : Int32) (found : Nat → Int32) (base : Int32) (at0 : Int32) (size : Int32) (fault : Int32) (opened : Int32) (isRub : Int32) (names : Nat → Int32) (code : Nat → Int32) (coded : Int32) (pile : Nat → Int32) (needs : Nat → Int32) (traced : Nat → Int32) (traceMany : Int32) (who : Int32) (bitsOf : Nat → Int32) (sizeOf : Nat → Int32) (number : Nat → Int32) (lifted : Nat → Int32) (a : Int32) (rR : Int32) (dR : Nat → Int32) (asideR : Nat → Int32) (foundR : Nat → Int32) (namesR : Nat → Int32) (pileR : Nat → Int32) (h : fX12_when a d aside found names pile = some (rR, dR, asideR, foundR, namesR, pileR)) : Met l yX12_when wsX12_when ({ frames := 6, cells := 0, slots := 0, locals := 142 } : Room) (PW G D (tyC cA) sz (wM cA ad d kept aside images found base at0 size fault opened isRub names code coded pile needs traced traceMany who bitsOf sizeOf number lifted) [.ref (ad 0), .int a]) (QI D (tyC cA) (va_A (wM cA ad d kept aside images found base at0 size fault opened isRub names code coded pile needs traced traceMany who bitsOf sizeOf number lifted) sz) rR (wM cA ad dR kept asideR images foundR base at0 size fault opened isRub namesR code coded pileR needs traced traceMany who bitsOf sizeOf number lifted)) 0 0 (va_A (wM cA ad d kept aside images found base at0 size fault opened isRub names code coded pile needs traced traceMany who bitsOf sizeOf number lifted) sz) := by
  refine ent (cc := cX12_when) (maxL := 4) (ret := (some .int)) (fun A => QI D (tyC cA) A rR (wM cA ad dR kept asideR images foundR base at0 size fault opened isRub namesR code coded pileR needs traced traceMany who bitsOf sizeOf number lifted)) (by decide +kernel) rfl (Nat.le_of_ble_eq_true rfl) ?_
  intro p e s m args below meth c A ls H hx hb hml hr hlk hts hown hA hK hE hP hD hS hv hmm
  have hv : lv_has ls 4 [(0, .ref (ad 0)), (1, .int a)] := hv
  have in_12 : ∀ w ∈ u_ws RX12 TX12 23, w ∈ wsX12_when := fun _ h => List.mem_cons_of_mem _ (List.mem_append_right _ h)
  have w_0 := hts (.fieldLink RX12 7 "SpoonsLastModel" "d" "[I") (List.mem_of_getElem? (i := 1) rfl)
  generalize hQ : MQ below _ args s 0 0 A = Q
  have C_67 : ∀ (v2_67 : Int32) (k0_67 : Int32) (d_67 : Nat → Int32) (aside_67 : Nat → Int32) (found_67 : Nat → Int32) (names_67 : Nat → Int32) (pile_67 : Nat → Int32), fX12_when_67 v2_67 k0_67 d_67 aside_67 found_67 names_67 pile_67 = some (rR, dR, asideR, foundR, namesR, pileR) → WW p l e ({ frames := 6, cells := 0, slots := 0, locals := 142 } : Room) s m args below meth c D A 0 0 Q (wM cA ad d_67 kept aside_67 images found_67 base at0 size fault opened isRub names_67 code coded pile_67 needs traced traceMany who bitsOf sizeOf number lifted) 4 [(0, .ref (ad 0)), (2, .int v2_67)] 67 [.int k0_67] := by
    intro v2_67 k0_67 d_67 aside_67 found_67 names_67 pile_67 h
    unfold fX12_when_67 at h
    intro H locs ls hP hD hS hv
    refine lv_istore_n (lv' := [(3, .int k0_67), (0, .ref (ad 0)), (2, .int v2_67)]) hx hb dX12_when_67 rfl hv (by decide) rfl (fun ls hv => ?_)
    refine lv_aload_n hx hb dX12_when_68 rfl (lv_at hv 1 rfl) ?_
    obtain ⟨d_8, hf_9, h⟩ := bd_ex h
    have sb := Sb.same hP hD hS hA
    refine calV (va_runV (As := []) (rest := []) ⟨hx, hb, hml, hown, hts⟩ (c_X12_putBack l G D cA ad _ d_67 kept aside_67 images found_67 base at0 size fault opened isRub names_67 code coded pile_67 needs traced traceMany who bitsOf sizeOf number lifted d_8 hf_9) (cwV 0 hts gX12_when_X12_putBack rfl rfl rfl (by decide +kernel) ⟨Nat.le_of_ble_eq_true rfl, Nat.le_of_ble_eq_true rfl⟩) (pvV hE hK hS sb (va_recv hK hP (ci := 12) (q0 := 0) rfl rfl)) rfl rfl hv.1 rfl (lv_room (Nat.le_of_ble_eq_true rfl)) dX12_when_69 ⟨Nat.le_of_ble_eq_true rfl, Nat.le_of_ble_eq_true rfl⟩) hS sb (Jn.same sb) (fun H locs hP hD hS => ?_)
    have hP : va_P D vwCl (wM cA ad d_8 kept aside_67 images found_67 base at0 size fault opened isRub names_67 code coded pile_67 needs traced traceMany who bitsOf sizeOf number lifted) H := hP
    have hD : va_D A (wM cA ad d_8 kept aside_67 images found_67 base at0 size fault opened isRub names_67 code coded pile_67 needs traced traceMany who bitsOf sizeOf number lifted) := hD
    refine lv_iload_n hx hb dX12_when_72 rfl (lv_at hv 0 rfl) ?_
    refine lv_if_eq (tgt := 80) hx hb dX12_when_73 (by decide) (fun c_10 => ?_) (fun c_10 => ?_)
    · have h := ite_t c_10 h
      refine lv_aload_n hx hb dX12_when_80 rfl (lv_at hv 1 rfl) ?_
      refine lv_iconst (v := (2 : Int32)) hx hb dX12_when_81 (by decide) ?_
      obtain ⟨⟨r_11, found_12⟩, hf_13, h⟩ := bd_ex h
      have sb := Sb.same hP hD hS hA
      refine calI (va_runV (As := [.int (2 : Int32)]) (rest := []) ⟨hx, hb, hml, hown, hts⟩ (c_X12_finds l G D cA ad _ d_8 kept aside_67 images found_67 base at0 size fault opened isRub names_67 code coded pile_67 needs traced traceMany who bitsOf sizeOf number lifted (2 : Int32) r_11 found_12 hf_13) (cwV 1 hts gX12_when_X12_finds rfl rfl rfl (by decide +kernel) ⟨Nat.le_of_ble_eq_true rfl, Nat.le_of_ble_eq_true rfl⟩) (pvV hE hK hS sb (va_recv hK hP (ci := 12) (q0 := 0) rfl rfl)) rfl rfl hv.1 rfl (lv_room (Nat.le_of_ble_eq_true rfl)) dX12_when_82 ⟨Nat.le_of_ble_eq_true rfl, Nat.le_of_ble_eq_true rfl⟩) hS sb (Jn.same sb) (fun H locs hP hD hS => ?_)
      have hP : va_P D vwCl (wM cA ad d_8 kept aside_67 images found_12 base at0 size fault opened isRub names_67 code coded pile_67 needs traced traceMany who bitsOf sizeOf number lifted) H := hP
      have hD : va_D A (wM cA ad d_8 kept aside_67 images found_12 base at0 size fault opened isRub names_67 code coded pile_67 needs traced traceMany who bitsOf sizeOf number lifted) := hD
      have h := Option.some.inj h
      have ee0 : r_11 = rR := congrArg (fun q => q.1) h
      have ee1 : d_8 = dR := congrArg (fun q => q.2.1) h
      have ee2 : aside_67 = asideR := congrArg (fun q => q.2.2.1) h
      have ee3 : found_12 = foundR := congrArg (fun q => q.2.2.2.1) h
      have ee4 : names_67 = namesR := congrArg (fun q => q.2.2.2.2.1) h
      have ee5 : pile_67 = pileR := congrArg (fun q => q.2.2.2.2.2) h
      subst ee0
      subst ee1
      subst ee2
      subst ee3
      subst ee4
      subst ee5
      rw [← hQ]
      exact retI hx hb hr hlk hK hP hD hS dX12_when_85 ⟨Nat.le_of_ble_eq_true rfl, Nat.le_of_ble_eq_true rfl⟩
    · have h := ite_f c_10 h
      refine lv_iload_n hx hb dX12_when_76 rfl (lv_at hv 2 rfl) ?_
      refine lv_goto (tgt := 85) hx hb dX12_when_77 (by decide) ?_
      have h := Option.some.inj h
      have ee0 : v2_67 = rR := congrArg (fun q => q.1) h
      have ee1 : d_8 = dR := congrArg (fun q => q.2.1) h
      have ee2 : aside_67 = asideR := congrArg (fun q => q.2.2.1) h
      have ee3 : found_67 = foundR := congrArg (fun q => q.2.2.2.1) h
      have ee4 : names_67 = namesR := congrArg (fun q => q.2.2.2.2.1) h
      have ee5 : pile_67 = pileR := congrArg (fun q => q.2.2.2.2.2) h
      subst ee0
      subst ee1
      subst ee2
      subst ee3
      subst ee4
      subst ee5
      rw [← hQ]
      exact retI hx hb hr hlk hK hP hD hS dX12_when_85 ⟨Nat.le_of_ble_eq_true rfl, Nat.le_of_ble_eq_true rfl⟩
  have C_48 : ∀ (v1_48 : Int32) (v2_48 : Int32) (d_48 : Nat → Int32) (aside_48 : Nat → Int32) (found_48 : Nat → Int32) (names_48 : Nat → Int32) (pile_48 : Nat → Int32), fX12_when_48 v1_48 v2_48 d_48 aside_48 found_48 names_48 pile_48 = some (rR, dR, asideR, foundR, namesR, pileR) → WW p l e ({ frames := 6, cells := 0, slots := 0, locals := 142 } : Room) s m args below meth c D A 0 0 Q (wM cA ad d_48 kept aside_48 images found_48 base at0 size fault opened isRub names_48 code coded pile_48 needs traced traceMany who bitsOf sizeOf number lifted) 4 [(0, .ref (ad 0)), (1, .int v1_48), (2, .int v2_48)] 48 [] := by
    intro v1_48 v2_48 d_48 aside_48 found_48 names_48 pile_48 h
    unfold fX12_when_48 at h
    intro H locs ls hP hD hS hv
    refine lv_aload_n hx hb dX12_when_48 rfl (lv_at hv 0 rfl) ?_
    refine va_get (D := D) (ci := 12) (v := .ref (ad 1)) (C := RX12) (T := TX12) (N := 23) hx hb hts in_12 hown hK hP 0 rfl rfl 0 (by decide) w_0 (fun _ h9 => h9) rfl dX12_when_49 ?_
    refine lv_iconst (v := (2 : Int32)) hx hb dX12_when_52 (by decide) ?_
    obtain ⟨c_6, h⟩ := ckI_ex h
    refine va_iald (D := D) hx hb hK hP 1 0 rfl rfl c_6 dX12_when_53 ?_
    refine lv_iload_n hx hb dX12_when_54 rfl (lv_at hv 1 rfl) ?_
    refine lv_ishr hx hb dX12_when_55 ?_
    refine lv_iconst (v := (1 : Int32)) hx hb dX12_when_56 (by decide) ?_
    refine lv_iand hx hb dX12_when_57 ?_
    refine lv_iconst (v := (1 : Int32)) hx hb dX12_when_58 (by decide) ?_
    refine lv_icmp_ne (tgt := 66) hx hb dX12_when_59 (by decide) (fun c_7 => ?_) (fun c_7 => ?_)
    · have h := ite_f c_7 h
      refine lv_iconst (v := (0 : Int32)) hx hb dX12_when_66 (by decide) ?_
      exact C_67 v2_48 (0 : Int32) d_48 aside_48 found_48 names_48 pile_48 h _ _ _ hP hD hS (lv_sub hv [0, 2] rfl)
    · have h := ite_t c_7 h
      refine lv_iconst (v := (1 : Int32)) hx hb dX12_when_62 (by decide) ?_
      refine lv_goto (tgt := 67) hx hb dX12_when_63 (by decide) ?_
      exact C_67 v2_48 (1 : Int32) d_48 aside_48 found_48 names_48 pile_48 h _ _ _ hP hD hS (lv_sub hv [0, 2] rfl)
  have C_19 : ∀ (v1_19 : Int32) (v2_19 : Int32) (d_19 : Nat → Int32) (aside_19 : Nat → Int32) (found_19 : Nat → Int32) (names_19 : Nat → Int32) (pile_19 : Nat → Int32), fX12_when_19 v1_19 v2_19 d_19 aside_19 found_19 names_19 pile_19 = some (rR, dR, asideR, foundR, namesR, pileR) → WW p l e ({ frames := 6, cells := 0, slots := 0, locals := 142 } : Room) s m args below meth c D A 0 0 Q (wM cA ad d_19 kept aside_19 images found_19 base at0 size fault opened isRub names_19 code coded pile_19 needs traced traceMany who bitsOf sizeOf number lifted) 4 [(0, .ref (ad 0)), (1, .int v1_19), (2, .int v2_19)] 19 [] := by
    intro v1_19 v2_19 d_19 aside_19 found_19 names_19 pile_19 h
    unfold fX12_when_19 at h
    obtain ⟨⟨v2_19r, d_19r, names_19r, pile_19r⟩, ho, h⟩ := bd_ex h
    have LE : WW p l e ({ frames := 6, cells := 0, slots := 0, locals := 142 } : Room) s m args below meth c D A 0 0 Q (wM cA ad d_19r kept aside_19 images found_19 base at0 size fault opened isRub names_19r code coded pile_19r needs traced traceMany who bitsOf sizeOf number lifted) 4 [(0, .ref (ad 0)), (1, .int v1_19), (2, .int v2_19r)] 48 [] := by
      intro H locs ls hP hD hS hv
      exact C_48 v1_19 v2_19r d_19r aside_19 found_19 names_19r pile_19r h _ _ _ hP hD hS (lv_sub hv [0, 1, 2] rfl)
    have LB : ∀ (nf : Nat) (v2_19b : Int32) (d_19b : Nat → Int32) (names_19b : Nat → Int32) (pile_19b : Nat → Int32), lp (fun σ : Int32 × (Nat → Int32) × (Nat → Int32) × (Nat → Int32) => fX12_when_19B v1_19 aside_19 found_19 (σ.1) (σ.2.1) (σ.2.2.1) (σ.2.2.2)) nf (v2_19b, d_19b, names_19b, pile_19b) = some (v2_19r, d_19r, names_19r, pile_19r) → WW p l e ({ frames := 6, cells := 0, slots := 0, locals := 142 } : Room) s m args below meth c D A 0 0 Q (wM cA ad d_19b kept aside_19 images found_19 base at0 size fault opened isRub names_19b code coded pile_19b needs traced traceMany who bitsOf sizeOf number lifted) 4 [(0, .ref (ad 0)), (1, .int v1_19), (2, .int v2_19b)] 19 [] := by
      intro nf
      induction nf with
      | zero => intro v2_19b d_19b names_19b pile_19b hl; cases hl
      | succ nf ih =>
        intro v2_19b d_19b names_19b pile_19b hl
        obtain ⟨x, h, hl⟩ := lp_ex hl
        have h : fX12_when_19B v1_19 aside_19 found_19 v2_19b d_19b names_19b pile_19b = some x := h
        unfold fX12_when_19B at h
        intro H locs ls hP hD hS hv
        refine lv_iload_n hx hb dX12_when_19 rfl (lv_at hv 2 rfl) ?_
        refine lv_bipush (v := (60 : Int32)) hx hb dX12_when_20 (by decide) ?_
        refine lv_icmp_ge (tgt := 48) hx hb dX12_when_22 (by decide) (fun c_14 => ?_) (fun c_14 => ?_)
        · have h := ite_t c_14 h
          cases h
          have hl : some (v2_19b, d_19b, names_19b, pile_19b) = some (v2_19r, d_19r, names_19r, pile_19r) := hl
          have hl := Option.some.inj hl
          have ee0 : v2_19b = v2_19r := congrArg (fun q => q.1) hl
          have ee1 : d_19b = d_19r := congrArg (fun q => q.2.1) hl
          have ee2 : names_19b = names_19r := congrArg (fun q => q.2.2.1) hl
          have ee3 : pile_19b = pile_19r := congrArg (fun q => q.2.2.2) hl
          subst ee0
          subst ee1
          subst ee2
          subst ee3
          exact LE _ _ _ hP hD hS (lv_sub hv [0, 1, 2] rfl)
        · have h := ite_f c_14 h
          refine lv_aload_n hx hb dX12_when_25 rfl (lv_at hv 0 rfl) ?_
          refine va_get (D := D) (ci := 12) (v := .ref (ad 1)) (C := RX12) (T := TX12) (N := 23) hx hb hts in_12 hown hK hP 0 rfl rfl 0 (by decide) w_0 (fun _ h9 => h9) rfl dX12_when_26 ?_
          refine lv_iconst (v := (2 : Int32)) hx hb dX12_when_29 (by decide) ?_
          obtain ⟨c_15, h⟩ := ckI_ex h
          refine va_iald (D := D) hx hb hK hP 1 0 rfl rfl c_15 dX12_when_30 ?_
          refine lv_iload_n hx hb dX12_when_31 rfl (lv_at hv 1 rfl) ?_
          refine lv_ishr hx hb dX12_when_32 ?_
          refine lv_iconst (v := (1 : Int32)) hx hb dX12_when_33 (by decide) ?_
          refine lv_iand hx hb dX12_when_34 ?_
          refine lv_if_ne (tgt := 48) hx hb dX12_when_35 (by decide) (fun c_16 => ?_) (fun c_16 => ?_)
          · have h := ite_f c_16 h
            cases h
            have hl : some (v2_19b, d_19b, names_19b, pile_19b) = some (v2_19r, d_19r, names_19r, pile_19r) := hl
            have hl := Option.some.inj hl
            have ee0 : v2_19b = v2_19r := congrArg (fun q => q.1) hl
            have ee1 : d_19b = d_19r := congrArg (fun q => q.2.1) hl
            have ee2 : names_19b = names_19r := congrArg (fun q => q.2.2.1) hl
            have ee3 : pile_19b = pile_19r := congrArg (fun q => q.2.2.2) hl
            subst ee0
            subst ee1
            subst ee2
            subst ee3
            exact LE _ _ _ hP hD hS (lv_sub hv [0, 1, 2] rfl)
          · have h := ite_t c_16 h
            refine lv_aload_n hx hb dX12_when_38 rfl (lv_at hv 0 rfl) ?_
            obtain ⟨⟨d_17, names_18, pile_19⟩, hf_20, h⟩ := bd_ex h
            have sb := Sb.same hP hD hS hA
            refine calV (va_runV (As := []) (rest := []) ⟨hx, hb, hml, hown, hts⟩ (c_X12_hourGoes l G D cA ad _ d_19b kept aside_19 images found_19 base at0 size fault opened isRub names_19b code coded pile_19b needs traced traceMany who bitsOf sizeOf number lifted d_17 names_18 pile_19 hf_20) (cwV 0 hts gX12_when_X12_hourGoes rfl rfl rfl (by decide +kernel) ⟨Nat.le_of_ble_eq_true rfl, Nat.le_of_ble_eq_true rfl⟩) (pvV hE hK hS sb (va_recv hK hP (ci := 12) (q0 := 0) rfl rfl)) rfl rfl hv.1 rfl (lv_room (Nat.le_of_ble_eq_true rfl)) dX12_when_39 ⟨Nat.le_of_ble_eq_true rfl, Nat.le_of_ble_eq_true rfl⟩) hS sb (Jn.same sb) (fun H locs hP hD hS => ?_)
            have hP : va_P D vwCl (wM cA ad d_17 kept aside_19 images found_19 base at0 size fault opened isRub names_18 code coded pile_19 needs traced traceMany who bitsOf sizeOf number lifted) H := hP
            have hD : va_D A (wM cA ad d_17 kept aside_19 images found_19 base at0 size fault opened isRub names_18 code coded pile_19 needs traced traceMany who bitsOf sizeOf number lifted) := hD
            obtain ⟨y_21, ey_21, h⟩ := bnd_ex h
            refine lv_iinc (v := y_21) (lv' := [(2, .int y_21), (0, .ref (ad 0)), (1, .int v1_19)]) hx hb dX12_when_42 hv (k := 2) rfl (by rw [ey_21]; rfl) (by decide) rfl (fun ls hv => ?_)
            refine lv_goto (tgt := 19) hx hb dX12_when_45 (by decide) ?_
            cases h
            exact ih y_21 d_17 names_18 pile_19 hl _ _ _ hP hD hS (lv_sub hv [1, 2, 0] rfl)
    exact LB FU v2_19 d_19 names_19 pile_19 ho
  have hP : va_P D vwCl (wM cA ad d kept aside images found base at0 size fault opened isRub names code coded pile needs traced traceMany who bitsOf sizeOf number lifted) H := hP
  unfold fX12_when at h
  refine lv_iload_n hx hb dX12_when_0 rfl (lv_at hv 1 rfl) ?_
  obtain ⟨r_1, hf_2, h⟩ := bd_ex h
  have sb := Sb.nil hP hD hS hA
  refine calI (va_runS (As := [.int a]) (rest := []) ⟨hx, hb, hml, hown, hts⟩ (c_X12_isWord l G D cA  _ a r_1 hf_2) (va_cwS 1 hts gX12_when_X12_isWord rfl rfl rfl (by decide +kernel) ⟨Nat.le_of_ble_eq_true rfl, Nat.le_of_ble_eq_true rfl⟩) (pvS hE hK hS sb) rfl rfl hv.1 rfl (lv_room (Nat.le_of_ble_eq_true rfl)) dX12_when_1 ⟨Nat.le_of_ble_eq_true rfl, Nat.le_of_ble_eq_true rfl⟩) hS sb (Jn.nil hP hD) (fun H locs hP hD hS => ?_)
  have hP : va_P D vwCl (wM cA ad d kept aside images found base at0 size fault opened isRub names code coded pile needs traced traceMany who bitsOf sizeOf number lifted) H := hP
  have hD : va_D A (wM cA ad d kept aside images found base at0 size fault opened isRub names code coded pile needs traced traceMany who bitsOf sizeOf number lifted) := hD
  refine lv_if_ne (tgt := 13) hx hb dX12_when_4 (by decide) (fun c_3 => ?_) (fun c_3 => ?_)
  · have h := ite_f c_3 h
    refine lv_aload_n hx hb dX12_when_13 rfl (lv_at hv 0 rfl) ?_
    obtain ⟨aside_4, hf_5, h⟩ := bd_ex h
    have sb := Sb.same hP hD hS hA
    refine calV (va_runV (As := []) (rest := []) ⟨hx, hb, hml, hown, hts⟩ (c_X12_keepAside l G D cA ad _ d kept aside images found base at0 size fault opened isRub names code coded pile needs traced traceMany who bitsOf sizeOf number lifted aside_4 hf_5) (cwV 0 hts gX12_when_X12_keepAside rfl rfl rfl (by decide +kernel) ⟨Nat.le_of_ble_eq_true rfl, Nat.le_of_ble_eq_true rfl⟩) (pvV hE hK hS sb (va_recv hK hP (ci := 12) (q0 := 0) rfl rfl)) rfl rfl hv.1 rfl (lv_room (Nat.le_of_ble_eq_true rfl)) dX12_when_14 ⟨Nat.le_of_ble_eq_true rfl, Nat.le_of_ble_eq_true rfl⟩) hS sb (Jn.same sb) (fun H locs hP hD hS => ?_)
    have hP : va_P D vwCl (wM cA ad d kept aside_4 images found base at0 size fault opened isRub names code coded pile needs traced traceMany who bitsOf sizeOf number lifted) H := hP
    have hD : va_D A (wM cA ad d kept aside_4 images found base at0 size fault opened isRub names code coded pile needs traced traceMany who bitsOf sizeOf number lifted) := hD
    refine lv_iconst (v := (0 : Int32)) hx hb dX12_when_17 (by decide) ?_
    refine lv_istore_n (lv' := [(2, .int (0 : Int32)), (0, .ref (ad 0)), (1, .int a)]) hx hb dX12_when_18 rfl hv (by decide) rfl (fun ls hv => ?_)
    exact C_19 a (0 : Int32) d aside_4 found names pile h _ _ _ hP hD hS (lv_sub hv [1, 2, 0] rfl)
  · have h := ite_t c_3 h
    refine lv_aload_n hx hb dX12_when_7 rfl (lv_at hv 0 rfl) ?_
    refine lv_iconst (v := (1 : Int32)) hx hb dX12_when_8 (by decide) ?_
    obtain ⟨⟨r_22, found_23⟩, hf_24, h⟩ := bd_ex h
    have sb := Sb.same hP hD hS hA
    refine calI (va_runV (As := [.int (1 : Int32)]) (rest := []) ⟨hx, hb, hml, hown, hts⟩ (c_X12_finds l G D cA ad _ d kept aside images found base at0 size fault opened isRub names code coded pile needs traced traceMany who bitsOf sizeOf number lifted (1 : Int32) r_22 found_23 hf_24) (cwV 1 hts gX12_when_X12_finds rfl rfl rfl (by decide +kernel) ⟨Nat.le_of_ble_eq_true rfl, Nat.le_of_ble_eq_true rfl⟩) (pvV hE hK hS sb (va_recv hK hP (ci := 12) (q0 := 0) rfl rfl)) rfl rfl hv.1 rfl (lv_room (Nat.le_of_ble_eq_true rfl)) dX12_when_9 ⟨Nat.le_of_ble_eq_true rfl, Nat.le_of_ble_eq_true rfl⟩) hS sb (Jn.same sb) (fun H locs hP hD hS => ?_)
    have hP : va_P D vwCl (wM cA ad d kept aside images found_23 base at0 size fault opened isRub names code coded pile needs traced traceMany who bitsOf sizeOf number lifted) H := hP
    have hD : va_D A (wM cA ad d kept aside images found_23 base at0 size fault opened isRub names code coded pile needs traced traceMany who bitsOf sizeOf number lifted) := hD
    have h := Option.some.inj h
    have ee0 : r_22 = rR := congrArg (fun q => q.1) h
    have ee1 : d = dR := congrArg (fun q => q.2.1) h
    have ee2 : aside = asideR := congrArg (fun q => q.2.2.1) h
    have ee3 : found_23 = foundR := congrArg (fun q => q.2.2.2.1) h
    have ee4 : names = namesR := congrArg (fun q => q.2.2.2.2.1) h
    have ee5 : pile = pileR := congrArg (fun q => q.2.2.2.2.2) h
    subst ee0
    subst ee1
    subst ee2
    subst ee3
    subst ee4
    subst ee5
    rw [← hQ]
    exact retI hx hb hr hlk hK hP hD hS dX12_when_12 ⟨Nat.le_of_ble_eq_true rfl, Nat.le_of_ble_eq_true rfl⟩

def fX12_lasts_44 (v1_44 : Int32) (v2_44 : Int32) (d_44 : Nat → Int32) (aside_44 : Nat → Int32) (found_44 : Nat → Int32) (names_44 : Nat → Int32) (pile_44 : Nat → Int32) : Option (Int32 × (Nat → Int32) × (Nat → Int32) × (Nat → Int32) × (Nat → Int32) × (Nat → Int32)) :=
  bd (fX12_isThrough v1_44 d_44) fun r_6 => bd (fX12_putBack d_44 aside_44) fun d_8 => (if r_6 = 0 then bd (fX12_finds (2 : Int32) found_44) fun (r_11, found_12) => some (r_11, d_8, aside_44, found_12, names_44, pile_44) else some (v2_44, d_8, aside_44, found_44, names_44, pile_44))
def fX12_lasts_20B (v1_20 : Int32) (aside_20 : Nat → Int32) (found_20 : Nat → Int32) (v2_20b : Int32) (d_20b : Nat → Int32) (names_20b : Nat → Int32) (pile_20b : Nat → Int32) : Option ((Int32 × (Nat → Int32) × (Nat → Int32) × (Nat → Int32)) ⊕ (Int32 × (Nat → Int32) × (Nat → Int32) × (Nat → Int32))) :=
  (if (60 : Int32) ≤ v2_20b then some (.inr (v2_20b, d_20b, names_20b, pile_20b)) else bd (fX12_isThrough v1_20 d_20b) fun r_15 => (if r_15 = 0 then bd (fX12_hourGoes d_20b names_20b pile_20b) fun (d_18, names_19, pile_20) => bnd (v2_20b + (1 : Int32)) fun y_22 => some (.inl (y_22, d_18, names_19, pile_20)) else some (.inr (v2_20b, d_20b, names_20b, pile_20b))))
def fX12_lasts_20 (v1_20 : Int32) (v2_20 : Int32) (d_20 : Nat → Int32) (aside_20 : Nat → Int32) (found_20 : Nat → Int32) (names_20 : Nat → Int32) (pile_20 : Nat → Int32) : Option (Int32 × (Nat → Int32) × (Nat → Int32) × (Nat → Int32) × (Nat → Int32) × (Nat → Int32)) :=
  bd (lp (fun σ : Int32 × (Nat → Int32) × (Nat → Int32) × (Nat → Int32) => fX12_lasts_20B v1_20 aside_20 found_20 (σ.1) (σ.2.1) (σ.2.2.1) (σ.2.2.2)) FU (v2_20, d_20, names_20, pile_20)) fun ρ => match ρ with | (v2_20r, d_20r, names_20r, pile_20r) => fX12_lasts_44 v1_20 v2_20r d_20r aside_20 found_20 names_20r pile_20r
def fX12_lasts (a : Int32) (d : Nat → Int32) (aside : Nat → Int32) (found : Nat → Int32) (names : Nat → Int32) (pile : Nat → Int32) : Option (Int32 × (Nat → Int32) × (Nat → Int32) × (Nat → Int32) × (Nat → Int32) × (Nat → Int32)) :=
  bd (fX12_isSpoon a d) fun r_1 => (if r_1 = 0 then bd (fX12_finds (1 : Int32) found) fun (r_23, found_24) => some (r_23, d, aside, found_24, names, pile) else bd (fX12_keepAside d aside) fun aside_4 => fX12_lasts_20 a (0 : Int32) d aside_4 found names pile)
set_option maxHeartbeats 4000000 in
set_option maxRecDepth 100000 in
theorem c_X12_lasts (l : Launch) (G : Nat → Nat) (D : va_G) (cA : Nat → ClassId) (ad : Nat → Nat) (sz : Nat) (d : Nat → Int32) (kept : Nat → Int32) (aside : Nat → Int32) (images : Int32) (found : Nat → Int32) (base : Int32) (at0 : Int32) (size : Int32) (fault : Int32) (opened : Int32) (isRub : Int32) (names : Nat → Int32) (code : Nat → Int32) (coded : Int32) (pile : Nat → Int32) (needs : Nat → Int32) (traced : Nat → Int32) (traceMany : Int32) (who : Int32) (bitsOf : Nat → Int32) (sizeOf : Nat → Int32) (number : Nat → Int32) (lifted : Nat → Int32) (a : Int32) (rR : Int32) (dR : Nat → Int32) (asideR : Nat → Int32) (foundR : Nat → Int32) (namesR : Nat → Int32) (pileR : Nat → Int32) (h : fX12_lasts a d aside found names pile = some (rR, dR, asideR, foundR, namesR, pileR)) : Met l yX12_lasts wsX12_lasts ({ frames := 6, cells := 0, slots := 0, locals := 142 } : Room) (PW G D (tyC cA) sz (wM cA ad d kept aside images found base at0 size fault opened isRub names code coded pile needs traced traceMany who bitsOf sizeOf number lifted) [.ref (ad 0), .int a]) (QI D (tyC cA) (va_A (wM cA ad d kept aside images found base at0 size fault opened isRub names code coded pile needs traced traceMany who bitsOf sizeOf number lifted) sz) rR (wM cA ad dR kept asideR images foundR base at0 size fault opened isRub namesR code coded pileR needs traced traceMany who bitsOf sizeOf number lifted)) 0 0 (va_A (wM cA ad d kept aside images found base at0 size fault opened isRub names code coded pile needs traced traceMany who bitsOf sizeOf number lifted) sz) := by
  refine ent (cc := cX12_lasts) (maxL := 4) (ret := (some .int)) (fun A => QI D (tyC cA) A rR (wM cA ad dR kept asideR images foundR base at0 size fault opened isRub namesR code coded pileR needs traced traceMany who bitsOf sizeOf number lifted)) (by decide +kernel) rfl (Nat.le_of_ble_eq_true rfl) ?_
  intro p e s m args below meth c A ls H hx hb hml hr hlk hts hown hA hK hE hP hD hS hv hmm
  have hv : lv_has ls 4 [(0, .ref (ad 0)), (1, .int a)] := hv
  generalize hQ : MQ below _ args s 0 0 A = Q
  have C_44 : ∀ (v1_44 : Int32) (v2_44 : Int32) (d_44 : Nat → Int32) (aside_44 : Nat → Int32) (found_44 : Nat → Int32) (names_44 : Nat → Int32) (pile_44 : Nat → Int32), fX12_lasts_44 v1_44 v2_44 d_44 aside_44 found_44 names_44 pile_44 = some (rR, dR, asideR, foundR, namesR, pileR) → WW p l e ({ frames := 6, cells := 0, slots := 0, locals := 142 } : Room) s m args below meth c D A 0 0 Q (wM cA ad d_44 kept aside_44 images found_44 base at0 size fault opened isRub names_44 code coded pile_44 needs traced traceMany who bitsOf sizeOf number lifted) 4 [(0, .ref (ad 0)), (1, .int v1_44), (2, .int v2_44)] 44 [] := by
    intro v1_44 v2_44 d_44 aside_44 found_44 names_44 pile_44 h
    unfold fX12_lasts_44 at h
    intro H locs ls hP hD hS hv
    refine lv_aload_n hx hb dX12_lasts_44 rfl (lv_at hv 0 rfl) ?_
    refine lv_iload_n hx hb dX12_lasts_45 rfl (lv_at hv 1 rfl) ?_
    obtain ⟨r_6, hf_7, h⟩ := bd_ex h
    have sb := Sb.same hP hD hS hA
    refine calI (va_runV (As := [.int v1_44]) (rest := []) ⟨hx, hb, hml, hown, hts⟩ (c_X12_isThrough l G D cA ad _ d_44 kept aside_44 images found_44 base at0 size fault opened isRub names_44 code coded pile_44 needs traced traceMany who bitsOf sizeOf number lifted v1_44 r_6 hf_7) (cwV 1 hts gX12_lasts_X12_isThrough rfl rfl rfl (by decide +kernel) ⟨Nat.le_of_ble_eq_true rfl, Nat.le_of_ble_eq_true rfl⟩) (pvV hE hK hS sb (va_recv hK hP (ci := 12) (q0 := 0) rfl rfl)) rfl rfl hv.1 rfl (lv_room (Nat.le_of_ble_eq_true rfl)) dX12_lasts_46 ⟨Nat.le_of_ble_eq_true rfl, Nat.le_of_ble_eq_true rfl⟩) hS sb (Jn.same sb) (fun H locs hP hD hS => ?_)
    have hP : va_P D vwCl (wM cA ad d_44 kept aside_44 images found_44 base at0 size fault opened isRub names_44 code coded pile_44 needs traced traceMany who bitsOf sizeOf number lifted) H := hP
    have hD : va_D A (wM cA ad d_44 kept aside_44 images found_44 base at0 size fault opened isRub names_44 code coded pile_44 needs traced traceMany who bitsOf sizeOf number lifted) := hD
    refine lv_istore_n (lv' := [(3, .int r_6), (0, .ref (ad 0)), (1, .int v1_44), (2, .int v2_44)]) hx hb dX12_lasts_49 rfl hv (by decide) rfl (fun ls hv => ?_)
    refine lv_aload_n hx hb dX12_lasts_50 rfl (lv_at hv 1 rfl) ?_
    obtain ⟨d_8, hf_9, h⟩ := bd_ex h
    have sb := Sb.same hP hD hS hA
    refine calV (va_runV (As := []) (rest := []) ⟨hx, hb, hml, hown, hts⟩ (c_X12_putBack l G D cA ad _ d_44 kept aside_44 images found_44 base at0 size fault opened isRub names_44 code coded pile_44 needs traced traceMany who bitsOf sizeOf number lifted d_8 hf_9) (cwV 0 hts gX12_lasts_X12_putBack rfl rfl rfl (by decide +kernel) ⟨Nat.le_of_ble_eq_true rfl, Nat.le_of_ble_eq_true rfl⟩) (pvV hE hK hS sb (va_recv hK hP (ci := 12) (q0 := 0) rfl rfl)) rfl rfl hv.1 rfl (lv_room (Nat.le_of_ble_eq_true rfl)) dX12_lasts_51 ⟨Nat.le_of_ble_eq_true rfl, Nat.le_of_ble_eq_true rfl⟩) hS sb (Jn.same sb) (fun H locs hP hD hS => ?_)
    have hP : va_P D vwCl (wM cA ad d_8 kept aside_44 images found_44 base at0 size fault opened isRub names_44 code coded pile_44 needs traced traceMany who bitsOf sizeOf number lifted) H := hP
    have hD : va_D A (wM cA ad d_8 kept aside_44 images found_44 base at0 size fault opened isRub names_44 code coded pile_44 needs traced traceMany who bitsOf sizeOf number lifted) := hD
    refine lv_iload_n hx hb dX12_lasts_54 rfl (lv_at hv 0 rfl) ?_
    refine lv_if_eq (tgt := 62) hx hb dX12_lasts_55 (by decide) (fun c_10 => ?_) (fun c_10 => ?_)
    · have h := ite_t c_10 h
      refine lv_aload_n hx hb dX12_lasts_62 rfl (lv_at hv 1 rfl) ?_
      refine lv_iconst (v := (2 : Int32)) hx hb dX12_lasts_63 (by decide) ?_
      obtain ⟨⟨r_11, found_12⟩, hf_13, h⟩ := bd_ex h
      have sb := Sb.same hP hD hS hA
      refine calI (va_runV (As := [.int (2 : Int32)]) (rest := []) ⟨hx, hb, hml, hown, hts⟩ (c_X12_finds l G D cA ad _ d_8 kept aside_44 images found_44 base at0 size fault opened isRub names_44 code coded pile_44 needs traced traceMany who bitsOf sizeOf number lifted (2 : Int32) r_11 found_12 hf_13) (cwV 1 hts gX12_lasts_X12_finds rfl rfl rfl (by decide +kernel) ⟨Nat.le_of_ble_eq_true rfl, Nat.le_of_ble_eq_true rfl⟩) (pvV hE hK hS sb (va_recv hK hP (ci := 12) (q0 := 0) rfl rfl)) rfl rfl hv.1 rfl (lv_room (Nat.le_of_ble_eq_true rfl)) dX12_lasts_64 ⟨Nat.le_of_ble_eq_true rfl, Nat.le_of_ble_eq_true rfl⟩) hS sb (Jn.same sb) (fun H locs hP hD hS => ?_)
      have hP : va_P D vwCl (wM cA ad d_8 kept aside_44 images found_12 base at0 size fault opened isRub names_44 code coded pile_44 needs traced traceMany who bitsOf sizeOf number lifted) H := hP
      have hD : va_D A (wM cA ad d_8 kept aside_44 images found_12 base at0 size fault opened isRub names_44 code coded pile_44 needs traced traceMany who bitsOf sizeOf number lifted) := hD
      have h := Option.some.inj h
      have ee0 : r_11 = rR := congrArg (fun q => q.1) h
      have ee1 : d_8 = dR := congrArg (fun q => q.2.1) h
      have ee2 : aside_44 = asideR := congrArg (fun q => q.2.2.1) h
      have ee3 : found_12 = foundR := congrArg (fun q => q.2.2.2.1) h
      have ee4 : names_44 = namesR := congrArg (fun q => q.2.2.2.2.1) h
      have ee5 : pile_44 = pileR := congrArg (fun q => q.2.2.2.2.2) h
      subst ee0
      subst ee1
      subst ee2
      subst ee3
      subst ee4
      subst ee5
      rw [← hQ]
      exact retI hx hb hr hlk hK hP hD hS dX12_lasts_67 ⟨Nat.le_of_ble_eq_true rfl, Nat.le_of_ble_eq_true rfl⟩
    · have h := ite_f c_10 h
      refine lv_iload_n hx hb dX12_lasts_58 rfl (lv_at hv 3 rfl) ?_
      refine lv_goto (tgt := 67) hx hb dX12_lasts_59 (by decide) ?_
      have h := Option.some.inj h
      have ee0 : v2_44 = rR := congrArg (fun q => q.1) h
      have ee1 : d_8 = dR := congrArg (fun q => q.2.1) h
      have ee2 : aside_44 = asideR := congrArg (fun q => q.2.2.1) h
      have ee3 : found_44 = foundR := congrArg (fun q => q.2.2.2.1) h
      have ee4 : names_44 = namesR := congrArg (fun q => q.2.2.2.2.1) h
      have ee5 : pile_44 = pileR := congrArg (fun q => q.2.2.2.2.2) h
      subst ee0
      subst ee1
      subst ee2
      subst ee3
      subst ee4
      subst ee5
      rw [← hQ]
      exact retI hx hb hr hlk hK hP hD hS dX12_lasts_67 ⟨Nat.le_of_ble_eq_true rfl, Nat.le_of_ble_eq_true rfl⟩
  have C_20 : ∀ (v1_20 : Int32) (v2_20 : Int32) (d_20 : Nat → Int32) (aside_20 : Nat → Int32) (found_20 : Nat → Int32) (names_20 : Nat → Int32) (pile_20 : Nat → Int32), fX12_lasts_20 v1_20 v2_20 d_20 aside_20 found_20 names_20 pile_20 = some (rR, dR, asideR, foundR, namesR, pileR) → WW p l e ({ frames := 6, cells := 0, slots := 0, locals := 142 } : Room) s m args below meth c D A 0 0 Q (wM cA ad d_20 kept aside_20 images found_20 base at0 size fault opened isRub names_20 code coded pile_20 needs traced traceMany who bitsOf sizeOf number lifted) 4 [(0, .ref (ad 0)), (1, .int v1_20), (2, .int v2_20)] 20 [] := by
    intro v1_20 v2_20 d_20 aside_20 found_20 names_20 pile_20 h
    unfold fX12_lasts_20 at h
    obtain ⟨⟨v2_20r, d_20r, names_20r, pile_20r⟩, ho, h⟩ := bd_ex h
    have LE : WW p l e ({ frames := 6, cells := 0, slots := 0, locals := 142 } : Room) s m args below meth c D A 0 0 Q (wM cA ad d_20r kept aside_20 images found_20 base at0 size fault opened isRub names_20r code coded pile_20r needs traced traceMany who bitsOf sizeOf number lifted) 4 [(0, .ref (ad 0)), (1, .int v1_20), (2, .int v2_20r)] 44 [] := by
      intro H locs ls hP hD hS hv
      exact C_44 v1_20 v2_20r d_20r aside_20 found_20 names_20r pile_20r h _ _ _ hP hD hS (lv_sub hv [0, 1, 2] rfl)
    have LB : ∀ (nf : Nat) (v2_20b : Int32) (d_20b : Nat → Int32) (names_20b : Nat → Int32) (pile_20b : Nat → Int32), lp (fun σ : Int32 × (Nat → Int32) × (Nat → Int32) × (Nat → Int32) => fX12_lasts_20B v1_20 aside_20 found_20 (σ.1) (σ.2.1) (σ.2.2.1) (σ.2.2.2)) nf (v2_20b, d_20b, names_20b, pile_20b) = some (v2_20r, d_20r, names_20r, pile_20r) → WW p l e ({ frames := 6, cells := 0, slots := 0, locals := 142 } : Room) s m args below meth c D A 0 0 Q (wM cA ad d_20b kept aside_20 images found_20 base at0 size fault opened isRub names_20b code coded pile_20b needs traced traceMany who bitsOf sizeOf number lifted) 4 [(0, .ref (ad 0)), (1, .int v1_20), (2, .int v2_20b)] 20 [] := by
      intro nf
      induction nf with
      | zero => intro v2_20b d_20b names_20b pile_20b hl; cases hl
      | succ nf ih =>
        intro v2_20b d_20b names_20b pile_20b hl
        obtain ⟨x, h, hl⟩ := lp_ex hl
        have h : fX12_lasts_20B v1_20 aside_20 found_20 v2_20b d_20b names_20b pile_20b = some x := h
        unfold fX12_lasts_20B at h
        intro H locs ls hP hD hS hv
        refine lv_iload_n hx hb dX12_lasts_20 rfl (lv_at hv 2 rfl) ?_
        refine lv_bipush (v := (60 : Int32)) hx hb dX12_lasts_21 (by decide) ?_
        refine lv_icmp_ge (tgt := 44) hx hb dX12_lasts_23 (by decide) (fun c_14 => ?_) (fun c_14 => ?_)
        · have h := ite_t c_14 h
          cases h
          have hl : some (v2_20b, d_20b, names_20b, pile_20b) = some (v2_20r, d_20r, names_20r, pile_20r) := hl
          have hl := Option.some.inj hl
          have ee0 : v2_20b = v2_20r := congrArg (fun q => q.1) hl
          have ee1 : d_20b = d_20r := congrArg (fun q => q.2.1) hl
          have ee2 : names_20b = names_20r := congrArg (fun q => q.2.2.1) hl
          have ee3 : pile_20b = pile_20r := congrArg (fun q => q.2.2.2) hl
          subst ee0
          subst ee1
          subst ee2
          subst ee3
          exact LE _ _ _ hP hD hS (lv_sub hv [0, 1, 2] rfl)
        · have h := ite_f c_14 h
          refine lv_aload_n hx hb dX12_lasts_26 rfl (lv_at hv 0 rfl) ?_
          refine lv_iload_n hx hb dX12_lasts_27 rfl (lv_at hv 1 rfl) ?_
          obtain ⟨r_15, hf_16, h⟩ := bd_ex h
          have sb := Sb.same hP hD hS hA
          refine calI (va_runV (As := [.int v1_20]) (rest := []) ⟨hx, hb, hml, hown, hts⟩ (c_X12_isThrough l G D cA ad _ d_20b kept aside_20 images found_20 base at0 size fault opened isRub names_20b code coded pile_20b needs traced traceMany who bitsOf sizeOf number lifted v1_20 r_15 hf_16) (cwV 1 hts gX12_lasts_X12_isThrough rfl rfl rfl (by decide +kernel) ⟨Nat.le_of_ble_eq_true rfl, Nat.le_of_ble_eq_true rfl⟩) (pvV hE hK hS sb (va_recv hK hP (ci := 12) (q0 := 0) rfl rfl)) rfl rfl hv.1 rfl (lv_room (Nat.le_of_ble_eq_true rfl)) dX12_lasts_28 ⟨Nat.le_of_ble_eq_true rfl, Nat.le_of_ble_eq_true rfl⟩) hS sb (Jn.same sb) (fun H locs hP hD hS => ?_)
          have hP : va_P D vwCl (wM cA ad d_20b kept aside_20 images found_20 base at0 size fault opened isRub names_20b code coded pile_20b needs traced traceMany who bitsOf sizeOf number lifted) H := hP
          have hD : va_D A (wM cA ad d_20b kept aside_20 images found_20 base at0 size fault opened isRub names_20b code coded pile_20b needs traced traceMany who bitsOf sizeOf number lifted) := hD
          refine lv_if_ne (tgt := 44) hx hb dX12_lasts_31 (by decide) (fun c_17 => ?_) (fun c_17 => ?_)
          · have h := ite_f c_17 h
            cases h
            have hl : some (v2_20b, d_20b, names_20b, pile_20b) = some (v2_20r, d_20r, names_20r, pile_20r) := hl
            have hl := Option.some.inj hl
            have ee0 : v2_20b = v2_20r := congrArg (fun q => q.1) hl
            have ee1 : d_20b = d_20r := congrArg (fun q => q.2.1) hl
            have ee2 : names_20b = names_20r := congrArg (fun q => q.2.2.1) hl
            have ee3 : pile_20b = pile_20r := congrArg (fun q => q.2.2.2) hl
            subst ee0
            subst ee1
            subst ee2
            subst ee3
            exact LE _ _ _ hP hD hS (lv_sub hv [0, 1, 2] rfl)
          · have h := ite_t c_17 h
            refine lv_aload_n hx hb dX12_lasts_34 rfl (lv_at hv 0 rfl) ?_
            obtain ⟨⟨d_18, names_19, pile_20⟩, hf_21, h⟩ := bd_ex h
            have sb := Sb.same hP hD hS hA
            refine calV (va_runV (As := []) (rest := []) ⟨hx, hb, hml, hown, hts⟩ (c_X12_hourGoes l G D cA ad _ d_20b kept aside_20 images found_20 base at0 size fault opened isRub names_20b code coded pile_20b needs traced traceMany who bitsOf sizeOf number lifted d_18 names_19 pile_20 hf_21) (cwV 0 hts gX12_lasts_X12_hourGoes rfl rfl rfl (by decide +kernel) ⟨Nat.le_of_ble_eq_true rfl, Nat.le_of_ble_eq_true rfl⟩) (pvV hE hK hS sb (va_recv hK hP (ci := 12) (q0 := 0) rfl rfl)) rfl rfl hv.1 rfl (lv_room (Nat.le_of_ble_eq_true rfl)) dX12_lasts_35 ⟨Nat.le_of_ble_eq_true rfl, Nat.le_of_ble_eq_true rfl⟩) hS sb (Jn.same sb) (fun H locs hP hD hS => ?_)
            have hP : va_P D vwCl (wM cA ad d_18 kept aside_20 images found_20 base at0 size fault opened isRub names_19 code coded pile_20 needs traced traceMany who bitsOf sizeOf number lifted) H := hP
            have hD : va_D A (wM cA ad d_18 kept aside_20 images found_20 base at0 size fault opened isRub names_19 code coded pile_20 needs traced traceMany who bitsOf sizeOf number lifted) := hD
            obtain ⟨y_22, ey_22, h⟩ := bnd_ex h
            refine lv_iinc (v := y_22) (lv' := [(2, .int y_22), (0, .ref (ad 0)), (1, .int v1_20)]) hx hb dX12_lasts_38 hv (k := 2) rfl (by rw [ey_22]; rfl) (by decide) rfl (fun ls hv => ?_)
            refine lv_goto (tgt := 20) hx hb dX12_lasts_41 (by decide) ?_
            cases h
            exact ih y_22 d_18 names_19 pile_20 hl _ _ _ hP hD hS (lv_sub hv [1, 2, 0] rfl)
    exact LB FU v2_20 d_20 names_20 pile_20 ho
  have hP : va_P D vwCl (wM cA ad d kept aside images found base at0 size fault opened isRub names code coded pile needs traced traceMany who bitsOf sizeOf number lifted) H := hP
  unfold fX12_lasts at h
  refine lv_aload_n hx hb dX12_lasts_0 rfl (lv_at hv 0 rfl) ?_
  refine lv_iload_n hx hb dX12_lasts_1 rfl (lv_at hv 1 rfl) ?_
  obtain ⟨r_1, hf_2, h⟩ := bd_ex h
  have sb := Sb.same hP hD hS hA
  refine calI (va_runV (As := [.int a]) (rest := []) ⟨hx, hb, hml, hown, hts⟩ (c_X12_isSpoon l G D cA ad _ d kept aside images found base at0 size fault opened isRub names code coded pile needs traced traceMany who bitsOf sizeOf number lifted a r_1 hf_2) (cwV 1 hts gX12_lasts_X12_isSpoon rfl rfl rfl (by decide +kernel) ⟨Nat.le_of_ble_eq_true rfl, Nat.le_of_ble_eq_true rfl⟩) (pvV hE hK hS sb (va_recv hK hP (ci := 12) (q0 := 0) rfl rfl)) rfl rfl hv.1 rfl (lv_room (Nat.le_of_ble_eq_true rfl)) dX12_lasts_2 ⟨Nat.le_of_ble_eq_true rfl, Nat.le_of_ble_eq_true rfl⟩) hS sb (Jn.same sb) (fun H locs hP hD hS => ?_)
  have hP : va_P D vwCl (wM cA ad d kept aside images found base at0 size fault opened isRub names code coded pile needs traced traceMany who bitsOf sizeOf number lifted) H := hP
  have hD : va_D A (wM cA ad d kept aside images found base at0 size fault opened isRub names code coded pile needs traced traceMany who bitsOf sizeOf number lifted) := hD
  refine lv_if_ne (tgt := 14) hx hb dX12_lasts_5 (by decide) (fun c_3 => ?_) (fun c_3 => ?_)
  · have h := ite_f c_3 h
    refine lv_aload_n hx hb dX12_lasts_14 rfl (lv_at hv 0 rfl) ?_
    obtain ⟨aside_4, hf_5, h⟩ := bd_ex h
    have sb := Sb.same hP hD hS hA
    refine calV (va_runV (As := []) (rest := []) ⟨hx, hb, hml, hown, hts⟩ (c_X12_keepAside l G D cA ad _ d kept aside images found base at0 size fault opened isRub names code coded pile needs traced traceMany who bitsOf sizeOf number lifted aside_4 hf_5) (cwV 0 hts gX12_lasts_X12_keepAside rfl rfl rfl (by decide +kernel) ⟨Nat.le_of_ble_eq_true rfl, Nat.le_of_ble_eq_true rfl⟩) (pvV hE hK hS sb (va_recv hK hP (ci := 12) (q0 := 0) rfl rfl)) rfl rfl hv.1 rfl (lv_room (Nat.le_of_ble_eq_true rfl)) dX12_lasts_15 ⟨Nat.le_of_ble_eq_true rfl, Nat.le_of_ble_eq_true rfl⟩) hS sb (Jn.same sb) (fun H locs hP hD hS => ?_)
    have hP : va_P D vwCl (wM cA ad d kept aside_4 images found base at0 size fault opened isRub names code coded pile needs traced traceMany who bitsOf sizeOf number lifted) H := hP
    have hD : va_D A (wM cA ad d kept aside_4 images found base at0 size fault opened isRub names code coded pile needs traced traceMany who bitsOf sizeOf number lifted) := hD
    refine lv_iconst (v := (0 : Int32)) hx hb dX12_lasts_18 (by decide) ?_
    refine lv_istore_n (lv' := [(2, .int (0 : Int32)), (0, .ref (ad 0)), (1, .int a)]) hx hb dX12_lasts_19 rfl hv (by decide) rfl (fun ls hv => ?_)
    exact C_20 a (0 : Int32) d aside_4 found names pile h _ _ _ hP hD hS (lv_sub hv [1, 2, 0] rfl)
  · have h := ite_t c_3 h
    refine lv_aload_n hx hb dX12_lasts_8 rfl (lv_at hv 0 rfl) ?_
    refine lv_iconst (v := (1 : Int32)) hx hb dX12_lasts_9 (by decide) ?_
    obtain ⟨⟨r_23, found_24⟩, hf_25, h⟩ := bd_ex h
    have sb := Sb.same hP hD hS hA
    refine calI (va_runV (As := [.int (1 : Int32)]) (rest := []) ⟨hx, hb, hml, hown, hts⟩ (c_X12_finds l G D cA ad _ d kept aside images found base at0 size fault opened isRub names code coded pile needs traced traceMany who bitsOf sizeOf number lifted (1 : Int32) r_23 found_24 hf_25) (cwV 1 hts gX12_lasts_X12_finds rfl rfl rfl (by decide +kernel) ⟨Nat.le_of_ble_eq_true rfl, Nat.le_of_ble_eq_true rfl⟩) (pvV hE hK hS sb (va_recv hK hP (ci := 12) (q0 := 0) rfl rfl)) rfl rfl hv.1 rfl (lv_room (Nat.le_of_ble_eq_true rfl)) dX12_lasts_10 ⟨Nat.le_of_ble_eq_true rfl, Nat.le_of_ble_eq_true rfl⟩) hS sb (Jn.same sb) (fun H locs hP hD hS => ?_)
    have hP : va_P D vwCl (wM cA ad d kept aside images found_24 base at0 size fault opened isRub names code coded pile needs traced traceMany who bitsOf sizeOf number lifted) H := hP
    have hD : va_D A (wM cA ad d kept aside images found_24 base at0 size fault opened isRub names code coded pile needs traced traceMany who bitsOf sizeOf number lifted) := hD
    have h := Option.some.inj h
    have ee0 : r_23 = rR := congrArg (fun q => q.1) h
    have ee1 : d = dR := congrArg (fun q => q.2.1) h
    have ee2 : aside = asideR := congrArg (fun q => q.2.2.1) h
    have ee3 : found_24 = foundR := congrArg (fun q => q.2.2.2.1) h
    have ee4 : names = namesR := congrArg (fun q => q.2.2.2.2.1) h
    have ee5 : pile = pileR := congrArg (fun q => q.2.2.2.2.2) h
    subst ee0
    subst ee1
    subst ee2
    subst ee3
    subst ee4
    subst ee5
    rw [← hQ]
    exact retI hx hb hr hlk hK hP hD hS dX12_lasts_13 ⟨Nat.le_of_ble_eq_true rfl, Nat.le_of_ble_eq_true rfl⟩

def fX12_silverFor_58 (v1_27 : Int32) (v2_27 : Int32) (v3_58 : Int32) (k0_58 : Int32) (d_58 : Nat → Int32) (aside_27 : Nat → Int32) (found_27 : Nat → Int32) (names_58 : Nat → Int32) (pile_58 : Nat → Int32) : Option ((Int32 × (Nat → Int32) × (Nat → Int32) × (Nat → Int32)) ⊕ ((Int32 × (Nat → Int32) × (Nat → Int32) × (Nat → Int32)) ⊕ (Int32 × (Nat → Int32) × (Nat → Int32) × (Nat → Int32) × (Nat → Int32) × (Nat → Int32)))) :=
  bd (fX12_putBack d_58 aside_27) fun d_25 => (if k0_58 = 0 then bnd (v3_58 + (1 : Int32)) fun y_28 => some (.inl (y_28, d_25, names_58, pile_58)) else some (.inr (.inr (v3_58, d_25, aside_27, found_27, names_58, pile_58))))
def fX12_silverFor_27B (v1_27 : Int32) (v2_27 : Int32) (aside_27 : Nat → Int32) (found_27 : Nat → Int32) (v3_27b : Int32) (d_27b : Nat → Int32) (names_27b : Nat → Int32) (pile_27b : Nat → Int32) : Option ((Int32 × (Nat → Int32) × (Nat → Int32) × (Nat → Int32)) ⊕ ((Int32 × (Nat → Int32) × (Nat → Int32) × (Nat → Int32)) ⊕ (Int32 × (Nat → Int32) × (Nat → Int32) × (Nat → Int32) × (Nat → Int32) × (Nat → Int32)))) :=
  (if (99 : Int32) < v3_27b then some (.inr (.inl (v3_27b, d_27b, names_27b, pile_27b))) else bd (fX12_sets v1_27 (2 : Int32) v3_27b d_27b) fun d_16 => bd (fX12_hoursGo v2_27 d_16 names_27b pile_27b) fun (d_18, names_19, pile_20) => bd (fX12_isThrough v1_27 d_18) fun r_22 => (if r_22 = 0 then fX12_silverFor_58 v1_27 v2_27 v3_27b (1 : Int32) d_18 aside_27 found_27 names_19 pile_20 else fX12_silverFor_58 v1_27 v2_27 v3_27b (0 : Int32) d_18 aside_27 found_27 names_19 pile_20))
def fX12_silverFor_27 (v1_27 : Int32) (v2_27 : Int32) (v3_27 : Int32) (d_27 : Nat → Int32) (aside_27 : Nat → Int32) (found_27 : Nat → Int32) (names_27 : Nat → Int32) (pile_27 : Nat → Int32) : Option (Int32 × (Nat → Int32) × (Nat → Int32) × (Nat → Int32) × (Nat → Int32) × (Nat → Int32)) :=
  bd (lp (fun σ : Int32 × (Nat → Int32) × (Nat → Int32) × (Nat → Int32) => fX12_silverFor_27B v1_27 v2_27 aside_27 found_27 (σ.1) (σ.2.1) (σ.2.2.1) (σ.2.2.2)) FU (v3_27, d_27, names_27, pile_27)) fun ρ => match ρ with | .inl (v3_27r, d_27r, names_27r, pile_27r) => bd (fX12_finds (2 : Int32) found_27) fun (r_12, found_13) => some (r_12, d_27r, aside_27, found_13, names_27r, pile_27r) | .inr q => some q
def fX12_silverFor (a : Int32) (n : Int32) (d : Nat → Int32) (aside : Nat → Int32) (found : Nat → Int32) (names : Nat → Int32) (pile : Nat → Int32) : Option (Int32 × (Nat → Int32) × (Nat → Int32) × (Nat → Int32) × (Nat → Int32) × (Nat → Int32)) :=
  bd (fX12_isSpoon a d) fun r_1 => (if r_1 = 0 then bd (fX12_finds (1 : Int32) found) fun (r_4, found_5) => some (r_4, d, aside, found_5, names, pile) else bd (fX12_isAhead n) fun r_7 => (if r_7 = 0 then bd (fX12_finds (1 : Int32) found) fun (r_29, found_30) => some (r_29, d, aside, found_30, names, pile) else bd (fX12_keepAside d aside) fun aside_10 => fX12_silverFor_27 a n (1 : Int32) d aside_10 found names pile))
set_option maxHeartbeats 4000000 in
set_option maxRecDepth 100000 in
theorem c_X12_silverFor (l : Launch) (G : Nat → Nat) (D : va_G) (cA : Nat → ClassId) (ad : Nat → Nat) (sz : Nat) (d : Nat → Int32) (kept : Nat → Int32) (aside : Nat → Int32) (images : Int32) (found : Nat → Int32) (base : Int32) (at0 : Int32) (size : Int32) (fault : Int32) (opened : Int32) (isRub : Int32) (names : Nat → Int32) (code : Nat → Int32) (coded : Int32) (pile : Nat → Int32) (needs : Nat → Int32) (traced : Nat → Int32) (traceMany : Int32) (who : Int32) (bitsOf : Nat → Int32) (sizeOf : Nat → Int32) (number : Nat → Int32) (lifted : Nat → Int32) (a : Int32) (n : Int32) (rR : Int32) (dR : Nat → Int32) (asideR : Nat → Int32) (foundR : Nat → Int32) (namesR : Nat → Int32) (pileR : Nat → Int32) (h : fX12_silverFor a n d aside found names pile = some (rR, dR, asideR, foundR, namesR, pileR)) : Met l yX12_silverFor wsX12_silverFor ({ frames := 7, cells := 0, slots := 0, locals := 164 } : Room) (PW G D (tyC cA) sz (wM cA ad d kept aside images found base at0 size fault opened isRub names code coded pile needs traced traceMany who bitsOf sizeOf number lifted) [.ref (ad 0), .int a, .int n]) (QI D (tyC cA) (va_A (wM cA ad d kept aside images found base at0 size fault opened isRub names code coded pile needs traced traceMany who bitsOf sizeOf number lifted) sz) rR (wM cA ad dR kept asideR images foundR base at0 size fault opened isRub namesR code coded pileR needs traced traceMany who bitsOf sizeOf number lifted)) 0 0 (va_A (wM cA ad d kept aside images found base at0 size fault opened isRub names code coded pile needs traced traceMany who bitsOf sizeOf number lifted) sz) := by
  refine ent (cc := cX12_silverFor) (maxL := 5) (ret := (some .int)) (fun A => QI D (tyC cA) A rR (wM cA ad dR kept asideR images foundR base at0 size fault opened isRub namesR code coded pileR needs traced traceMany who bitsOf sizeOf number lifted)) (by decide +kernel) rfl (Nat.le_of_ble_eq_true rfl) ?_
  intro p e s m args below meth c A ls H hx hb hml hr hlk hts hown hA hK hE hP hD hS hv hmm
  have hv : lv_has ls 5 [(0, .ref (ad 0)), (1, .int a), (2, .int n)] := hv
  generalize hQ : MQ below _ args s 0 0 A = Q
  have C_27 : ∀ (v1_27 : Int32) (v2_27 : Int32) (v3_27 : Int32) (d_27 : Nat → Int32) (aside_27 : Nat → Int32) (found_27 : Nat → Int32) (names_27 : Nat → Int32) (pile_27 : Nat → Int32), fX12_silverFor_27 v1_27 v2_27 v3_27 d_27 aside_27 found_27 names_27 pile_27 = some (rR, dR, asideR, foundR, namesR, pileR) → WW p l e ({ frames := 7, cells := 0, slots := 0, locals := 164 } : Room) s m args below meth c D A 0 0 Q (wM cA ad d_27 kept aside_27 images found_27 base at0 size fault opened isRub names_27 code coded pile_27 needs traced traceMany who bitsOf sizeOf number lifted) 5 [(0, .ref (ad 0)), (1, .int v1_27), (2, .int v2_27), (3, .int v3_27)] 27 [] := by
    intro v1_27 v2_27 v3_27 d_27 aside_27 found_27 names_27 pile_27 h
    unfold fX12_silverFor_27 at h
    obtain ⟨ρ, ho, h⟩ := bd_ex h
    have LR : ∀ q, ρ = .inr q → q = (rR, dR, asideR, foundR, namesR, pileR) := by intro q e; subst e; exact Option.some.inj h
    have LE : ∀ (v3_27r : Int32) (d_27r : Nat → Int32) (names_27r : Nat → Int32) (pile_27r : Nat → Int32), ρ = .inl (v3_27r, d_27r, names_27r, pile_27r) → WW p l e ({ frames := 7, cells := 0, slots := 0, locals := 164 } : Room) s m args below meth c D A 0 0 Q (wM cA ad d_27r kept aside_27 images found_27 base at0 size fault opened isRub names_27r code coded pile_27r needs traced traceMany who bitsOf sizeOf number lifted) 5 [(0, .ref (ad 0))] 77 [] := by
      intro v3_27r d_27r names_27r pile_27r e
      subst e
      intro H locs ls hP hD hS hv
      refine lv_aload_n hx hb dX12_silverFor_77 rfl (lv_at hv 0 rfl) ?_
      refine lv_iconst (v := (2 : Int32)) hx hb dX12_silverFor_78 (by decide) ?_
      obtain ⟨⟨r_12, found_13⟩, hf_14, h⟩ := bd_ex h
      have sb := Sb.same hP hD hS hA
      refine calI (va_runV (As := [.int (2 : Int32)]) (rest := []) ⟨hx, hb, hml, hown, hts⟩ (c_X12_finds l G D cA ad _ d_27r kept aside_27 images found_27 base at0 size fault opened isRub names_27r code coded pile_27r needs traced traceMany who bitsOf sizeOf number lifted (2 : Int32) r_12 found_13 hf_14) (cwV 1 hts gX12_silverFor_X12_finds rfl rfl rfl (by decide +kernel) ⟨Nat.le_of_ble_eq_true rfl, Nat.le_of_ble_eq_true rfl⟩) (pvV hE hK hS sb (va_recv hK hP (ci := 12) (q0 := 0) rfl rfl)) rfl rfl hv.1 rfl (lv_room (Nat.le_of_ble_eq_true rfl)) dX12_silverFor_79 ⟨Nat.le_of_ble_eq_true rfl, Nat.le_of_ble_eq_true rfl⟩) hS sb (Jn.same sb) (fun H locs hP hD hS => ?_)
      have hP : va_P D vwCl (wM cA ad d_27r kept aside_27 images found_13 base at0 size fault opened isRub names_27r code coded pile_27r needs traced traceMany who bitsOf sizeOf number lifted) H := hP
      have hD : va_D A (wM cA ad d_27r kept aside_27 images found_13 base at0 size fault opened isRub names_27r code coded pile_27r needs traced traceMany who bitsOf sizeOf number lifted) := hD
      have h := Option.some.inj h
      have ee0 : r_12 = rR := congrArg (fun q => q.1) h
      have ee1 : d_27r = dR := congrArg (fun q => q.2.1) h
      have ee2 : aside_27 = asideR := congrArg (fun q => q.2.2.1) h
      have ee3 : found_13 = foundR := congrArg (fun q => q.2.2.2.1) h
      have ee4 : names_27r = namesR := congrArg (fun q => q.2.2.2.2.1) h
      have ee5 : pile_27r = pileR := congrArg (fun q => q.2.2.2.2.2) h
      subst ee0
      subst ee1
      subst ee2
      subst ee3
      subst ee4
      subst ee5
      rw [← hQ]
      exact retI hx hb hr hlk hK hP hD hS dX12_silverFor_82 ⟨Nat.le_of_ble_eq_true rfl, Nat.le_of_ble_eq_true rfl⟩
    have LB : ∀ (nf : Nat) (v3_27b : Int32) (d_27b : Nat → Int32) (names_27b : Nat → Int32) (pile_27b : Nat → Int32), lp (fun σ : Int32 × (Nat → Int32) × (Nat → Int32) × (Nat → Int32) => fX12_silverFor_27B v1_27 v2_27 aside_27 found_27 (σ.1) (σ.2.1) (σ.2.2.1) (σ.2.2.2)) nf (v3_27b, d_27b, names_27b, pile_27b) = some ρ → WW p l e ({ frames := 7, cells := 0, slots := 0, locals := 164 } : Room) s m args below meth c D A 0 0 Q (wM cA ad d_27b kept aside_27 images found_27 base at0 size fault opened isRub names_27b code coded pile_27b needs traced traceMany who bitsOf sizeOf number lifted) 5 [(0, .ref (ad 0)), (1, .int v1_27), (2, .int v2_27), (3, .int v3_27b)] 27 [] := by
      intro nf
      induction nf with
      | zero => intro v3_27b d_27b names_27b pile_27b hl; cases hl
      | succ nf ih =>
        intro v3_27b d_27b names_27b pile_27b hl
        obtain ⟨x, h, hl⟩ := lp_ex hl
        have h : fX12_silverFor_27B v1_27 v2_27 aside_27 found_27 v3_27b d_27b names_27b pile_27b = some x := h
        unfold fX12_silverFor_27B at h
        have C_58 : ∀ (v3_58 : Int32) (k0_58 : Int32) (d_58 : Nat → Int32) (names_58 : Nat → Int32) (pile_58 : Nat → Int32) (x : (Int32 × (Nat → Int32) × (Nat → Int32) × (Nat → Int32)) ⊕ ((Int32 × (Nat → Int32) × (Nat → Int32) × (Nat → Int32)) ⊕ (Int32 × (Nat → Int32) × (Nat → Int32) × (Nat → Int32) × (Nat → Int32) × (Nat → Int32)))), fX12_silverFor_58 v1_27 v2_27 v3_58 k0_58 d_58 aside_27 found_27 names_58 pile_58 = some x → lpk (fun σ : Int32 × (Nat → Int32) × (Nat → Int32) × (Nat → Int32) => fX12_silverFor_27B v1_27 v2_27 aside_27 found_27 (σ.1) (σ.2.1) (σ.2.2.1) (σ.2.2.2)) nf x = some ρ → WW p l e ({ frames := 7, cells := 0, slots := 0, locals := 164 } : Room) s m args below meth c D A 0 0 Q (wM cA ad d_58 kept aside_27 images found_27 base at0 size fault opened isRub names_58 code coded pile_58 needs traced traceMany who bitsOf sizeOf number lifted) 5 [(0, .ref (ad 0)), (1, .int v1_27), (2, .int v2_27), (3, .int v3_58)] 58 [.int k0_58] := by
          intro v3_58 k0_58 d_58 names_58 pile_58 x h hl
          unfold fX12_silverFor_58 at h
          intro H locs ls hP hD hS hv
          refine lv_istore (lv' := [(4, .int k0_58), (0, .ref (ad 0)), (1, .int v1_27), (2, .int v2_27), (3, .int v3_58)]) hx hb dX12_silverFor_58 hv (by decide) rfl (fun ls hv => ?_)
          refine lv_aload_n hx hb dX12_silverFor_60 rfl (lv_at hv 1 rfl) ?_
          obtain ⟨d_25, hf_26, h⟩ := bd_ex h
          have sb := Sb.same hP hD hS hA
          refine calV (va_runV (As := []) (rest := []) ⟨hx, hb, hml, hown, hts⟩ (c_X12_putBack l G D cA ad _ d_58 kept aside_27 images found_27 base at0 size fault opened isRub names_58 code coded pile_58 needs traced traceMany who bitsOf sizeOf number lifted d_25 hf_26) (cwV 0 hts gX12_silverFor_X12_putBack rfl rfl rfl (by decide +kernel) ⟨Nat.le_of_ble_eq_true rfl, Nat.le_of_ble_eq_true rfl⟩) (pvV hE hK hS sb (va_recv hK hP (ci := 12) (q0 := 0) rfl rfl)) rfl rfl hv.1 rfl (lv_room (Nat.le_of_ble_eq_true rfl)) dX12_silverFor_61 ⟨Nat.le_of_ble_eq_true rfl, Nat.le_of_ble_eq_true rfl⟩) hS sb (Jn.same sb) (fun H locs hP hD hS => ?_)
          have hP : va_P D vwCl (wM cA ad d_25 kept aside_27 images found_27 base at0 size fault opened isRub names_58 code coded pile_58 needs traced traceMany who bitsOf sizeOf number lifted) H := hP
          have hD : va_D A (wM cA ad d_25 kept aside_27 images found_27 base at0 size fault opened isRub names_58 code coded pile_58 needs traced traceMany who bitsOf sizeOf number lifted) := hD
          refine lv_iload hx hb dX12_silverFor_64 (lv_at hv 0 rfl) ?_
          refine lv_if_eq (tgt := 71) hx hb dX12_silverFor_66 (by decide) (fun c_27 => ?_) (fun c_27 => ?_)
          · have h := ite_t c_27 h
            obtain ⟨y_28, ey_28, h⟩ := bnd_ex h
            refine lv_iinc (v := y_28) (lv' := [(3, .int y_28), (4, .int k0_58), (0, .ref (ad 0)), (1, .int v1_27), (2, .int v2_27)]) hx hb dX12_silverFor_71 hv (k := 4) rfl (by rw [ey_28]; rfl) (by decide) rfl (fun ls hv => ?_)
            refine lv_goto (tgt := 27) hx hb dX12_silverFor_74 (by decide) ?_
            cases h
            exact ih y_28 d_25 names_58 pile_58 hl _ _ _ hP hD hS (lv_sub hv [2, 3, 4, 0] rfl)
          · have h := ite_f c_27 h
            refine lv_iload_n hx hb dX12_silverFor_69 rfl (lv_at hv 4 rfl) ?_
            cases h
            have hl : some (Sum.inr (v3_58, d_25, aside_27, found_27, names_58, pile_58)) = some ρ := hl
            cases hl
            have h := LR _ rfl
            have ee0 : v3_58 = rR := congrArg (fun q => q.1) h
            have ee1 : d_25 = dR := congrArg (fun q => q.2.1) h
            have ee2 : aside_27 = asideR := congrArg (fun q => q.2.2.1) h
            have ee3 : found_27 = foundR := congrArg (fun q => q.2.2.2.1) h
            have ee4 : names_58 = namesR := congrArg (fun q => q.2.2.2.2.1) h
            have ee5 : pile_58 = pileR := congrArg (fun q => q.2.2.2.2.2) h
            subst ee0
            subst ee1
            subst ee2
            subst ee3
            subst ee4
            subst ee5
            rw [← hQ]
            exact retI hx hb hr hlk hK hP hD hS dX12_silverFor_70 ⟨Nat.le_of_ble_eq_true rfl, Nat.le_of_ble_eq_true rfl⟩
        intro H locs ls hP hD hS hv
        refine lv_iload_n hx hb dX12_silverFor_27 rfl (lv_at hv 3 rfl) ?_
        refine lv_bipush (v := (99 : Int32)) hx hb dX12_silverFor_28 (by decide) ?_
        refine lv_icmp_gt (tgt := 77) hx hb dX12_silverFor_30 (by decide) (fun c_15 => ?_) (fun c_15 => ?_)
        · have h := ite_t c_15 h
          cases h
          have hl : some (Sum.inl (v3_27b, d_27b, names_27b, pile_27b)) = some ρ := hl
          cases hl
          exact LE _ _ _ _ rfl _ _ _ hP hD hS (lv_sub hv [0] rfl)
        · have h := ite_f c_15 h
          refine lv_aload_n hx hb dX12_silverFor_33 rfl (lv_at hv 0 rfl) ?_
          refine lv_iload_n hx hb dX12_silverFor_34 rfl (lv_at hv 1 rfl) ?_
          refine lv_iconst (v := (2 : Int32)) hx hb dX12_silverFor_35 (by decide) ?_
          refine lv_iload_n hx hb dX12_silverFor_36 rfl (lv_at hv 3 rfl) ?_
          obtain ⟨d_16, hf_17, h⟩ := bd_ex h
          have sb := Sb.same hP hD hS hA
          refine calV (va_runV (As := [.int v1_27, .int (2 : Int32), .int v3_27b]) (rest := []) ⟨hx, hb, hml, hown, hts⟩ (c_X12_sets l G D cA ad _ d_27b kept aside_27 images found_27 base at0 size fault opened isRub names_27b code coded pile_27b needs traced traceMany who bitsOf sizeOf number lifted v1_27 (2 : Int32) v3_27b d_16 hf_17) (cwV 3 hts gX12_silverFor_X12_sets rfl rfl rfl (by decide +kernel) ⟨Nat.le_of_ble_eq_true rfl, Nat.le_of_ble_eq_true rfl⟩) (pvV hE hK hS sb (va_recv hK hP (ci := 12) (q0 := 0) rfl rfl)) rfl rfl hv.1 rfl (lv_room (Nat.le_of_ble_eq_true rfl)) dX12_silverFor_37 ⟨Nat.le_of_ble_eq_true rfl, Nat.le_of_ble_eq_true rfl⟩) hS sb (Jn.same sb) (fun H locs hP hD hS => ?_)
          have hP : va_P D vwCl (wM cA ad d_16 kept aside_27 images found_27 base at0 size fault opened isRub names_27b code coded pile_27b needs traced traceMany who bitsOf sizeOf number lifted) H := hP
          have hD : va_D A (wM cA ad d_16 kept aside_27 images found_27 base at0 size fault opened isRub names_27b code coded pile_27b needs traced traceMany who bitsOf sizeOf number lifted) := hD
          refine lv_aload_n hx hb dX12_silverFor_40 rfl (lv_at hv 0 rfl) ?_
          refine lv_iload_n hx hb dX12_silverFor_41 rfl (lv_at hv 2 rfl) ?_
          obtain ⟨⟨d_18, names_19, pile_20⟩, hf_21, h⟩ := bd_ex h
          have sb := Sb.same hP hD hS hA
          refine calV (va_runV (As := [.int v2_27]) (rest := []) ⟨hx, hb, hml, hown, hts⟩ (c_X12_hoursGo l G D cA ad _ d_16 kept aside_27 images found_27 base at0 size fault opened isRub names_27b code coded pile_27b needs traced traceMany who bitsOf sizeOf number lifted v2_27 d_18 names_19 pile_20 hf_21) (cwV 1 hts gX12_silverFor_X12_hoursGo rfl rfl rfl (by decide +kernel) ⟨Nat.le_of_ble_eq_true rfl, Nat.le_of_ble_eq_true rfl⟩) (pvV hE hK hS sb (va_recv hK hP (ci := 12) (q0 := 0) rfl rfl)) rfl rfl hv.1 rfl (lv_room (Nat.le_of_ble_eq_true rfl)) dX12_silverFor_42 ⟨Nat.le_of_ble_eq_true rfl, Nat.le_of_ble_eq_true rfl⟩) hS sb (Jn.same sb) (fun H locs hP hD hS => ?_)
          have hP : va_P D vwCl (wM cA ad d_18 kept aside_27 images found_27 base at0 size fault opened isRub names_19 code coded pile_20 needs traced traceMany who bitsOf sizeOf number lifted) H := hP
          have hD : va_D A (wM cA ad d_18 kept aside_27 images found_27 base at0 size fault opened isRub names_19 code coded pile_20 needs traced traceMany who bitsOf sizeOf number lifted) := hD
          refine lv_aload_n hx hb dX12_silverFor_45 rfl (lv_at hv 0 rfl) ?_
          refine lv_iload_n hx hb dX12_silverFor_46 rfl (lv_at hv 1 rfl) ?_
          obtain ⟨r_22, hf_23, h⟩ := bd_ex h
          have sb := Sb.same hP hD hS hA
          refine calI (va_runV (As := [.int v1_27]) (rest := []) ⟨hx, hb, hml, hown, hts⟩ (c_X12_isThrough l G D cA ad _ d_18 kept aside_27 images found_27 base at0 size fault opened isRub names_19 code coded pile_20 needs traced traceMany who bitsOf sizeOf number lifted v1_27 r_22 hf_23) (cwV 1 hts gX12_silverFor_X12_isThrough rfl rfl rfl (by decide +kernel) ⟨Nat.le_of_ble_eq_true rfl, Nat.le_of_ble_eq_true rfl⟩) (pvV hE hK hS sb (va_recv hK hP (ci := 12) (q0 := 0) rfl rfl)) rfl rfl hv.1 rfl (lv_room (Nat.le_of_ble_eq_true rfl)) dX12_silverFor_47 ⟨Nat.le_of_ble_eq_true rfl, Nat.le_of_ble_eq_true rfl⟩) hS sb (Jn.same sb) (fun H locs hP hD hS => ?_)
          have hP : va_P D vwCl (wM cA ad d_18 kept aside_27 images found_27 base at0 size fault opened isRub names_19 code coded pile_20 needs traced traceMany who bitsOf sizeOf number lifted) H := hP
          have hD : va_D A (wM cA ad d_18 kept aside_27 images found_27 base at0 size fault opened isRub names_19 code coded pile_20 needs traced traceMany who bitsOf sizeOf number lifted) := hD
          refine lv_if_ne (tgt := 57) hx hb dX12_silverFor_50 (by decide) (fun c_24 => ?_) (fun c_24 => ?_)
          · have h := ite_f c_24 h
            refine lv_iconst (v := (0 : Int32)) hx hb dX12_silverFor_57 (by decide) ?_
            exact C_58 v3_27b (0 : Int32) d_18 names_19 pile_20 _ h hl _ _ _ hP hD hS (lv_sub hv [0, 1, 2, 3] rfl)
          · have h := ite_t c_24 h
            refine lv_iconst (v := (1 : Int32)) hx hb dX12_silverFor_53 (by decide) ?_
            refine lv_goto (tgt := 58) hx hb dX12_silverFor_54 (by decide) ?_
            exact C_58 v3_27b (1 : Int32) d_18 names_19 pile_20 _ h hl _ _ _ hP hD hS (lv_sub hv [0, 1, 2, 3] rfl)
    exact LB FU v3_27 d_27 names_27 pile_27 ho
  have hP : va_P D vwCl (wM cA ad d kept aside images found base at0 size fault opened isRub names code coded pile needs traced traceMany who bitsOf sizeOf number lifted) H := hP
  unfold fX12_silverFor at h
  refine lv_aload_n hx hb dX12_silverFor_0 rfl (lv_at hv 0 rfl) ?_
  refine lv_iload_n hx hb dX12_silverFor_1 rfl (lv_at hv 1 rfl) ?_
  obtain ⟨r_1, hf_2, h⟩ := bd_ex h
  have sb := Sb.same hP hD hS hA
  refine calI (va_runV (As := [.int a]) (rest := []) ⟨hx, hb, hml, hown, hts⟩ (c_X12_isSpoon l G D cA ad _ d kept aside images found base at0 size fault opened isRub names code coded pile needs traced traceMany who bitsOf sizeOf number lifted a r_1 hf_2) (cwV 1 hts gX12_silverFor_X12_isSpoon rfl rfl rfl (by decide +kernel) ⟨Nat.le_of_ble_eq_true rfl, Nat.le_of_ble_eq_true rfl⟩) (pvV hE hK hS sb (va_recv hK hP (ci := 12) (q0 := 0) rfl rfl)) rfl rfl hv.1 rfl (lv_room (Nat.le_of_ble_eq_true rfl)) dX12_silverFor_2 ⟨Nat.le_of_ble_eq_true rfl, Nat.le_of_ble_eq_true rfl⟩) hS sb (Jn.same sb) (fun H locs hP hD hS => ?_)
  have hP : va_P D vwCl (wM cA ad d kept aside images found base at0 size fault opened isRub names code coded pile needs traced traceMany who bitsOf sizeOf number lifted) H := hP
  have hD : va_D A (wM cA ad d kept aside images found base at0 size fault opened isRub names code coded pile needs traced traceMany who bitsOf sizeOf number lifted) := hD
  refine lv_if_eq (tgt := 15) hx hb dX12_silverFor_5 (by decide) (fun c_3 => ?_) (fun c_3 => ?_)
  · have h := ite_t c_3 h
    refine lv_aload_n hx hb dX12_silverFor_15 rfl (lv_at hv 0 rfl) ?_
    refine lv_iconst (v := (1 : Int32)) hx hb dX12_silverFor_16 (by decide) ?_
    obtain ⟨⟨r_4, found_5⟩, hf_6, h⟩ := bd_ex h
    have sb := Sb.same hP hD hS hA
    refine calI (va_runV (As := [.int (1 : Int32)]) (rest := []) ⟨hx, hb, hml, hown, hts⟩ (c_X12_finds l G D cA ad _ d kept aside images found base at0 size fault opened isRub names code coded pile needs traced traceMany who bitsOf sizeOf number lifted (1 : Int32) r_4 found_5 hf_6) (cwV 1 hts gX12_silverFor_X12_finds rfl rfl rfl (by decide +kernel) ⟨Nat.le_of_ble_eq_true rfl, Nat.le_of_ble_eq_true rfl⟩) (pvV hE hK hS sb (va_recv hK hP (ci := 12) (q0 := 0) rfl rfl)) rfl rfl hv.1 rfl (lv_room (Nat.le_of_ble_eq_true rfl)) dX12_silverFor_17 ⟨Nat.le_of_ble_eq_true rfl, Nat.le_of_ble_eq_true rfl⟩) hS sb (Jn.same sb) (fun H locs hP hD hS => ?_)
    have hP : va_P D vwCl (wM cA ad d kept aside images found_5 base at0 size fault opened isRub names code coded pile needs traced traceMany who bitsOf sizeOf number lifted) H := hP
    have hD : va_D A (wM cA ad d kept aside images found_5 base at0 size fault opened isRub names code coded pile needs traced traceMany who bitsOf sizeOf number lifted) := hD
    have h := Option.some.inj h
    have ee0 : r_4 = rR := congrArg (fun q => q.1) h
    have ee1 : d = dR := congrArg (fun q => q.2.1) h
    have ee2 : aside = asideR := congrArg (fun q => q.2.2.1) h
    have ee3 : found_5 = foundR := congrArg (fun q => q.2.2.2.1) h
    have ee4 : names = namesR := congrArg (fun q => q.2.2.2.2.1) h
    have ee5 : pile = pileR := congrArg (fun q => q.2.2.2.2.2) h
    subst ee0
    subst ee1
    subst ee2
    subst ee3
    subst ee4
    subst ee5
    rw [← hQ]
    exact retI hx hb hr hlk hK hP hD hS dX12_silverFor_20 ⟨Nat.le_of_ble_eq_true rfl, Nat.le_of_ble_eq_true rfl⟩
  · have h := ite_f c_3 h
    refine lv_iload_n hx hb dX12_silverFor_8 rfl (lv_at hv 2 rfl) ?_
    obtain ⟨r_7, hf_8, h⟩ := bd_ex h
    have sb := Sb.nil hP hD hS hA
    refine calI (va_runS (As := [.int n]) (rest := []) ⟨hx, hb, hml, hown, hts⟩ (c_X12_isAhead l G D cA  _ n r_7 hf_8) (va_cwS 1 hts gX12_silverFor_X12_isAhead rfl rfl rfl (by decide +kernel) ⟨Nat.le_of_ble_eq_true rfl, Nat.le_of_ble_eq_true rfl⟩) (pvS hE hK hS sb) rfl rfl hv.1 rfl (lv_room (Nat.le_of_ble_eq_true rfl)) dX12_silverFor_9 ⟨Nat.le_of_ble_eq_true rfl, Nat.le_of_ble_eq_true rfl⟩) hS sb (Jn.nil hP hD) (fun H locs hP hD hS => ?_)
    have hP : va_P D vwCl (wM cA ad d kept aside images found base at0 size fault opened isRub names code coded pile needs traced traceMany who bitsOf sizeOf number lifted) H := hP
    have hD : va_D A (wM cA ad d kept aside images found base at0 size fault opened isRub names code coded pile needs traced traceMany who bitsOf sizeOf number lifted) := hD
    refine lv_if_ne (tgt := 21) hx hb dX12_silverFor_12 (by decide) (fun c_9 => ?_) (fun c_9 => ?_)
    · have h := ite_f c_9 h
      refine lv_aload_n hx hb dX12_silverFor_21 rfl (lv_at hv 0 rfl) ?_
      obtain ⟨aside_10, hf_11, h⟩ := bd_ex h
      have sb := Sb.same hP hD hS hA
      refine calV (va_runV (As := []) (rest := []) ⟨hx, hb, hml, hown, hts⟩ (c_X12_keepAside l G D cA ad _ d kept aside images found base at0 size fault opened isRub names code coded pile needs traced traceMany who bitsOf sizeOf number lifted aside_10 hf_11) (cwV 0 hts gX12_silverFor_X12_keepAside rfl rfl rfl (by decide +kernel) ⟨Nat.le_of_ble_eq_true rfl, Nat.le_of_ble_eq_true rfl⟩) (pvV hE hK hS sb (va_recv hK hP (ci := 12) (q0 := 0) rfl rfl)) rfl rfl hv.1 rfl (lv_room (Nat.le_of_ble_eq_true rfl)) dX12_silverFor_22 ⟨Nat.le_of_ble_eq_true rfl, Nat.le_of_ble_eq_true rfl⟩) hS sb (Jn.same sb) (fun H locs hP hD hS => ?_)
      have hP : va_P D vwCl (wM cA ad d kept aside_10 images found base at0 size fault opened isRub names code coded pile needs traced traceMany who bitsOf sizeOf number lifted) H := hP
      have hD : va_D A (wM cA ad d kept aside_10 images found base at0 size fault opened isRub names code coded pile needs traced traceMany who bitsOf sizeOf number lifted) := hD
      refine lv_iconst (v := (1 : Int32)) hx hb dX12_silverFor_25 (by decide) ?_
      refine lv_istore_n (lv' := [(3, .int (1 : Int32)), (0, .ref (ad 0)), (1, .int a), (2, .int n)]) hx hb dX12_silverFor_26 rfl hv (by decide) rfl (fun ls hv => ?_)
      exact C_27 a n (1 : Int32) d aside_10 found names pile h _ _ _ hP hD hS (lv_sub hv [1, 2, 3, 0] rfl)
    · have h := ite_t c_9 h
      refine lv_aload_n hx hb dX12_silverFor_15 rfl (lv_at hv 0 rfl) ?_
      refine lv_iconst (v := (1 : Int32)) hx hb dX12_silverFor_16 (by decide) ?_
      obtain ⟨⟨r_29, found_30⟩, hf_31, h⟩ := bd_ex h
      have sb := Sb.same hP hD hS hA
      refine calI (va_runV (As := [.int (1 : Int32)]) (rest := []) ⟨hx, hb, hml, hown, hts⟩ (c_X12_finds l G D cA ad _ d kept aside images found base at0 size fault opened isRub names code coded pile needs traced traceMany who bitsOf sizeOf number lifted (1 : Int32) r_29 found_30 hf_31) (cwV 1 hts gX12_silverFor_X12_finds rfl rfl rfl (by decide +kernel) ⟨Nat.le_of_ble_eq_true rfl, Nat.le_of_ble_eq_true rfl⟩) (pvV hE hK hS sb (va_recv hK hP (ci := 12) (q0 := 0) rfl rfl)) rfl rfl hv.1 rfl (lv_room (Nat.le_of_ble_eq_true rfl)) dX12_silverFor_17 ⟨Nat.le_of_ble_eq_true rfl, Nat.le_of_ble_eq_true rfl⟩) hS sb (Jn.same sb) (fun H locs hP hD hS => ?_)
      have hP : va_P D vwCl (wM cA ad d kept aside images found_30 base at0 size fault opened isRub names code coded pile needs traced traceMany who bitsOf sizeOf number lifted) H := hP
      have hD : va_D A (wM cA ad d kept aside images found_30 base at0 size fault opened isRub names code coded pile needs traced traceMany who bitsOf sizeOf number lifted) := hD
      have h := Option.some.inj h
      have ee0 : r_29 = rR := congrArg (fun q => q.1) h
      have ee1 : d = dR := congrArg (fun q => q.2.1) h
      have ee2 : aside = asideR := congrArg (fun q => q.2.2.1) h
      have ee3 : found_30 = foundR := congrArg (fun q => q.2.2.2.1) h
      have ee4 : names = namesR := congrArg (fun q => q.2.2.2.2.1) h
      have ee5 : pile = pileR := congrArg (fun q => q.2.2.2.2.2) h
      subst ee0
      subst ee1
      subst ee2
      subst ee3
      subst ee4
      subst ee5
      rw [← hQ]
      exact retI hx hb hr hlk hK hP hD hS dX12_silverFor_20 ⟨Nat.le_of_ble_eq_true rfl, Nat.le_of_ble_eq_true rfl⟩

def fX12_bestOf_51 (v1_14 : Int32) (v3_14 : Int32) (v4_14 : Int32) (v5_51 : Int32) (v6_51 : Int32) (v7_51 : Int32) (d_51 : Nat → Int32) (aside_14 : Nat → Int32) (names_51 : Nat → Int32) (pile_51 : Nat → Int32) : Option ((Int32 × Int32 × Int32 × (Nat → Int32) × (Nat → Int32) × (Nat → Int32)) ⊕ (Int32 × Int32 × Int32 × (Nat → Int32) × (Nat → Int32) × (Nat → Int32))) :=
  bnd (v7_51 + (1 : Int32)) fun y_12 => some (.inl (v5_51, v6_51, y_12, d_51, names_51, pile_51))
def fX12_bestOf_14B (v1_14 : Int32) (v3_14 : Int32) (v4_14 : Int32) (aside_14 : Nat → Int32) (v5_14b : Int32) (v6_14b : Int32) (v7_14b : Int32) (d_14b : Nat → Int32) (names_14b : Nat → Int32) (pile_14b : Nat → Int32) : Option ((Int32 × Int32 × Int32 × (Nat → Int32) × (Nat → Int32) × (Nat → Int32)) ⊕ (Int32 × Int32 × Int32 × (Nat → Int32) × (Nat → Int32) × (Nat → Int32))) :=
  (if v3_14 < v7_14b then some (.inr (v5_14b, v6_14b, v7_14b, d_14b, names_14b, pile_14b)) else ckI v1_14 326 (bnd (upd d_14b (v1_14).toNatClampNeg v7_14b) fun d_5 => bd (fX12_spreadsBehind v4_14 d_5 aside_14 names_14b pile_14b) fun (r_6, d_7, names_8, pile_9) => (if v6_14b ≤ r_6 then fX12_bestOf_51 v1_14 v3_14 v4_14 v5_14b v6_14b v7_14b d_7 aside_14 names_8 pile_9 else fX12_bestOf_51 v1_14 v3_14 v4_14 v7_14b r_6 v7_14b d_7 aside_14 names_8 pile_9)))
def fX12_bestOf_14 (v1_14 : Int32) (v3_14 : Int32) (v4_14 : Int32) (v5_14 : Int32) (v6_14 : Int32) (v7_14 : Int32) (d_14 : Nat → Int32) (aside_14 : Nat → Int32) (names_14 : Nat → Int32) (pile_14 : Nat → Int32) : Option (Int32 × (Nat → Int32) × (Nat → Int32) × (Nat → Int32) × (Nat → Int32)) :=
  bd (lp (fun σ : Int32 × Int32 × Int32 × (Nat → Int32) × (Nat → Int32) × (Nat → Int32) => fX12_bestOf_14B v1_14 v3_14 v4_14 aside_14 (σ.1) (σ.2.1) (σ.2.2.1) (σ.2.2.2.1) (σ.2.2.2.2.1) (σ.2.2.2.2.2)) FU (v5_14, v6_14, v7_14, d_14, names_14, pile_14)) fun ρ => match ρ with | (v5_14r, v6_14r, v7_14r, d_14r, names_14r, pile_14r) => some (v5_14r, d_14r, aside_14, names_14r, pile_14r)
def fX12_bestOf (a : Int32) (b : Int32) (k : Int32) (n : Int32) (d : Nat → Int32) (aside : Nat → Int32) (names : Nat → Int32) (pile : Nat → Int32) : Option (Int32 × (Nat → Int32) × (Nat → Int32) × (Nat → Int32) × (Nat → Int32)) :=
  bd (fX12_keepAside d aside) fun aside_1 => fX12_bestOf_14 a k n b (13 : Int32) b d aside_1 names pile
set_option maxHeartbeats 4000000 in
set_option maxRecDepth 100000 in
theorem c_X12_bestOf (l : Launch) (G : Nat → Nat) (D : va_G) (cA : Nat → ClassId) (ad : Nat → Nat) (sz : Nat) (d : Nat → Int32) (kept : Nat → Int32) (aside : Nat → Int32) (images : Int32) (found : Nat → Int32) (base : Int32) (at0 : Int32) (size : Int32) (fault : Int32) (opened : Int32) (isRub : Int32) (names : Nat → Int32) (code : Nat → Int32) (coded : Int32) (pile : Nat → Int32) (needs : Nat → Int32) (traced : Nat → Int32) (traceMany : Int32) (who : Int32) (bitsOf : Nat → Int32) (sizeOf : Nat → Int32) (number : Nat → Int32) (lifted : Nat → Int32) (a : Int32) (b : Int32) (k : Int32) (n : Int32) (rR : Int32) (dR : Nat → Int32) (asideR : Nat → Int32) (namesR : Nat → Int32) (pileR : Nat → Int32) (h : fX12_bestOf a b k n d aside names pile = some (rR, dR, asideR, namesR, pileR)) : Met l yX12_bestOf wsX12_bestOf ({ frames := 8, cells := 0, slots := 0, locals := 186 } : Room) (PW G D (tyC cA) sz (wM cA ad d kept aside images found base at0 size fault opened isRub names code coded pile needs traced traceMany who bitsOf sizeOf number lifted) [.ref (ad 0), .int a, .int b, .int k, .int n]) (QI D (tyC cA) (va_A (wM cA ad d kept aside images found base at0 size fault opened isRub names code coded pile needs traced traceMany who bitsOf sizeOf number lifted) sz) rR (wM cA ad dR kept asideR images found base at0 size fault opened isRub namesR code coded pileR needs traced traceMany who bitsOf sizeOf number lifted)) 0 0 (va_A (wM cA ad d kept aside images found base at0 size fault opened isRub names code coded pile needs traced traceMany who bitsOf sizeOf number lifted) sz) := by
  refine ent (cc := cX12_bestOf) (maxL := 9) (ret := (some .int)) (fun A => QI D (tyC cA) A rR (wM cA ad dR kept asideR images found base at0 size fault opened isRub namesR code coded pileR needs traced traceMany who bitsOf sizeOf number lifted)) (by decide +kernel) rfl (Nat.le_of_ble_eq_true rfl) ?_
  intro p e s m args below meth c A ls H hx hb hml hr hlk hts hown hA hK hE hP hD hS hv hmm
  have hv : lv_has ls 9 [(0, .ref (ad 0)), (1, .int a), (2, .int b), (3, .int k), (4, .int n)] := hv
  have in_12 : ∀ w ∈ u_ws RX12 TX12 23, w ∈ wsX12_bestOf := fun _ h => List.mem_cons_of_mem _ (List.mem_append_right _ h)
  have w_0 := hts (.fieldLink RX12 7 "SpoonsLastModel" "d" "[I") (List.mem_of_getElem? (i := 1) rfl)
  generalize hQ : MQ below _ args s 0 0 A = Q
  have C_14 : ∀ (v1_14 : Int32) (v3_14 : Int32) (v4_14 : Int32) (v5_14 : Int32) (v6_14 : Int32) (v7_14 : Int32) (d_14 : Nat → Int32) (aside_14 : Nat → Int32) (names_14 : Nat → Int32) (pile_14 : Nat → Int32), fX12_bestOf_14 v1_14 v3_14 v4_14 v5_14 v6_14 v7_14 d_14 aside_14 names_14 pile_14 = some (rR, dR, asideR, namesR, pileR) → WW p l e ({ frames := 8, cells := 0, slots := 0, locals := 186 } : Room) s m args below meth c D A 0 0 Q (wM cA ad d_14 kept aside_14 images found base at0 size fault opened isRub names_14 code coded pile_14 needs traced traceMany who bitsOf sizeOf number lifted) 9 [(0, .ref (ad 0)), (1, .int v1_14), (3, .int v3_14), (4, .int v4_14), (5, .int v5_14), (6, .int v6_14), (7, .int v7_14)] 14 [] := by
    intro v1_14 v3_14 v4_14 v5_14 v6_14 v7_14 d_14 aside_14 names_14 pile_14 h
    unfold fX12_bestOf_14 at h
    obtain ⟨⟨v5_14r, v6_14r, v7_14r, d_14r, names_14r, pile_14r⟩, ho, h⟩ := bd_ex h
    have LE : WW p l e ({ frames := 8, cells := 0, slots := 0, locals := 186 } : Room) s m args below meth c D A 0 0 Q (wM cA ad d_14r kept aside_14 images found base at0 size fault opened isRub names_14r code coded pile_14r needs traced traceMany who bitsOf sizeOf number lifted) 9 [(5, .int v5_14r)] 57 [] := by
      intro H locs ls hP hD hS hv
      refine lv_iload hx hb dX12_bestOf_57 (lv_at hv 0 rfl) ?_
      have h := Option.some.inj h
      have ee0 : v5_14r = rR := congrArg (fun q => q.1) h
      have ee1 : d_14r = dR := congrArg (fun q => q.2.1) h
      have ee2 : aside_14 = asideR := congrArg (fun q => q.2.2.1) h
      have ee3 : names_14r = namesR := congrArg (fun q => q.2.2.2.1) h
      have ee4 : pile_14r = pileR := congrArg (fun q => q.2.2.2.2) h
      subst ee0
      subst ee1
      subst ee2
      subst ee3
      subst ee4
      rw [← hQ]
      exact retI hx hb hr hlk hK hP hD hS dX12_bestOf_59 ⟨Nat.le_of_ble_eq_true rfl, Nat.le_of_ble_eq_true rfl⟩
    have LB : ∀ (nf : Nat) (v5_14b : Int32) (v6_14b : Int32) (v7_14b : Int32) (d_14b : Nat → Int32) (names_14b : Nat → Int32) (pile_14b : Nat → Int32), lp (fun σ : Int32 × Int32 × Int32 × (Nat → Int32) × (Nat → Int32) × (Nat → Int32) => fX12_bestOf_14B v1_14 v3_14 v4_14 aside_14 (σ.1) (σ.2.1) (σ.2.2.1) (σ.2.2.2.1) (σ.2.2.2.2.1) (σ.2.2.2.2.2)) nf (v5_14b, v6_14b, v7_14b, d_14b, names_14b, pile_14b) = some (v5_14r, v6_14r, v7_14r, d_14r, names_14r, pile_14r) → WW p l e ({ frames := 8, cells := 0, slots := 0, locals := 186 } : Room) s m args below meth c D A 0 0 Q (wM cA ad d_14b kept aside_14 images found base at0 size fault opened isRub names_14b code coded pile_14b needs traced traceMany who bitsOf sizeOf number lifted) 9 [(0, .ref (ad 0)), (1, .int v1_14), (3, .int v3_14), (4, .int v4_14), (5, .int v5_14b), (6, .int v6_14b), (7, .int v7_14b)] 14 [] := by
      intro nf
      induction nf with
      | zero => intro v5_14b v6_14b v7_14b d_14b names_14b pile_14b hl; cases hl
      | succ nf ih =>
        intro v5_14b v6_14b v7_14b d_14b names_14b pile_14b hl
        obtain ⟨x, h, hl⟩ := lp_ex hl
        have h : fX12_bestOf_14B v1_14 v3_14 v4_14 aside_14 v5_14b v6_14b v7_14b d_14b names_14b pile_14b = some x := h
        unfold fX12_bestOf_14B at h
        have C_51 : ∀ (v5_51 : Int32) (v6_51 : Int32) (v7_51 : Int32) (d_51 : Nat → Int32) (names_51 : Nat → Int32) (pile_51 : Nat → Int32) (x : (Int32 × Int32 × Int32 × (Nat → Int32) × (Nat → Int32) × (Nat → Int32)) ⊕ (Int32 × Int32 × Int32 × (Nat → Int32) × (Nat → Int32) × (Nat → Int32))), fX12_bestOf_51 v1_14 v3_14 v4_14 v5_51 v6_51 v7_51 d_51 aside_14 names_51 pile_51 = some x → lpk (fun σ : Int32 × Int32 × Int32 × (Nat → Int32) × (Nat → Int32) × (Nat → Int32) => fX12_bestOf_14B v1_14 v3_14 v4_14 aside_14 (σ.1) (σ.2.1) (σ.2.2.1) (σ.2.2.2.1) (σ.2.2.2.2.1) (σ.2.2.2.2.2)) nf x = some (v5_14r, v6_14r, v7_14r, d_14r, names_14r, pile_14r) → WW p l e ({ frames := 8, cells := 0, slots := 0, locals := 186 } : Room) s m args below meth c D A 0 0 Q (wM cA ad d_51 kept aside_14 images found base at0 size fault opened isRub names_51 code coded pile_51 needs traced traceMany who bitsOf sizeOf number lifted) 9 [(0, .ref (ad 0)), (1, .int v1_14), (3, .int v3_14), (4, .int v4_14), (5, .int v5_51), (6, .int v6_51), (7, .int v7_51)] 51 [] := by
          intro v5_51 v6_51 v7_51 d_51 names_51 pile_51 x h hl
          unfold fX12_bestOf_51 at h
          intro H locs ls hP hD hS hv
          obtain ⟨y_12, ey_12, h⟩ := bnd_ex h
          refine lv_iinc (v := y_12) (lv' := [(7, .int y_12), (0, .ref (ad 0)), (1, .int v1_14), (3, .int v3_14), (4, .int v4_14), (5, .int v5_51), (6, .int v6_51)]) hx hb dX12_bestOf_51 hv (k := 6) rfl (by rw [ey_12]; rfl) (by decide) rfl (fun ls hv => ?_)
          refine lv_goto (tgt := 14) hx hb dX12_bestOf_54 (by decide) ?_
          cases h
          exact ih v5_51 v6_51 y_12 d_51 names_51 pile_51 hl _ _ _ hP hD hS (lv_sub hv [1, 2, 3, 4, 5, 6, 0] rfl)
        intro H locs ls hP hD hS hv
        refine lv_iload hx hb dX12_bestOf_14 (lv_at hv 6 rfl) ?_
        refine lv_iload_n hx hb dX12_bestOf_16 rfl (lv_at hv 2 rfl) ?_
        refine lv_icmp_gt (tgt := 57) hx hb dX12_bestOf_17 (by decide) (fun c_3 => ?_) (fun c_3 => ?_)
        · have h := ite_t c_3 h
          cases h
          have hl : some (v5_14b, v6_14b, v7_14b, d_14b, names_14b, pile_14b) = some (v5_14r, v6_14r, v7_14r, d_14r, names_14r, pile_14r) := hl
          have hl := Option.some.inj hl
          have ee0 : v5_14b = v5_14r := congrArg (fun q => q.1) hl
          have ee1 : v6_14b = v6_14r := congrArg (fun q => q.2.1) hl
          have ee2 : v7_14b = v7_14r := congrArg (fun q => q.2.2.1) hl
          have ee3 : d_14b = d_14r := congrArg (fun q => q.2.2.2.1) hl
          have ee4 : names_14b = names_14r := congrArg (fun q => q.2.2.2.2.1) hl
          have ee5 : pile_14b = pile_14r := congrArg (fun q => q.2.2.2.2.2) hl
          subst ee0
          subst ee1
          subst ee2
          subst ee3
          subst ee4
          subst ee5
          exact LE _ _ _ hP hD hS (lv_sub hv [4] rfl)
        · have h := ite_f c_3 h
          refine lv_aload_n hx hb dX12_bestOf_20 rfl (lv_at hv 0 rfl) ?_
          refine va_get (D := D) (ci := 12) (v := .ref (ad 1)) (C := RX12) (T := TX12) (N := 23) hx hb hts in_12 hown hK hP 0 rfl rfl 0 (by decide) w_0 (fun _ h9 => h9) rfl dX12_bestOf_21 ?_
          refine lv_iload_n hx hb dX12_bestOf_24 rfl (lv_at hv 1 rfl) ?_
          refine lv_iload hx hb dX12_bestOf_25 (lv_at hv 6 rfl) ?_
          obtain ⟨c_4, h⟩ := ckI_ex h
          obtain ⟨d_5, ed_5, h⟩ := bnd_ex h
          refine va_iast (D := D) hx hb hK hP hD hS 1 0 rfl rfl c_4 dX12_bestOf_27 (fun H locs hP hD hS => ?_)
          rw [← ed_5] at hP hD
          have hP : va_P D vwCl (wM cA ad d_5 kept aside_14 images found base at0 size fault opened isRub names_14b code coded pile_14b needs traced traceMany who bitsOf sizeOf number lifted) H := hP
          have hD : va_D A (wM cA ad d_5 kept aside_14 images found base at0 size fault opened isRub names_14b code coded pile_14b needs traced traceMany who bitsOf sizeOf number lifted) := hD
          refine lv_aload_n hx hb dX12_bestOf_28 rfl (lv_at hv 0 rfl) ?_
          refine lv_iload hx hb dX12_bestOf_29 (lv_at hv 3 rfl) ?_
          obtain ⟨⟨r_6, d_7, names_8, pile_9⟩, hf_10, h⟩ := bd_ex h
          have sb := Sb.same hP hD hS hA
          refine calI (va_runV (As := [.int v4_14]) (rest := []) ⟨hx, hb, hml, hown, hts⟩ (c_X12_spreadsBehind l G D cA ad _ d_5 kept aside_14 images found base at0 size fault opened isRub names_14b code coded pile_14b needs traced traceMany who bitsOf sizeOf number lifted v4_14 r_6 d_7 names_8 pile_9 hf_10) (cwV 1 hts gX12_bestOf_X12_spreadsBehind rfl rfl rfl (by decide +kernel) ⟨Nat.le_of_ble_eq_true rfl, Nat.le_of_ble_eq_true rfl⟩) (pvV hE hK hS sb (va_recv hK hP (ci := 12) (q0 := 0) rfl rfl)) rfl rfl hv.1 rfl (lv_room (Nat.le_of_ble_eq_true rfl)) dX12_bestOf_31 ⟨Nat.le_of_ble_eq_true rfl, Nat.le_of_ble_eq_true rfl⟩) hS sb (Jn.same sb) (fun H locs hP hD hS => ?_)
          have hP : va_P D vwCl (wM cA ad d_7 kept aside_14 images found base at0 size fault opened isRub names_8 code coded pile_9 needs traced traceMany who bitsOf sizeOf number lifted) H := hP
          have hD : va_D A (wM cA ad d_7 kept aside_14 images found base at0 size fault opened isRub names_8 code coded pile_9 needs traced traceMany who bitsOf sizeOf number lifted) := hD
          refine lv_istore (lv' := [(8, .int r_6), (0, .ref (ad 0)), (1, .int v1_14), (3, .int v3_14), (4, .int v4_14), (5, .int v5_14b), (6, .int v6_14b), (7, .int v7_14b)]) hx hb dX12_bestOf_34 hv (by decide) rfl (fun ls hv => ?_)
          refine lv_iload hx hb dX12_bestOf_36 (lv_at hv 0 rfl) ?_
          refine lv_iload hx hb dX12_bestOf_38 (lv_at hv 6 rfl) ?_
          refine lv_icmp_ge (tgt := 51) hx hb dX12_bestOf_40 (by decide) (fun c_11 => ?_) (fun c_11 => ?_)
          · have h := ite_t c_11 h
            exact C_51 v5_14b v6_14b v7_14b d_7 names_8 pile_9 _ h hl _ _ _ hP hD hS (lv_sub hv [1, 2, 3, 4, 5, 6, 7] rfl)
          · have h := ite_f c_11 h
            refine lv_iload hx hb dX12_bestOf_43 (lv_at hv 7 rfl) ?_
            refine lv_istore (lv' := [(5, .int v7_14b), (8, .int r_6), (0, .ref (ad 0)), (1, .int v1_14), (3, .int v3_14), (4, .int v4_14), (6, .int v6_14b), (7, .int v7_14b)]) hx hb dX12_bestOf_45 hv (by decide) rfl (fun ls hv => ?_)
            refine lv_iload hx hb dX12_bestOf_47 (lv_at hv 1 rfl) ?_
            refine lv_istore (lv' := [(6, .int r_6), (5, .int v7_14b), (8, .int r_6), (0, .ref (ad 0)), (1, .int v1_14), (3, .int v3_14), (4, .int v4_14), (7, .int v7_14b)]) hx hb dX12_bestOf_49 hv (by decide) rfl (fun ls hv => ?_)
            exact C_51 v7_14b r_6 v7_14b d_7 names_8 pile_9 _ h hl _ _ _ hP hD hS (lv_sub hv [3, 4, 5, 6, 1, 0, 7] rfl)
    exact LB FU v5_14 v6_14 v7_14 d_14 names_14 pile_14 ho
  have hP : va_P D vwCl (wM cA ad d kept aside images found base at0 size fault opened isRub names code coded pile needs traced traceMany who bitsOf sizeOf number lifted) H := hP
  unfold fX12_bestOf at h
  refine lv_aload_n hx hb dX12_bestOf_0 rfl (lv_at hv 0 rfl) ?_
  obtain ⟨aside_1, hf_2, h⟩ := bd_ex h
  have sb := Sb.same hP hD hS hA
  refine calV (va_runV (As := []) (rest := []) ⟨hx, hb, hml, hown, hts⟩ (c_X12_keepAside l G D cA ad _ d kept aside images found base at0 size fault opened isRub names code coded pile needs traced traceMany who bitsOf sizeOf number lifted aside_1 hf_2) (cwV 0 hts gX12_bestOf_X12_keepAside rfl rfl rfl (by decide +kernel) ⟨Nat.le_of_ble_eq_true rfl, Nat.le_of_ble_eq_true rfl⟩) (pvV hE hK hS sb (va_recv hK hP (ci := 12) (q0 := 0) rfl rfl)) rfl rfl hv.1 rfl (lv_room (Nat.le_of_ble_eq_true rfl)) dX12_bestOf_1 ⟨Nat.le_of_ble_eq_true rfl, Nat.le_of_ble_eq_true rfl⟩) hS sb (Jn.same sb) (fun H locs hP hD hS => ?_)
  have hP : va_P D vwCl (wM cA ad d kept aside_1 images found base at0 size fault opened isRub names code coded pile needs traced traceMany who bitsOf sizeOf number lifted) H := hP
  have hD : va_D A (wM cA ad d kept aside_1 images found base at0 size fault opened isRub names code coded pile needs traced traceMany who bitsOf sizeOf number lifted) := hD
  refine lv_iload_n hx hb dX12_bestOf_4 rfl (lv_at hv 2 rfl) ?_
  refine lv_istore (lv' := [(5, .int b), (0, .ref (ad 0)), (1, .int a), (2, .int b), (3, .int k), (4, .int n)]) hx hb dX12_bestOf_5 hv (by decide) rfl (fun ls hv => ?_)
  refine lv_bipush (v := (13 : Int32)) hx hb dX12_bestOf_7 (by decide) ?_
  refine lv_istore (lv' := [(6, .int (13 : Int32)), (5, .int b), (0, .ref (ad 0)), (1, .int a), (2, .int b), (3, .int k), (4, .int n)]) hx hb dX12_bestOf_9 hv (by decide) rfl (fun ls hv => ?_)
  refine lv_iload_n hx hb dX12_bestOf_11 rfl (lv_at hv 4 rfl) ?_
  refine lv_istore (lv' := [(7, .int b), (6, .int (13 : Int32)), (5, .int b), (0, .ref (ad 0)), (1, .int a), (2, .int b), (3, .int k), (4, .int n)]) hx hb dX12_bestOf_12 hv (by decide) rfl (fun ls hv => ?_)
  exact C_14 a k n b (13 : Int32) b d aside_1 names pile h _ _ _ hP hD hS (lv_sub hv [3, 4, 6, 7, 2, 1, 0] rfl)

def fX12_washFor (a : Int32) (n : Int32) (d : Nat → Int32) (aside : Nat → Int32) (found : Nat → Int32) (names : Nat → Int32) (pile : Nat → Int32) : Option (Int32 × (Nat → Int32) × (Nat → Int32) × (Nat → Int32) × (Nat → Int32) × (Nat → Int32)) :=
  bd (fX12_in ((a).toInt64) (0 : Int64) (3 : Int64)) fun r_1 => (if r_1 = 0 then bd (fX12_finds (1 : Int32) found) fun (r_4, found_5) => some (r_4, d, aside, found_5, names, pile) else bd (fX12_isAhead n) fun r_7 => (if r_7 = 0 then bd (fX12_finds (1 : Int32) found) fun (r_10, found_11) => some (r_10, d, aside, found_11, names, pile) else bd (fX12_bestOf ((30 : Int32) + a) (-1 : Int32) (7 : Int32) n d aside names pile) fun (r_13, d_14, aside_15, names_16, pile_17) => some (((1 : Int32) + r_13), d_14, aside_15, found, names_16, pile_17)))
set_option maxHeartbeats 4000000 in
set_option maxRecDepth 100000 in
theorem c_X12_washFor (l : Launch) (G : Nat → Nat) (D : va_G) (cA : Nat → ClassId) (ad : Nat → Nat) (sz : Nat) (d : Nat → Int32) (kept : Nat → Int32) (aside : Nat → Int32) (images : Int32) (found : Nat → Int32) (base : Int32) (at0 : Int32) (size : Int32) (fault : Int32) (opened : Int32) (isRub : Int32) (names : Nat → Int32) (code : Nat → Int32) (coded : Int32) (pile : Nat → Int32) (needs : Nat → Int32) (traced : Nat → Int32) (traceMany : Int32) (who : Int32) (bitsOf : Nat → Int32) (sizeOf : Nat → Int32) (number : Nat → Int32) (lifted : Nat → Int32) (a : Int32) (n : Int32) (rR : Int32) (dR : Nat → Int32) (asideR : Nat → Int32) (foundR : Nat → Int32) (namesR : Nat → Int32) (pileR : Nat → Int32) (h : fX12_washFor a n d aside found names pile = some (rR, dR, asideR, foundR, namesR, pileR)) : Met l yX12_washFor wsX12_washFor ({ frames := 9, cells := 0, slots := 0, locals := 214 } : Room) (PW G D (tyC cA) sz (wM cA ad d kept aside images found base at0 size fault opened isRub names code coded pile needs traced traceMany who bitsOf sizeOf number lifted) [.ref (ad 0), .int a, .int n]) (QI D (tyC cA) (va_A (wM cA ad d kept aside images found base at0 size fault opened isRub names code coded pile needs traced traceMany who bitsOf sizeOf number lifted) sz) rR (wM cA ad dR kept asideR images foundR base at0 size fault opened isRub namesR code coded pileR needs traced traceMany who bitsOf sizeOf number lifted)) 0 0 (va_A (wM cA ad d kept aside images found base at0 size fault opened isRub names code coded pile needs traced traceMany who bitsOf sizeOf number lifted) sz) := by
  refine ent (cc := cX12_washFor) (maxL := 3) (ret := (some .int)) (fun A => QI D (tyC cA) A rR (wM cA ad dR kept asideR images foundR base at0 size fault opened isRub namesR code coded pileR needs traced traceMany who bitsOf sizeOf number lifted)) (by decide +kernel) rfl (Nat.le_of_ble_eq_true rfl) ?_
  intro p e s m args below meth c A ls H hx hb hml hr hlk hts hown hA hK hE hP hD hS hv hmm
  have hv : lv_has ls 3 [(0, .ref (ad 0)), (1, .int a), (2, .int n)] := hv
  have w_0 := hts (.constantLong RX12 216 (3)) (List.mem_of_getElem? (i := 1) rfl)
  generalize hQ : MQ below _ args s 0 0 A = Q
  have hP : va_P D vwCl (wM cA ad d kept aside images found base at0 size fault opened isRub names code coded pile needs traced traceMany who bitsOf sizeOf number lifted) H := hP
  unfold fX12_washFor at h
  refine lv_iload_n hx hb dX12_washFor_0 rfl (lv_at hv 1 rfl) ?_
  refine lv_i2l (v := (a).toInt64) hx hb dX12_washFor_1 rfl ?_
  refine lv_lconst (v := (0 : Int64)) hx hb dX12_washFor_2 (by decide) ?_
  refine lv_ldc2 (v := (3 : Int64)) hx hb hown w_0 dX12_washFor_3 ?_
  obtain ⟨r_1, hf_2, h⟩ := bd_ex h
  have sb := Sb.nil hP hD hS hA
  refine calI (va_runS (As := [.long (a).toInt64, .long (0 : Int64), .long (3 : Int64)]) (rest := []) ⟨hx, hb, hml, hown, hts⟩ (c_X12_in l G D cA  _ ((a).toInt64) (0 : Int64) (3 : Int64) r_1 hf_2) (va_cwS 3 hts gX12_washFor_X12_in rfl rfl rfl (by decide +kernel) ⟨Nat.le_of_ble_eq_true rfl, Nat.le_of_ble_eq_true rfl⟩) (pvS hE hK hS sb) rfl rfl hv.1 rfl (lv_room (Nat.le_of_ble_eq_true rfl)) dX12_washFor_6 ⟨Nat.le_of_ble_eq_true rfl, Nat.le_of_ble_eq_true rfl⟩) hS sb (Jn.nil hP hD) (fun H locs hP hD hS => ?_)
  have hP : va_P D vwCl (wM cA ad d kept aside images found base at0 size fault opened isRub names code coded pile needs traced traceMany who bitsOf sizeOf number lifted) H := hP
  have hD : va_D A (wM cA ad d kept aside images found base at0 size fault opened isRub names code coded pile needs traced traceMany who bitsOf sizeOf number lifted) := hD
  refine lv_if_eq (tgt := 36) hx hb dX12_washFor_9 (by decide) (fun c_3 => ?_) (fun c_3 => ?_)
  · have h := ite_t c_3 h
    refine lv_aload_n hx hb dX12_washFor_36 rfl (lv_at hv 0 rfl) ?_
    refine lv_iconst (v := (1 : Int32)) hx hb dX12_washFor_37 (by decide) ?_
    obtain ⟨⟨r_4, found_5⟩, hf_6, h⟩ := bd_ex h
    have sb := Sb.same hP hD hS hA
    refine calI (va_runV (As := [.int (1 : Int32)]) (rest := []) ⟨hx, hb, hml, hown, hts⟩ (c_X12_finds l G D cA ad _ d kept aside images found base at0 size fault opened isRub names code coded pile needs traced traceMany who bitsOf sizeOf number lifted (1 : Int32) r_4 found_5 hf_6) (cwV 1 hts gX12_washFor_X12_finds rfl rfl rfl (by decide +kernel) ⟨Nat.le_of_ble_eq_true rfl, Nat.le_of_ble_eq_true rfl⟩) (pvV hE hK hS sb (va_recv hK hP (ci := 12) (q0 := 0) rfl rfl)) rfl rfl hv.1 rfl (lv_room (Nat.le_of_ble_eq_true rfl)) dX12_washFor_38 ⟨Nat.le_of_ble_eq_true rfl, Nat.le_of_ble_eq_true rfl⟩) hS sb (Jn.same sb) (fun H locs hP hD hS => ?_)
    have hP : va_P D vwCl (wM cA ad d kept aside images found_5 base at0 size fault opened isRub names code coded pile needs traced traceMany who bitsOf sizeOf number lifted) H := hP
    have hD : va_D A (wM cA ad d kept aside images found_5 base at0 size fault opened isRub names code coded pile needs traced traceMany who bitsOf sizeOf number lifted) := hD
    have h := Option.some.inj h
    have ee0 : r_4 = rR := congrArg (fun q => q.1) h
    have ee1 : d = dR := congrArg (fun q => q.2.1) h
    have ee2 : aside = asideR := congrArg (fun q => q.2.2.1) h
    have ee3 : found_5 = foundR := congrArg (fun q => q.2.2.2.1) h
    have ee4 : names = namesR := congrArg (fun q => q.2.2.2.2.1) h
    have ee5 : pile = pileR := congrArg (fun q => q.2.2.2.2.2) h
    subst ee0
    subst ee1
    subst ee2
    subst ee3
    subst ee4
    subst ee5
    rw [← hQ]
    exact retI hx hb hr hlk hK hP hD hS dX12_washFor_41 ⟨Nat.le_of_ble_eq_true rfl, Nat.le_of_ble_eq_true rfl⟩
  · have h := ite_f c_3 h
    refine lv_iload_n hx hb dX12_washFor_12 rfl (lv_at hv 2 rfl) ?_
    obtain ⟨r_7, hf_8, h⟩ := bd_ex h
    have sb := Sb.nil hP hD hS hA
    refine calI (va_runS (As := [.int n]) (rest := []) ⟨hx, hb, hml, hown, hts⟩ (c_X12_isAhead l G D cA  _ n r_7 hf_8) (va_cwS 1 hts gX12_washFor_X12_isAhead rfl rfl rfl (by decide +kernel) ⟨Nat.le_of_ble_eq_true rfl, Nat.le_of_ble_eq_true rfl⟩) (pvS hE hK hS sb) rfl rfl hv.1 rfl (lv_room (Nat.le_of_ble_eq_true rfl)) dX12_washFor_13 ⟨Nat.le_of_ble_eq_true rfl, Nat.le_of_ble_eq_true rfl⟩) hS sb (Jn.nil hP hD) (fun H locs hP hD hS => ?_)
    have hP : va_P D vwCl (wM cA ad d kept aside images found base at0 size fault opened isRub names code coded pile needs traced traceMany who bitsOf sizeOf number lifted) H := hP
    have hD : va_D A (wM cA ad d kept aside images found base at0 size fault opened isRub names code coded pile needs traced traceMany who bitsOf sizeOf number lifted) := hD
    refine lv_if_eq (tgt := 36) hx hb dX12_washFor_16 (by decide) (fun c_9 => ?_) (fun c_9 => ?_)
    · have h := ite_t c_9 h
      refine lv_aload_n hx hb dX12_washFor_36 rfl (lv_at hv 0 rfl) ?_
      refine lv_iconst (v := (1 : Int32)) hx hb dX12_washFor_37 (by decide) ?_
      obtain ⟨⟨r_10, found_11⟩, hf_12, h⟩ := bd_ex h
      have sb := Sb.same hP hD hS hA
      refine calI (va_runV (As := [.int (1 : Int32)]) (rest := []) ⟨hx, hb, hml, hown, hts⟩ (c_X12_finds l G D cA ad _ d kept aside images found base at0 size fault opened isRub names code coded pile needs traced traceMany who bitsOf sizeOf number lifted (1 : Int32) r_10 found_11 hf_12) (cwV 1 hts gX12_washFor_X12_finds rfl rfl rfl (by decide +kernel) ⟨Nat.le_of_ble_eq_true rfl, Nat.le_of_ble_eq_true rfl⟩) (pvV hE hK hS sb (va_recv hK hP (ci := 12) (q0 := 0) rfl rfl)) rfl rfl hv.1 rfl (lv_room (Nat.le_of_ble_eq_true rfl)) dX12_washFor_38 ⟨Nat.le_of_ble_eq_true rfl, Nat.le_of_ble_eq_true rfl⟩) hS sb (Jn.same sb) (fun H locs hP hD hS => ?_)
      have hP : va_P D vwCl (wM cA ad d kept aside images found_11 base at0 size fault opened isRub names code coded pile needs traced traceMany who bitsOf sizeOf number lifted) H := hP
      have hD : va_D A (wM cA ad d kept aside images found_11 base at0 size fault opened isRub names code coded pile needs traced traceMany who bitsOf sizeOf number lifted) := hD
      have h := Option.some.inj h
      have ee0 : r_10 = rR := congrArg (fun q => q.1) h
      have ee1 : d = dR := congrArg (fun q => q.2.1) h
      have ee2 : aside = asideR := congrArg (fun q => q.2.2.1) h
      have ee3 : found_11 = foundR := congrArg (fun q => q.2.2.2.1) h
      have ee4 : names = namesR := congrArg (fun q => q.2.2.2.2.1) h
      have ee5 : pile = pileR := congrArg (fun q => q.2.2.2.2.2) h
      subst ee0
      subst ee1
      subst ee2
      subst ee3
      subst ee4
      subst ee5
      rw [← hQ]
      exact retI hx hb hr hlk hK hP hD hS dX12_washFor_41 ⟨Nat.le_of_ble_eq_true rfl, Nat.le_of_ble_eq_true rfl⟩
    · have h := ite_f c_9 h
      refine lv_iconst (v := (1 : Int32)) hx hb dX12_washFor_19 (by decide) ?_
      refine lv_aload_n hx hb dX12_washFor_20 rfl (lv_at hv 0 rfl) ?_
      refine lv_bipush (v := (30 : Int32)) hx hb dX12_washFor_21 (by decide) ?_
      refine lv_iload_n hx hb dX12_washFor_23 rfl (lv_at hv 1 rfl) ?_
      refine lv_iadd hx hb dX12_washFor_24 ?_
      refine lv_iconst (v := (-1 : Int32)) hx hb dX12_washFor_25 (by decide) ?_
      refine lv_bipush (v := (7 : Int32)) hx hb dX12_washFor_26 (by decide) ?_
      refine lv_iload_n hx hb dX12_washFor_28 rfl (lv_at hv 2 rfl) ?_
      obtain ⟨⟨r_13, d_14, aside_15, names_16, pile_17⟩, hf_18, h⟩ := bd_ex h
      have sb := Sb.same hP hD hS hA
      refine calI (va_runV (As := [.int ((30 : Int32) + a), .int (-1 : Int32), .int (7 : Int32), .int n]) (rest := [.int (1 : Int32)]) ⟨hx, hb, hml, hown, hts⟩ (c_X12_bestOf l G D cA ad _ d kept aside images found base at0 size fault opened isRub names code coded pile needs traced traceMany who bitsOf sizeOf number lifted ((30 : Int32) + a) (-1 : Int32) (7 : Int32) n r_13 d_14 aside_15 names_16 pile_17 hf_18) (cwV 4 hts gX12_washFor_X12_bestOf rfl rfl rfl (by decide +kernel) ⟨Nat.le_of_ble_eq_true rfl, Nat.le_of_ble_eq_true rfl⟩) (pvV hE hK hS sb (va_recv hK hP (ci := 12) (q0 := 0) rfl rfl)) rfl rfl hv.1 rfl (lv_room (Nat.le_of_ble_eq_true rfl)) dX12_washFor_29 ⟨Nat.le_of_ble_eq_true rfl, Nat.le_of_ble_eq_true rfl⟩) hS sb (Jn.same sb) (fun H locs hP hD hS => ?_)
      have hP : va_P D vwCl (wM cA ad d_14 kept aside_15 images found base at0 size fault opened isRub names_16 code coded pile_17 needs traced traceMany who bitsOf sizeOf number lifted) H := hP
      have hD : va_D A (wM cA ad d_14 kept aside_15 images found base at0 size fault opened isRub names_16 code coded pile_17 needs traced traceMany who bitsOf sizeOf number lifted) := hD
      refine lv_iadd hx hb dX12_washFor_32 ?_
      refine lv_goto (tgt := 41) hx hb dX12_washFor_33 (by decide) ?_
      have h := Option.some.inj h
      have ee0 : ((1 : Int32) + r_13) = rR := congrArg (fun q => q.1) h
      have ee1 : d_14 = dR := congrArg (fun q => q.2.1) h
      have ee2 : aside_15 = asideR := congrArg (fun q => q.2.2.1) h
      have ee3 : found = foundR := congrArg (fun q => q.2.2.2.1) h
      have ee4 : names_16 = namesR := congrArg (fun q => q.2.2.2.2.1) h
      have ee5 : pile_17 = pileR := congrArg (fun q => q.2.2.2.2.2) h
      subst ee0
      subst ee1
      subst ee2
      subst ee3
      subst ee4
      subst ee5
      rw [← hQ]
      exact retI hx hb hr hlk hK hP hD hS dX12_washFor_41 ⟨Nat.le_of_ble_eq_true rfl, Nat.le_of_ble_eq_true rfl⟩

def fX12_kindFor (a : Int32) (n : Int32) (d : Nat → Int32) (aside : Nat → Int32) (found : Nat → Int32) (names : Nat → Int32) (pile : Nat → Int32) : Option (Int32 × (Nat → Int32) × (Nat → Int32) × (Nat → Int32) × (Nat → Int32) × (Nat → Int32)) :=
  bd (fX12_isSpoon a d) fun r_1 => (if r_1 = 0 then bd (fX12_finds (1 : Int32) found) fun (r_4, found_5) => some (r_4, d, aside, found_5, names, pile) else bd (fX12_isAhead n) fun r_7 => (if r_7 = 0 then bd (fX12_finds (1 : Int32) found) fun (r_10, found_11) => some (r_10, d, aside, found_11, names, pile) else bd (fX12_bestOf ((34 : Int32) + ((15 : Int32) * a)) (0 : Int32) (6 : Int32) n d aside names pile) fun (r_13, d_14, aside_15, names_16, pile_17) => some (r_13, d_14, aside_15, found, names_16, pile_17)))
set_option maxHeartbeats 4000000 in
set_option maxRecDepth 100000 in
theorem c_X12_kindFor (l : Launch) (G : Nat → Nat) (D : va_G) (cA : Nat → ClassId) (ad : Nat → Nat) (sz : Nat) (d : Nat → Int32) (kept : Nat → Int32) (aside : Nat → Int32) (images : Int32) (found : Nat → Int32) (base : Int32) (at0 : Int32) (size : Int32) (fault : Int32) (opened : Int32) (isRub : Int32) (names : Nat → Int32) (code : Nat → Int32) (coded : Int32) (pile : Nat → Int32) (needs : Nat → Int32) (traced : Nat → Int32) (traceMany : Int32) (who : Int32) (bitsOf : Nat → Int32) (sizeOf : Nat → Int32) (number : Nat → Int32) (lifted : Nat → Int32) (a : Int32) (n : Int32) (rR : Int32) (dR : Nat → Int32) (asideR : Nat → Int32) (foundR : Nat → Int32) (namesR : Nat → Int32) (pileR : Nat → Int32) (h : fX12_kindFor a n d aside found names pile = some (rR, dR, asideR, foundR, namesR, pileR)) : Met l yX12_kindFor wsX12_kindFor ({ frames := 9, cells := 0, slots := 0, locals := 214 } : Room) (PW G D (tyC cA) sz (wM cA ad d kept aside images found base at0 size fault opened isRub names code coded pile needs traced traceMany who bitsOf sizeOf number lifted) [.ref (ad 0), .int a, .int n]) (QI D (tyC cA) (va_A (wM cA ad d kept aside images found base at0 size fault opened isRub names code coded pile needs traced traceMany who bitsOf sizeOf number lifted) sz) rR (wM cA ad dR kept asideR images foundR base at0 size fault opened isRub namesR code coded pileR needs traced traceMany who bitsOf sizeOf number lifted)) 0 0 (va_A (wM cA ad d kept aside images found base at0 size fault opened isRub names code coded pile needs traced traceMany who bitsOf sizeOf number lifted) sz) := by
  refine ent (cc := cX12_kindFor) (maxL := 3) (ret := (some .int)) (fun A => QI D (tyC cA) A rR (wM cA ad dR kept asideR images foundR base at0 size fault opened isRub namesR code coded pileR needs traced traceMany who bitsOf sizeOf number lifted)) (by decide +kernel) rfl (Nat.le_of_ble_eq_true rfl) ?_
  intro p e s m args below meth c A ls H hx hb hml hr hlk hts hown hA hK hE hP hD hS hv hmm
  have hv : lv_has ls 3 [(0, .ref (ad 0)), (1, .int a), (2, .int n)] := hv
  generalize hQ : MQ below _ args s 0 0 A = Q
  have hP : va_P D vwCl (wM cA ad d kept aside images found base at0 size fault opened isRub names code coded pile needs traced traceMany who bitsOf sizeOf number lifted) H := hP
  unfold fX12_kindFor at h
  refine lv_aload_n hx hb dX12_kindFor_0 rfl (lv_at hv 0 rfl) ?_
  refine lv_iload_n hx hb dX12_kindFor_1 rfl (lv_at hv 1 rfl) ?_
  obtain ⟨r_1, hf_2, h⟩ := bd_ex h
  have sb := Sb.same hP hD hS hA
  refine calI (va_runV (As := [.int a]) (rest := []) ⟨hx, hb, hml, hown, hts⟩ (c_X12_isSpoon l G D cA ad _ d kept aside images found base at0 size fault opened isRub names code coded pile needs traced traceMany who bitsOf sizeOf number lifted a r_1 hf_2) (cwV 1 hts gX12_kindFor_X12_isSpoon rfl rfl rfl (by decide +kernel) ⟨Nat.le_of_ble_eq_true rfl, Nat.le_of_ble_eq_true rfl⟩) (pvV hE hK hS sb (va_recv hK hP (ci := 12) (q0 := 0) rfl rfl)) rfl rfl hv.1 rfl (lv_room (Nat.le_of_ble_eq_true rfl)) dX12_kindFor_2 ⟨Nat.le_of_ble_eq_true rfl, Nat.le_of_ble_eq_true rfl⟩) hS sb (Jn.same sb) (fun H locs hP hD hS => ?_)
  have hP : va_P D vwCl (wM cA ad d kept aside images found base at0 size fault opened isRub names code coded pile needs traced traceMany who bitsOf sizeOf number lifted) H := hP
  have hD : va_D A (wM cA ad d kept aside images found base at0 size fault opened isRub names code coded pile needs traced traceMany who bitsOf sizeOf number lifted) := hD
  refine lv_if_eq (tgt := 33) hx hb dX12_kindFor_5 (by decide) (fun c_3 => ?_) (fun c_3 => ?_)
  · have h := ite_t c_3 h
    refine lv_aload_n hx hb dX12_kindFor_33 rfl (lv_at hv 0 rfl) ?_
    refine lv_iconst (v := (1 : Int32)) hx hb dX12_kindFor_34 (by decide) ?_
    obtain ⟨⟨r_4, found_5⟩, hf_6, h⟩ := bd_ex h
    have sb := Sb.same hP hD hS hA
    refine calI (va_runV (As := [.int (1 : Int32)]) (rest := []) ⟨hx, hb, hml, hown, hts⟩ (c_X12_finds l G D cA ad _ d kept aside images found base at0 size fault opened isRub names code coded pile needs traced traceMany who bitsOf sizeOf number lifted (1 : Int32) r_4 found_5 hf_6) (cwV 1 hts gX12_kindFor_X12_finds rfl rfl rfl (by decide +kernel) ⟨Nat.le_of_ble_eq_true rfl, Nat.le_of_ble_eq_true rfl⟩) (pvV hE hK hS sb (va_recv hK hP (ci := 12) (q0 := 0) rfl rfl)) rfl rfl hv.1 rfl (lv_room (Nat.le_of_ble_eq_true rfl)) dX12_kindFor_35 ⟨Nat.le_of_ble_eq_true rfl, Nat.le_of_ble_eq_true rfl⟩) hS sb (Jn.same sb) (fun H locs hP hD hS => ?_)
    have hP : va_P D vwCl (wM cA ad d kept aside images found_5 base at0 size fault opened isRub names code coded pile needs traced traceMany who bitsOf sizeOf number lifted) H := hP
    have hD : va_D A (wM cA ad d kept aside images found_5 base at0 size fault opened isRub names code coded pile needs traced traceMany who bitsOf sizeOf number lifted) := hD
    have h := Option.some.inj h
    have ee0 : r_4 = rR := congrArg (fun q => q.1) h
    have ee1 : d = dR := congrArg (fun q => q.2.1) h
    have ee2 : aside = asideR := congrArg (fun q => q.2.2.1) h
    have ee3 : found_5 = foundR := congrArg (fun q => q.2.2.2.1) h
    have ee4 : names = namesR := congrArg (fun q => q.2.2.2.2.1) h
    have ee5 : pile = pileR := congrArg (fun q => q.2.2.2.2.2) h
    subst ee0
    subst ee1
    subst ee2
    subst ee3
    subst ee4
    subst ee5
    rw [← hQ]
    exact retI hx hb hr hlk hK hP hD hS dX12_kindFor_38 ⟨Nat.le_of_ble_eq_true rfl, Nat.le_of_ble_eq_true rfl⟩
  · have h := ite_f c_3 h
    refine lv_iload_n hx hb dX12_kindFor_8 rfl (lv_at hv 2 rfl) ?_
    obtain ⟨r_7, hf_8, h⟩ := bd_ex h
    have sb := Sb.nil hP hD hS hA
    refine calI (va_runS (As := [.int n]) (rest := []) ⟨hx, hb, hml, hown, hts⟩ (c_X12_isAhead l G D cA  _ n r_7 hf_8) (va_cwS 1 hts gX12_kindFor_X12_isAhead rfl rfl rfl (by decide +kernel) ⟨Nat.le_of_ble_eq_true rfl, Nat.le_of_ble_eq_true rfl⟩) (pvS hE hK hS sb) rfl rfl hv.1 rfl (lv_room (Nat.le_of_ble_eq_true rfl)) dX12_kindFor_9 ⟨Nat.le_of_ble_eq_true rfl, Nat.le_of_ble_eq_true rfl⟩) hS sb (Jn.nil hP hD) (fun H locs hP hD hS => ?_)
    have hP : va_P D vwCl (wM cA ad d kept aside images found base at0 size fault opened isRub names code coded pile needs traced traceMany who bitsOf sizeOf number lifted) H := hP
    have hD : va_D A (wM cA ad d kept aside images found base at0 size fault opened isRub names code coded pile needs traced traceMany who bitsOf sizeOf number lifted) := hD
    refine lv_if_eq (tgt := 33) hx hb dX12_kindFor_12 (by decide) (fun c_9 => ?_) (fun c_9 => ?_)
    · have h := ite_t c_9 h
      refine lv_aload_n hx hb dX12_kindFor_33 rfl (lv_at hv 0 rfl) ?_
      refine lv_iconst (v := (1 : Int32)) hx hb dX12_kindFor_34 (by decide) ?_
      obtain ⟨⟨r_10, found_11⟩, hf_12, h⟩ := bd_ex h
      have sb := Sb.same hP hD hS hA
      refine calI (va_runV (As := [.int (1 : Int32)]) (rest := []) ⟨hx, hb, hml, hown, hts⟩ (c_X12_finds l G D cA ad _ d kept aside images found base at0 size fault opened isRub names code coded pile needs traced traceMany who bitsOf sizeOf number lifted (1 : Int32) r_10 found_11 hf_12) (cwV 1 hts gX12_kindFor_X12_finds rfl rfl rfl (by decide +kernel) ⟨Nat.le_of_ble_eq_true rfl, Nat.le_of_ble_eq_true rfl⟩) (pvV hE hK hS sb (va_recv hK hP (ci := 12) (q0 := 0) rfl rfl)) rfl rfl hv.1 rfl (lv_room (Nat.le_of_ble_eq_true rfl)) dX12_kindFor_35 ⟨Nat.le_of_ble_eq_true rfl, Nat.le_of_ble_eq_true rfl⟩) hS sb (Jn.same sb) (fun H locs hP hD hS => ?_)
      have hP : va_P D vwCl (wM cA ad d kept aside images found_11 base at0 size fault opened isRub names code coded pile needs traced traceMany who bitsOf sizeOf number lifted) H := hP
      have hD : va_D A (wM cA ad d kept aside images found_11 base at0 size fault opened isRub names code coded pile needs traced traceMany who bitsOf sizeOf number lifted) := hD
      have h := Option.some.inj h
      have ee0 : r_10 = rR := congrArg (fun q => q.1) h
      have ee1 : d = dR := congrArg (fun q => q.2.1) h
      have ee2 : aside = asideR := congrArg (fun q => q.2.2.1) h
      have ee3 : found_11 = foundR := congrArg (fun q => q.2.2.2.1) h
      have ee4 : names = namesR := congrArg (fun q => q.2.2.2.2.1) h
      have ee5 : pile = pileR := congrArg (fun q => q.2.2.2.2.2) h
      subst ee0
      subst ee1
      subst ee2
      subst ee3
      subst ee4
      subst ee5
      rw [← hQ]
      exact retI hx hb hr hlk hK hP hD hS dX12_kindFor_38 ⟨Nat.le_of_ble_eq_true rfl, Nat.le_of_ble_eq_true rfl⟩
    · have h := ite_f c_9 h
      refine lv_aload_n hx hb dX12_kindFor_15 rfl (lv_at hv 0 rfl) ?_
      refine lv_bipush (v := (34 : Int32)) hx hb dX12_kindFor_16 (by decide) ?_
      refine lv_bipush (v := (15 : Int32)) hx hb dX12_kindFor_18 (by decide) ?_
      refine lv_iload_n hx hb dX12_kindFor_20 rfl (lv_at hv 1 rfl) ?_
      refine lv_imul hx hb dX12_kindFor_21 ?_
      refine lv_iadd hx hb dX12_kindFor_22 ?_
      refine lv_iconst (v := (0 : Int32)) hx hb dX12_kindFor_23 (by decide) ?_
      refine lv_bipush (v := (6 : Int32)) hx hb dX12_kindFor_24 (by decide) ?_
      refine lv_iload_n hx hb dX12_kindFor_26 rfl (lv_at hv 2 rfl) ?_
      obtain ⟨⟨r_13, d_14, aside_15, names_16, pile_17⟩, hf_18, h⟩ := bd_ex h
      have sb := Sb.same hP hD hS hA
      refine calI (va_runV (As := [.int ((34 : Int32) + ((15 : Int32) * a)), .int (0 : Int32), .int (6 : Int32), .int n]) (rest := []) ⟨hx, hb, hml, hown, hts⟩ (c_X12_bestOf l G D cA ad _ d kept aside images found base at0 size fault opened isRub names code coded pile needs traced traceMany who bitsOf sizeOf number lifted ((34 : Int32) + ((15 : Int32) * a)) (0 : Int32) (6 : Int32) n r_13 d_14 aside_15 names_16 pile_17 hf_18) (cwV 4 hts gX12_kindFor_X12_bestOf rfl rfl rfl (by decide +kernel) ⟨Nat.le_of_ble_eq_true rfl, Nat.le_of_ble_eq_true rfl⟩) (pvV hE hK hS sb (va_recv hK hP (ci := 12) (q0 := 0) rfl rfl)) rfl rfl hv.1 rfl (lv_room (Nat.le_of_ble_eq_true rfl)) dX12_kindFor_27 ⟨Nat.le_of_ble_eq_true rfl, Nat.le_of_ble_eq_true rfl⟩) hS sb (Jn.same sb) (fun H locs hP hD hS => ?_)
      have hP : va_P D vwCl (wM cA ad d_14 kept aside_15 images found base at0 size fault opened isRub names_16 code coded pile_17 needs traced traceMany who bitsOf sizeOf number lifted) H := hP
      have hD : va_D A (wM cA ad d_14 kept aside_15 images found base at0 size fault opened isRub names_16 code coded pile_17 needs traced traceMany who bitsOf sizeOf number lifted) := hD
      refine lv_goto (tgt := 38) hx hb dX12_kindFor_30 (by decide) ?_
      have h := Option.some.inj h
      have ee0 : r_13 = rR := congrArg (fun q => q.1) h
      have ee1 : d_14 = dR := congrArg (fun q => q.2.1) h
      have ee2 : aside_15 = asideR := congrArg (fun q => q.2.2.1) h
      have ee3 : found = foundR := congrArg (fun q => q.2.2.2.1) h
      have ee4 : names_16 = namesR := congrArg (fun q => q.2.2.2.2.1) h
      have ee5 : pile_17 = pileR := congrArg (fun q => q.2.2.2.2.2) h
      subst ee0
      subst ee1
      subst ee2
      subst ee3
      subst ee4
      subst ee5
      rw [← hQ]
      exact retI hx hb hr hlk hK hP hD hS dX12_kindFor_38 ⟨Nat.le_of_ble_eq_true rfl, Nat.le_of_ble_eq_true rfl⟩

