def fX12_isSheet (a : Int32) : Option (Int32) :=
  bd (fX12_in ((a).toInt64) (0 : Int64) (3 : Int64)) fun r_1 => ck (isZ r_1 = true) (some r_1)
set_option maxHeartbeats 4000000 in
set_option maxRecDepth 100000 in
theorem c_X12_isSheet (l : Launch) (G : Nat → Nat) (D : va_G) (cA : Nat → ClassId) (sz : Nat) (a : Int32) (rR : Int32) (h : fX12_isSheet a = some rR) : Met l yX12_isSheet wsX12_isSheet ({ frames := 1, cells := 0, slots := 0, locals := 25 } : Room) (PW G D (tyC cA) sz (wE) [.int a]) (QI D (tyC cA) (va_A (wE) sz) rR (wE)) 0 0 (va_A (wE) sz) := by
  refine ent (cc := cX12_isSheet) (maxL := 1) (ret := (some .boolean)) (fun A => QI D (tyC cA) A rR (wE)) (by decide +kernel) rfl (Nat.le_of_ble_eq_true rfl) ?_
  intro p e s m args below meth c A ls H hx hb hml hr hlk hts hown hA hK hE hP hD hS hv hmm
  have hv : lv_has ls 1 [(0, .int a)] := hv
  have w_0 := hts (.constantLong RX12 216 (3)) (List.mem_of_getElem? (i := 1) rfl)
  generalize hQ : MQ below _ args s 0 0 A = Q
  have hP : va_P D vwCl (wE) H := hP
  unfold fX12_isSheet at h
  refine lv_iload_n hx hb dX12_isSheet_0 rfl (lv_at hv 0 rfl) ?_
  refine lv_i2l (v := (a).toInt64) hx hb dX12_isSheet_1 rfl ?_
  refine lv_lconst (v := (0 : Int64)) hx hb dX12_isSheet_2 (by decide) ?_
  refine lv_ldc2 (v := (3 : Int64)) hx hb hown w_0 dX12_isSheet_3 ?_
  obtain ⟨r_1, hf_2, h⟩ := bd_ex h
  have sb := Sb.nil hP hD hS hA
  refine calI (va_runS (As := [.long (a).toInt64, .long (0 : Int64), .long (3 : Int64)]) (rest := []) ⟨hx, hb, hml, hown, hts⟩ (c_X12_in l G D cA  _ ((a).toInt64) (0 : Int64) (3 : Int64) r_1 hf_2) (va_cwS 3 hts gX12_isSheet_X12_in rfl rfl rfl (by decide +kernel) ⟨Nat.le_of_ble_eq_true rfl, Nat.le_of_ble_eq_true rfl⟩) (pvS hE hK hS sb) rfl rfl hv.1 rfl (lv_room (Nat.le_of_ble_eq_true rfl)) dX12_isSheet_6 ⟨Nat.le_of_ble_eq_true rfl, Nat.le_of_ble_eq_true rfl⟩) hS sb (Jn.nil hP hD) (fun H locs hP hD hS => ?_)
  have hP : va_P D vwCl (wE) H := hP
  have hD : va_D A (wE) := hD
  obtain ⟨hz, h⟩ := ck_ex h
  have h := Option.some.inj h
  have ee0 : r_1 = rR := congrArg (fun q => q) h
  subst ee0
  rw [← hQ]
  exact retZ hz hx hb hr hlk hK hP hD hS dX12_isSheet_9 ⟨Nat.le_of_ble_eq_true rfl, Nat.le_of_ble_eq_true rfl⟩

def fX12_isTold_50 (v1_4 : Int32) (v3_50 : Int32) (k0_50 : Int32) (d_50 : Nat → Int32) (aside : Nat → Int32) (names_50 : Nat → Int32) (pile_50 : Nat → Int32) (sizeOf : Nat → Int32) (number : Nat → Int32) : Option ((Int32 × Int32 × (Nat → Int32) × (Nat → Int32) × (Nat → Int32)) ⊕ (Int32 × Int32 × (Nat → Int32) × (Nat → Int32) × (Nat → Int32))) :=
  bnd (v3_50 + (1 : Int32)) fun y_15 => some (.inl (k0_50, y_15, d_50, names_50, pile_50))
def fX12_isTold_4B (v1_4 : Int32) (aside : Nat → Int32) (sizeOf : Nat → Int32) (number : Nat → Int32) (v2_4b : Int32) (v3_4b : Int32) (d_4b : Nat → Int32) (names_4b : Nat → Int32) (pile_4b : Nat → Int32) : Option ((Int32 × Int32 × (Nat → Int32) × (Nat → Int32) × (Nat → Int32)) ⊕ (Int32 × Int32 × (Nat → Int32) × (Nat → Int32) × (Nat → Int32))) :=
  ckI v1_4 4 ((if (sizeOf (v1_4).toNatClampNeg) ≤ v3_4b then some (.inr (v2_4b, v3_4b, d_4b, names_4b, pile_4b)) else (if v2_4b = 0 then some (.inr (v2_4b, v3_4b, d_4b, names_4b, pile_4b)) else bd (fX12_hourGoes d_4b names_4b pile_4b) fun (d_6, names_7, pile_8) => ckI (((40 : Int32) * v1_4) + v3_4b) 160 (ckI (2 : Int32) 326 (bd (fX12_ones (d_6 ((2 : Int32)).toNatClampNeg)) fun r_12 => (if (number ((((40 : Int32) * v1_4) + v3_4b)).toNatClampNeg) = r_12 then fX12_isTold_50 v1_4 v3_4b (1 : Int32) d_6 aside names_7 pile_8 sizeOf number else fX12_isTold_50 v1_4 v3_4b (0 : Int32) d_6 aside names_7 pile_8 sizeOf number))))))
def fX12_isTold_4 (v1_4 : Int32) (v2_4 : Int32) (v3_4 : Int32) (d_4 : Nat → Int32) (aside : Nat → Int32) (names_4 : Nat → Int32) (pile_4 : Nat → Int32) (sizeOf : Nat → Int32) (number : Nat → Int32) : Option (Int32 × (Nat → Int32) × (Nat → Int32) × (Nat → Int32)) :=
  bd (lp (fun σ : Int32 × Int32 × (Nat → Int32) × (Nat → Int32) × (Nat → Int32) => fX12_isTold_4B v1_4 aside sizeOf number (σ.1) (σ.2.1) (σ.2.2.1) (σ.2.2.2.1) (σ.2.2.2.2)) FU (v2_4, v3_4, d_4, names_4, pile_4)) fun ρ => match ρ with | (v2_4r, v3_4r, d_4r, names_4r, pile_4r) => bd (fX12_putBack d_4r aside) fun d_1 => ck (isZ v2_4r = true) (some (v2_4r, d_1, names_4r, pile_4r))
def fX12_isTold (a : Int32) (d : Nat → Int32) (aside : Nat → Int32) (names : Nat → Int32) (pile : Nat → Int32) (sizeOf : Nat → Int32) (number : Nat → Int32) : Option (Int32 × (Nat → Int32) × (Nat → Int32) × (Nat → Int32)) :=
  fX12_isTold_4 a (1 : Int32) (0 : Int32) d aside names pile sizeOf number
set_option maxHeartbeats 4000000 in
set_option maxRecDepth 100000 in
theorem c_X12_isTold (l : Launch) (G : Nat → Nat) (D : va_G) (cA : Nat → ClassId) (ad : Nat → Nat) (sz : Nat) (d : Nat → Int32) (kept : Nat → Int32) (aside : Nat → Int32) (images : Int32) (found : Nat → Int32) (base : Int32) (at0 : Int32) (size : Int32) (fault : Int32) (opened : Int32) (isRub : Int32) (names : Nat → Int32) (code : Nat → Int32) (coded : Int32) (pile : Nat → Int32) (needs : Nat → Int32) (traced : Nat → Int32) (traceMany : Int32) (who : Int32) (bitsOf : Nat → Int32) (sizeOf : Nat → Int32) (number : Nat → Int32) (lifted : Nat → Int32) (a : Int32) (rR : Int32) (dR : Nat → Int32) (namesR : Nat → Int32) (pileR : Nat → Int32) (h : fX12_isTold a d aside names pile sizeOf number = some (rR, dR, namesR, pileR)) : Met l yX12_isTold wsX12_isTold ({ frames := 6, cells := 0, slots := 0, locals := 142 } : Room) (PW G D (tyC cA) sz (wM cA ad d kept aside images found base at0 size fault opened isRub names code coded pile needs traced traceMany who bitsOf sizeOf number lifted) [.ref (ad 0), .int a]) (QI D (tyC cA) (va_A (wM cA ad d kept aside images found base at0 size fault opened isRub names code coded pile needs traced traceMany who bitsOf sizeOf number lifted) sz) rR (wM cA ad dR kept aside images found base at0 size fault opened isRub namesR code coded pileR needs traced traceMany who bitsOf sizeOf number lifted)) 0 0 (va_A (wM cA ad d kept aside images found base at0 size fault opened isRub names code coded pile needs traced traceMany who bitsOf sizeOf number lifted) sz) := by
  refine ent (cc := cX12_isTold) (maxL := 4) (ret := (some .boolean)) (fun A => QI D (tyC cA) A rR (wM cA ad dR kept aside images found base at0 size fault opened isRub namesR code coded pileR needs traced traceMany who bitsOf sizeOf number lifted)) (by decide +kernel) rfl (Nat.le_of_ble_eq_true rfl) ?_
  intro p e s m args below meth c A ls H hx hb hml hr hlk hts hown hA hK hE hP hD hS hv hmm
  have hv : lv_has ls 4 [(0, .ref (ad 0)), (1, .int a)] := hv
  have in_12 : ∀ w ∈ u_ws RX12 TX12 23, w ∈ wsX12_isTold := fun _ h => List.mem_cons_of_mem _ (List.mem_append_right _ h)
  have w_0 := hts (.fieldLink RX12 40 "SpoonsLastModel" "sizeOf" "[I") (List.mem_of_getElem? (i := 1) rfl)
  have w_1 := hts (.fieldLink RX12 43 "SpoonsLastModel" "number" "[I") (List.mem_of_getElem? (i := 2) rfl)
  have w_2 := hts (.fieldLink RX12 7 "SpoonsLastModel" "d" "[I") (List.mem_of_getElem? (i := 3) rfl)
  generalize hQ : MQ below _ args s 0 0 A = Q
  have C_4 : ∀ (v1_4 : Int32) (v2_4 : Int32) (v3_4 : Int32) (d_4 : Nat → Int32) (names_4 : Nat → Int32) (pile_4 : Nat → Int32), fX12_isTold_4 v1_4 v2_4 v3_4 d_4 aside names_4 pile_4 sizeOf number = some (rR, dR, namesR, pileR) → WW p l e ({ frames := 6, cells := 0, slots := 0, locals := 142 } : Room) s m args below meth c D A 0 0 Q (wM cA ad d_4 kept aside images found base at0 size fault opened isRub names_4 code coded pile_4 needs traced traceMany who bitsOf sizeOf number lifted) 4 [(0, .ref (ad 0)), (1, .int v1_4), (2, .int v2_4), (3, .int v3_4)] 4 [] := by
    intro v1_4 v2_4 v3_4 d_4 names_4 pile_4 h
    unfold fX12_isTold_4 at h
    obtain ⟨⟨v2_4r, v3_4r, d_4r, names_4r, pile_4r⟩, ho, h⟩ := bd_ex h
    have LE : WW p l e ({ frames := 6, cells := 0, slots := 0, locals := 142 } : Room) s m args below meth c D A 0 0 Q (wM cA ad d_4r kept aside images found base at0 size fault opened isRub names_4r code coded pile_4r needs traced traceMany who bitsOf sizeOf number lifted) 4 [(0, .ref (ad 0)), (2, .int v2_4r)] 57 [] := by
      intro H locs ls hP hD hS hv
      refine lv_aload_n hx hb dX12_isTold_57 rfl (lv_at hv 0 rfl) ?_
      obtain ⟨d_1, hf_2, h⟩ := bd_ex h
      have sb := Sb.same hP hD hS hA
      refine calV (va_runV (As := []) (rest := []) ⟨hx, hb, hml, hown, hts⟩ (c_X12_putBack l G D cA ad _ d_4r kept aside images found base at0 size fault opened isRub names_4r code coded pile_4r needs traced traceMany who bitsOf sizeOf number lifted d_1 hf_2) (cwV 0 hts gX12_isTold_X12_putBack rfl rfl rfl (by decide +kernel) ⟨Nat.le_of_ble_eq_true rfl, Nat.le_of_ble_eq_true rfl⟩) (pvV hE hK hS sb (va_recv hK hP (ci := 12) (q0 := 0) rfl rfl)) rfl rfl hv.1 rfl (lv_room (Nat.le_of_ble_eq_true rfl)) dX12_isTold_58 ⟨Nat.le_of_ble_eq_true rfl, Nat.le_of_ble_eq_true rfl⟩) hS sb (Jn.same sb) (fun H locs hP hD hS => ?_)
      have hP : va_P D vwCl (wM cA ad d_1 kept aside images found base at0 size fault opened isRub names_4r code coded pile_4r needs traced traceMany who bitsOf sizeOf number lifted) H := hP
      have hD : va_D A (wM cA ad d_1 kept aside images found base at0 size fault opened isRub names_4r code coded pile_4r needs traced traceMany who bitsOf sizeOf number lifted) := hD
      refine lv_iload_n hx hb dX12_isTold_61 rfl (lv_at hv 1 rfl) ?_
      obtain ⟨hz, h⟩ := ck_ex h
      have h := Option.some.inj h
      have ee0 : v2_4r = rR := congrArg (fun q => q.1) h
      have ee1 : d_1 = dR := congrArg (fun q => q.2.1) h
      have ee2 : names_4r = namesR := congrArg (fun q => q.2.2.1) h
      have ee3 : pile_4r = pileR := congrArg (fun q => q.2.2.2) h
      subst ee0
      subst ee1
      subst ee2
      subst ee3
      rw [← hQ]
      exact retZ hz hx hb hr hlk hK hP hD hS dX12_isTold_62 ⟨Nat.le_of_ble_eq_true rfl, Nat.le_of_ble_eq_true rfl⟩
    have LB : ∀ (nf : Nat) (v2_4b : Int32) (v3_4b : Int32) (d_4b : Nat → Int32) (names_4b : Nat → Int32) (pile_4b : Nat → Int32), lp (fun σ : Int32 × Int32 × (Nat → Int32) × (Nat → Int32) × (Nat → Int32) => fX12_isTold_4B v1_4 aside sizeOf number (σ.1) (σ.2.1) (σ.2.2.1) (σ.2.2.2.1) (σ.2.2.2.2)) nf (v2_4b, v3_4b, d_4b, names_4b, pile_4b) = some (v2_4r, v3_4r, d_4r, names_4r, pile_4r) → WW p l e ({ frames := 6, cells := 0, slots := 0, locals := 142 } : Room) s m args below meth c D A 0 0 Q (wM cA ad d_4b kept aside images found base at0 size fault opened isRub names_4b code coded pile_4b needs traced traceMany who bitsOf sizeOf number lifted) 4 [(0, .ref (ad 0)), (1, .int v1_4), (2, .int v2_4b), (3, .int v3_4b)] 4 [] := by
      intro nf
      induction nf with
      | zero => intro v2_4b v3_4b d_4b names_4b pile_4b hl; cases hl
      | succ nf ih =>
        intro v2_4b v3_4b d_4b names_4b pile_4b hl
        obtain ⟨x, h, hl⟩ := lp_ex hl
        have h : fX12_isTold_4B v1_4 aside sizeOf number v2_4b v3_4b d_4b names_4b pile_4b = some x := h
        unfold fX12_isTold_4B at h
        have C_50 : ∀ (v3_50 : Int32) (k0_50 : Int32) (d_50 : Nat → Int32) (names_50 : Nat → Int32) (pile_50 : Nat → Int32) (x : (Int32 × Int32 × (Nat → Int32) × (Nat → Int32) × (Nat → Int32)) ⊕ (Int32 × Int32 × (Nat → Int32) × (Nat → Int32) × (Nat → Int32))), fX12_isTold_50 v1_4 v3_50 k0_50 d_50 aside names_50 pile_50 sizeOf number = some x → lpk (fun σ : Int32 × Int32 × (Nat → Int32) × (Nat → Int32) × (Nat → Int32) => fX12_isTold_4B v1_4 aside sizeOf number (σ.1) (σ.2.1) (σ.2.2.1) (σ.2.2.2.1) (σ.2.2.2.2)) nf x = some (v2_4r, v3_4r, d_4r, names_4r, pile_4r) → WW p l e ({ frames := 6, cells := 0, slots := 0, locals := 142 } : Room) s m args below meth c D A 0 0 Q (wM cA ad d_50 kept aside images found base at0 size fault opened isRub names_50 code coded pile_50 needs traced traceMany who bitsOf sizeOf number lifted) 4 [(0, .ref (ad 0)), (1, .int v1_4), (3, .int v3_50)] 50 [.int k0_50] := by
          intro v3_50 k0_50 d_50 names_50 pile_50 x h hl
          unfold fX12_isTold_50 at h
          intro H locs ls hP hD hS hv
          refine lv_istore_n (lv' := [(2, .int k0_50), (0, .ref (ad 0)), (1, .int v1_4), (3, .int v3_50)]) hx hb dX12_isTold_50 rfl hv (by decide) rfl (fun ls hv => ?_)
          obtain ⟨y_15, ey_15, h⟩ := bnd_ex h
          refine lv_iinc (v := y_15) (lv' := [(3, .int y_15), (2, .int k0_50), (0, .ref (ad 0)), (1, .int v1_4)]) hx hb dX12_isTold_51 hv (k := 3) rfl (by rw [ey_15]; rfl) (by decide) rfl (fun ls hv => ?_)
          refine lv_goto (tgt := 4) hx hb dX12_isTold_54 (by decide) ?_
          cases h
          exact ih k0_50 y_15 d_50 names_50 pile_50 hl _ _ _ hP hD hS (lv_sub hv [2, 3, 1, 0] rfl)
        intro H locs ls hP hD hS hv
        refine lv_iload_n hx hb dX12_isTold_4 rfl (lv_at hv 3 rfl) ?_
        refine lv_aload_n hx hb dX12_isTold_5 rfl (lv_at hv 0 rfl) ?_
        refine va_get (D := D) (ci := 12) (v := .ref (ad 21)) (C := RX12) (T := TX12) (N := 23) hx hb hts in_12 hown hK hP 0 rfl rfl 20 (by decide) w_0 (fun _ h9 => h9) rfl dX12_isTold_6 ?_
        refine lv_iload_n hx hb dX12_isTold_9 rfl (lv_at hv 1 rfl) ?_
        obtain ⟨c_3, h⟩ := ckI_ex h
        refine va_iald (D := D) hx hb hK hP 11 0 rfl rfl c_3 dX12_isTold_10 ?_
        refine lv_icmp_ge (tgt := 57) hx hb dX12_isTold_11 (by decide) (fun c_4 => ?_) (fun c_4 => ?_)
        · have h := ite_t c_4 h
          cases h
          have hl : some (v2_4b, v3_4b, d_4b, names_4b, pile_4b) = some (v2_4r, v3_4r, d_4r, names_4r, pile_4r) := hl
          have hl := Option.some.inj hl
          have ee0 : v2_4b = v2_4r := congrArg (fun q => q.1) hl
          have ee1 : v3_4b = v3_4r := congrArg (fun q => q.2.1) hl
          have ee2 : d_4b = d_4r := congrArg (fun q => q.2.2.1) hl
          have ee3 : names_4b = names_4r := congrArg (fun q => q.2.2.2.1) hl
          have ee4 : pile_4b = pile_4r := congrArg (fun q => q.2.2.2.2) hl
          subst ee0
          subst ee1
          subst ee2
          subst ee3
          subst ee4
          exact LE _ _ _ hP hD hS (lv_sub hv [0, 2] rfl)
        · have h := ite_f c_4 h
          refine lv_iload_n hx hb dX12_isTold_14 rfl (lv_at hv 2 rfl) ?_
          refine lv_if_eq (tgt := 57) hx hb dX12_isTold_15 (by decide) (fun c_5 => ?_) (fun c_5 => ?_)
          · have h := ite_t c_5 h
            cases h
            have hl : some (v2_4b, v3_4b, d_4b, names_4b, pile_4b) = some (v2_4r, v3_4r, d_4r, names_4r, pile_4r) := hl
            have hl := Option.some.inj hl
            have ee0 : v2_4b = v2_4r := congrArg (fun q => q.1) hl
            have ee1 : v3_4b = v3_4r := congrArg (fun q => q.2.1) hl
            have ee2 : d_4b = d_4r := congrArg (fun q => q.2.2.1) hl
            have ee3 : names_4b = names_4r := congrArg (fun q => q.2.2.2.1) hl
            have ee4 : pile_4b = pile_4r := congrArg (fun q => q.2.2.2.2) hl
            subst ee0
            subst ee1
            subst ee2
            subst ee3
            subst ee4
            exact LE _ _ _ hP hD hS (lv_sub hv [0, 2] rfl)
          · have h := ite_f c_5 h
            refine lv_aload_n hx hb dX12_isTold_18 rfl (lv_at hv 0 rfl) ?_
            obtain ⟨⟨d_6, names_7, pile_8⟩, hf_9, h⟩ := bd_ex h
            have sb := Sb.same hP hD hS hA
            refine calV (va_runV (As := []) (rest := []) ⟨hx, hb, hml, hown, hts⟩ (c_X12_hourGoes l G D cA ad _ d_4b kept aside images found base at0 size fault opened isRub names_4b code coded pile_4b needs traced traceMany who bitsOf sizeOf number lifted d_6 names_7 pile_8 hf_9) (cwV 0 hts gX12_isTold_X12_hourGoes rfl rfl rfl (by decide +kernel) ⟨Nat.le_of_ble_eq_true rfl, Nat.le_of_ble_eq_true rfl⟩) (pvV hE hK hS sb (va_recv hK hP (ci := 12) (q0 := 0) rfl rfl)) rfl rfl hv.1 rfl (lv_room (Nat.le_of_ble_eq_true rfl)) dX12_isTold_19 ⟨Nat.le_of_ble_eq_true rfl, Nat.le_of_ble_eq_true rfl⟩) hS sb (Jn.same sb) (fun H locs hP hD hS => ?_)
            have hP : va_P D vwCl (wM cA ad d_6 kept aside images found base at0 size fault opened isRub names_7 code coded pile_8 needs traced traceMany who bitsOf sizeOf number lifted) H := hP
            have hD : va_D A (wM cA ad d_6 kept aside images found base at0 size fault opened isRub names_7 code coded pile_8 needs traced traceMany who bitsOf sizeOf number lifted) := hD
            refine lv_aload_n hx hb dX12_isTold_22 rfl (lv_at hv 0 rfl) ?_
            refine va_get (D := D) (ci := 12) (v := .ref (ad 22)) (C := RX12) (T := TX12) (N := 23) hx hb hts in_12 hown hK hP 0 rfl rfl 21 (by decide) w_1 (fun _ h9 => h9) rfl dX12_isTold_23 ?_
            refine lv_bipush (v := (40 : Int32)) hx hb dX12_isTold_26 (by decide) ?_
            refine lv_iload_n hx hb dX12_isTold_28 rfl (lv_at hv 1 rfl) ?_
            refine lv_imul hx hb dX12_isTold_29 ?_
            refine lv_iload_n hx hb dX12_isTold_30 rfl (lv_at hv 3 rfl) ?_
            refine lv_iadd hx hb dX12_isTold_31 ?_
            obtain ⟨c_10, h⟩ := ckI_ex h
            refine va_iald (D := D) hx hb hK hP 12 0 rfl rfl c_10 dX12_isTold_32 ?_
            refine lv_aload_n hx hb dX12_isTold_33 rfl (lv_at hv 0 rfl) ?_
            refine va_get (D := D) (ci := 12) (v := .ref (ad 1)) (C := RX12) (T := TX12) (N := 23) hx hb hts in_12 hown hK hP 0 rfl rfl 0 (by decide) w_2 (fun _ h9 => h9) rfl dX12_isTold_34 ?_
            refine lv_iconst (v := (2 : Int32)) hx hb dX12_isTold_37 (by decide) ?_
            obtain ⟨c_11, h⟩ := ckI_ex h
            refine va_iald (D := D) hx hb hK hP 1 0 rfl rfl c_11 dX12_isTold_38 ?_
            obtain ⟨r_12, hf_13, h⟩ := bd_ex h
            have sb := Sb.nil hP hD hS hA
            refine calI (va_runS (As := [.int (d_6 ((2 : Int32)).toNatClampNeg)]) (rest := [.int (number ((((40 : Int32) * v1_4) + v3_4b)).toNatClampNeg)]) ⟨hx, hb, hml, hown, hts⟩ (c_X12_ones l G D cA  _ (d_6 ((2 : Int32)).toNatClampNeg) r_12 hf_13) (va_cwS 1 hts gX12_isTold_X12_ones rfl rfl rfl (by decide +kernel) ⟨Nat.le_of_ble_eq_true rfl, Nat.le_of_ble_eq_true rfl⟩) (pvS hE hK hS sb) rfl rfl hv.1 rfl (lv_room (Nat.le_of_ble_eq_true rfl)) dX12_isTold_39 ⟨Nat.le_of_ble_eq_true rfl, Nat.le_of_ble_eq_true rfl⟩) hS sb (Jn.nil hP hD) (fun H locs hP hD hS => ?_)
            have hP : va_P D vwCl (wM cA ad d_6 kept aside images found base at0 size fault opened isRub names_7 code coded pile_8 needs traced traceMany who bitsOf sizeOf number lifted) H := hP
            have hD : va_D A (wM cA ad d_6 kept aside images found base at0 size fault opened isRub names_7 code coded pile_8 needs traced traceMany who bitsOf sizeOf number lifted) := hD
            refine lv_icmp_ne (tgt := 49) hx hb dX12_isTold_42 (by decide) (fun c_14 => ?_) (fun c_14 => ?_)
            · have h := ite_f c_14 h
              refine lv_iconst (v := (0 : Int32)) hx hb dX12_isTold_49 (by decide) ?_
              exact C_50 v3_4b (0 : Int32) d_6 names_7 pile_8 _ h hl _ _ _ hP hD hS (lv_sub hv [0, 1, 3] rfl)
            · have h := ite_t c_14 h
              refine lv_iconst (v := (1 : Int32)) hx hb dX12_isTold_45 (by decide) ?_
              refine lv_goto (tgt := 50) hx hb dX12_isTold_46 (by decide) ?_
              exact C_50 v3_4b (1 : Int32) d_6 names_7 pile_8 _ h hl _ _ _ hP hD hS (lv_sub hv [0, 1, 3] rfl)
    exact LB FU v2_4 v3_4 d_4 names_4 pile_4 ho
  have hP : va_P D vwCl (wM cA ad d kept aside images found base at0 size fault opened isRub names code coded pile needs traced traceMany who bitsOf sizeOf number lifted) H := hP
  unfold fX12_isTold at h
  refine lv_iconst (v := (1 : Int32)) hx hb dX12_isTold_0 (by decide) ?_
  refine lv_istore_n (lv' := [(2, .int (1 : Int32)), (0, .ref (ad 0)), (1, .int a)]) hx hb dX12_isTold_1 rfl hv (by decide) rfl (fun ls hv => ?_)
  refine lv_iconst (v := (0 : Int32)) hx hb dX12_isTold_2 (by decide) ?_
  refine lv_istore_n (lv' := [(3, .int (0 : Int32)), (2, .int (1 : Int32)), (0, .ref (ad 0)), (1, .int a)]) hx hb dX12_isTold_3 rfl hv (by decide) rfl (fun ls hv => ?_)
  exact C_4 a (1 : Int32) (0 : Int32) d names pile h _ _ _ hP hD hS (lv_sub hv [2, 3, 1, 0] rfl)

def fX12_rubbed_25 (d_25 : Nat → Int32) (aside_25 : Nat → Int32) (found_25 : Nat → Int32) (names_25 : Nat → Int32) (pile_25 : Nat → Int32) (bitsOf : Nat → Int32) (sizeOf : Nat → Int32) (number : Nat → Int32) : Option (Int32 × (Nat → Int32) × (Nat → Int32) × (Nat → Int32) × (Nat → Int32) × (Nat → Int32)) :=
  bd (fX12_finds (1 : Int32) found_25) fun (r_4, found_5) => some (r_4, d_25, aside_25, found_5, names_25, pile_25)
def fX12_rubbed_107 (v1_60 : Int32) (v2_60 : Int32) (v3_60 : Int32) (v4_107 : Int32) (v6_107 : Int32) (k0_107 : Int32) (d_107 : Nat → Int32) (aside_60 : Nat → Int32) (found_60 : Nat → Int32) (names_107 : Nat → Int32) (pile_107 : Nat → Int32) (bitsOf : Nat → Int32) (sizeOf : Nat → Int32) (number : Nat → Int32) : Option ((Int32 × Int32 × Int32 × (Nat → Int32) × (Nat → Int32) × (Nat → Int32)) ⊕ (Int32 × Int32 × Int32 × (Nat → Int32) × (Nat → Int32) × (Nat → Int32))) :=
  bnd (v6_107 + (-1 : Int32)) fun y_33 => some (.inl (v4_107, k0_107, y_33, d_107, names_107, pile_107))
def fX12_rubbed_92 (v1_60 : Int32) (v2_60 : Int32) (v3_60 : Int32) (v5_92 : Int32) (v6_92 : Int32) (v7_92 : Int32) (k0_92 : Int32) (k1_92 : Int32) (d_92 : Nat → Int32) (aside_60 : Nat → Int32) (found_60 : Nat → Int32) (names_92 : Nat → Int32) (pile_92 : Nat → Int32) (bitsOf : Nat → Int32) (sizeOf : Nat → Int32) (number : Nat → Int32) : Option ((Int32 × Int32 × Int32 × (Nat → Int32) × (Nat → Int32) × (Nat → Int32)) ⊕ (Int32 × Int32 × Int32 × (Nat → Int32) × (Nat → Int32) × (Nat → Int32))) :=
  bnd (k1_92 + k0_92) fun y_31 => (if v7_92 = 0 then fX12_rubbed_107 v1_60 v2_60 v3_60 y_31 v6_92 v5_92 d_92 aside_60 found_60 names_92 pile_92 bitsOf sizeOf number else fX12_rubbed_107 v1_60 v2_60 v3_60 y_31 v6_92 v6_92 d_92 aside_60 found_60 names_92 pile_92 bitsOf sizeOf number)
def fX12_rubbed_60B (v1_60 : Int32) (v2_60 : Int32) (v3_60 : Int32) (aside_60 : Nat → Int32) (found_60 : Nat → Int32) (bitsOf : Nat → Int32) (sizeOf : Nat → Int32) (number : Nat → Int32) (v4_60b : Int32) (v5_60b : Int32) (v6_60b : Int32) (d_60b : Nat → Int32) (names_60b : Nat → Int32) (pile_60b : Nat → Int32) : Option ((Int32 × Int32 × Int32 × (Nat → Int32) × (Nat → Int32) × (Nat → Int32)) ⊕ (Int32 × Int32 × Int32 × (Nat → Int32) × (Nat → Int32) × (Nat → Int32))) :=
  (if v6_60b < 0 then some (.inr (v4_60b, v5_60b, v6_60b, d_60b, names_60b, pile_60b)) else bd (fX12_sets v2_60 (2 : Int32) v6_60b d_60b) fun d_23 => bd (fX12_isTold v1_60 d_23 aside_60 names_60b pile_60b sizeOf number) fun (r_25, d_26, names_27, pile_28) => (if r_25 = 0 then fX12_rubbed_92 v1_60 v2_60 v3_60 v5_60b v6_60b r_25 (0 : Int32) v4_60b d_26 aside_60 found_60 names_27 pile_28 bitsOf sizeOf number else fX12_rubbed_92 v1_60 v2_60 v3_60 v5_60b v6_60b r_25 (1 : Int32) v4_60b d_26 aside_60 found_60 names_27 pile_28 bitsOf sizeOf number))
def fX12_rubbed_60 (v1_60 : Int32) (v2_60 : Int32) (v3_60 : Int32) (v4_60 : Int32) (v5_60 : Int32) (v6_60 : Int32) (d_60 : Nat → Int32) (aside_60 : Nat → Int32) (found_60 : Nat → Int32) (names_60 : Nat → Int32) (pile_60 : Nat → Int32) (bitsOf : Nat → Int32) (sizeOf : Nat → Int32) (number : Nat → Int32) : Option (Int32 × (Nat → Int32) × (Nat → Int32) × (Nat → Int32) × (Nat → Int32) × (Nat → Int32)) :=
  bd (lp (fun σ : Int32 × Int32 × Int32 × (Nat → Int32) × (Nat → Int32) × (Nat → Int32) => fX12_rubbed_60B v1_60 v2_60 v3_60 aside_60 found_60 bitsOf sizeOf number (σ.1) (σ.2.1) (σ.2.2.1) (σ.2.2.2.1) (σ.2.2.2.2.1) (σ.2.2.2.2.2)) FU (v4_60, v5_60, v6_60, d_60, names_60, pile_60)) fun ρ => match ρ with | (v4_60r, v5_60r, v6_60r, d_60r, names_60r, pile_60r) => (if v3_60 = 0 then some (v4_60r, d_60r, aside_60, found_60, names_60r, pile_60r) else (if 0 ≤ v5_60r then some (v5_60r, d_60r, aside_60, found_60, names_60r, pile_60r) else bd (fX12_finds (2 : Int32) found_60) fun (r_19, found_20) => some (r_19, d_60r, aside_60, found_20, names_60r, pile_60r)))
def fX12_rubbed (a : Int32) (b : Int32) (what : Int32) (d : Nat → Int32) (aside : Nat → Int32) (found : Nat → Int32) (names : Nat → Int32) (pile : Nat → Int32) (bitsOf : Nat → Int32) (sizeOf : Nat → Int32) (number : Nat → Int32) : Option (Int32 × (Nat → Int32) × (Nat → Int32) × (Nat → Int32) × (Nat → Int32) × (Nat → Int32)) :=
  bd (fX12_isSheet a) fun r_1 => (if r_1 = 0 then fX12_rubbed_25 d aside found names pile bitsOf sizeOf number else bd (fX12_isSpoon b d) fun r_7 => (if r_7 = 0 then fX12_rubbed_25 d aside found names pile bitsOf sizeOf number else bd (fX12_in ((what).toInt64) (0 : Int64) (1 : Int64)) fun r_10 => (if r_10 = 0 then fX12_rubbed_25 d aside found names pile bitsOf sizeOf number else ckI a 4 ((if (bitsOf (a).toNatClampNeg) = 0 then bd (fX12_finds (2 : Int32) found) fun (r_34, found_35) => some (r_34, d, aside, found_35, names, pile) else bd (fX12_keepAside d aside) fun aside_15 => fX12_rubbed_60 a b what (0 : Int32) (-1 : Int32) (99 : Int32) d aside_15 found names pile bitsOf sizeOf number)))))
set_option maxHeartbeats 4000000 in
set_option maxRecDepth 100000 in
theorem c_X12_rubbed (l : Launch) (G : Nat → Nat) (D : va_G) (cA : Nat → ClassId) (ad : Nat → Nat) (sz : Nat) (d : Nat → Int32) (kept : Nat → Int32) (aside : Nat → Int32) (images : Int32) (found : Nat → Int32) (base : Int32) (at0 : Int32) (size : Int32) (fault : Int32) (opened : Int32) (isRub : Int32) (names : Nat → Int32) (code : Nat → Int32) (coded : Int32) (pile : Nat → Int32) (needs : Nat → Int32) (traced : Nat → Int32) (traceMany : Int32) (who : Int32) (bitsOf : Nat → Int32) (sizeOf : Nat → Int32) (number : Nat → Int32) (lifted : Nat → Int32) (a : Int32) (b : Int32) (what : Int32) (rR : Int32) (dR : Nat → Int32) (asideR : Nat → Int32) (foundR : Nat → Int32) (namesR : Nat → Int32) (pileR : Nat → Int32) (h : fX12_rubbed a b what d aside found names pile bitsOf sizeOf number = some (rR, dR, asideR, foundR, namesR, pileR)) : Met l yX12_rubbed wsX12_rubbed ({ frames := 7, cells := 0, slots := 0, locals := 165 } : Room) (PW G D (tyC cA) sz (wM cA ad d kept aside images found base at0 size fault opened isRub names code coded pile needs traced traceMany who bitsOf sizeOf number lifted) [.ref (ad 0), .int a, .int b, .int what]) (QI D (tyC cA) (va_A (wM cA ad d kept aside images found base at0 size fault opened isRub names code coded pile needs traced traceMany who bitsOf sizeOf number lifted) sz) rR (wM cA ad dR kept asideR images foundR base at0 size fault opened isRub namesR code coded pileR needs traced traceMany who bitsOf sizeOf number lifted)) 0 0 (va_A (wM cA ad d kept aside images found base at0 size fault opened isRub names code coded pile needs traced traceMany who bitsOf sizeOf number lifted) sz) := by
  refine ent (cc := cX12_rubbed) (maxL := 8) (ret := (some .int)) (fun A => QI D (tyC cA) A rR (wM cA ad dR kept asideR images foundR base at0 size fault opened isRub namesR code coded pileR needs traced traceMany who bitsOf sizeOf number lifted)) (by decide +kernel) rfl (Nat.le_of_ble_eq_true rfl) ?_
  intro p e s m args below meth c A ls H hx hb hml hr hlk hts hown hA hK hE hP hD hS hv hmm
  have hv : lv_has ls 8 [(0, .ref (ad 0)), (1, .int a), (2, .int b), (3, .int what)] := hv
  have in_12 : ∀ w ∈ u_ws RX12 TX12 23, w ∈ wsX12_rubbed := fun _ h => List.mem_cons_of_mem _ (List.mem_append_right _ h)
  have w_0 := hts (.fieldLink RX12 37 "SpoonsLastModel" "bitsOf" "[I") (List.mem_of_getElem? (i := 1) rfl)
  generalize hQ : MQ below _ args s 0 0 A = Q
  have C_25 : ∀ (d_25 : Nat → Int32) (aside_25 : Nat → Int32) (found_25 : Nat → Int32) (names_25 : Nat → Int32) (pile_25 : Nat → Int32), fX12_rubbed_25 d_25 aside_25 found_25 names_25 pile_25 bitsOf sizeOf number = some (rR, dR, asideR, foundR, namesR, pileR) → WW p l e ({ frames := 7, cells := 0, slots := 0, locals := 165 } : Room) s m args below meth c D A 0 0 Q (wM cA ad d_25 kept aside_25 images found_25 base at0 size fault opened isRub names_25 code coded pile_25 needs traced traceMany who bitsOf sizeOf number lifted) 8 [(0, .ref (ad 0))] 25 [] := by
    intro d_25 aside_25 found_25 names_25 pile_25 h
    unfold fX12_rubbed_25 at h
    intro H locs ls hP hD hS hv
    refine lv_aload_n hx hb dX12_rubbed_25 rfl (lv_at hv 0 rfl) ?_
    refine lv_iconst (v := (1 : Int32)) hx hb dX12_rubbed_26 (by decide) ?_
    obtain ⟨⟨r_4, found_5⟩, hf_6, h⟩ := bd_ex h
    have sb := Sb.same hP hD hS hA
    refine calI (va_runV (As := [.int (1 : Int32)]) (rest := []) ⟨hx, hb, hml, hown, hts⟩ (c_X12_finds l G D cA ad _ d_25 kept aside_25 images found_25 base at0 size fault opened isRub names_25 code coded pile_25 needs traced traceMany who bitsOf sizeOf number lifted (1 : Int32) r_4 found_5 hf_6) (cwV 1 hts gX12_rubbed_X12_finds rfl rfl rfl (by decide +kernel) ⟨Nat.le_of_ble_eq_true rfl, Nat.le_of_ble_eq_true rfl⟩) (pvV hE hK hS sb (va_recv hK hP (ci := 12) (q0 := 0) rfl rfl)) rfl rfl hv.1 rfl (lv_room (Nat.le_of_ble_eq_true rfl)) dX12_rubbed_27 ⟨Nat.le_of_ble_eq_true rfl, Nat.le_of_ble_eq_true rfl⟩) hS sb (Jn.same sb) (fun H locs hP hD hS => ?_)
    have hP : va_P D vwCl (wM cA ad d_25 kept aside_25 images found_5 base at0 size fault opened isRub names_25 code coded pile_25 needs traced traceMany who bitsOf sizeOf number lifted) H := hP
    have hD : va_D A (wM cA ad d_25 kept aside_25 images found_5 base at0 size fault opened isRub names_25 code coded pile_25 needs traced traceMany who bitsOf sizeOf number lifted) := hD
    have h := Option.some.inj h
    have ee0 : r_4 = rR := congrArg (fun q => q.1) h
    have ee1 : d_25 = dR := congrArg (fun q => q.2.1) h
    have ee2 : aside_25 = asideR := congrArg (fun q => q.2.2.1) h
    have ee3 : found_5 = foundR := congrArg (fun q => q.2.2.2.1) h
    have ee4 : names_25 = namesR := congrArg (fun q => q.2.2.2.2.1) h
    have ee5 : pile_25 = pileR := congrArg (fun q => q.2.2.2.2.2) h
    subst ee0
    subst ee1
    subst ee2
    subst ee3
    subst ee4
    subst ee5
    rw [← hQ]
    exact retI hx hb hr hlk hK hP hD hS dX12_rubbed_30 ⟨Nat.le_of_ble_eq_true rfl, Nat.le_of_ble_eq_true rfl⟩
  have C_60 : ∀ (v1_60 : Int32) (v2_60 : Int32) (v3_60 : Int32) (v4_60 : Int32) (v5_60 : Int32) (v6_60 : Int32) (d_60 : Nat → Int32) (aside_60 : Nat → Int32) (found_60 : Nat → Int32) (names_60 : Nat → Int32) (pile_60 : Nat → Int32), fX12_rubbed_60 v1_60 v2_60 v3_60 v4_60 v5_60 v6_60 d_60 aside_60 found_60 names_60 pile_60 bitsOf sizeOf number = some (rR, dR, asideR, foundR, namesR, pileR) → WW p l e ({ frames := 7, cells := 0, slots := 0, locals := 165 } : Room) s m args below meth c D A 0 0 Q (wM cA ad d_60 kept aside_60 images found_60 base at0 size fault opened isRub names_60 code coded pile_60 needs traced traceMany who bitsOf sizeOf number lifted) 8 [(0, .ref (ad 0)), (1, .int v1_60), (2, .int v2_60), (3, .int v3_60), (4, .int v4_60), (5, .int v5_60), (6, .int v6_60)] 60 [] := by
    intro v1_60 v2_60 v3_60 v4_60 v5_60 v6_60 d_60 aside_60 found_60 names_60 pile_60 h
    unfold fX12_rubbed_60 at h
    obtain ⟨⟨v4_60r, v5_60r, v6_60r, d_60r, names_60r, pile_60r⟩, ho, h⟩ := bd_ex h
    have LE : WW p l e ({ frames := 7, cells := 0, slots := 0, locals := 165 } : Room) s m args below meth c D A 0 0 Q (wM cA ad d_60r kept aside_60 images found_60 base at0 size fault opened isRub names_60r code coded pile_60r needs traced traceMany who bitsOf sizeOf number lifted) 8 [(0, .ref (ad 0)), (3, .int v3_60), (4, .int v4_60r), (5, .int v5_60r)] 115 [] := by
      intro H locs ls hP hD hS hv
      refine lv_iload_n hx hb dX12_rubbed_115 rfl (lv_at hv 1 rfl) ?_
      refine lv_if_ne (tgt := 124) hx hb dX12_rubbed_116 (by decide) (fun c_17 => ?_) (fun c_17 => ?_)
      · have h := ite_f c_17 h
        refine lv_iload hx hb dX12_rubbed_124 (lv_at hv 3 rfl) ?_
        refine lv_if_ge (tgt := 137) hx hb dX12_rubbed_126 (by decide) (fun c_18 => ?_) (fun c_18 => ?_)
        · have h := ite_t c_18 h
          refine lv_iload hx hb dX12_rubbed_137 (lv_at hv 3 rfl) ?_
          have h := Option.some.inj h
          have ee0 : v5_60r = rR := congrArg (fun q => q.1) h
          have ee1 : d_60r = dR := congrArg (fun q => q.2.1) h
          have ee2 : aside_60 = asideR := congrArg (fun q => q.2.2.1) h
          have ee3 : found_60 = foundR := congrArg (fun q => q.2.2.2.1) h
          have ee4 : names_60r = namesR := congrArg (fun q => q.2.2.2.2.1) h
          have ee5 : pile_60r = pileR := congrArg (fun q => q.2.2.2.2.2) h
          subst ee0
          subst ee1
          subst ee2
          subst ee3
          subst ee4
          subst ee5
          rw [← hQ]
          exact retI hx hb hr hlk hK hP hD hS dX12_rubbed_139 ⟨Nat.le_of_ble_eq_true rfl, Nat.le_of_ble_eq_true rfl⟩
        · have h := ite_f c_18 h
          refine lv_aload_n hx hb dX12_rubbed_129 rfl (lv_at hv 0 rfl) ?_
          refine lv_iconst (v := (2 : Int32)) hx hb dX12_rubbed_130 (by decide) ?_
          obtain ⟨⟨r_19, found_20⟩, hf_21, h⟩ := bd_ex h
          have sb := Sb.same hP hD hS hA
          refine calI (va_runV (As := [.int (2 : Int32)]) (rest := []) ⟨hx, hb, hml, hown, hts⟩ (c_X12_finds l G D cA ad _ d_60r kept aside_60 images found_60 base at0 size fault opened isRub names_60r code coded pile_60r needs traced traceMany who bitsOf sizeOf number lifted (2 : Int32) r_19 found_20 hf_21) (cwV 1 hts gX12_rubbed_X12_finds rfl rfl rfl (by decide +kernel) ⟨Nat.le_of_ble_eq_true rfl, Nat.le_of_ble_eq_true rfl⟩) (pvV hE hK hS sb (va_recv hK hP (ci := 12) (q0 := 0) rfl rfl)) rfl rfl hv.1 rfl (lv_room (Nat.le_of_ble_eq_true rfl)) dX12_rubbed_131 ⟨Nat.le_of_ble_eq_true rfl, Nat.le_of_ble_eq_true rfl⟩) hS sb (Jn.same sb) (fun H locs hP hD hS => ?_)
          have hP : va_P D vwCl (wM cA ad d_60r kept aside_60 images found_20 base at0 size fault opened isRub names_60r code coded pile_60r needs traced traceMany who bitsOf sizeOf number lifted) H := hP
          have hD : va_D A (wM cA ad d_60r kept aside_60 images found_20 base at0 size fault opened isRub names_60r code coded pile_60r needs traced traceMany who bitsOf sizeOf number lifted) := hD
          refine lv_goto (tgt := 139) hx hb dX12_rubbed_134 (by decide) ?_
          have h := Option.some.inj h
          have ee0 : r_19 = rR := congrArg (fun q => q.1) h
          have ee1 : d_60r = dR := congrArg (fun q => q.2.1) h
          have ee2 : aside_60 = asideR := congrArg (fun q => q.2.2.1) h
          have ee3 : found_20 = foundR := congrArg (fun q => q.2.2.2.1) h
          have ee4 : names_60r = namesR := congrArg (fun q => q.2.2.2.2.1) h
          have ee5 : pile_60r = pileR := congrArg (fun q => q.2.2.2.2.2) h
          subst ee0
          subst ee1
          subst ee2
          subst ee3
          subst ee4
          subst ee5
          rw [← hQ]
          exact retI hx hb hr hlk hK hP hD hS dX12_rubbed_139 ⟨Nat.le_of_ble_eq_true rfl, Nat.le_of_ble_eq_true rfl⟩
      · have h := ite_t c_17 h
        refine lv_iload hx hb dX12_rubbed_119 (lv_at hv 2 rfl) ?_
        refine lv_goto (tgt := 139) hx hb dX12_rubbed_121 (by decide) ?_
        have h := Option.some.inj h
        have ee0 : v4_60r = rR := congrArg (fun q => q.1) h
        have ee1 : d_60r = dR := congrArg (fun q => q.2.1) h
        have ee2 : aside_60 = asideR := congrArg (fun q => q.2.2.1) h
        have ee3 : found_60 = foundR := congrArg (fun q => q.2.2.2.1) h
        have ee4 : names_60r = namesR := congrArg (fun q => q.2.2.2.2.1) h
        have ee5 : pile_60r = pileR := congrArg (fun q => q.2.2.2.2.2) h
        subst ee0
        subst ee1
        subst ee2
        subst ee3
        subst ee4
        subst ee5
        rw [← hQ]
        exact retI hx hb hr hlk hK hP hD hS dX12_rubbed_139 ⟨Nat.le_of_ble_eq_true rfl, Nat.le_of_ble_eq_true rfl⟩
    have LB : ∀ (nf : Nat) (v4_60b : Int32) (v5_60b : Int32) (v6_60b : Int32) (d_60b : Nat → Int32) (names_60b : Nat → Int32) (pile_60b : Nat → Int32), lp (fun σ : Int32 × Int32 × Int32 × (Nat → Int32) × (Nat → Int32) × (Nat → Int32) => fX12_rubbed_60B v1_60 v2_60 v3_60 aside_60 found_60 bitsOf sizeOf number (σ.1) (σ.2.1) (σ.2.2.1) (σ.2.2.2.1) (σ.2.2.2.2.1) (σ.2.2.2.2.2)) nf (v4_60b, v5_60b, v6_60b, d_60b, names_60b, pile_60b) = some (v4_60r, v5_60r, v6_60r, d_60r, names_60r, pile_60r) → WW p l e ({ frames := 7, cells := 0, slots := 0, locals := 165 } : Room) s m args below meth c D A 0 0 Q (wM cA ad d_60b kept aside_60 images found_60 base at0 size fault opened isRub names_60b code coded pile_60b needs traced traceMany who bitsOf sizeOf number lifted) 8 [(0, .ref (ad 0)), (1, .int v1_60), (2, .int v2_60), (3, .int v3_60), (4, .int v4_60b), (5, .int v5_60b), (6, .int v6_60b)] 60 [] := by
      intro nf
      induction nf with
      | zero => intro v4_60b v5_60b v6_60b d_60b names_60b pile_60b hl; cases hl
      | succ nf ih =>
        intro v4_60b v5_60b v6_60b d_60b names_60b pile_60b hl
        obtain ⟨x, h, hl⟩ := lp_ex hl
        have h : fX12_rubbed_60B v1_60 v2_60 v3_60 aside_60 found_60 bitsOf sizeOf number v4_60b v5_60b v6_60b d_60b names_60b pile_60b = some x := h
        unfold fX12_rubbed_60B at h
        have C_107 : ∀ (v4_107 : Int32) (v6_107 : Int32) (k0_107 : Int32) (d_107 : Nat → Int32) (names_107 : Nat → Int32) (pile_107 : Nat → Int32) (x : (Int32 × Int32 × Int32 × (Nat → Int32) × (Nat → Int32) × (Nat → Int32)) ⊕ (Int32 × Int32 × Int32 × (Nat → Int32) × (Nat → Int32) × (Nat → Int32))), fX12_rubbed_107 v1_60 v2_60 v3_60 v4_107 v6_107 k0_107 d_107 aside_60 found_60 names_107 pile_107 bitsOf sizeOf number = some x → lpk (fun σ : Int32 × Int32 × Int32 × (Nat → Int32) × (Nat → Int32) × (Nat → Int32) => fX12_rubbed_60B v1_60 v2_60 v3_60 aside_60 found_60 bitsOf sizeOf number (σ.1) (σ.2.1) (σ.2.2.1) (σ.2.2.2.1) (σ.2.2.2.2.1) (σ.2.2.2.2.2)) nf x = some (v4_60r, v5_60r, v6_60r, d_60r, names_60r, pile_60r) → WW p l e ({ frames := 7, cells := 0, slots := 0, locals := 165 } : Room) s m args below meth c D A 0 0 Q (wM cA ad d_107 kept aside_60 images found_60 base at0 size fault opened isRub names_107 code coded pile_107 needs traced traceMany who bitsOf sizeOf number lifted) 8 [(0, .ref (ad 0)), (1, .int v1_60), (2, .int v2_60), (3, .int v3_60), (4, .int v4_107), (6, .int v6_107)] 107 [.int k0_107] := by
          intro v4_107 v6_107 k0_107 d_107 names_107 pile_107 x h hl
          unfold fX12_rubbed_107 at h
          intro H locs ls hP hD hS hv
          refine lv_istore (lv' := [(5, .int k0_107), (0, .ref (ad 0)), (1, .int v1_60), (2, .int v2_60), (3, .int v3_60), (4, .int v4_107), (6, .int v6_107)]) hx hb dX12_rubbed_107 hv (by decide) rfl (fun ls hv => ?_)
          obtain ⟨y_33, ey_33, h⟩ := bnd_ex h
          refine lv_iinc (v := y_33) (lv' := [(6, .int y_33), (5, .int k0_107), (0, .ref (ad 0)), (1, .int v1_60), (2, .int v2_60), (3, .int v3_60), (4, .int v4_107)]) hx hb dX12_rubbed_109 hv (k := 6) rfl (by rw [ey_33]; rfl) (by decide) rfl (fun ls hv => ?_)
          refine lv_goto (tgt := 60) hx hb dX12_rubbed_112 (by decide) ?_
          cases h
          exact ih v4_107 k0_107 y_33 d_107 names_107 pile_107 hl _ _ _ hP hD hS (lv_sub hv [2, 3, 4, 5, 6, 1, 0] rfl)
        have C_92 : ∀ (v5_92 : Int32) (v6_92 : Int32) (v7_92 : Int32) (k0_92 : Int32) (k1_92 : Int32) (d_92 : Nat → Int32) (names_92 : Nat → Int32) (pile_92 : Nat → Int32) (x : (Int32 × Int32 × Int32 × (Nat → Int32) × (Nat → Int32) × (Nat → Int32)) ⊕ (Int32 × Int32 × Int32 × (Nat → Int32) × (Nat → Int32) × (Nat → Int32))), fX12_rubbed_92 v1_60 v2_60 v3_60 v5_92 v6_92 v7_92 k0_92 k1_92 d_92 aside_60 found_60 names_92 pile_92 bitsOf sizeOf number = some x → lpk (fun σ : Int32 × Int32 × Int32 × (Nat → Int32) × (Nat → Int32) × (Nat → Int32) => fX12_rubbed_60B v1_60 v2_60 v3_60 aside_60 found_60 bitsOf sizeOf number (σ.1) (σ.2.1) (σ.2.2.1) (σ.2.2.2.1) (σ.2.2.2.2.1) (σ.2.2.2.2.2)) nf x = some (v4_60r, v5_60r, v6_60r, d_60r, names_60r, pile_60r) → WW p l e ({ frames := 7, cells := 0, slots := 0, locals := 165 } : Room) s m args below meth c D A 0 0 Q (wM cA ad d_92 kept aside_60 images found_60 base at0 size fault opened isRub names_92 code coded pile_92 needs traced traceMany who bitsOf sizeOf number lifted) 8 [(0, .ref (ad 0)), (1, .int v1_60), (2, .int v2_60), (3, .int v3_60), (5, .int v5_92), (6, .int v6_92), (7, .int v7_92)] 92 [.int k0_92, .int k1_92] := by
          intro v5_92 v6_92 v7_92 k0_92 k1_92 d_92 names_92 pile_92 x h hl
          unfold fX12_rubbed_92 at h
          intro H locs ls hP hD hS hv
          refine lv_iadd hx hb dX12_rubbed_92 ?_
          obtain ⟨y_31, ey_31, h⟩ := bnd_ex h
          refine lv_nm ey_31 ?_
          refine lv_istore (lv' := [(4, .int y_31), (0, .ref (ad 0)), (1, .int v1_60), (2, .int v2_60), (3, .int v3_60), (5, .int v5_92), (6, .int v6_92), (7, .int v7_92)]) hx hb dX12_rubbed_93 hv (by decide) rfl (fun ls hv => ?_)
          refine lv_iload hx hb dX12_rubbed_95 (lv_at hv 7 rfl) ?_
          refine lv_if_eq (tgt := 105) hx hb dX12_rubbed_97 (by decide) (fun c_32 => ?_) (fun c_32 => ?_)
          · have h := ite_t c_32 h
            refine lv_iload hx hb dX12_rubbed_105 (lv_at hv 5 rfl) ?_
            exact C_107 y_31 v6_92 v5_92 d_92 names_92 pile_92 _ h hl _ _ _ hP hD hS (lv_sub hv [1, 2, 3, 4, 0, 6] rfl)
          · have h := ite_f c_32 h
            refine lv_iload hx hb dX12_rubbed_100 (lv_at hv 6 rfl) ?_
            refine lv_goto (tgt := 107) hx hb dX12_rubbed_102 (by decide) ?_
            exact C_107 y_31 v6_92 v6_92 d_92 names_92 pile_92 _ h hl _ _ _ hP hD hS (lv_sub hv [1, 2, 3, 4, 0, 6] rfl)
        intro H locs ls hP hD hS hv
        refine lv_iload hx hb dX12_rubbed_60 (lv_at hv 6 rfl) ?_
        refine lv_if_lt (tgt := 115) hx hb dX12_rubbed_62 (by decide) (fun c_22 => ?_) (fun c_22 => ?_)
        · have h := ite_t c_22 h
          cases h
          have hl : some (v4_60b, v5_60b, v6_60b, d_60b, names_60b, pile_60b) = some (v4_60r, v5_60r, v6_60r, d_60r, names_60r, pile_60r) := hl
          have hl := Option.some.inj hl
          have ee0 : v4_60b = v4_60r := congrArg (fun q => q.1) hl
          have ee1 : v5_60b = v5_60r := congrArg (fun q => q.2.1) hl
          have ee2 : v6_60b = v6_60r := congrArg (fun q => q.2.2.1) hl
          have ee3 : d_60b = d_60r := congrArg (fun q => q.2.2.2.1) hl
          have ee4 : names_60b = names_60r := congrArg (fun q => q.2.2.2.2.1) hl
          have ee5 : pile_60b = pile_60r := congrArg (fun q => q.2.2.2.2.2) hl
          subst ee0
          subst ee1
          subst ee2
          subst ee3
          subst ee4
          subst ee5
          exact LE _ _ _ hP hD hS (lv_sub hv [0, 3, 4, 5] rfl)
        · have h := ite_f c_22 h
          refine lv_aload_n hx hb dX12_rubbed_65 rfl (lv_at hv 0 rfl) ?_
          refine lv_iload_n hx hb dX12_rubbed_66 rfl (lv_at hv 2 rfl) ?_
          refine lv_iconst (v := (2 : Int32)) hx hb dX12_rubbed_67 (by decide) ?_
          refine lv_iload hx hb dX12_rubbed_68 (lv_at hv 6 rfl) ?_
          obtain ⟨d_23, hf_24, h⟩ := bd_ex h
          have sb := Sb.same hP hD hS hA
          refine calV (va_runV (As := [.int v2_60, .int (2 : Int32), .int v6_60b]) (rest := []) ⟨hx, hb, hml, hown, hts⟩ (c_X12_sets l G D cA ad _ d_60b kept aside_60 images found_60 base at0 size fault opened isRub names_60b code coded pile_60b needs traced traceMany who bitsOf sizeOf number lifted v2_60 (2 : Int32) v6_60b d_23 hf_24) (cwV 3 hts gX12_rubbed_X12_sets rfl rfl rfl (by decide +kernel) ⟨Nat.le_of_ble_eq_true rfl, Nat.le_of_ble_eq_true rfl⟩) (pvV hE hK hS sb (va_recv hK hP (ci := 12) (q0 := 0) rfl rfl)) rfl rfl hv.1 rfl (lv_room (Nat.le_of_ble_eq_true rfl)) dX12_rubbed_70 ⟨Nat.le_of_ble_eq_true rfl, Nat.le_of_ble_eq_true rfl⟩) hS sb (Jn.same sb) (fun H locs hP hD hS => ?_)
          have hP : va_P D vwCl (wM cA ad d_23 kept aside_60 images found_60 base at0 size fault opened isRub names_60b code coded pile_60b needs traced traceMany who bitsOf sizeOf number lifted) H := hP
          have hD : va_D A (wM cA ad d_23 kept aside_60 images found_60 base at0 size fault opened isRub names_60b code coded pile_60b needs traced traceMany who bitsOf sizeOf number lifted) := hD
          refine lv_aload_n hx hb dX12_rubbed_73 rfl (lv_at hv 0 rfl) ?_
          refine lv_iload_n hx hb dX12_rubbed_74 rfl (lv_at hv 1 rfl) ?_
          obtain ⟨⟨r_25, d_26, names_27, pile_28⟩, hf_29, h⟩ := bd_ex h
          have sb := Sb.same hP hD hS hA
          refine calI (va_runV (As := [.int v1_60]) (rest := []) ⟨hx, hb, hml, hown, hts⟩ (c_X12_isTold l G D cA ad _ d_23 kept aside_60 images found_60 base at0 size fault opened isRub names_60b code coded pile_60b needs traced traceMany who bitsOf sizeOf number lifted v1_60 r_25 d_26 names_27 pile_28 hf_29) (cwV 1 hts gX12_rubbed_X12_isTold rfl rfl rfl (by decide +kernel) ⟨Nat.le_of_ble_eq_true rfl, Nat.le_of_ble_eq_true rfl⟩) (pvV hE hK hS sb (va_recv hK hP (ci := 12) (q0 := 0) rfl rfl)) rfl rfl hv.1 rfl (lv_room (Nat.le_of_ble_eq_true rfl)) dX12_rubbed_75 ⟨Nat.le_of_ble_eq_true rfl, Nat.le_of_ble_eq_true rfl⟩) hS sb (Jn.same sb) (fun H locs hP hD hS => ?_)
          have hP : va_P D vwCl (wM cA ad d_26 kept aside_60 images found_60 base at0 size fault opened isRub names_27 code coded pile_28 needs traced traceMany who bitsOf sizeOf number lifted) H := hP
          have hD : va_D A (wM cA ad d_26 kept aside_60 images found_60 base at0 size fault opened isRub names_27 code coded pile_28 needs traced traceMany who bitsOf sizeOf number lifted) := hD
          refine lv_istore (lv' := [(7, .int r_25), (0, .ref (ad 0)), (1, .int v1_60), (2, .int v2_60), (3, .int v3_60), (4, .int v4_60b), (5, .int v5_60b), (6, .int v6_60b)]) hx hb dX12_rubbed_78 hv (by decide) rfl (fun ls hv => ?_)
          refine lv_iload hx hb dX12_rubbed_80 (lv_at hv 5 rfl) ?_
          refine lv_iload hx hb dX12_rubbed_82 (lv_at hv 0 rfl) ?_
          refine lv_if_eq (tgt := 91) hx hb dX12_rubbed_84 (by decide) (fun c_30 => ?_) (fun c_30 => ?_)
          · have h := ite_t c_30 h
            refine lv_iconst (v := (0 : Int32)) hx hb dX12_rubbed_91 (by decide) ?_
            exact C_92 v5_60b v6_60b r_25 (0 : Int32) v4_60b d_26 names_27 pile_28 _ h hl _ _ _ hP hD hS (lv_sub hv [1, 2, 3, 4, 6, 7, 0] rfl)
          · have h := ite_f c_30 h
            refine lv_iconst (v := (1 : Int32)) hx hb dX12_rubbed_87 (by decide) ?_
            refine lv_goto (tgt := 92) hx hb dX12_rubbed_88 (by decide) ?_
            exact C_92 v5_60b v6_60b r_25 (1 : Int32) v4_60b d_26 names_27 pile_28 _ h hl _ _ _ hP hD hS (lv_sub hv [1, 2, 3, 4, 6, 7, 0] rfl)
    exact LB FU v4_60 v5_60 v6_60 d_60 names_60 pile_60 ho
  have hP : va_P D vwCl (wM cA ad d kept aside images found base at0 size fault opened isRub names code coded pile needs traced traceMany who bitsOf sizeOf number lifted) H := hP
  unfold fX12_rubbed at h
  refine lv_iload_n hx hb dX12_rubbed_0 rfl (lv_at hv 1 rfl) ?_
  obtain ⟨r_1, hf_2, h⟩ := bd_ex h
  have sb := Sb.nil hP hD hS hA
  refine calI (va_runS (As := [.int a]) (rest := []) ⟨hx, hb, hml, hown, hts⟩ (c_X12_isSheet l G D cA  _ a r_1 hf_2) (va_cwS 1 hts gX12_rubbed_X12_isSheet rfl rfl rfl (by decide +kernel) ⟨Nat.le_of_ble_eq_true rfl, Nat.le_of_ble_eq_true rfl⟩) (pvS hE hK hS sb) rfl rfl hv.1 rfl (lv_room (Nat.le_of_ble_eq_true rfl)) dX12_rubbed_1 ⟨Nat.le_of_ble_eq_true rfl, Nat.le_of_ble_eq_true rfl⟩) hS sb (Jn.nil hP hD) (fun H locs hP hD hS => ?_)
  have hP : va_P D vwCl (wM cA ad d kept aside images found base at0 size fault opened isRub names code coded pile needs traced traceMany who bitsOf sizeOf number lifted) H := hP
  have hD : va_D A (wM cA ad d kept aside images found base at0 size fault opened isRub names code coded pile needs traced traceMany who bitsOf sizeOf number lifted) := hD
  refine lv_if_eq (tgt := 25) hx hb dX12_rubbed_4 (by decide) (fun c_3 => ?_) (fun c_3 => ?_)
  · have h := ite_t c_3 h
    exact C_25 d aside found names pile h _ _ _ hP hD hS (lv_sub hv [0] rfl)
  · have h := ite_f c_3 h
    refine lv_aload_n hx hb dX12_rubbed_7 rfl (lv_at hv 0 rfl) ?_
    refine lv_iload_n hx hb dX12_rubbed_8 rfl (lv_at hv 2 rfl) ?_
    obtain ⟨r_7, hf_8, h⟩ := bd_ex h
    have sb := Sb.same hP hD hS hA
    refine calI (va_runV (As := [.int b]) (rest := []) ⟨hx, hb, hml, hown, hts⟩ (c_X12_isSpoon l G D cA ad _ d kept aside images found base at0 size fault opened isRub names code coded pile needs traced traceMany who bitsOf sizeOf number lifted b r_7 hf_8) (cwV 1 hts gX12_rubbed_X12_isSpoon rfl rfl rfl (by decide +kernel) ⟨Nat.le_of_ble_eq_true rfl, Nat.le_of_ble_eq_true rfl⟩) (pvV hE hK hS sb (va_recv hK hP (ci := 12) (q0 := 0) rfl rfl)) rfl rfl hv.1 rfl (lv_room (Nat.le_of_ble_eq_true rfl)) dX12_rubbed_9 ⟨Nat.le_of_ble_eq_true rfl, Nat.le_of_ble_eq_true rfl⟩) hS sb (Jn.same sb) (fun H locs hP hD hS => ?_)
    have hP : va_P D vwCl (wM cA ad d kept aside images found base at0 size fault opened isRub names code coded pile needs traced traceMany who bitsOf sizeOf number lifted) H := hP
    have hD : va_D A (wM cA ad d kept aside images found base at0 size fault opened isRub names code coded pile needs traced traceMany who bitsOf sizeOf number lifted) := hD
    refine lv_if_eq (tgt := 25) hx hb dX12_rubbed_12 (by decide) (fun c_9 => ?_) (fun c_9 => ?_)
    · have h := ite_t c_9 h
      exact C_25 d aside found names pile h _ _ _ hP hD hS (lv_sub hv [0] rfl)
    · have h := ite_f c_9 h
      refine lv_iload_n hx hb dX12_rubbed_15 rfl (lv_at hv 3 rfl) ?_
      refine lv_i2l (v := (what).toInt64) hx hb dX12_rubbed_16 rfl ?_
      refine lv_lconst (v := (0 : Int64)) hx hb dX12_rubbed_17 (by decide) ?_
      refine lv_lconst (v := (1 : Int64)) hx hb dX12_rubbed_18 (by decide) ?_
      obtain ⟨r_10, hf_11, h⟩ := bd_ex h
      have sb := Sb.nil hP hD hS hA
      refine calI (va_runS (As := [.long (what).toInt64, .long (0 : Int64), .long (1 : Int64)]) (rest := []) ⟨hx, hb, hml, hown, hts⟩ (c_X12_in l G D cA  _ ((what).toInt64) (0 : Int64) (1 : Int64) r_10 hf_11) (va_cwS 3 hts gX12_rubbed_X12_in rfl rfl rfl (by decide +kernel) ⟨Nat.le_of_ble_eq_true rfl, Nat.le_of_ble_eq_true rfl⟩) (pvS hE hK hS sb) rfl rfl hv.1 rfl (lv_room (Nat.le_of_ble_eq_true rfl)) dX12_rubbed_19 ⟨Nat.le_of_ble_eq_true rfl, Nat.le_of_ble_eq_true rfl⟩) hS sb (Jn.nil hP hD) (fun H locs hP hD hS => ?_)
      have hP : va_P D vwCl (wM cA ad d kept aside images found base at0 size fault opened isRub names code coded pile needs traced traceMany who bitsOf sizeOf number lifted) H := hP
      have hD : va_D A (wM cA ad d kept aside images found base at0 size fault opened isRub names code coded pile needs traced traceMany who bitsOf sizeOf number lifted) := hD
      refine lv_if_ne (tgt := 31) hx hb dX12_rubbed_22 (by decide) (fun c_12 => ?_) (fun c_12 => ?_)
      · have h := ite_f c_12 h
        refine lv_aload_n hx hb dX12_rubbed_31 rfl (lv_at hv 0 rfl) ?_
        refine va_get (D := D) (ci := 12) (v := .ref (ad 20)) (C := RX12) (T := TX12) (N := 23) hx hb hts in_12 hown hK hP 0 rfl rfl 19 (by decide) w_0 (fun _ h9 => h9) rfl dX12_rubbed_32 ?_
        refine lv_iload_n hx hb dX12_rubbed_35 rfl (lv_at hv 1 rfl) ?_
        obtain ⟨c_13, h⟩ := ckI_ex h
        refine va_iald (D := D) hx hb hK hP 10 0 rfl rfl c_13 dX12_rubbed_36 ?_
        refine lv_if_ne (tgt := 46) hx hb dX12_rubbed_37 (by decide) (fun c_14 => ?_) (fun c_14 => ?_)
        · have h := ite_f c_14 h
          refine lv_aload_n hx hb dX12_rubbed_46 rfl (lv_at hv 0 rfl) ?_
          obtain ⟨aside_15, hf_16, h⟩ := bd_ex h
          have sb := Sb.same hP hD hS hA
          refine calV (va_runV (As := []) (rest := []) ⟨hx, hb, hml, hown, hts⟩ (c_X12_keepAside l G D cA ad _ d kept aside images found base at0 size fault opened isRub names code coded pile needs traced traceMany who bitsOf sizeOf number lifted aside_15 hf_16) (cwV 0 hts gX12_rubbed_X12_keepAside rfl rfl rfl (by decide +kernel) ⟨Nat.le_of_ble_eq_true rfl, Nat.le_of_ble_eq_true rfl⟩) (pvV hE hK hS sb (va_recv hK hP (ci := 12) (q0 := 0) rfl rfl)) rfl rfl hv.1 rfl (lv_room (Nat.le_of_ble_eq_true rfl)) dX12_rubbed_47 ⟨Nat.le_of_ble_eq_true rfl, Nat.le_of_ble_eq_true rfl⟩) hS sb (Jn.same sb) (fun H locs hP hD hS => ?_)
          have hP : va_P D vwCl (wM cA ad d kept aside_15 images found base at0 size fault opened isRub names code coded pile needs traced traceMany who bitsOf sizeOf number lifted) H := hP
          have hD : va_D A (wM cA ad d kept aside_15 images found base at0 size fault opened isRub names code coded pile needs traced traceMany who bitsOf sizeOf number lifted) := hD
          refine lv_iconst (v := (0 : Int32)) hx hb dX12_rubbed_50 (by decide) ?_
          refine lv_istore (lv' := [(4, .int (0 : Int32)), (0, .ref (ad 0)), (1, .int a), (2, .int b), (3, .int what)]) hx hb dX12_rubbed_51 hv (by decide) rfl (fun ls hv => ?_)
          refine lv_iconst (v := (-1 : Int32)) hx hb dX12_rubbed_53 (by decide) ?_
          refine lv_istore (lv' := [(5, .int (-1 : Int32)), (4, .int (0 : Int32)), (0, .ref (ad 0)), (1, .int a), (2, .int b), (3, .int what)]) hx hb dX12_rubbed_54 hv (by decide) rfl (fun ls hv => ?_)
          refine lv_bipush (v := (99 : Int32)) hx hb dX12_rubbed_56 (by decide) ?_
          refine lv_istore (lv' := [(6, .int (99 : Int32)), (5, .int (-1 : Int32)), (4, .int (0 : Int32)), (0, .ref (ad 0)), (1, .int a), (2, .int b), (3, .int what)]) hx hb dX12_rubbed_58 hv (by decide) rfl (fun ls hv => ?_)
          exact C_60 a b what (0 : Int32) (-1 : Int32) (99 : Int32) d aside_15 found names pile h _ _ _ hP hD hS (lv_sub hv [3, 4, 5, 6, 2, 1, 0] rfl)
        · have h := ite_t c_14 h
          refine lv_aload_n hx hb dX12_rubbed_40 rfl (lv_at hv 0 rfl) ?_
          refine lv_iconst (v := (2 : Int32)) hx hb dX12_rubbed_41 (by decide) ?_
          obtain ⟨⟨r_34, found_35⟩, hf_36, h⟩ := bd_ex h
          have sb := Sb.same hP hD hS hA
          refine calI (va_runV (As := [.int (2 : Int32)]) (rest := []) ⟨hx, hb, hml, hown, hts⟩ (c_X12_finds l G D cA ad _ d kept aside images found base at0 size fault opened isRub names code coded pile needs traced traceMany who bitsOf sizeOf number lifted (2 : Int32) r_34 found_35 hf_36) (cwV 1 hts gX12_rubbed_X12_finds rfl rfl rfl (by decide +kernel) ⟨Nat.le_of_ble_eq_true rfl, Nat.le_of_ble_eq_true rfl⟩) (pvV hE hK hS sb (va_recv hK hP (ci := 12) (q0 := 0) rfl rfl)) rfl rfl hv.1 rfl (lv_room (Nat.le_of_ble_eq_true rfl)) dX12_rubbed_42 ⟨Nat.le_of_ble_eq_true rfl, Nat.le_of_ble_eq_true rfl⟩) hS sb (Jn.same sb) (fun H locs hP hD hS => ?_)
          have hP : va_P D vwCl (wM cA ad d kept aside images found_35 base at0 size fault opened isRub names code coded pile needs traced traceMany who bitsOf sizeOf number lifted) H := hP
          have hD : va_D A (wM cA ad d kept aside images found_35 base at0 size fault opened isRub names code coded pile needs traced traceMany who bitsOf sizeOf number lifted) := hD
          have h := Option.some.inj h
          have ee0 : r_34 = rR := congrArg (fun q => q.1) h
          have ee1 : d = dR := congrArg (fun q => q.2.1) h
          have ee2 : aside = asideR := congrArg (fun q => q.2.2.1) h
          have ee3 : found_35 = foundR := congrArg (fun q => q.2.2.2.1) h
          have ee4 : names = namesR := congrArg (fun q => q.2.2.2.2.1) h
          have ee5 : pile = pileR := congrArg (fun q => q.2.2.2.2.2) h
          subst ee0
          subst ee1
          subst ee2
          subst ee3
          subst ee4
          subst ee5
          rw [← hQ]
          exact retI hx hb hr hlk hK hP hD hS dX12_rubbed_45 ⟨Nat.le_of_ble_eq_true rfl, Nat.le_of_ble_eq_true rfl⟩
      · have h := ite_t c_12 h
        exact C_25 d aside found names pile h _ _ _ hP hD hS (lv_sub hv [0] rfl)

def fX12_which_77 (v1_45 : Int32) (v2_45 : Int32) (v4_77 : Int32) (k0_77 : Int32) (k1_77 : Int32) (d_77 : Nat → Int32) (aside_45 : Nat → Int32) (found_45 : Nat → Int32) (names_77 : Nat → Int32) (pile_77 : Nat → Int32) (bitsOf : Nat → Int32) (sizeOf : Nat → Int32) (number : Nat → Int32) : Option ((Int32 × Int32 × (Nat → Int32) × (Nat → Int32) × (Nat → Int32)) ⊕ (Int32 × Int32 × (Nat → Int32) × (Nat → Int32) × (Nat → Int32))) :=
  bnd (k1_77 ||| k0_77) fun y_23 => bnd (v4_77 + (1 : Int32)) fun y_24 => some (.inl (y_23, y_24, d_77, names_77, pile_77))
def fX12_which_45B (v1_45 : Int32) (v2_45 : Int32) (aside_45 : Nat → Int32) (found_45 : Nat → Int32) (bitsOf : Nat → Int32) (sizeOf : Nat → Int32) (number : Nat → Int32) (v3_45b : Int32) (v4_45b : Int32) (d_45b : Nat → Int32) (names_45b : Nat → Int32) (pile_45b : Nat → Int32) : Option ((Int32 × Int32 × (Nat → Int32) × (Nat → Int32) × (Nat → Int32)) ⊕ (Int32 × Int32 × (Nat → Int32) × (Nat → Int32) × (Nat → Int32))) :=
  (if (6 : Int32) < v4_45b then some (.inr (v3_45b, v4_45b, d_45b, names_45b, pile_45b)) else bd (fX12_sets v2_45 (0 : Int32) v4_45b d_45b) fun d_15 => bd (fX12_isTold v1_45 d_15 aside_45 names_45b pile_45b sizeOf number) fun (r_17, d_18, names_19, pile_20) => (if r_17 = 0 then fX12_which_77 v1_45 v2_45 v4_45b (0 : Int32) v3_45b d_18 aside_45 found_45 names_19 pile_20 bitsOf sizeOf number else fX12_which_77 v1_45 v2_45 v4_45b ((1 : Int32) <<< (v4_45b &&& 31)) v3_45b d_18 aside_45 found_45 names_19 pile_20 bitsOf sizeOf number))
def fX12_which_45 (v1_45 : Int32) (v2_45 : Int32) (v3_45 : Int32) (v4_45 : Int32) (d_45 : Nat → Int32) (aside_45 : Nat → Int32) (found_45 : Nat → Int32) (names_45 : Nat → Int32) (pile_45 : Nat → Int32) (bitsOf : Nat → Int32) (sizeOf : Nat → Int32) (number : Nat → Int32) : Option (Int32 × (Nat → Int32) × (Nat → Int32) × (Nat → Int32) × (Nat → Int32) × (Nat → Int32)) :=
  bd (lp (fun σ : Int32 × Int32 × (Nat → Int32) × (Nat → Int32) × (Nat → Int32) => fX12_which_45B v1_45 v2_45 aside_45 found_45 bitsOf sizeOf number (σ.1) (σ.2.1) (σ.2.2.1) (σ.2.2.2.1) (σ.2.2.2.2)) FU (v3_45, v4_45, d_45, names_45, pile_45)) fun ρ => match ρ with | (v3_45r, v4_45r, d_45r, names_45r, pile_45r) => some (v3_45r, d_45r, aside_45, found_45, names_45r, pile_45r)
def fX12_which (a : Int32) (b : Int32) (d : Nat → Int32) (aside : Nat → Int32) (found : Nat → Int32) (names : Nat → Int32) (pile : Nat → Int32) (bitsOf : Nat → Int32) (sizeOf : Nat → Int32) (number : Nat → Int32) : Option (Int32 × (Nat → Int32) × (Nat → Int32) × (Nat → Int32) × (Nat → Int32) × (Nat → Int32)) :=
  bd (fX12_isSheet a) fun r_1 => (if r_1 = 0 then bd (fX12_finds (1 : Int32) found) fun (r_4, found_5) => some (r_4, d, aside, found_5, names, pile) else bd (fX12_isSpoon b d) fun r_7 => (if r_7 = 0 then bd (fX12_finds (1 : Int32) found) fun (r_28, found_29) => some (r_28, d, aside, found_29, names, pile) else ckI a 4 ((if (bitsOf (a).toNatClampNeg) = 0 then bd (fX12_finds (2 : Int32) found) fun (r_25, found_26) => some (r_25, d, aside, found_26, names, pile) else bd (fX12_keepAside d aside) fun aside_12 => fX12_which_45 a b (0 : Int32) (0 : Int32) d aside_12 found names pile bitsOf sizeOf number))))
set_option maxHeartbeats 4000000 in
set_option maxRecDepth 100000 in
theorem c_X12_which (l : Launch) (G : Nat → Nat) (D : va_G) (cA : Nat → ClassId) (ad : Nat → Nat) (sz : Nat) (d : Nat → Int32) (kept : Nat → Int32) (aside : Nat → Int32) (images : Int32) (found : Nat → Int32) (base : Int32) (at0 : Int32) (size : Int32) (fault : Int32) (opened : Int32) (isRub : Int32) (names : Nat → Int32) (code : Nat → Int32) (coded : Int32) (pile : Nat → Int32) (needs : Nat → Int32) (traced : Nat → Int32) (traceMany : Int32) (who : Int32) (bitsOf : Nat → Int32) (sizeOf : Nat → Int32) (number : Nat → Int32) (lifted : Nat → Int32) (a : Int32) (b : Int32) (rR : Int32) (dR : Nat → Int32) (asideR : Nat → Int32) (foundR : Nat → Int32) (namesR : Nat → Int32) (pileR : Nat → Int32) (h : fX12_which a b d aside found names pile bitsOf sizeOf number = some (rR, dR, asideR, foundR, namesR, pileR)) : Met l yX12_which wsX12_which ({ frames := 7, cells := 0, slots := 0, locals := 165 } : Room) (PW G D (tyC cA) sz (wM cA ad d kept aside images found base at0 size fault opened isRub names code coded pile needs traced traceMany who bitsOf sizeOf number lifted) [.ref (ad 0), .int a, .int b]) (QI D (tyC cA) (va_A (wM cA ad d kept aside images found base at0 size fault opened isRub names code coded pile needs traced traceMany who bitsOf sizeOf number lifted) sz) rR (wM cA ad dR kept asideR images foundR base at0 size fault opened isRub namesR code coded pileR needs traced traceMany who bitsOf sizeOf number lifted)) 0 0 (va_A (wM cA ad d kept aside images found base at0 size fault opened isRub names code coded pile needs traced traceMany who bitsOf sizeOf number lifted) sz) := by
  refine ent (cc := cX12_which) (maxL := 5) (ret := (some .int)) (fun A => QI D (tyC cA) A rR (wM cA ad dR kept asideR images foundR base at0 size fault opened isRub namesR code coded pileR needs traced traceMany who bitsOf sizeOf number lifted)) (by decide +kernel) rfl (Nat.le_of_ble_eq_true rfl) ?_
  intro p e s m args below meth c A ls H hx hb hml hr hlk hts hown hA hK hE hP hD hS hv hmm
  have hv : lv_has ls 5 [(0, .ref (ad 0)), (1, .int a), (2, .int b)] := hv
  have in_12 : ∀ w ∈ u_ws RX12 TX12 23, w ∈ wsX12_which := fun _ h => List.mem_cons_of_mem _ (List.mem_append_right _ h)
  have w_0 := hts (.fieldLink RX12 37 "SpoonsLastModel" "bitsOf" "[I") (List.mem_of_getElem? (i := 1) rfl)
  generalize hQ : MQ below _ args s 0 0 A = Q
  have C_45 : ∀ (v1_45 : Int32) (v2_45 : Int32) (v3_45 : Int32) (v4_45 : Int32) (d_45 : Nat → Int32) (aside_45 : Nat → Int32) (found_45 : Nat → Int32) (names_45 : Nat → Int32) (pile_45 : Nat → Int32), fX12_which_45 v1_45 v2_45 v3_45 v4_45 d_45 aside_45 found_45 names_45 pile_45 bitsOf sizeOf number = some (rR, dR, asideR, foundR, namesR, pileR) → WW p l e ({ frames := 7, cells := 0, slots := 0, locals := 165 } : Room) s m args below meth c D A 0 0 Q (wM cA ad d_45 kept aside_45 images found_45 base at0 size fault opened isRub names_45 code coded pile_45 needs traced traceMany who bitsOf sizeOf number lifted) 5 [(0, .ref (ad 0)), (1, .int v1_45), (2, .int v2_45), (3, .int v3_45), (4, .int v4_45)] 45 [] := by
    intro v1_45 v2_45 v3_45 v4_45 d_45 aside_45 found_45 names_45 pile_45 h
    unfold fX12_which_45 at h
    obtain ⟨⟨v3_45r, v4_45r, d_45r, names_45r, pile_45r⟩, ho, h⟩ := bd_ex h
    have LE : WW p l e ({ frames := 7, cells := 0, slots := 0, locals := 165 } : Room) s m args below meth c D A 0 0 Q (wM cA ad d_45r kept aside_45 images found_45 base at0 size fault opened isRub names_45r code coded pile_45r needs traced traceMany who bitsOf sizeOf number lifted) 5 [(3, .int v3_45r)] 85 [] := by
      intro H locs ls hP hD hS hv
      refine lv_iload_n hx hb dX12_which_85 rfl (lv_at hv 0 rfl) ?_
      have h := Option.some.inj h
      have ee0 : v3_45r = rR := congrArg (fun q => q.1) h
      have ee1 : d_45r = dR := congrArg (fun q => q.2.1) h
      have ee2 : aside_45 = asideR := congrArg (fun q => q.2.2.1) h
      have ee3 : found_45 = foundR := congrArg (fun q => q.2.2.2.1) h
      have ee4 : names_45r = namesR := congrArg (fun q => q.2.2.2.2.1) h
      have ee5 : pile_45r = pileR := congrArg (fun q => q.2.2.2.2.2) h
      subst ee0
      subst ee1
      subst ee2
      subst ee3
      subst ee4
      subst ee5
      rw [← hQ]
      exact retI hx hb hr hlk hK hP hD hS dX12_which_86 ⟨Nat.le_of_ble_eq_true rfl, Nat.le_of_ble_eq_true rfl⟩
    have LB : ∀ (nf : Nat) (v3_45b : Int32) (v4_45b : Int32) (d_45b : Nat → Int32) (names_45b : Nat → Int32) (pile_45b : Nat → Int32), lp (fun σ : Int32 × Int32 × (Nat → Int32) × (Nat → Int32) × (Nat → Int32) => fX12_which_45B v1_45 v2_45 aside_45 found_45 bitsOf sizeOf number (σ.1) (σ.2.1) (σ.2.2.1) (σ.2.2.2.1) (σ.2.2.2.2)) nf (v3_45b, v4_45b, d_45b, names_45b, pile_45b) = some (v3_45r, v4_45r, d_45r, names_45r, pile_45r) → WW p l e ({ frames := 7, cells := 0, slots := 0, locals := 165 } : Room) s m args below meth c D A 0 0 Q (wM cA ad d_45b kept aside_45 images found_45 base at0 size fault opened isRub names_45b code coded pile_45b needs traced traceMany who bitsOf sizeOf number lifted) 5 [(0, .ref (ad 0)), (1, .int v1_45), (2, .int v2_45), (3, .int v3_45b), (4, .int v4_45b)] 45 [] := by
      intro nf
      induction nf with
      | zero => intro v3_45b v4_45b d_45b names_45b pile_45b hl; cases hl
      | succ nf ih =>
        intro v3_45b v4_45b d_45b names_45b pile_45b hl
        obtain ⟨x, h, hl⟩ := lp_ex hl
        have h : fX12_which_45B v1_45 v2_45 aside_45 found_45 bitsOf sizeOf number v3_45b v4_45b d_45b names_45b pile_45b = some x := h
        unfold fX12_which_45B at h
        have C_77 : ∀ (v4_77 : Int32) (k0_77 : Int32) (k1_77 : Int32) (d_77 : Nat → Int32) (names_77 : Nat → Int32) (pile_77 : Nat → Int32) (x : (Int32 × Int32 × (Nat → Int32) × (Nat → Int32) × (Nat → Int32)) ⊕ (Int32 × Int32 × (Nat → Int32) × (Nat → Int32) × (Nat → Int32))), fX12_which_77 v1_45 v2_45 v4_77 k0_77 k1_77 d_77 aside_45 found_45 names_77 pile_77 bitsOf sizeOf number = some x → lpk (fun σ : Int32 × Int32 × (Nat → Int32) × (Nat → Int32) × (Nat → Int32) => fX12_which_45B v1_45 v2_45 aside_45 found_45 bitsOf sizeOf number (σ.1) (σ.2.1) (σ.2.2.1) (σ.2.2.2.1) (σ.2.2.2.2)) nf x = some (v3_45r, v4_45r, d_45r, names_45r, pile_45r) → WW p l e ({ frames := 7, cells := 0, slots := 0, locals := 165 } : Room) s m args below meth c D A 0 0 Q (wM cA ad d_77 kept aside_45 images found_45 base at0 size fault opened isRub names_77 code coded pile_77 needs traced traceMany who bitsOf sizeOf number lifted) 5 [(0, .ref (ad 0)), (1, .int v1_45), (2, .int v2_45), (4, .int v4_77)] 77 [.int k0_77, .int k1_77] := by
          intro v4_77 k0_77 k1_77 d_77 names_77 pile_77 x h hl
          unfold fX12_which_77 at h
          intro H locs ls hP hD hS hv
          refine lv_ior hx hb dX12_which_77 ?_
          obtain ⟨y_23, ey_23, h⟩ := bnd_ex h
          refine lv_nm ey_23 ?_
          refine lv_istore_n (lv' := [(3, .int y_23), (0, .ref (ad 0)), (1, .int v1_45), (2, .int v2_45), (4, .int v4_77)]) hx hb dX12_which_78 rfl hv (by decide) rfl (fun ls hv => ?_)
          obtain ⟨y_24, ey_24, h⟩ := bnd_ex h
          refine lv_iinc (v := y_24) (lv' := [(4, .int y_24), (3, .int y_23), (0, .ref (ad 0)), (1, .int v1_45), (2, .int v2_45)]) hx hb dX12_which_79 hv (k := 4) rfl (by rw [ey_24]; rfl) (by decide) rfl (fun ls hv => ?_)
          refine lv_goto (tgt := 45) hx hb dX12_which_82 (by decide) ?_
          cases h
          exact ih y_23 y_24 d_77 names_77 pile_77 hl _ _ _ hP hD hS (lv_sub hv [2, 3, 4, 1, 0] rfl)
        intro H locs ls hP hD hS hv
        refine lv_iload hx hb dX12_which_45 (lv_at hv 4 rfl) ?_
        refine lv_bipush (v := (6 : Int32)) hx hb dX12_which_47 (by decide) ?_
        refine lv_icmp_gt (tgt := 85) hx hb dX12_which_49 (by decide) (fun c_14 => ?_) (fun c_14 => ?_)
        · have h := ite_t c_14 h
          cases h
          have hl : some (v3_45b, v4_45b, d_45b, names_45b, pile_45b) = some (v3_45r, v4_45r, d_45r, names_45r, pile_45r) := hl
          have hl := Option.some.inj hl
          have ee0 : v3_45b = v3_45r := congrArg (fun q => q.1) hl
          have ee1 : v4_45b = v4_45r := congrArg (fun q => q.2.1) hl
          have ee2 : d_45b = d_45r := congrArg (fun q => q.2.2.1) hl
          have ee3 : names_45b = names_45r := congrArg (fun q => q.2.2.2.1) hl
          have ee4 : pile_45b = pile_45r := congrArg (fun q => q.2.2.2.2) hl
          subst ee0
          subst ee1
          subst ee2
          subst ee3
          subst ee4
          exact LE _ _ _ hP hD hS (lv_sub hv [3] rfl)
        · have h := ite_f c_14 h
          refine lv_aload_n hx hb dX12_which_52 rfl (lv_at hv 0 rfl) ?_
          refine lv_iload_n hx hb dX12_which_53 rfl (lv_at hv 2 rfl) ?_
          refine lv_iconst (v := (0 : Int32)) hx hb dX12_which_54 (by decide) ?_
          refine lv_iload hx hb dX12_which_55 (lv_at hv 4 rfl) ?_
          obtain ⟨d_15, hf_16, h⟩ := bd_ex h
          have sb := Sb.same hP hD hS hA
          refine calV (va_runV (As := [.int v2_45, .int (0 : Int32), .int v4_45b]) (rest := []) ⟨hx, hb, hml, hown, hts⟩ (c_X12_sets l G D cA ad _ d_45b kept aside_45 images found_45 base at0 size fault opened isRub names_45b code coded pile_45b needs traced traceMany who bitsOf sizeOf number lifted v2_45 (0 : Int32) v4_45b d_15 hf_16) (cwV 3 hts gX12_which_X12_sets rfl rfl rfl (by decide +kernel) ⟨Nat.le_of_ble_eq_true rfl, Nat.le_of_ble_eq_true rfl⟩) (pvV hE hK hS sb (va_recv hK hP (ci := 12) (q0 := 0) rfl rfl)) rfl rfl hv.1 rfl (lv_room (Nat.le_of_ble_eq_true rfl)) dX12_which_57 ⟨Nat.le_of_ble_eq_true rfl, Nat.le_of_ble_eq_true rfl⟩) hS sb (Jn.same sb) (fun H locs hP hD hS => ?_)
          have hP : va_P D vwCl (wM cA ad d_15 kept aside_45 images found_45 base at0 size fault opened isRub names_45b code coded pile_45b needs traced traceMany who bitsOf sizeOf number lifted) H := hP
          have hD : va_D A (wM cA ad d_15 kept aside_45 images found_45 base at0 size fault opened isRub names_45b code coded pile_45b needs traced traceMany who bitsOf sizeOf number lifted) := hD
          refine lv_iload_n hx hb dX12_which_60 rfl (lv_at hv 3 rfl) ?_
          refine lv_aload_n hx hb dX12_which_61 rfl (lv_at hv 0 rfl) ?_
          refine lv_iload_n hx hb dX12_which_62 rfl (lv_at hv 1 rfl) ?_
          obtain ⟨⟨r_17, d_18, names_19, pile_20⟩, hf_21, h⟩ := bd_ex h
          have sb := Sb.same hP hD hS hA
          refine calI (va_runV (As := [.int v1_45]) (rest := [.int v3_45b]) ⟨hx, hb, hml, hown, hts⟩ (c_X12_isTold l G D cA ad _ d_15 kept aside_45 images found_45 base at0 size fault opened isRub names_45b code coded pile_45b needs traced traceMany who bitsOf sizeOf number lifted v1_45 r_17 d_18 names_19 pile_20 hf_21) (cwV 1 hts gX12_which_X12_isTold rfl rfl rfl (by decide +kernel) ⟨Nat.le_of_ble_eq_true rfl, Nat.le_of_ble_eq_true rfl⟩) (pvV hE hK hS sb (va_recv hK hP (ci := 12) (q0 := 0) rfl rfl)) rfl rfl hv.1 rfl (lv_room (Nat.le_of_ble_eq_true rfl)) dX12_which_63 ⟨Nat.le_of_ble_eq_true rfl, Nat.le_of_ble_eq_true rfl⟩) hS sb (Jn.same sb) (fun H locs hP hD hS => ?_)
          have hP : va_P D vwCl (wM cA ad d_18 kept aside_45 images found_45 base at0 size fault opened isRub names_19 code coded pile_20 needs traced traceMany who bitsOf sizeOf number lifted) H := hP
          have hD : va_D A (wM cA ad d_18 kept aside_45 images found_45 base at0 size fault opened isRub names_19 code coded pile_20 needs traced traceMany who bitsOf sizeOf number lifted) := hD
          refine lv_if_eq (tgt := 76) hx hb dX12_which_66 (by decide) (fun c_22 => ?_) (fun c_22 => ?_)
          · have h := ite_t c_22 h
            refine lv_iconst (v := (0 : Int32)) hx hb dX12_which_76 (by decide) ?_
            exact C_77 v4_45b (0 : Int32) v3_45b d_18 names_19 pile_20 _ h hl _ _ _ hP hD hS (lv_sub hv [0, 1, 2, 4] rfl)
          · have h := ite_f c_22 h
            refine lv_iconst (v := (1 : Int32)) hx hb dX12_which_69 (by decide) ?_
            refine lv_iload hx hb dX12_which_70 (lv_at hv 4 rfl) ?_
            refine lv_ishl hx hb dX12_which_72 ?_
            refine lv_goto (tgt := 77) hx hb dX12_which_73 (by decide) ?_
            exact C_77 v4_45b ((1 : Int32) <<< (v4_45b &&& 31)) v3_45b d_18 names_19 pile_20 _ h hl _ _ _ hP hD hS (lv_sub hv [0, 1, 2, 4] rfl)
    exact LB FU v3_45 v4_45 d_45 names_45 pile_45 ho
  have hP : va_P D vwCl (wM cA ad d kept aside images found base at0 size fault opened isRub names code coded pile needs traced traceMany who bitsOf sizeOf number lifted) H := hP
  unfold fX12_which at h
  refine lv_iload_n hx hb dX12_which_0 rfl (lv_at hv 1 rfl) ?_
  obtain ⟨r_1, hf_2, h⟩ := bd_ex h
  have sb := Sb.nil hP hD hS hA
  refine calI (va_runS (As := [.int a]) (rest := []) ⟨hx, hb, hml, hown, hts⟩ (c_X12_isSheet l G D cA  _ a r_1 hf_2) (va_cwS 1 hts gX12_which_X12_isSheet rfl rfl rfl (by decide +kernel) ⟨Nat.le_of_ble_eq_true rfl, Nat.le_of_ble_eq_true rfl⟩) (pvS hE hK hS sb) rfl rfl hv.1 rfl (lv_room (Nat.le_of_ble_eq_true rfl)) dX12_which_1 ⟨Nat.le_of_ble_eq_true rfl, Nat.le_of_ble_eq_true rfl⟩) hS sb (Jn.nil hP hD) (fun H locs hP hD hS => ?_)
  have hP : va_P D vwCl (wM cA ad d kept aside images found base at0 size fault opened isRub names code coded pile needs traced traceMany who bitsOf sizeOf number lifted) H := hP
  have hD : va_D A (wM cA ad d kept aside images found base at0 size fault opened isRub names code coded pile needs traced traceMany who bitsOf sizeOf number lifted) := hD
  refine lv_if_eq (tgt := 15) hx hb dX12_which_4 (by decide) (fun c_3 => ?_) (fun c_3 => ?_)
  · have h := ite_t c_3 h
    refine lv_aload_n hx hb dX12_which_15 rfl (lv_at hv 0 rfl) ?_
    refine lv_iconst (v := (1 : Int32)) hx hb dX12_which_16 (by decide) ?_
    obtain ⟨⟨r_4, found_5⟩, hf_6, h⟩ := bd_ex h
    have sb := Sb.same hP hD hS hA
    refine calI (va_runV (As := [.int (1 : Int32)]) (rest := []) ⟨hx, hb, hml, hown, hts⟩ (c_X12_finds l G D cA ad _ d kept aside images found base at0 size fault opened isRub names code coded pile needs traced traceMany who bitsOf sizeOf number lifted (1 : Int32) r_4 found_5 hf_6) (cwV 1 hts gX12_which_X12_finds rfl rfl rfl (by decide +kernel) ⟨Nat.le_of_ble_eq_true rfl, Nat.le_of_ble_eq_true rfl⟩) (pvV hE hK hS sb (va_recv hK hP (ci := 12) (q0 := 0) rfl rfl)) rfl rfl hv.1 rfl (lv_room (Nat.le_of_ble_eq_true rfl)) dX12_which_17 ⟨Nat.le_of_ble_eq_true rfl, Nat.le_of_ble_eq_true rfl⟩) hS sb (Jn.same sb) (fun H locs hP hD hS => ?_)
    have hP : va_P D vwCl (wM cA ad d kept aside images found_5 base at0 size fault opened isRub names code coded pile needs traced traceMany who bitsOf sizeOf number lifted) H := hP
    have hD : va_D A (wM cA ad d kept aside images found_5 base at0 size fault opened isRub names code coded pile needs traced traceMany who bitsOf sizeOf number lifted) := hD
    have h := Option.some.inj h
    have ee0 : r_4 = rR := congrArg (fun q => q.1) h
    have ee1 : d = dR := congrArg (fun q => q.2.1) h
    have ee2 : aside = asideR := congrArg (fun q => q.2.2.1) h
    have ee3 : found_5 = foundR := congrArg (fun q => q.2.2.2.1) h
    have ee4 : names = namesR := congrArg (fun q => q.2.2.2.2.1) h
    have ee5 : pile = pileR := congrArg (fun q => q.2.2.2.2.2) h
    subst ee0
    subst ee1
    subst ee2
    subst ee3
    subst ee4
    subst ee5
    rw [← hQ]
    exact retI hx hb hr hlk hK hP hD hS dX12_which_20 ⟨Nat.le_of_ble_eq_true rfl, Nat.le_of_ble_eq_true rfl⟩
  · have h := ite_f c_3 h
    refine lv_aload_n hx hb dX12_which_7 rfl (lv_at hv 0 rfl) ?_
    refine lv_iload_n hx hb dX12_which_8 rfl (lv_at hv 2 rfl) ?_
    obtain ⟨r_7, hf_8, h⟩ := bd_ex h
    have sb := Sb.same hP hD hS hA
    refine calI (va_runV (As := [.int b]) (rest := []) ⟨hx, hb, hml, hown, hts⟩ (c_X12_isSpoon l G D cA ad _ d kept aside images found base at0 size fault opened isRub names code coded pile needs traced traceMany who bitsOf sizeOf number lifted b r_7 hf_8) (cwV 1 hts gX12_which_X12_isSpoon rfl rfl rfl (by decide +kernel) ⟨Nat.le_of_ble_eq_true rfl, Nat.le_of_ble_eq_true rfl⟩) (pvV hE hK hS sb (va_recv hK hP (ci := 12) (q0 := 0) rfl rfl)) rfl rfl hv.1 rfl (lv_room (Nat.le_of_ble_eq_true rfl)) dX12_which_9 ⟨Nat.le_of_ble_eq_true rfl, Nat.le_of_ble_eq_true rfl⟩) hS sb (Jn.same sb) (fun H locs hP hD hS => ?_)
    have hP : va_P D vwCl (wM cA ad d kept aside images found base at0 size fault opened isRub names code coded pile needs traced traceMany who bitsOf sizeOf number lifted) H := hP
    have hD : va_D A (wM cA ad d kept aside images found base at0 size fault opened isRub names code coded pile needs traced traceMany who bitsOf sizeOf number lifted) := hD
    refine lv_if_ne (tgt := 21) hx hb dX12_which_12 (by decide) (fun c_9 => ?_) (fun c_9 => ?_)
    · have h := ite_f c_9 h
      refine lv_aload_n hx hb dX12_which_21 rfl (lv_at hv 0 rfl) ?_
      refine va_get (D := D) (ci := 12) (v := .ref (ad 20)) (C := RX12) (T := TX12) (N := 23) hx hb hts in_12 hown hK hP 0 rfl rfl 19 (by decide) w_0 (fun _ h9 => h9) rfl dX12_which_22 ?_
      refine lv_iload_n hx hb dX12_which_25 rfl (lv_at hv 1 rfl) ?_
      obtain ⟨c_10, h⟩ := ckI_ex h
      refine va_iald (D := D) hx hb hK hP 10 0 rfl rfl c_10 dX12_which_26 ?_
      refine lv_if_ne (tgt := 36) hx hb dX12_which_27 (by decide) (fun c_11 => ?_) (fun c_11 => ?_)
      · have h := ite_f c_11 h
        refine lv_aload_n hx hb dX12_which_36 rfl (lv_at hv 0 rfl) ?_
        obtain ⟨aside_12, hf_13, h⟩ := bd_ex h
        have sb := Sb.same hP hD hS hA
        refine calV (va_runV (As := []) (rest := []) ⟨hx, hb, hml, hown, hts⟩ (c_X12_keepAside l G D cA ad _ d kept aside images found base at0 size fault opened isRub names code coded pile needs traced traceMany who bitsOf sizeOf number lifted aside_12 hf_13) (cwV 0 hts gX12_which_X12_keepAside rfl rfl rfl (by decide +kernel) ⟨Nat.le_of_ble_eq_true rfl, Nat.le_of_ble_eq_true rfl⟩) (pvV hE hK hS sb (va_recv hK hP (ci := 12) (q0 := 0) rfl rfl)) rfl rfl hv.1 rfl (lv_room (Nat.le_of_ble_eq_true rfl)) dX12_which_37 ⟨Nat.le_of_ble_eq_true rfl, Nat.le_of_ble_eq_true rfl⟩) hS sb (Jn.same sb) (fun H locs hP hD hS => ?_)
        have hP : va_P D vwCl (wM cA ad d kept aside_12 images found base at0 size fault opened isRub names code coded pile needs traced traceMany who bitsOf sizeOf number lifted) H := hP
        have hD : va_D A (wM cA ad d kept aside_12 images found base at0 size fault opened isRub names code coded pile needs traced traceMany who bitsOf sizeOf number lifted) := hD
        refine lv_iconst (v := (0 : Int32)) hx hb dX12_which_40 (by decide) ?_
        refine lv_istore_n (lv' := [(3, .int (0 : Int32)), (0, .ref (ad 0)), (1, .int a), (2, .int b)]) hx hb dX12_which_41 rfl hv (by decide) rfl (fun ls hv => ?_)
        refine lv_iconst (v := (0 : Int32)) hx hb dX12_which_42 (by decide) ?_
        refine lv_istore (lv' := [(4, .int (0 : Int32)), (3, .int (0 : Int32)), (0, .ref (ad 0)), (1, .int a), (2, .int b)]) hx hb dX12_which_43 hv (by decide) rfl (fun ls hv => ?_)
        exact C_45 a b (0 : Int32) (0 : Int32) d aside_12 found names pile h _ _ _ hP hD hS (lv_sub hv [2, 3, 4, 1, 0] rfl)
      · have h := ite_t c_11 h
        refine lv_aload_n hx hb dX12_which_30 rfl (lv_at hv 0 rfl) ?_
        refine lv_iconst (v := (2 : Int32)) hx hb dX12_which_31 (by decide) ?_
        obtain ⟨⟨r_25, found_26⟩, hf_27, h⟩ := bd_ex h
        have sb := Sb.same hP hD hS hA
        refine calI (va_runV (As := [.int (2 : Int32)]) (rest := []) ⟨hx, hb, hml, hown, hts⟩ (c_X12_finds l G D cA ad _ d kept aside images found base at0 size fault opened isRub names code coded pile needs traced traceMany who bitsOf sizeOf number lifted (2 : Int32) r_25 found_26 hf_27) (cwV 1 hts gX12_which_X12_finds rfl rfl rfl (by decide +kernel) ⟨Nat.le_of_ble_eq_true rfl, Nat.le_of_ble_eq_true rfl⟩) (pvV hE hK hS sb (va_recv hK hP (ci := 12) (q0 := 0) rfl rfl)) rfl rfl hv.1 rfl (lv_room (Nat.le_of_ble_eq_true rfl)) dX12_which_32 ⟨Nat.le_of_ble_eq_true rfl, Nat.le_of_ble_eq_true rfl⟩) hS sb (Jn.same sb) (fun H locs hP hD hS => ?_)
        have hP : va_P D vwCl (wM cA ad d kept aside images found_26 base at0 size fault opened isRub names code coded pile needs traced traceMany who bitsOf sizeOf number lifted) H := hP
        have hD : va_D A (wM cA ad d kept aside images found_26 base at0 size fault opened isRub names code coded pile needs traced traceMany who bitsOf sizeOf number lifted) := hD
        have h := Option.some.inj h
        have ee0 : r_25 = rR := congrArg (fun q => q.1) h
        have ee1 : d = dR := congrArg (fun q => q.2.1) h
        have ee2 : aside = asideR := congrArg (fun q => q.2.2.1) h
        have ee3 : found_26 = foundR := congrArg (fun q => q.2.2.2.1) h
        have ee4 : names = namesR := congrArg (fun q => q.2.2.2.2.1) h
        have ee5 : pile = pileR := congrArg (fun q => q.2.2.2.2.2) h
        subst ee0
        subst ee1
        subst ee2
        subst ee3
        subst ee4
        subst ee5
        rw [← hQ]
        exact retI hx hb hr hlk hK hP hD hS dX12_which_35 ⟨Nat.le_of_ble_eq_true rfl, Nat.le_of_ble_eq_true rfl⟩
    · have h := ite_t c_9 h
      refine lv_aload_n hx hb dX12_which_15 rfl (lv_at hv 0 rfl) ?_
      refine lv_iconst (v := (1 : Int32)) hx hb dX12_which_16 (by decide) ?_
      obtain ⟨⟨r_28, found_29⟩, hf_30, h⟩ := bd_ex h
      have sb := Sb.same hP hD hS hA
      refine calI (va_runV (As := [.int (1 : Int32)]) (rest := []) ⟨hx, hb, hml, hown, hts⟩ (c_X12_finds l G D cA ad _ d kept aside images found base at0 size fault opened isRub names code coded pile needs traced traceMany who bitsOf sizeOf number lifted (1 : Int32) r_28 found_29 hf_30) (cwV 1 hts gX12_which_X12_finds rfl rfl rfl (by decide +kernel) ⟨Nat.le_of_ble_eq_true rfl, Nat.le_of_ble_eq_true rfl⟩) (pvV hE hK hS sb (va_recv hK hP (ci := 12) (q0 := 0) rfl rfl)) rfl rfl hv.1 rfl (lv_room (Nat.le_of_ble_eq_true rfl)) dX12_which_17 ⟨Nat.le_of_ble_eq_true rfl, Nat.le_of_ble_eq_true rfl⟩) hS sb (Jn.same sb) (fun H locs hP hD hS => ?_)
      have hP : va_P D vwCl (wM cA ad d kept aside images found_29 base at0 size fault opened isRub names code coded pile needs traced traceMany who bitsOf sizeOf number lifted) H := hP
      have hD : va_D A (wM cA ad d kept aside images found_29 base at0 size fault opened isRub names code coded pile needs traced traceMany who bitsOf sizeOf number lifted) := hD
      have h := Option.some.inj h
      have ee0 : r_28 = rR := congrArg (fun q => q.1) h
      have ee1 : d = dR := congrArg (fun q => q.2.1) h
      have ee2 : aside = asideR := congrArg (fun q => q.2.2.1) h
      have ee3 : found_29 = foundR := congrArg (fun q => q.2.2.2.1) h
      have ee4 : names = namesR := congrArg (fun q => q.2.2.2.2.1) h
      have ee5 : pile = pileR := congrArg (fun q => q.2.2.2.2.2) h
      subst ee0
      subst ee1
      subst ee2
      subst ee3
      subst ee4
      subst ee5
      rw [← hQ]
      exact retI hx hb hr hlk hK hP hD hS dX12_which_20 ⟨Nat.le_of_ble_eq_true rfl, Nat.le_of_ble_eq_true rfl⟩

def fX12_isAlone_43 (v1_4 : Int32) (v2_43 : Int32) (v3_43 : Int32) (d : Nat → Int32) : Option ((Int32 × Int32) ⊕ ((Int32 × Int32) ⊕ (Int32))) :=
  bnd (v3_43 + (1 : Int32)) fun y_4 => some (.inl (v2_43, y_4))
def fX12_isAlone_4B (v1_4 : Int32) (d : Nat → Int32) (v2_4b : Int32) (v3_4b : Int32) : Option ((Int32 × Int32) ⊕ ((Int32 × Int32) ⊕ (Int32))) :=
  ckI (0 : Int32) 326 ((if (d ((0 : Int32)).toNatClampNeg) ≤ v3_4b then some (.inr (.inl (v2_4b, v3_4b))) else (if ((v1_4 >>> (v3_4b &&& 31)) &&& (1 : Int32)) = (1 : Int32) then bd (fX12_on v3_4b d) fun r_5 => (if (v2_4b &&& r_5) = 0 then bd (fX12_on v3_4b d) fun r_8 => bnd (v2_4b ||| r_8) fun y_10 => fX12_isAlone_43 v1_4 y_10 v3_4b d else some (.inr (.inr (0 : Int32)))) else fX12_isAlone_43 v1_4 v2_4b v3_4b d)))
def fX12_isAlone_4 (v1_4 : Int32) (v2_4 : Int32) (v3_4 : Int32) (d : Nat → Int32) : Option (Int32) :=
  bd (lp (fun σ : Int32 × Int32 => fX12_isAlone_4B v1_4 d (σ.1) (σ.2)) FU (v2_4, v3_4)) fun ρ => match ρ with | .inl (v2_4r, v3_4r) => some (1 : Int32) | .inr q => some q
def fX12_isAlone (a : Int32) (d : Nat → Int32) : Option (Int32) :=
  fX12_isAlone_4 a (0 : Int32) (0 : Int32) d
set_option maxHeartbeats 4000000 in
set_option maxRecDepth 100000 in
theorem c_X12_isAlone (l : Launch) (G : Nat → Nat) (D : va_G) (cA : Nat → ClassId) (ad : Nat → Nat) (sz : Nat) (d : Nat → Int32) (kept : Nat → Int32) (aside : Nat → Int32) (images : Int32) (found : Nat → Int32) (base : Int32) (at0 : Int32) (size : Int32) (fault : Int32) (opened : Int32) (isRub : Int32) (names : Nat → Int32) (code : Nat → Int32) (coded : Int32) (pile : Nat → Int32) (needs : Nat → Int32) (traced : Nat → Int32) (traceMany : Int32) (who : Int32) (bitsOf : Nat → Int32) (sizeOf : Nat → Int32) (number : Nat → Int32) (lifted : Nat → Int32) (a : Int32) (rR : Int32) (h : fX12_isAlone a d = some rR) : Met l yX12_isAlone wsX12_isAlone ({ frames := 2, cells := 0, slots := 0, locals := 45 } : Room) (PW G D (tyC cA) sz (wM cA ad d kept aside images found base at0 size fault opened isRub names code coded pile needs traced traceMany who bitsOf sizeOf number lifted) [.ref (ad 0), .int a]) (QI D (tyC cA) (va_A (wM cA ad d kept aside images found base at0 size fault opened isRub names code coded pile needs traced traceMany who bitsOf sizeOf number lifted) sz) rR (wM cA ad d kept aside images found base at0 size fault opened isRub names code coded pile needs traced traceMany who bitsOf sizeOf number lifted)) 0 0 (va_A (wM cA ad d kept aside images found base at0 size fault opened isRub names code coded pile needs traced traceMany who bitsOf sizeOf number lifted) sz) := by
  refine ent (cc := cX12_isAlone) (maxL := 4) (ret := (some .boolean)) (fun A => QI D (tyC cA) A rR (wM cA ad d kept aside images found base at0 size fault opened isRub names code coded pile needs traced traceMany who bitsOf sizeOf number lifted)) (by decide +kernel) rfl (Nat.le_of_ble_eq_true rfl) ?_
  intro p e s m args below meth c A ls H hx hb hml hr hlk hts hown hA hK hE hP hD hS hv hmm
  have hv : lv_has ls 4 [(0, .ref (ad 0)), (1, .int a)] := hv
  have in_12 : ∀ w ∈ u_ws RX12 TX12 23, w ∈ wsX12_isAlone := fun _ h => List.mem_cons_of_mem _ (List.mem_append_right _ h)
  have w_0 := hts (.fieldLink RX12 7 "SpoonsLastModel" "d" "[I") (List.mem_of_getElem? (i := 1) rfl)
  generalize hQ : MQ below _ args s 0 0 A = Q
  have C_4 : ∀ (v1_4 : Int32) (v2_4 : Int32) (v3_4 : Int32), fX12_isAlone_4 v1_4 v2_4 v3_4 d = some rR → WW p l e ({ frames := 2, cells := 0, slots := 0, locals := 45 } : Room) s m args below meth c D A 0 0 Q (wM cA ad d kept aside images found base at0 size fault opened isRub names code coded pile needs traced traceMany who bitsOf sizeOf number lifted) 4 [(0, .ref (ad 0)), (1, .int v1_4), (2, .int v2_4), (3, .int v3_4)] 4 [] := by
    intro v1_4 v2_4 v3_4 h
    unfold fX12_isAlone_4 at h
    obtain ⟨ρ, ho, h⟩ := bd_ex h
    have LR : ∀ q, ρ = .inr q → q = rR := by intro q e; subst e; exact Option.some.inj h
    have LE : ∀ (v2_4r : Int32) (v3_4r : Int32), ρ = .inl (v2_4r, v3_4r) → WW p l e ({ frames := 2, cells := 0, slots := 0, locals := 45 } : Room) s m args below meth c D A 0 0 Q (wM cA ad d kept aside images found base at0 size fault opened isRub names code coded pile needs traced traceMany who bitsOf sizeOf number lifted) 4 [] 49 [] := by
      intro v2_4r v3_4r e
      subst e
      intro H locs ls hP hD hS hv
      refine lv_iconst (v := (1 : Int32)) hx hb dX12_isAlone_49 (by decide) ?_
      have h := Option.some.inj h
      have ee0 : (1 : Int32) = rR := congrArg (fun q => q) h
      subst ee0
      rw [← hQ]
      exact retZ (by decide) hx hb hr hlk hK hP hD hS dX12_isAlone_50 ⟨Nat.le_of_ble_eq_true rfl, Nat.le_of_ble_eq_true rfl⟩
    have LB : ∀ (nf : Nat) (v2_4b : Int32) (v3_4b : Int32), lp (fun σ : Int32 × Int32 => fX12_isAlone_4B v1_4 d (σ.1) (σ.2)) nf (v2_4b, v3_4b) = some ρ → WW p l e ({ frames := 2, cells := 0, slots := 0, locals := 45 } : Room) s m args below meth c D A 0 0 Q (wM cA ad d kept aside images found base at0 size fault opened isRub names code coded pile needs traced traceMany who bitsOf sizeOf number lifted) 4 [(0, .ref (ad 0)), (1, .int v1_4), (2, .int v2_4b), (3, .int v3_4b)] 4 [] := by
      intro nf
      induction nf with
      | zero => intro v2_4b v3_4b hl; cases hl
      | succ nf ih =>
        intro v2_4b v3_4b hl
        obtain ⟨x, h, hl⟩ := lp_ex hl
        have h : fX12_isAlone_4B v1_4 d v2_4b v3_4b = some x := h
        unfold fX12_isAlone_4B at h
        have C_43 : ∀ (v2_43 : Int32) (v3_43 : Int32) (x : (Int32 × Int32) ⊕ ((Int32 × Int32) ⊕ (Int32))), fX12_isAlone_43 v1_4 v2_43 v3_43 d = some x → lpk (fun σ : Int32 × Int32 => fX12_isAlone_4B v1_4 d (σ.1) (σ.2)) nf x = some ρ → WW p l e ({ frames := 2, cells := 0, slots := 0, locals := 45 } : Room) s m args below meth c D A 0 0 Q (wM cA ad d kept aside images found base at0 size fault opened isRub names code coded pile needs traced traceMany who bitsOf sizeOf number lifted) 4 [(0, .ref (ad 0)), (1, .int v1_4), (2, .int v2_43), (3, .int v3_43)] 43 [] := by
          intro v2_43 v3_43 x h hl
          unfold fX12_isAlone_43 at h
          intro H locs ls hP hD hS hv
          obtain ⟨y_4, ey_4, h⟩ := bnd_ex h
          refine lv_iinc (v := y_4) (lv' := [(3, .int y_4), (0, .ref (ad 0)), (1, .int v1_4), (2, .int v2_43)]) hx hb dX12_isAlone_43 hv (k := 3) rfl (by rw [ey_4]; rfl) (by decide) rfl (fun ls hv => ?_)
          refine lv_goto (tgt := 4) hx hb dX12_isAlone_46 (by decide) ?_
          cases h
          exact ih v2_43 y_4 hl _ _ _ hP hD hS (lv_sub hv [1, 2, 3, 0] rfl)
        intro H locs ls hP hD hS hv
        refine lv_iload_n hx hb dX12_isAlone_4 rfl (lv_at hv 3 rfl) ?_
        refine lv_aload_n hx hb dX12_isAlone_5 rfl (lv_at hv 0 rfl) ?_
        refine va_get (D := D) (ci := 12) (v := .ref (ad 1)) (C := RX12) (T := TX12) (N := 23) hx hb hts in_12 hown hK hP 0 rfl rfl 0 (by decide) w_0 (fun _ h9 => h9) rfl dX12_isAlone_6 ?_
        refine lv_iconst (v := (0 : Int32)) hx hb dX12_isAlone_9 (by decide) ?_
        obtain ⟨c_1, h⟩ := ckI_ex h
        refine va_iald (D := D) hx hb hK hP 1 0 rfl rfl c_1 dX12_isAlone_10 ?_
        refine lv_icmp_ge (tgt := 49) hx hb dX12_isAlone_11 (by decide) (fun c_2 => ?_) (fun c_2 => ?_)
        · have h := ite_t c_2 h
          cases h
          have hl : some (Sum.inl (v2_4b, v3_4b)) = some ρ := hl
          cases hl
          exact LE _ _ rfl _ _ _ hP hD hS (lv_sub hv [] rfl)
        · have h := ite_f c_2 h
          refine lv_iload_n hx hb dX12_isAlone_14 rfl (lv_at hv 1 rfl) ?_
          refine lv_iload_n hx hb dX12_isAlone_15 rfl (lv_at hv 3 rfl) ?_
          refine lv_ishr hx hb dX12_isAlone_16 ?_
          refine lv_iconst (v := (1 : Int32)) hx hb dX12_isAlone_17 (by decide) ?_
          refine lv_iand hx hb dX12_isAlone_18 ?_
          refine lv_iconst (v := (1 : Int32)) hx hb dX12_isAlone_19 (by decide) ?_
          refine lv_icmp_ne (tgt := 43) hx hb dX12_isAlone_20 (by decide) (fun c_3 => ?_) (fun c_3 => ?_)
          · have h := ite_f c_3 h
            exact C_43 v2_4b v3_4b _ h hl _ _ _ hP hD hS (lv_sub hv [0, 1, 2, 3] rfl)
          · have h := ite_t c_3 h
            refine lv_iload_n hx hb dX12_isAlone_23 rfl (lv_at hv 2 rfl) ?_
            refine lv_aload_n hx hb dX12_isAlone_24 rfl (lv_at hv 0 rfl) ?_
            refine lv_iload_n hx hb dX12_isAlone_25 rfl (lv_at hv 3 rfl) ?_
            obtain ⟨r_5, hf_6, h⟩ := bd_ex h
            have sb := Sb.same hP hD hS hA
            refine calI (va_runV (As := [.int v3_4b]) (rest := [.int v2_4b]) ⟨hx, hb, hml, hown, hts⟩ (c_X12_on l G D cA ad _ d kept aside images found base at0 size fault opened isRub names code coded pile needs traced traceMany who bitsOf sizeOf number lifted v3_4b r_5 hf_6) (cwV 1 hts gX12_isAlone_X12_on rfl rfl rfl (by decide +kernel) ⟨Nat.le_of_ble_eq_true rfl, Nat.le_of_ble_eq_true rfl⟩) (pvV hE hK hS sb (va_recv hK hP (ci := 12) (q0 := 0) rfl rfl)) rfl rfl hv.1 rfl (lv_room (Nat.le_of_ble_eq_true rfl)) dX12_isAlone_26 ⟨Nat.le_of_ble_eq_true rfl, Nat.le_of_ble_eq_true rfl⟩) hS sb (Jn.same sb) (fun H locs hP hD hS => ?_)
            have hP : va_P D vwCl (wM cA ad d kept aside images found base at0 size fault opened isRub names code coded pile needs traced traceMany who bitsOf sizeOf number lifted) H := hP
            have hD : va_D A (wM cA ad d kept aside images found base at0 size fault opened isRub names code coded pile needs traced traceMany who bitsOf sizeOf number lifted) := hD
            refine lv_iand hx hb dX12_isAlone_29 ?_
            refine lv_if_eq (tgt := 35) hx hb dX12_isAlone_30 (by decide) (fun c_7 => ?_) (fun c_7 => ?_)
            · have h := ite_t c_7 h
              refine lv_iload_n hx hb dX12_isAlone_35 rfl (lv_at hv 2 rfl) ?_
              refine lv_aload_n hx hb dX12_isAlone_36 rfl (lv_at hv 0 rfl) ?_
              refine lv_iload_n hx hb dX12_isAlone_37 rfl (lv_at hv 3 rfl) ?_
              obtain ⟨r_8, hf_9, h⟩ := bd_ex h
              have sb := Sb.same hP hD hS hA
              refine calI (va_runV (As := [.int v3_4b]) (rest := [.int v2_4b]) ⟨hx, hb, hml, hown, hts⟩ (c_X12_on l G D cA ad _ d kept aside images found base at0 size fault opened isRub names code coded pile needs traced traceMany who bitsOf sizeOf number lifted v3_4b r_8 hf_9) (cwV 1 hts gX12_isAlone_X12_on rfl rfl rfl (by decide +kernel) ⟨Nat.le_of_ble_eq_true rfl, Nat.le_of_ble_eq_true rfl⟩) (pvV hE hK hS sb (va_recv hK hP (ci := 12) (q0 := 0) rfl rfl)) rfl rfl hv.1 rfl (lv_room (Nat.le_of_ble_eq_true rfl)) dX12_isAlone_38 ⟨Nat.le_of_ble_eq_true rfl, Nat.le_of_ble_eq_true rfl⟩) hS sb (Jn.same sb) (fun H locs hP hD hS => ?_)
              have hP : va_P D vwCl (wM cA ad d kept aside images found base at0 size fault opened isRub names code coded pile needs traced traceMany who bitsOf sizeOf number lifted) H := hP
              have hD : va_D A (wM cA ad d kept aside images found base at0 size fault opened isRub names code coded pile needs traced traceMany who bitsOf sizeOf number lifted) := hD
              refine lv_ior hx hb dX12_isAlone_41 ?_
              obtain ⟨y_10, ey_10, h⟩ := bnd_ex h
              refine lv_nm ey_10 ?_
              refine lv_istore_n (lv' := [(2, .int y_10), (0, .ref (ad 0)), (1, .int v1_4), (3, .int v3_4b)]) hx hb dX12_isAlone_42 rfl hv (by decide) rfl (fun ls hv => ?_)
              exact C_43 y_10 v3_4b _ h hl _ _ _ hP hD hS (lv_sub hv [1, 2, 0, 3] rfl)
            · have h := ite_f c_7 h
              refine lv_iconst (v := (0 : Int32)) hx hb dX12_isAlone_33 (by decide) ?_
              cases h
              have hl : some (Sum.inr (0 : Int32)) = some ρ := hl
              cases hl
              have h := LR _ rfl
              have ee0 : (0 : Int32) = rR := congrArg (fun q => q) h
              subst ee0
              rw [← hQ]
              exact retZ (by decide) hx hb hr hlk hK hP hD hS dX12_isAlone_34 ⟨Nat.le_of_ble_eq_true rfl, Nat.le_of_ble_eq_true rfl⟩
    exact LB FU v2_4 v3_4 ho
  have hP : va_P D vwCl (wM cA ad d kept aside images found base at0 size fault opened isRub names code coded pile needs traced traceMany who bitsOf sizeOf number lifted) H := hP
  unfold fX12_isAlone at h
  refine lv_iconst (v := (0 : Int32)) hx hb dX12_isAlone_0 (by decide) ?_
  refine lv_istore_n (lv' := [(2, .int (0 : Int32)), (0, .ref (ad 0)), (1, .int a)]) hx hb dX12_isAlone_1 rfl hv (by decide) rfl (fun ls hv => ?_)
  refine lv_iconst (v := (0 : Int32)) hx hb dX12_isAlone_2 (by decide) ?_
  refine lv_istore_n (lv' := [(3, .int (0 : Int32)), (2, .int (0 : Int32)), (0, .ref (ad 0)), (1, .int a)]) hx hb dX12_isAlone_3 rfl hv (by decide) rfl (fun ls hv => ?_)
  exact C_4 a (0 : Int32) (0 : Int32) h _ _ _ hP hD hS (lv_sub hv [2, 3, 1, 0] rfl)

def fX12_washers_95 (v1_48 : Int32) (v2_95 : Int32) (k0_95 : Int32) (k1_95 : Int32) (d : Nat → Int32) (needs_95 : Nat → Int32) : Option ((Int32 × (Nat → Int32)) ⊕ (Int32 × (Nat → Int32))) :=
  ckI k1_95 256 (bnd (upd needs_95 (k1_95).toNatClampNeg k0_95) fun needs_21 => bnd ((v2_95 - (1 : Int32)) &&& v1_48) fun y_22 => some (.inl (y_22, needs_21)))
def fX12_washers_48B (v1_48 : Int32) (d : Nat → Int32) (v2_48b : Int32) (needs_48b : Nat → Int32) : Option ((Int32 × (Nat → Int32)) ⊕ (Int32 × (Nat → Int32))) :=
  (if v2_48b ≤ 0 then some (.inr (v2_48b, needs_48b)) else ckI v2_48b 256 (ckI (v1_48 &&& (v2_48b ^^^ (-1 : Int32))) 256 (bnd ((needs_48b (v2_48b).toNatClampNeg) + (needs_48b ((v1_48 &&& (v2_48b ^^^ (-1 : Int32)))).toNatClampNeg)) fun y_16 => ckI v1_48 256 ((if (needs_48b (v1_48).toNatClampNeg) ≤ y_16 then ckI v1_48 256 (fX12_washers_95 v1_48 v2_48b (needs_48b (v1_48).toNatClampNeg) v1_48 d needs_48b) else fX12_washers_95 v1_48 v2_48b y_16 v1_48 d needs_48b)))))
def fX12_washers_48 (v1_48 : Int32) (v2_48 : Int32) (d : Nat → Int32) (needs_48 : Nat → Int32) : Option ((Int32 × (Nat → Int32)) ⊕ (Int32 × (Nat → Int32))) :=
  bd (lp (fun σ : Int32 × (Nat → Int32) => fX12_washers_48B v1_48 d (σ.1) (σ.2)) FU (v2_48, needs_48)) fun ρ => match ρ with | (v2_48r, needs_48r) => bnd (v1_48 + (1 : Int32)) fun y_12 => some (.inl (y_12, needs_48r))
def fX12_washers_41 (v1_41 : Int32) (k0_41 : Int32) (k1_41 : Int32) (d : Nat → Int32) (needs_41 : Nat → Int32) : Option ((Int32 × (Nat → Int32)) ⊕ (Int32 × (Nat → Int32))) :=
  ckI k1_41 256 (bnd (upd needs_41 (k1_41).toNatClampNeg k0_41) fun needs_10 => bnd ((v1_41 - (1 : Int32)) &&& v1_41) fun y_11 => fX12_washers_48 v1_41 y_11 d needs_10)
def fX12_washers_2B (d : Nat → Int32) (v1_2b : Int32) (needs_2b : Nat → Int32) : Option ((Int32 × (Nat → Int32)) ⊕ (Int32 × (Nat → Int32))) :=
  ckI (0 : Int32) 326 ((if ((1 : Int32) <<< ((d ((0 : Int32)).toNatClampNeg) &&& 31)) ≤ v1_2b then some (.inr (v1_2b, needs_2b)) else (if v1_2b = 0 then fX12_washers_41 v1_2b (0 : Int32) v1_2b d needs_2b else bd (fX12_isAlone v1_2b d) fun r_6 => (if r_6 = 0 then fX12_washers_41 v1_2b (8 : Int32) v1_2b d needs_2b else fX12_washers_41 v1_2b (1 : Int32) v1_2b d needs_2b))))
def fX12_washers_2 (v1_2 : Int32) (d : Nat → Int32) (needs_2 : Nat → Int32) : Option (Int32 × (Nat → Int32)) :=
  bd (lp (fun σ : Int32 × (Nat → Int32) => fX12_washers_2B d (σ.1) (σ.2)) FU (v1_2, needs_2)) fun ρ => match ρ with | (v1_2r, needs_2r) => ckI (0 : Int32) 326 (ckI (((1 : Int32) <<< ((d ((0 : Int32)).toNatClampNeg) &&& 31)) - (1 : Int32)) 256 (some ((needs_2r ((((1 : Int32) <<< ((d ((0 : Int32)).toNatClampNeg) &&& 31)) - (1 : Int32))).toNatClampNeg), needs_2r)))
def fX12_washers (d : Nat → Int32) (needs : Nat → Int32) : Option (Int32 × (Nat → Int32)) :=
  fX12_washers_2 (0 : Int32) d needs
set_option maxHeartbeats 4000000 in
set_option maxRecDepth 100000 in
theorem c_X12_washers (l : Launch) (G : Nat → Nat) (D : va_G) (cA : Nat → ClassId) (ad : Nat → Nat) (sz : Nat) (d : Nat → Int32) (kept : Nat → Int32) (aside : Nat → Int32) (images : Int32) (found : Nat → Int32) (base : Int32) (at0 : Int32) (size : Int32) (fault : Int32) (opened : Int32) (isRub : Int32) (names : Nat → Int32) (code : Nat → Int32) (coded : Int32) (pile : Nat → Int32) (needs : Nat → Int32) (traced : Nat → Int32) (traceMany : Int32) (who : Int32) (bitsOf : Nat → Int32) (sizeOf : Nat → Int32) (number : Nat → Int32) (lifted : Nat → Int32) (rR : Int32) (needsR : Nat → Int32) (h : fX12_washers d needs = some (rR, needsR)) : Met l yX12_washers wsX12_washers ({ frames := 3, cells := 0, slots := 0, locals := 68 } : Room) (PW G D (tyC cA) sz (wM cA ad d kept aside images found base at0 size fault opened isRub names code coded pile needs traced traceMany who bitsOf sizeOf number lifted) [.ref (ad 0)]) (QI D (tyC cA) (va_A (wM cA ad d kept aside images found base at0 size fault opened isRub names code coded pile needs traced traceMany who bitsOf sizeOf number lifted) sz) rR (wM cA ad d kept aside images found base at0 size fault opened isRub names code coded pile needsR traced traceMany who bitsOf sizeOf number lifted)) 0 0 (va_A (wM cA ad d kept aside images found base at0 size fault opened isRub names code coded pile needs traced traceMany who bitsOf sizeOf number lifted) sz) := by
  refine ent (cc := cX12_washers) (maxL := 4) (ret := (some .int)) (fun A => QI D (tyC cA) A rR (wM cA ad d kept aside images found base at0 size fault opened isRub names code coded pile needsR traced traceMany who bitsOf sizeOf number lifted)) (by decide +kernel) rfl (Nat.le_of_ble_eq_true rfl) ?_
  intro p e s m args below meth c A ls H hx hb hml hr hlk hts hown hA hK hE hP hD hS hv hmm
  have hv : lv_has ls 4 [(0, .ref (ad 0))] := hv
  have in_12 : ∀ w ∈ u_ws RX12 TX12 23, w ∈ wsX12_washers := fun _ h => List.mem_cons_of_mem _ (List.mem_append_right _ h)
  have w_0 := hts (.fieldLink RX12 31 "SpoonsLastModel" "needs" "[I") (List.mem_of_getElem? (i := 2) rfl)
  have w_1 := hts (.fieldLink RX12 7 "SpoonsLastModel" "d" "[I") (List.mem_of_getElem? (i := 1) rfl)
  generalize hQ : MQ below _ args s 0 0 A = Q
  have C_2 : ∀ (v1_2 : Int32) (needs_2 : Nat → Int32), fX12_washers_2 v1_2 d needs_2 = some (rR, needsR) → WW p l e ({ frames := 3, cells := 0, slots := 0, locals := 68 } : Room) s m args below meth c D A 0 0 Q (wM cA ad d kept aside images found base at0 size fault opened isRub names code coded pile needs_2 traced traceMany who bitsOf sizeOf number lifted) 4 [(0, .ref (ad 0)), (1, .int v1_2)] 2 [] := by
    intro v1_2 needs_2 h
    unfold fX12_washers_2 at h
    obtain ⟨⟨v1_2r, needs_2r⟩, ho, h⟩ := bd_ex h
    have LE : WW p l e ({ frames := 3, cells := 0, slots := 0, locals := 68 } : Room) s m args below meth c D A 0 0 Q (wM cA ad d kept aside images found base at0 size fault opened isRub names code coded pile needs_2r traced traceMany who bitsOf sizeOf number lifted) 4 [(0, .ref (ad 0))] 111 [] := by
      intro H locs ls hP hD hS hv
      refine lv_aload_n hx hb dX12_washers_111 rfl (lv_at hv 0 rfl) ?_
      refine va_get (D := D) (ci := 12) (v := .ref (ad 16)) (C := RX12) (T := TX12) (N := 23) hx hb hts in_12 hown hK hP 0 rfl rfl 15 (by decide) w_0 (fun _ h9 => h9) rfl dX12_washers_112 ?_
      refine lv_iconst (v := (1 : Int32)) hx hb dX12_washers_115 (by decide) ?_
      refine lv_aload_n hx hb dX12_washers_116 rfl (lv_at hv 0 rfl) ?_
      refine va_get (D := D) (ci := 12) (v := .ref (ad 1)) (C := RX12) (T := TX12) (N := 23) hx hb hts in_12 hown hK hP 0 rfl rfl 0 (by decide) w_1 (fun _ h9 => h9) rfl dX12_washers_117 ?_
      refine lv_iconst (v := (0 : Int32)) hx hb dX12_washers_120 (by decide) ?_
      obtain ⟨c_1, h⟩ := ckI_ex h
      refine va_iald (D := D) hx hb hK hP 1 0 rfl rfl c_1 dX12_washers_121 ?_
      refine lv_ishl hx hb dX12_washers_122 ?_
      refine lv_iconst (v := (1 : Int32)) hx hb dX12_washers_123 (by decide) ?_
      refine lv_isub hx hb dX12_washers_124 ?_
      obtain ⟨c_2, h⟩ := ckI_ex h
      refine va_iald (D := D) hx hb hK hP 8 0 rfl rfl c_2 dX12_washers_125 ?_
      have h := Option.some.inj h
      have ee0 : (needs_2r ((((1 : Int32) <<< ((d ((0 : Int32)).toNatClampNeg) &&& 31)) - (1 : Int32))).toNatClampNeg) = rR := congrArg (fun q => q.1) h
      have ee1 : needs_2r = needsR := congrArg (fun q => q.2) h
      subst ee0
      subst ee1
      rw [← hQ]
      exact retI hx hb hr hlk hK hP hD hS dX12_washers_126 ⟨Nat.le_of_ble_eq_true rfl, Nat.le_of_ble_eq_true rfl⟩
    have LB : ∀ (nf : Nat) (v1_2b : Int32) (needs_2b : Nat → Int32), lp (fun σ : Int32 × (Nat → Int32) => fX12_washers_2B d (σ.1) (σ.2)) nf (v1_2b, needs_2b) = some (v1_2r, needs_2r) → WW p l e ({ frames := 3, cells := 0, slots := 0, locals := 68 } : Room) s m args below meth c D A 0 0 Q (wM cA ad d kept aside images found base at0 size fault opened isRub names code coded pile needs_2b traced traceMany who bitsOf sizeOf number lifted) 4 [(0, .ref (ad 0)), (1, .int v1_2b)] 2 [] := by
      intro nf
      induction nf with
      | zero => intro v1_2b needs_2b hl; cases hl
      | succ nf ih =>
        intro v1_2b needs_2b hl
        obtain ⟨x, h, hl⟩ := lp_ex hl
        have h : fX12_washers_2B d v1_2b needs_2b = some x := h
        unfold fX12_washers_2B at h
        have C_48 : ∀ (v1_48 : Int32) (v2_48 : Int32) (needs_48 : Nat → Int32) (x : (Int32 × (Nat → Int32)) ⊕ (Int32 × (Nat → Int32))), fX12_washers_48 v1_48 v2_48 d needs_48 = some x → lpk (fun σ : Int32 × (Nat → Int32) => fX12_washers_2B d (σ.1) (σ.2)) nf x = some (v1_2r, needs_2r) → WW p l e ({ frames := 3, cells := 0, slots := 0, locals := 68 } : Room) s m args below meth c D A 0 0 Q (wM cA ad d kept aside images found base at0 size fault opened isRub names code coded pile needs_48 traced traceMany who bitsOf sizeOf number lifted) 4 [(0, .ref (ad 0)), (1, .int v1_48), (2, .int v2_48)] 48 [] := by
          intro v1_48 v2_48 needs_48 x h hl
          unfold fX12_washers_48 at h
          obtain ⟨⟨v2_48r, needs_48r⟩, ho, h⟩ := bd_ex h
          have LE : WW p l e ({ frames := 3, cells := 0, slots := 0, locals := 68 } : Room) s m args below meth c D A 0 0 Q (wM cA ad d kept aside images found base at0 size fault opened isRub names code coded pile needs_48r traced traceMany who bitsOf sizeOf number lifted) 4 [(0, .ref (ad 0)), (1, .int v1_48)] 105 [] := by
            intro H locs ls hP hD hS hv
            obtain ⟨y_12, ey_12, h⟩ := bnd_ex h
            refine lv_iinc (v := y_12) (lv' := [(1, .int y_12), (0, .ref (ad 0))]) hx hb dX12_washers_105 hv (k := 1) rfl (by rw [ey_12]; rfl) (by decide) rfl (fun ls hv => ?_)
            refine lv_goto (tgt := 2) hx hb dX12_washers_108 (by decide) ?_
            cases h
            exact ih y_12 needs_48r hl _ _ _ hP hD hS (lv_sub hv [1, 0] rfl)
          have LB : ∀ (nf : Nat) (v2_48b : Int32) (needs_48b : Nat → Int32), lp (fun σ : Int32 × (Nat → Int32) => fX12_washers_48B v1_48 d (σ.1) (σ.2)) nf (v2_48b, needs_48b) = some (v2_48r, needs_48r) → WW p l e ({ frames := 3, cells := 0, slots := 0, locals := 68 } : Room) s m args below meth c D A 0 0 Q (wM cA ad d kept aside images found base at0 size fault opened isRub names code coded pile needs_48b traced traceMany who bitsOf sizeOf number lifted) 4 [(0, .ref (ad 0)), (1, .int v1_48), (2, .int v2_48b)] 48 [] := by
            intro nf
            induction nf with
            | zero => intro v2_48b needs_48b hl; cases hl
            | succ nf ih =>
              intro v2_48b needs_48b hl
              obtain ⟨x, h, hl⟩ := lp_ex hl
              have h : fX12_washers_48B v1_48 d v2_48b needs_48b = some x := h
              unfold fX12_washers_48B at h
              have C_95 : ∀ (v2_95 : Int32) (k0_95 : Int32) (k1_95 : Int32) (needs_95 : Nat → Int32) (x : (Int32 × (Nat → Int32)) ⊕ (Int32 × (Nat → Int32))), fX12_washers_95 v1_48 v2_95 k0_95 k1_95 d needs_95 = some x → lpk (fun σ : Int32 × (Nat → Int32) => fX12_washers_48B v1_48 d (σ.1) (σ.2)) nf x = some (v2_48r, needs_48r) → WW p l e ({ frames := 3, cells := 0, slots := 0, locals := 68 } : Room) s m args below meth c D A 0 0 Q (wM cA ad d kept aside images found base at0 size fault opened isRub names code coded pile needs_95 traced traceMany who bitsOf sizeOf number lifted) 4 [(0, .ref (ad 0)), (1, .int v1_48), (2, .int v2_95)] 95 [.int k0_95, .int k1_95, .ref (ad 16)] := by
                intro v2_95 k0_95 k1_95 needs_95 x h hl
                unfold fX12_washers_95 at h
                intro H locs ls hP hD hS hv
                obtain ⟨c_20, h⟩ := ckI_ex h
                obtain ⟨needs_21, eneeds_21, h⟩ := bnd_ex h
                refine va_iast (D := D) hx hb hK hP hD hS 8 0 rfl rfl c_20 dX12_washers_95 (fun H locs hP hD hS => ?_)
                rw [← eneeds_21] at hP hD
                have hP : va_P D vwCl (wM cA ad d kept aside images found base at0 size fault opened isRub names code coded pile needs_21 traced traceMany who bitsOf sizeOf number lifted) H := hP
                have hD : va_D A (wM cA ad d kept aside images found base at0 size fault opened isRub names code coded pile needs_21 traced traceMany who bitsOf sizeOf number lifted) := hD
                refine lv_iload_n hx hb dX12_washers_96 rfl (lv_at hv 2 rfl) ?_
                refine lv_iconst (v := (1 : Int32)) hx hb dX12_washers_97 (by decide) ?_
                refine lv_isub hx hb dX12_washers_98 ?_
                refine lv_iload_n hx hb dX12_washers_99 rfl (lv_at hv 1 rfl) ?_
                refine lv_iand hx hb dX12_washers_100 ?_
                obtain ⟨y_22, ey_22, h⟩ := bnd_ex h
                refine lv_nm ey_22 ?_
                refine lv_istore_n (lv' := [(2, .int y_22), (0, .ref (ad 0)), (1, .int v1_48)]) hx hb dX12_washers_101 rfl hv (by decide) rfl (fun ls hv => ?_)
                refine lv_goto (tgt := 48) hx hb dX12_washers_102 (by decide) ?_
                cases h
                exact ih y_22 needs_21 hl _ _ _ hP hD hS (lv_sub hv [1, 2, 0] rfl)
              intro H locs ls hP hD hS hv
              refine lv_iload_n hx hb dX12_washers_48 rfl (lv_at hv 2 rfl) ?_
              refine lv_if_le (tgt := 105) hx hb dX12_washers_49 (by decide) (fun c_13 => ?_) (fun c_13 => ?_)
              · have h := ite_t c_13 h
                cases h
                have hl : some (v2_48b, needs_48b) = some (v2_48r, needs_48r) := hl
                have hl := Option.some.inj hl
                have ee0 : v2_48b = v2_48r := congrArg (fun q => q.1) hl
                have ee1 : needs_48b = needs_48r := congrArg (fun q => q.2) hl
                subst ee0
                subst ee1
                exact LE _ _ _ hP hD hS (lv_sub hv [0, 1] rfl)
              · have h := ite_f c_13 h
                refine lv_aload_n hx hb dX12_washers_52 rfl (lv_at hv 0 rfl) ?_
                refine va_get (D := D) (ci := 12) (v := .ref (ad 16)) (C := RX12) (T := TX12) (N := 23) hx hb hts in_12 hown hK hP 0 rfl rfl 15 (by decide) w_0 (fun _ h9 => h9) rfl dX12_washers_53 ?_
                refine lv_iload_n hx hb dX12_washers_56 rfl (lv_at hv 2 rfl) ?_
                obtain ⟨c_14, h⟩ := ckI_ex h
                refine va_iald (D := D) hx hb hK hP 8 0 rfl rfl c_14 dX12_washers_57 ?_
                refine lv_aload_n hx hb dX12_washers_58 rfl (lv_at hv 0 rfl) ?_
                refine va_get (D := D) (ci := 12) (v := .ref (ad 16)) (C := RX12) (T := TX12) (N := 23) hx hb hts in_12 hown hK hP 0 rfl rfl 15 (by decide) w_0 (fun _ h9 => h9) rfl dX12_washers_59 ?_
                refine lv_iload_n hx hb dX12_washers_62 rfl (lv_at hv 1 rfl) ?_
                refine lv_iload_n hx hb dX12_washers_63 rfl (lv_at hv 2 rfl) ?_
                refine lv_iconst (v := (-1 : Int32)) hx hb dX12_washers_64 (by decide) ?_
                refine lv_ixor hx hb dX12_washers_65 ?_
                refine lv_iand hx hb dX12_washers_66 ?_
                obtain ⟨c_15, h⟩ := ckI_ex h
                refine va_iald (D := D) hx hb hK hP 8 0 rfl rfl c_15 dX12_washers_67 ?_
                refine lv_iadd hx hb dX12_washers_68 ?_
                obtain ⟨y_16, ey_16, h⟩ := bnd_ex h
                refine lv_nm ey_16 ?_
                refine lv_istore_n (lv' := [(3, .int y_16), (0, .ref (ad 0)), (1, .int v1_48), (2, .int v2_48b)]) hx hb dX12_washers_69 rfl hv (by decide) rfl (fun ls hv => ?_)
                refine lv_aload_n hx hb dX12_washers_70 rfl (lv_at hv 1 rfl) ?_
                refine va_get (D := D) (ci := 12) (v := .ref (ad 16)) (C := RX12) (T := TX12) (N := 23) hx hb hts in_12 hown hK hP 0 rfl rfl 15 (by decide) w_0 (fun _ h9 => h9) rfl dX12_washers_71 ?_
                refine lv_iload_n hx hb dX12_washers_74 rfl (lv_at hv 2 rfl) ?_
                refine lv_iload_n hx hb dX12_washers_75 rfl (lv_at hv 0 rfl) ?_
                refine lv_aload_n hx hb dX12_washers_76 rfl (lv_at hv 1 rfl) ?_
                refine va_get (D := D) (ci := 12) (v := .ref (ad 16)) (C := RX12) (T := TX12) (N := 23) hx hb hts in_12 hown hK hP 0 rfl rfl 15 (by decide) w_0 (fun _ h9 => h9) rfl dX12_washers_77 ?_
                refine lv_iload_n hx hb dX12_washers_80 rfl (lv_at hv 2 rfl) ?_
                obtain ⟨c_17, h⟩ := ckI_ex h
                refine va_iald (D := D) hx hb hK hP 8 0 rfl rfl c_17 dX12_washers_81 ?_
                refine lv_icmp_ge (tgt := 89) hx hb dX12_washers_82 (by decide) (fun c_18 => ?_) (fun c_18 => ?_)
                · have h := ite_t c_18 h
                  refine lv_aload_n hx hb dX12_washers_89 rfl (lv_at hv 1 rfl) ?_
                  refine va_get (D := D) (ci := 12) (v := .ref (ad 16)) (C := RX12) (T := TX12) (N := 23) hx hb hts in_12 hown hK hP 0 rfl rfl 15 (by decide) w_0 (fun _ h9 => h9) rfl dX12_washers_90 ?_
                  refine lv_iload_n hx hb dX12_washers_93 rfl (lv_at hv 2 rfl) ?_
                  obtain ⟨c_19, h⟩ := ckI_ex h
                  refine va_iald (D := D) hx hb hK hP 8 0 rfl rfl c_19 dX12_washers_94 ?_
                  exact C_95 v2_48b (needs_48b (v1_48).toNatClampNeg) v1_48 needs_48b _ h hl _ _ _ hP hD hS (lv_sub hv [1, 2, 3] rfl)
                · have h := ite_f c_18 h
                  refine lv_iload_n hx hb dX12_washers_85 rfl (lv_at hv 0 rfl) ?_
                  refine lv_goto (tgt := 95) hx hb dX12_washers_86 (by decide) ?_
                  exact C_95 v2_48b y_16 v1_48 needs_48b _ h hl _ _ _ hP hD hS (lv_sub hv [1, 2, 3] rfl)
          exact LB FU v2_48 needs_48 ho
        have C_41 : ∀ (v1_41 : Int32) (k0_41 : Int32) (k1_41 : Int32) (needs_41 : Nat → Int32) (x : (Int32 × (Nat → Int32)) ⊕ (Int32 × (Nat → Int32))), fX12_washers_41 v1_41 k0_41 k1_41 d needs_41 = some x → lpk (fun σ : Int32 × (Nat → Int32) => fX12_washers_2B d (σ.1) (σ.2)) nf x = some (v1_2r, needs_2r) → WW p l e ({ frames := 3, cells := 0, slots := 0, locals := 68 } : Room) s m args below meth c D A 0 0 Q (wM cA ad d kept aside images found base at0 size fault opened isRub names code coded pile needs_41 traced traceMany who bitsOf sizeOf number lifted) 4 [(0, .ref (ad 0)), (1, .int v1_41)] 41 [.int k0_41, .int k1_41, .ref (ad 16)] := by
          intro v1_41 k0_41 k1_41 needs_41 x h hl
          unfold fX12_washers_41 at h
          intro H locs ls hP hD hS hv
          obtain ⟨c_9, h⟩ := ckI_ex h
          obtain ⟨needs_10, eneeds_10, h⟩ := bnd_ex h
          refine va_iast (D := D) hx hb hK hP hD hS 8 0 rfl rfl c_9 dX12_washers_41 (fun H locs hP hD hS => ?_)
          rw [← eneeds_10] at hP hD
          have hP : va_P D vwCl (wM cA ad d kept aside images found base at0 size fault opened isRub names code coded pile needs_10 traced traceMany who bitsOf sizeOf number lifted) H := hP
          have hD : va_D A (wM cA ad d kept aside images found base at0 size fault opened isRub names code coded pile needs_10 traced traceMany who bitsOf sizeOf number lifted) := hD
          refine lv_iload_n hx hb dX12_washers_42 rfl (lv_at hv 1 rfl) ?_
          refine lv_iconst (v := (1 : Int32)) hx hb dX12_washers_43 (by decide) ?_
          refine lv_isub hx hb dX12_washers_44 ?_
          refine lv_iload_n hx hb dX12_washers_45 rfl (lv_at hv 1 rfl) ?_
          refine lv_iand hx hb dX12_washers_46 ?_
          obtain ⟨y_11, ey_11, h⟩ := bnd_ex h
          refine lv_nm ey_11 ?_
          refine lv_istore_n (lv' := [(2, .int y_11), (0, .ref (ad 0)), (1, .int v1_41)]) hx hb dX12_washers_47 rfl hv (by decide) rfl (fun ls hv => ?_)
          exact C_48 v1_41 y_11 needs_10 _ h hl _ _ _ hP hD hS (lv_sub hv [1, 2, 0] rfl)
        intro H locs ls hP hD hS hv
        refine lv_iload_n hx hb dX12_washers_2 rfl (lv_at hv 1 rfl) ?_
        refine lv_iconst (v := (1 : Int32)) hx hb dX12_washers_3 (by decide) ?_
        refine lv_aload_n hx hb dX12_washers_4 rfl (lv_at hv 0 rfl) ?_
        refine va_get (D := D) (ci := 12) (v := .ref (ad 1)) (C := RX12) (T := TX12) (N := 23) hx hb hts in_12 hown hK hP 0 rfl rfl 0 (by decide) w_1 (fun _ h9 => h9) rfl dX12_washers_5 ?_
        refine lv_iconst (v := (0 : Int32)) hx hb dX12_washers_8 (by decide) ?_
        obtain ⟨c_3, h⟩ := ckI_ex h
        refine va_iald (D := D) hx hb hK hP 1 0 rfl rfl c_3 dX12_washers_9 ?_
        refine lv_ishl hx hb dX12_washers_10 ?_
        refine lv_icmp_ge (tgt := 111) hx hb dX12_washers_11 (by decide) (fun c_4 => ?_) (fun c_4 => ?_)
        · have h := ite_t c_4 h
          cases h
          have hl : some (v1_2b, needs_2b) = some (v1_2r, needs_2r) := hl
          have hl := Option.some.inj hl
          have ee0 : v1_2b = v1_2r := congrArg (fun q => q.1) hl
          have ee1 : needs_2b = needs_2r := congrArg (fun q => q.2) hl
          subst ee0
          subst ee1
          exact LE _ _ _ hP hD hS (lv_sub hv [0] rfl)
        · have h := ite_f c_4 h
          refine lv_aload_n hx hb dX12_washers_14 rfl (lv_at hv 0 rfl) ?_
          refine va_get (D := D) (ci := 12) (v := .ref (ad 16)) (C := RX12) (T := TX12) (N := 23) hx hb hts in_12 hown hK hP 0 rfl rfl 15 (by decide) w_0 (fun _ h9 => h9) rfl dX12_washers_15 ?_
          refine lv_iload_n hx hb dX12_washers_18 rfl (lv_at hv 1 rfl) ?_
          refine lv_iload_n hx hb dX12_washers_19 rfl (lv_at hv 1 rfl) ?_
          refine lv_if_ne (tgt := 27) hx hb dX12_washers_20 (by decide) (fun c_5 => ?_) (fun c_5 => ?_)
          · have h := ite_f c_5 h
            refine lv_aload_n hx hb dX12_washers_27 rfl (lv_at hv 0 rfl) ?_
            refine lv_iload_n hx hb dX12_washers_28 rfl (lv_at hv 1 rfl) ?_
            obtain ⟨r_6, hf_7, h⟩ := bd_ex h
            have sb := Sb.same hP hD hS hA
            refine calI (va_runV (As := [.int v1_2b]) (rest := [.int v1_2b, .ref (ad 16)]) ⟨hx, hb, hml, hown, hts⟩ (c_X12_isAlone l G D cA ad _ d kept aside images found base at0 size fault opened isRub names code coded pile needs_2b traced traceMany who bitsOf sizeOf number lifted v1_2b r_6 hf_7) (cwV 1 hts gX12_washers_X12_isAlone rfl rfl rfl (by decide +kernel) ⟨Nat.le_of_ble_eq_true rfl, Nat.le_of_ble_eq_true rfl⟩) (pvV hE hK hS sb (va_recv hK hP (ci := 12) (q0 := 0) rfl rfl)) rfl rfl hv.1 rfl (lv_room (Nat.le_of_ble_eq_true rfl)) dX12_washers_29 ⟨Nat.le_of_ble_eq_true rfl, Nat.le_of_ble_eq_true rfl⟩) hS sb (Jn.same sb) (fun H locs hP hD hS => ?_)
            have hP : va_P D vwCl (wM cA ad d kept aside images found base at0 size fault opened isRub names code coded pile needs_2b traced traceMany who bitsOf sizeOf number lifted) H := hP
            have hD : va_D A (wM cA ad d kept aside images found base at0 size fault opened isRub names code coded pile needs_2b traced traceMany who bitsOf sizeOf number lifted) := hD
            refine lv_if_eq (tgt := 39) hx hb dX12_washers_32 (by decide) (fun c_8 => ?_) (fun c_8 => ?_)
            · have h := ite_t c_8 h
              refine lv_bipush (v := (8 : Int32)) hx hb dX12_washers_39 (by decide) ?_
              exact C_41 v1_2b (8 : Int32) v1_2b needs_2b _ h hl _ _ _ hP hD hS (lv_sub hv [0, 1] rfl)
            · have h := ite_f c_8 h
              refine lv_iconst (v := (1 : Int32)) hx hb dX12_washers_35 (by decide) ?_
              refine lv_goto (tgt := 41) hx hb dX12_washers_36 (by decide) ?_
              exact C_41 v1_2b (1 : Int32) v1_2b needs_2b _ h hl _ _ _ hP hD hS (lv_sub hv [0, 1] rfl)
          · have h := ite_t c_5 h
            refine lv_iconst (v := (0 : Int32)) hx hb dX12_washers_23 (by decide) ?_
            refine lv_goto (tgt := 41) hx hb dX12_washers_24 (by decide) ?_
            exact C_41 v1_2b (0 : Int32) v1_2b needs_2b _ h hl _ _ _ hP hD hS (lv_sub hv [0, 1] rfl)
    exact LB FU v1_2 needs_2 ho
  have hP : va_P D vwCl (wM cA ad d kept aside images found base at0 size fault opened isRub names code coded pile needs traced traceMany who bitsOf sizeOf number lifted) H := hP
  unfold fX12_washers at h
  refine lv_iconst (v := (0 : Int32)) hx hb dX12_washers_0 (by decide) ?_
  refine lv_istore_n (lv' := [(1, .int (0 : Int32)), (0, .ref (ad 0))]) hx hb dX12_washers_1 rfl hv (by decide) rfl (fun ls hv => ?_)
  exact C_2 (0 : Int32) needs h _ _ _ hP hD hS (lv_sub hv [1, 0] rfl)

def fX12_telling_104 (v1_17 : Int32) (v3_104 : Int32) (k0_104 : Int32) (d : Nat → Int32) (found_17 : Nat → Int32) : Option ((Int32 × Int32) ⊕ (Int32 × Int32)) :=
  bnd (v3_104 + (1 : Int32)) fun y_11 => some (.inl (k0_104, y_11))
def fX12_telling_103 (v1_17 : Int32) (v2_103 : Int32) (v3_103 : Int32) (d : Nat → Int32) (found_17 : Nat → Int32) : Option ((Int32 × Int32) ⊕ (Int32 × Int32)) :=
  fX12_telling_104 v1_17 v3_103 v2_103 d found_17
def fX12_telling_99 (v1_17 : Int32) (v3_99 : Int32) (d : Nat → Int32) (found_17 : Nat → Int32) : Option ((Int32 × Int32) ⊕ (Int32 × Int32)) :=
  fX12_telling_104 v1_17 v3_99 v3_99 d found_17
def fX12_telling_70 (v1_17 : Int32) (v2_35 : Int32) (v3_35 : Int32) (v5_70 : Int32) (k0_70 : Int32) (k1_70 : Int32) (d : Nat → Int32) (found_17 : Nat → Int32) : Option ((Int32 × Int32) ⊕ (Int32 × Int32)) :=
  bnd (k1_70 &&& k0_70) fun y_21 => bnd (v5_70 + (1 : Int32)) fun y_22 => some (.inl (y_21, y_22))
def fX12_telling_35B (v1_17 : Int32) (v2_35 : Int32) (v3_35 : Int32) (d : Nat → Int32) (found_17 : Nat → Int32) (v4_35b : Int32) (v5_35b : Int32) : Option ((Int32 × Int32) ⊕ (Int32 × Int32)) :=
  ckI (0 : Int32) 326 ((if (d ((0 : Int32)).toNatClampNeg) ≤ v5_35b then some (.inr (v4_35b, v5_35b)) else (if ((v3_35 >>> (v5_35b &&& 31)) &&& (1 : Int32)) = (1 : Int32) then bd (fX12_on v5_35b d) fun r_23 => fX12_telling_70 v1_17 v2_35 v3_35 v5_35b (r_23 ^^^ (-1 : Int32)) v4_35b d found_17 else fX12_telling_70 v1_17 v2_35 v3_35 v5_35b (-1 : Int32) v4_35b d found_17)))
def fX12_telling_35 (v1_17 : Int32) (v2_35 : Int32) (v3_35 : Int32) (v4_35 : Int32) (v5_35 : Int32) (d : Nat → Int32) (found_17 : Nat → Int32) : Option ((Int32 × Int32) ⊕ (Int32 × Int32)) :=
  bd (lp (fun σ : Int32 × Int32 => fX12_telling_35B v1_17 v2_35 v3_35 d found_17 (σ.1) (σ.2)) FU (v4_35, v5_35)) fun ρ => match ρ with | (v4_35r, v5_35r) => (if v4_35r = 0 then (if v2_35 < 0 then fX12_telling_99 v1_17 v3_35 d found_17 else bd (fX12_ones v3_35) fun r_13 => bd (fX12_ones v2_35) fun r_15 => (if r_15 ≤ r_13 then fX12_telling_103 v1_17 v2_35 v3_35 d found_17 else fX12_telling_99 v1_17 v3_35 d found_17)) else fX12_telling_103 v1_17 v2_35 v3_35 d found_17)
def fX12_telling_17B (v1_17 : Int32) (d : Nat → Int32) (found_17 : Nat → Int32) (v2_17b : Int32) (v3_17b : Int32) : Option ((Int32 × Int32) ⊕ (Int32 × Int32)) :=
  ckI (0 : Int32) 326 ((if ((1 : Int32) <<< ((d ((0 : Int32)).toNatClampNeg) &&& 31)) ≤ v3_17b then some (.inr (v2_17b, v3_17b)) else fX12_telling_35 v1_17 v2_17b v3_17b v1_17 (0 : Int32) d found_17))
def fX12_telling_17 (v1_17 : Int32) (v2_17 : Int32) (v3_17 : Int32) (d : Nat → Int32) (found_17 : Nat → Int32) : Option (Int32 × (Nat → Int32)) :=
  bd (lp (fun σ : Int32 × Int32 => fX12_telling_17B v1_17 d found_17 (σ.1) (σ.2)) FU (v2_17, v3_17)) fun ρ => match ρ with | (v2_17r, v3_17r) => (if 0 ≤ v2_17r then some (v2_17r, found_17) else bd (fX12_finds (2 : Int32) found_17) fun (r_5, found_6) => some (r_5, found_6))
def fX12_telling (a : Int32) (d : Nat → Int32) (found : Nat → Int32) : Option (Int32 × (Nat → Int32)) :=
  bd (fX12_areWords a) fun r_1 => (if r_1 = 0 then bd (fX12_finds (1 : Int32) found) fun (r_25, found_26) => some (r_25, found_26) else fX12_telling_17 a (-1 : Int32) (0 : Int32) d found)
set_option maxHeartbeats 4000000 in
set_option maxRecDepth 100000 in
theorem c_X12_telling (l : Launch) (G : Nat → Nat) (D : va_G) (cA : Nat → ClassId) (ad : Nat → Nat) (sz : Nat) (d : Nat → Int32) (kept : Nat → Int32) (aside : Nat → Int32) (images : Int32) (found : Nat → Int32) (base : Int32) (at0 : Int32) (size : Int32) (fault : Int32) (opened : Int32) (isRub : Int32) (names : Nat → Int32) (code : Nat → Int32) (coded : Int32) (pile : Nat → Int32) (needs : Nat → Int32) (traced : Nat → Int32) (traceMany : Int32) (who : Int32) (bitsOf : Nat → Int32) (sizeOf : Nat → Int32) (number : Nat → Int32) (lifted : Nat → Int32) (a : Int32) (rR : Int32) (foundR : Nat → Int32) (h : fX12_telling a d found = some (rR, foundR)) : Met l yX12_telling wsX12_telling ({ frames := 2, cells := 0, slots := 0, locals := 45 } : Room) (PW G D (tyC cA) sz (wM cA ad d kept aside images found base at0 size fault opened isRub names code coded pile needs traced traceMany who bitsOf sizeOf number lifted) [.ref (ad 0), .int a]) (QI D (tyC cA) (va_A (wM cA ad d kept aside images found base at0 size fault opened isRub names code coded pile needs traced traceMany who bitsOf sizeOf number lifted) sz) rR (wM cA ad d kept aside images foundR base at0 size fault opened isRub names code coded pile needs traced traceMany who bitsOf sizeOf number lifted)) 0 0 (va_A (wM cA ad d kept aside images found base at0 size fault opened isRub names code coded pile needs traced traceMany who bitsOf sizeOf number lifted) sz) := by
  refine ent (cc := cX12_telling) (maxL := 6) (ret := (some .int)) (fun A => QI D (tyC cA) A rR (wM cA ad d kept aside images foundR base at0 size fault opened isRub names code coded pile needs traced traceMany who bitsOf sizeOf number lifted)) (by decide +kernel) rfl (Nat.le_of_ble_eq_true rfl) ?_
  intro p e s m args below meth c A ls H hx hb hml hr hlk hts hown hA hK hE hP hD hS hv hmm
  have hv : lv_has ls 6 [(0, .ref (ad 0)), (1, .int a)] := hv
  have in_12 : ∀ w ∈ u_ws RX12 TX12 23, w ∈ wsX12_telling := fun _ h => List.mem_cons_of_mem _ (List.mem_append_right _ h)
  have w_0 := hts (.fieldLink RX12 7 "SpoonsLastModel" "d" "[I") (List.mem_of_getElem? (i := 1) rfl)
  generalize hQ : MQ below _ args s 0 0 A = Q
  have C_17 : ∀ (v1_17 : Int32) (v2_17 : Int32) (v3_17 : Int32) (found_17 : Nat → Int32), fX12_telling_17 v1_17 v2_17 v3_17 d found_17 = some (rR, foundR) → WW p l e ({ frames := 2, cells := 0, slots := 0, locals := 45 } : Room) s m args below meth c D A 0 0 Q (wM cA ad d kept aside images found_17 base at0 size fault opened isRub names code coded pile needs traced traceMany who bitsOf sizeOf number lifted) 6 [(0, .ref (ad 0)), (1, .int v1_17), (2, .int v2_17), (3, .int v3_17)] 17 [] := by
    intro v1_17 v2_17 v3_17 found_17 h
    unfold fX12_telling_17 at h
    obtain ⟨⟨v2_17r, v3_17r⟩, ho, h⟩ := bd_ex h
    have LE : WW p l e ({ frames := 2, cells := 0, slots := 0, locals := 45 } : Room) s m args below meth c D A 0 0 Q (wM cA ad d kept aside images found_17 base at0 size fault opened isRub names code coded pile needs traced traceMany who bitsOf sizeOf number lifted) 6 [(0, .ref (ad 0)), (2, .int v2_17r)] 111 [] := by
      intro H locs ls hP hD hS hv
      refine lv_iload_n hx hb dX12_telling_111 rfl (lv_at hv 1 rfl) ?_
      refine lv_if_ge (tgt := 123) hx hb dX12_telling_112 (by decide) (fun c_4 => ?_) (fun c_4 => ?_)
      · have h := ite_t c_4 h
        refine lv_iload_n hx hb dX12_telling_123 rfl (lv_at hv 1 rfl) ?_
        have h := Option.some.inj h
        have ee0 : v2_17r = rR := congrArg (fun q => q.1) h
        have ee1 : found_17 = foundR := congrArg (fun q => q.2) h
        subst ee0
        subst ee1
        rw [← hQ]
        exact retI hx hb hr hlk hK hP hD hS dX12_telling_124 ⟨Nat.le_of_ble_eq_true rfl, Nat.le_of_ble_eq_true rfl⟩
      · have h := ite_f c_4 h
        refine lv_aload_n hx hb dX12_telling_115 rfl (lv_at hv 0 rfl) ?_
        refine lv_iconst (v := (2 : Int32)) hx hb dX12_telling_116 (by decide) ?_
        obtain ⟨⟨r_5, found_6⟩, hf_7, h⟩ := bd_ex h
        have sb := Sb.same hP hD hS hA
        refine calI (va_runV (As := [.int (2 : Int32)]) (rest := []) ⟨hx, hb, hml, hown, hts⟩ (c_X12_finds l G D cA ad _ d kept aside images found_17 base at0 size fault opened isRub names code coded pile needs traced traceMany who bitsOf sizeOf number lifted (2 : Int32) r_5 found_6 hf_7) (cwV 1 hts gX12_telling_X12_finds rfl rfl rfl (by decide +kernel) ⟨Nat.le_of_ble_eq_true rfl, Nat.le_of_ble_eq_true rfl⟩) (pvV hE hK hS sb (va_recv hK hP (ci := 12) (q0 := 0) rfl rfl)) rfl rfl hv.1 rfl (lv_room (Nat.le_of_ble_eq_true rfl)) dX12_telling_117 ⟨Nat.le_of_ble_eq_true rfl, Nat.le_of_ble_eq_true rfl⟩) hS sb (Jn.same sb) (fun H locs hP hD hS => ?_)
        have hP : va_P D vwCl (wM cA ad d kept aside images found_6 base at0 size fault opened isRub names code coded pile needs traced traceMany who bitsOf sizeOf number lifted) H := hP
        have hD : va_D A (wM cA ad d kept aside images found_6 base at0 size fault opened isRub names code coded pile needs traced traceMany who bitsOf sizeOf number lifted) := hD
        refine lv_goto (tgt := 124) hx hb dX12_telling_120 (by decide) ?_
        have h := Option.some.inj h
        have ee0 : r_5 = rR := congrArg (fun q => q.1) h
        have ee1 : found_6 = foundR := congrArg (fun q => q.2) h
        subst ee0
        subst ee1
        rw [← hQ]
        exact retI hx hb hr hlk hK hP hD hS dX12_telling_124 ⟨Nat.le_of_ble_eq_true rfl, Nat.le_of_ble_eq_true rfl⟩
    have LB : ∀ (nf : Nat) (v2_17b : Int32) (v3_17b : Int32), lp (fun σ : Int32 × Int32 => fX12_telling_17B v1_17 d found_17 (σ.1) (σ.2)) nf (v2_17b, v3_17b) = some (v2_17r, v3_17r) → WW p l e ({ frames := 2, cells := 0, slots := 0, locals := 45 } : Room) s m args below meth c D A 0 0 Q (wM cA ad d kept aside images found_17 base at0 size fault opened isRub names code coded pile needs traced traceMany who bitsOf sizeOf number lifted) 6 [(0, .ref (ad 0)), (1, .int v1_17), (2, .int v2_17b), (3, .int v3_17b)] 17 [] := by
      intro nf
      induction nf with
      | zero => intro v2_17b v3_17b hl; cases hl
      | succ nf ih =>
        intro v2_17b v3_17b hl
        obtain ⟨x, h, hl⟩ := lp_ex hl
        have h : fX12_telling_17B v1_17 d found_17 v2_17b v3_17b = some x := h
        unfold fX12_telling_17B at h
        have C_104 : ∀ (v3_104 : Int32) (k0_104 : Int32) (x : (Int32 × Int32) ⊕ (Int32 × Int32)), fX12_telling_104 v1_17 v3_104 k0_104 d found_17 = some x → lpk (fun σ : Int32 × Int32 => fX12_telling_17B v1_17 d found_17 (σ.1) (σ.2)) nf x = some (v2_17r, v3_17r) → WW p l e ({ frames := 2, cells := 0, slots := 0, locals := 45 } : Room) s m args below meth c D A 0 0 Q (wM cA ad d kept aside images found_17 base at0 size fault opened isRub names code coded pile needs traced traceMany who bitsOf sizeOf number lifted) 6 [(0, .ref (ad 0)), (1, .int v1_17), (3, .int v3_104)] 104 [.int k0_104] := by
          intro v3_104 k0_104 x h hl
          unfold fX12_telling_104 at h
          intro H locs ls hP hD hS hv
          refine lv_istore_n (lv' := [(2, .int k0_104), (0, .ref (ad 0)), (1, .int v1_17), (3, .int v3_104)]) hx hb dX12_telling_104 rfl hv (by decide) rfl (fun ls hv => ?_)
          obtain ⟨y_11, ey_11, h⟩ := bnd_ex h
          refine lv_iinc (v := y_11) (lv' := [(3, .int y_11), (2, .int k0_104), (0, .ref (ad 0)), (1, .int v1_17)]) hx hb dX12_telling_105 hv (k := 3) rfl (by rw [ey_11]; rfl) (by decide) rfl (fun ls hv => ?_)
          refine lv_goto (tgt := 17) hx hb dX12_telling_108 (by decide) ?_
          cases h
          exact ih k0_104 y_11 hl _ _ _ hP hD hS (lv_sub hv [2, 3, 1, 0] rfl)
        have C_103 : ∀ (v2_103 : Int32) (v3_103 : Int32) (x : (Int32 × Int32) ⊕ (Int32 × Int32)), fX12_telling_103 v1_17 v2_103 v3_103 d found_17 = some x → lpk (fun σ : Int32 × Int32 => fX12_telling_17B v1_17 d found_17 (σ.1) (σ.2)) nf x = some (v2_17r, v3_17r) → WW p l e ({ frames := 2, cells := 0, slots := 0, locals := 45 } : Room) s m args below meth c D A 0 0 Q (wM cA ad d kept aside images found_17 base at0 size fault opened isRub names code coded pile needs traced traceMany who bitsOf sizeOf number lifted) 6 [(0, .ref (ad 0)), (1, .int v1_17), (2, .int v2_103), (3, .int v3_103)] 103 [] := by
          intro v2_103 v3_103 x h hl
          unfold fX12_telling_103 at h
          intro H locs ls hP hD hS hv
          refine lv_iload_n hx hb dX12_telling_103 rfl (lv_at hv 2 rfl) ?_
          exact C_104 v3_103 v2_103 _ h hl _ _ _ hP hD hS (lv_sub hv [0, 1, 3] rfl)
        have C_99 : ∀ (v3_99 : Int32) (x : (Int32 × Int32) ⊕ (Int32 × Int32)), fX12_telling_99 v1_17 v3_99 d found_17 = some x → lpk (fun σ : Int32 × Int32 => fX12_telling_17B v1_17 d found_17 (σ.1) (σ.2)) nf x = some (v2_17r, v3_17r) → WW p l e ({ frames := 2, cells := 0, slots := 0, locals := 45 } : Room) s m args below meth c D A 0 0 Q (wM cA ad d kept aside images found_17 base at0 size fault opened isRub names code coded pile needs traced traceMany who bitsOf sizeOf number lifted) 6 [(0, .ref (ad 0)), (1, .int v1_17), (3, .int v3_99)] 99 [] := by
          intro v3_99 x h hl
          unfold fX12_telling_99 at h
          intro H locs ls hP hD hS hv
          refine lv_iload_n hx hb dX12_telling_99 rfl (lv_at hv 2 rfl) ?_
          refine lv_goto (tgt := 104) hx hb dX12_telling_100 (by decide) ?_
          exact C_104 v3_99 v3_99 _ h hl _ _ _ hP hD hS (lv_sub hv [0, 1, 2] rfl)
        have C_35 : ∀ (v2_35 : Int32) (v3_35 : Int32) (v4_35 : Int32) (v5_35 : Int32) (x : (Int32 × Int32) ⊕ (Int32 × Int32)), fX12_telling_35 v1_17 v2_35 v3_35 v4_35 v5_35 d found_17 = some x → lpk (fun σ : Int32 × Int32 => fX12_telling_17B v1_17 d found_17 (σ.1) (σ.2)) nf x = some (v2_17r, v3_17r) → WW p l e ({ frames := 2, cells := 0, slots := 0, locals := 45 } : Room) s m args below meth c D A 0 0 Q (wM cA ad d kept aside images found_17 base at0 size fault opened isRub names code coded pile needs traced traceMany who bitsOf sizeOf number lifted) 6 [(0, .ref (ad 0)), (1, .int v1_17), (2, .int v2_35), (3, .int v3_35), (4, .int v4_35), (5, .int v5_35)] 35 [] := by
          intro v2_35 v3_35 v4_35 v5_35 x h hl
          unfold fX12_telling_35 at h
          obtain ⟨⟨v4_35r, v5_35r⟩, ho, h⟩ := bd_ex h
          have LE : WW p l e ({ frames := 2, cells := 0, slots := 0, locals := 45 } : Room) s m args below meth c D A 0 0 Q (wM cA ad d kept aside images found_17 base at0 size fault opened isRub names code coded pile needs traced traceMany who bitsOf sizeOf number lifted) 6 [(0, .ref (ad 0)), (1, .int v1_17), (2, .int v2_35), (3, .int v3_35), (4, .int v4_35r)] 79 [] := by
            intro H locs ls hP hD hS hv
            refine lv_iload hx hb dX12_telling_79 (lv_at hv 4 rfl) ?_
            refine lv_if_ne (tgt := 103) hx hb dX12_telling_81 (by decide) (fun c_10 => ?_) (fun c_10 => ?_)
            · have h := ite_f c_10 h
              exact C_103 v2_35 v3_35 _ h hl _ _ _ hP hD hS (lv_sub hv [0, 1, 2, 3] rfl)
            · have h := ite_t c_10 h
              refine lv_iload_n hx hb dX12_telling_84 rfl (lv_at hv 2 rfl) ?_
              refine lv_if_lt (tgt := 99) hx hb dX12_telling_85 (by decide) (fun c_12 => ?_) (fun c_12 => ?_)
              · have h := ite_t c_12 h
                exact C_99 v3_35 _ h hl _ _ _ hP hD hS (lv_sub hv [0, 1, 3] rfl)
              · have h := ite_f c_12 h
                refine lv_iload_n hx hb dX12_telling_88 rfl (lv_at hv 3 rfl) ?_
                obtain ⟨r_13, hf_14, h⟩ := bd_ex h
                have sb := Sb.nil hP hD hS hA
                refine calI (va_runS (As := [.int v3_35]) (rest := []) ⟨hx, hb, hml, hown, hts⟩ (c_X12_ones l G D cA  _ v3_35 r_13 hf_14) (va_cwS 1 hts gX12_telling_X12_ones rfl rfl rfl (by decide +kernel) ⟨Nat.le_of_ble_eq_true rfl, Nat.le_of_ble_eq_true rfl⟩) (pvS hE hK hS sb) rfl rfl hv.1 rfl (lv_room (Nat.le_of_ble_eq_true rfl)) dX12_telling_89 ⟨Nat.le_of_ble_eq_true rfl, Nat.le_of_ble_eq_true rfl⟩) hS sb (Jn.nil hP hD) (fun H locs hP hD hS => ?_)
                have hP : va_P D vwCl (wM cA ad d kept aside images found_17 base at0 size fault opened isRub names code coded pile needs traced traceMany who bitsOf sizeOf number lifted) H := hP
                have hD : va_D A (wM cA ad d kept aside images found_17 base at0 size fault opened isRub names code coded pile needs traced traceMany who bitsOf sizeOf number lifted) := hD
                refine lv_iload_n hx hb dX12_telling_92 rfl (lv_at hv 2 rfl) ?_
                obtain ⟨r_15, hf_16, h⟩ := bd_ex h
                have sb := Sb.nil hP hD hS hA
                refine calI (va_runS (As := [.int v2_35]) (rest := [.int r_13]) ⟨hx, hb, hml, hown, hts⟩ (c_X12_ones l G D cA  _ v2_35 r_15 hf_16) (va_cwS 1 hts gX12_telling_X12_ones rfl rfl rfl (by decide +kernel) ⟨Nat.le_of_ble_eq_true rfl, Nat.le_of_ble_eq_true rfl⟩) (pvS hE hK hS sb) rfl rfl hv.1 rfl (lv_room (Nat.le_of_ble_eq_true rfl)) dX12_telling_93 ⟨Nat.le_of_ble_eq_true rfl, Nat.le_of_ble_eq_true rfl⟩) hS sb (Jn.nil hP hD) (fun H locs hP hD hS => ?_)
                have hP : va_P D vwCl (wM cA ad d kept aside images found_17 base at0 size fault opened isRub names code coded pile needs traced traceMany who bitsOf sizeOf number lifted) H := hP
                have hD : va_D A (wM cA ad d kept aside images found_17 base at0 size fault opened isRub names code coded pile needs traced traceMany who bitsOf sizeOf number lifted) := hD
                refine lv_icmp_ge (tgt := 103) hx hb dX12_telling_96 (by decide) (fun c_17 => ?_) (fun c_17 => ?_)
                · have h := ite_t c_17 h
                  exact C_103 v2_35 v3_35 _ h hl _ _ _ hP hD hS (lv_sub hv [0, 1, 2, 3] rfl)
                · have h := ite_f c_17 h
                  exact C_99 v3_35 _ h hl _ _ _ hP hD hS (lv_sub hv [0, 1, 3] rfl)
          have LB : ∀ (nf : Nat) (v4_35b : Int32) (v5_35b : Int32), lp (fun σ : Int32 × Int32 => fX12_telling_35B v1_17 v2_35 v3_35 d found_17 (σ.1) (σ.2)) nf (v4_35b, v5_35b) = some (v4_35r, v5_35r) → WW p l e ({ frames := 2, cells := 0, slots := 0, locals := 45 } : Room) s m args below meth c D A 0 0 Q (wM cA ad d kept aside images found_17 base at0 size fault opened isRub names code coded pile needs traced traceMany who bitsOf sizeOf number lifted) 6 [(0, .ref (ad 0)), (1, .int v1_17), (2, .int v2_35), (3, .int v3_35), (4, .int v4_35b), (5, .int v5_35b)] 35 [] := by
            intro nf
            induction nf with
            | zero => intro v4_35b v5_35b hl; cases hl
            | succ nf ih =>
              intro v4_35b v5_35b hl
              obtain ⟨x, h, hl⟩ := lp_ex hl
              have h : fX12_telling_35B v1_17 v2_35 v3_35 d found_17 v4_35b v5_35b = some x := h
              unfold fX12_telling_35B at h
              have C_70 : ∀ (v5_70 : Int32) (k0_70 : Int32) (k1_70 : Int32) (x : (Int32 × Int32) ⊕ (Int32 × Int32)), fX12_telling_70 v1_17 v2_35 v3_35 v5_70 k0_70 k1_70 d found_17 = some x → lpk (fun σ : Int32 × Int32 => fX12_telling_35B v1_17 v2_35 v3_35 d found_17 (σ.1) (σ.2)) nf x = some (v4_35r, v5_35r) → WW p l e ({ frames := 2, cells := 0, slots := 0, locals := 45 } : Room) s m args below meth c D A 0 0 Q (wM cA ad d kept aside images found_17 base at0 size fault opened isRub names code coded pile needs traced traceMany who bitsOf sizeOf number lifted) 6 [(0, .ref (ad 0)), (1, .int v1_17), (2, .int v2_35), (3, .int v3_35), (5, .int v5_70)] 70 [.int k0_70, .int k1_70] := by
                intro v5_70 k0_70 k1_70 x h hl
                unfold fX12_telling_70 at h
                intro H locs ls hP hD hS hv
                refine lv_iand hx hb dX12_telling_70 ?_
                obtain ⟨y_21, ey_21, h⟩ := bnd_ex h
                refine lv_nm ey_21 ?_
                refine lv_istore (lv' := [(4, .int y_21), (0, .ref (ad 0)), (1, .int v1_17), (2, .int v2_35), (3, .int v3_35), (5, .int v5_70)]) hx hb dX12_telling_71 hv (by decide) rfl (fun ls hv => ?_)
                obtain ⟨y_22, ey_22, h⟩ := bnd_ex h
                refine lv_iinc (v := y_22) (lv' := [(5, .int y_22), (4, .int y_21), (0, .ref (ad 0)), (1, .int v1_17), (2, .int v2_35), (3, .int v3_35)]) hx hb dX12_telling_73 hv (k := 5) rfl (by rw [ey_22]; rfl) (by decide) rfl (fun ls hv => ?_)
                refine lv_goto (tgt := 35) hx hb dX12_telling_76 (by decide) ?_
                cases h
                exact ih y_21 y_22 hl _ _ _ hP hD hS (lv_sub hv [2, 3, 4, 5, 1, 0] rfl)
              intro H locs ls hP hD hS hv
              refine lv_iload hx hb dX12_telling_35 (lv_at hv 5 rfl) ?_
              refine lv_aload_n hx hb dX12_telling_37 rfl (lv_at hv 0 rfl) ?_
              refine va_get (D := D) (ci := 12) (v := .ref (ad 1)) (C := RX12) (T := TX12) (N := 23) hx hb hts in_12 hown hK hP 0 rfl rfl 0 (by decide) w_0 (fun _ h9 => h9) rfl dX12_telling_38 ?_
              refine lv_iconst (v := (0 : Int32)) hx hb dX12_telling_41 (by decide) ?_
              obtain ⟨c_18, h⟩ := ckI_ex h
              refine va_iald (D := D) hx hb hK hP 1 0 rfl rfl c_18 dX12_telling_42 ?_
              refine lv_icmp_ge (tgt := 79) hx hb dX12_telling_43 (by decide) (fun c_19 => ?_) (fun c_19 => ?_)
              · have h := ite_t c_19 h
                cases h
                have hl : some (v4_35b, v5_35b) = some (v4_35r, v5_35r) := hl
                have hl := Option.some.inj hl
                have ee0 : v4_35b = v4_35r := congrArg (fun q => q.1) hl
                have ee1 : v5_35b = v5_35r := congrArg (fun q => q.2) hl
                subst ee0
                subst ee1
                exact LE _ _ _ hP hD hS (lv_sub hv [0, 1, 2, 3, 4] rfl)
              · have h := ite_f c_19 h
                refine lv_iload hx hb dX12_telling_46 (lv_at hv 4 rfl) ?_
                refine lv_iload_n hx hb dX12_telling_48 rfl (lv_at hv 3 rfl) ?_
                refine lv_iload hx hb dX12_telling_49 (lv_at hv 5 rfl) ?_
                refine lv_ishr hx hb dX12_telling_51 ?_
                refine lv_iconst (v := (1 : Int32)) hx hb dX12_telling_52 (by decide) ?_
                refine lv_iand hx hb dX12_telling_53 ?_
                refine lv_iconst (v := (1 : Int32)) hx hb dX12_telling_54 (by decide) ?_
                refine lv_icmp_ne (tgt := 69) hx hb dX12_telling_55 (by decide) (fun c_20 => ?_) (fun c_20 => ?_)
                · have h := ite_f c_20 h
                  refine lv_iconst (v := (-1 : Int32)) hx hb dX12_telling_69 (by decide) ?_
                  exact C_70 v5_35b (-1 : Int32) v4_35b _ h hl _ _ _ hP hD hS (lv_sub hv [0, 1, 2, 3, 5] rfl)
                · have h := ite_t c_20 h
                  refine lv_aload_n hx hb dX12_telling_58 rfl (lv_at hv 0 rfl) ?_
                  refine lv_iload hx hb dX12_telling_59 (lv_at hv 5 rfl) ?_
                  obtain ⟨r_23, hf_24, h⟩ := bd_ex h
                  have sb := Sb.same hP hD hS hA
                  refine calI (va_runV (As := [.int v5_35b]) (rest := [.int v4_35b]) ⟨hx, hb, hml, hown, hts⟩ (c_X12_on l G D cA ad _ d kept aside images found_17 base at0 size fault opened isRub names code coded pile needs traced traceMany who bitsOf sizeOf number lifted v5_35b r_23 hf_24) (cwV 1 hts gX12_telling_X12_on rfl rfl rfl (by decide +kernel) ⟨Nat.le_of_ble_eq_true rfl, Nat.le_of_ble_eq_true rfl⟩) (pvV hE hK hS sb (va_recv hK hP (ci := 12) (q0 := 0) rfl rfl)) rfl rfl hv.1 rfl (lv_room (Nat.le_of_ble_eq_true rfl)) dX12_telling_61 ⟨Nat.le_of_ble_eq_true rfl, Nat.le_of_ble_eq_true rfl⟩) hS sb (Jn.same sb) (fun H locs hP hD hS => ?_)
                  have hP : va_P D vwCl (wM cA ad d kept aside images found_17 base at0 size fault opened isRub names code coded pile needs traced traceMany who bitsOf sizeOf number lifted) H := hP
                  have hD : va_D A (wM cA ad d kept aside images found_17 base at0 size fault opened isRub names code coded pile needs traced traceMany who bitsOf sizeOf number lifted) := hD
                  refine lv_iconst (v := (-1 : Int32)) hx hb dX12_telling_64 (by decide) ?_
                  refine lv_ixor hx hb dX12_telling_65 ?_
                  refine lv_goto (tgt := 70) hx hb dX12_telling_66 (by decide) ?_
                  exact C_70 v5_35b (r_23 ^^^ (-1 : Int32)) v4_35b _ h hl _ _ _ hP hD hS (lv_sub hv [0, 1, 2, 3, 5] rfl)
          exact LB FU v4_35 v5_35 ho
        intro H locs ls hP hD hS hv
        refine lv_iload_n hx hb dX12_telling_17 rfl (lv_at hv 3 rfl) ?_
        refine lv_iconst (v := (1 : Int32)) hx hb dX12_telling_18 (by decide) ?_
        refine lv_aload_n hx hb dX12_telling_19 rfl (lv_at hv 0 rfl) ?_
        refine va_get (D := D) (ci := 12) (v := .ref (ad 1)) (C := RX12) (T := TX12) (N := 23) hx hb hts in_12 hown hK hP 0 rfl rfl 0 (by decide) w_0 (fun _ h9 => h9) rfl dX12_telling_20 ?_
        refine lv_iconst (v := (0 : Int32)) hx hb dX12_telling_23 (by decide) ?_
        obtain ⟨c_8, h⟩ := ckI_ex h
        refine va_iald (D := D) hx hb hK hP 1 0 rfl rfl c_8 dX12_telling_24 ?_
        refine lv_ishl hx hb dX12_telling_25 ?_
        refine lv_icmp_ge (tgt := 111) hx hb dX12_telling_26 (by decide) (fun c_9 => ?_) (fun c_9 => ?_)
        · have h := ite_t c_9 h
          cases h
          have hl : some (v2_17b, v3_17b) = some (v2_17r, v3_17r) := hl
          have hl := Option.some.inj hl
          have ee0 : v2_17b = v2_17r := congrArg (fun q => q.1) hl
          have ee1 : v3_17b = v3_17r := congrArg (fun q => q.2) hl
          subst ee0
          subst ee1
          exact LE _ _ _ hP hD hS (lv_sub hv [0, 2] rfl)
        · have h := ite_f c_9 h
          refine lv_iload_n hx hb dX12_telling_29 rfl (lv_at hv 1 rfl) ?_
          refine lv_istore (lv' := [(4, .int v1_17), (0, .ref (ad 0)), (1, .int v1_17), (2, .int v2_17b), (3, .int v3_17b)]) hx hb dX12_telling_30 hv (by decide) rfl (fun ls hv => ?_)
          refine lv_iconst (v := (0 : Int32)) hx hb dX12_telling_32 (by decide) ?_
          refine lv_istore (lv' := [(5, .int (0 : Int32)), (4, .int v1_17), (0, .ref (ad 0)), (1, .int v1_17), (2, .int v2_17b), (3, .int v3_17b)]) hx hb dX12_telling_33 hv (by decide) rfl (fun ls hv => ?_)
          exact C_35 v2_17b v3_17b v1_17 (0 : Int32) _ h hl _ _ _ hP hD hS (lv_sub hv [2, 3, 4, 5, 1, 0] rfl)
    exact LB FU v2_17 v3_17 ho
  have hP : va_P D vwCl (wM cA ad d kept aside images found base at0 size fault opened isRub names code coded pile needs traced traceMany who bitsOf sizeOf number lifted) H := hP
  unfold fX12_telling at h
  refine lv_iload_n hx hb dX12_telling_0 rfl (lv_at hv 1 rfl) ?_
  obtain ⟨r_1, hf_2, h⟩ := bd_ex h
  have sb := Sb.nil hP hD hS hA
  refine calI (va_runS (As := [.int a]) (rest := []) ⟨hx, hb, hml, hown, hts⟩ (c_X12_areWords l G D cA  _ a r_1 hf_2) (va_cwS 1 hts gX12_telling_X12_areWords rfl rfl rfl (by decide +kernel) ⟨Nat.le_of_ble_eq_true rfl, Nat.le_of_ble_eq_true rfl⟩) (pvS hE hK hS sb) rfl rfl hv.1 rfl (lv_room (Nat.le_of_ble_eq_true rfl)) dX12_telling_1 ⟨Nat.le_of_ble_eq_true rfl, Nat.le_of_ble_eq_true rfl⟩) hS sb (Jn.nil hP hD) (fun H locs hP hD hS => ?_)
  have hP : va_P D vwCl (wM cA ad d kept aside images found base at0 size fault opened isRub names code coded pile needs traced traceMany who bitsOf sizeOf number lifted) H := hP
  have hD : va_D A (wM cA ad d kept aside images found base at0 size fault opened isRub names code coded pile needs traced traceMany who bitsOf sizeOf number lifted) := hD
  refine lv_if_ne (tgt := 13) hx hb dX12_telling_4 (by decide) (fun c_3 => ?_) (fun c_3 => ?_)
  · have h := ite_f c_3 h
    refine lv_iconst (v := (-1 : Int32)) hx hb dX12_telling_13 (by decide) ?_
    refine lv_istore_n (lv' := [(2, .int (-1 : Int32)), (0, .ref (ad 0)), (1, .int a)]) hx hb dX12_telling_14 rfl hv (by decide) rfl (fun ls hv => ?_)
    refine lv_iconst (v := (0 : Int32)) hx hb dX12_telling_15 (by decide) ?_
    refine lv_istore_n (lv' := [(3, .int (0 : Int32)), (2, .int (-1 : Int32)), (0, .ref (ad 0)), (1, .int a)]) hx hb dX12_telling_16 rfl hv (by decide) rfl (fun ls hv => ?_)
    exact C_17 a (-1 : Int32) (0 : Int32) found h _ _ _ hP hD hS (lv_sub hv [2, 3, 1, 0] rfl)
  · have h := ite_t c_3 h
    refine lv_aload_n hx hb dX12_telling_7 rfl (lv_at hv 0 rfl) ?_
    refine lv_iconst (v := (1 : Int32)) hx hb dX12_telling_8 (by decide) ?_
    obtain ⟨⟨r_25, found_26⟩, hf_27, h⟩ := bd_ex h
    have sb := Sb.same hP hD hS hA
    refine calI (va_runV (As := [.int (1 : Int32)]) (rest := []) ⟨hx, hb, hml, hown, hts⟩ (c_X12_finds l G D cA ad _ d kept aside images found base at0 size fault opened isRub names code coded pile needs traced traceMany who bitsOf sizeOf number lifted (1 : Int32) r_25 found_26 hf_27) (cwV 1 hts gX12_telling_X12_finds rfl rfl rfl (by decide +kernel) ⟨Nat.le_of_ble_eq_true rfl, Nat.le_of_ble_eq_true rfl⟩) (pvV hE hK hS sb (va_recv hK hP (ci := 12) (q0 := 0) rfl rfl)) rfl rfl hv.1 rfl (lv_room (Nat.le_of_ble_eq_true rfl)) dX12_telling_9 ⟨Nat.le_of_ble_eq_true rfl, Nat.le_of_ble_eq_true rfl⟩) hS sb (Jn.same sb) (fun H locs hP hD hS => ?_)
    have hP : va_P D vwCl (wM cA ad d kept aside images found_26 base at0 size fault opened isRub names code coded pile needs traced traceMany who bitsOf sizeOf number lifted) H := hP
    have hD : va_D A (wM cA ad d kept aside images found_26 base at0 size fault opened isRub names code coded pile needs traced traceMany who bitsOf sizeOf number lifted) := hD
    have h := Option.some.inj h
    have ee0 : r_25 = rR := congrArg (fun q => q.1) h
    have ee1 : found_26 = foundR := congrArg (fun q => q.2) h
    subst ee0
    subst ee1
    rw [← hQ]
    exact retI hx hb hr hlk hK hP hD hS dX12_telling_12 ⟨Nat.le_of_ble_eq_true rfl, Nat.le_of_ble_eq_true rfl⟩

def fX12_gossip_26B (d_26 : Nat → Int32) (aside_26 : Nat → Int32) (found_26 : Nat → Int32) (names_26 : Nat → Int32) (pile_26 : Nat → Int32) (v2_26b : Int32) (v3_26b : Int32) : Option ((Int32 × Int32) ⊕ (Int32 × Int32)) :=
  (if (12 : Int32) ≤ v3_26b then some (.inr (v2_26b, v3_26b)) else ckI (2 : Int32) 326 (ckI ((6 : Int32) + v3_26b) 326 (bnd (v2_26b + ((((d_26 ((2 : Int32)).toNatClampNeg) >>> (v3_26b &&& 31)) &&& (1 : Int32)) * (d_26 (((6 : Int32) + v3_26b)).toNatClampNeg))) fun y_15 => bnd (v3_26b + (1 : Int32)) fun y_16 => some (.inl (y_15, y_16)))))
def fX12_gossip_26 (v2_26 : Int32) (v3_26 : Int32) (d_26 : Nat → Int32) (aside_26 : Nat → Int32) (found_26 : Nat → Int32) (names_26 : Nat → Int32) (pile_26 : Nat → Int32) : Option (Int32 × (Nat → Int32) × (Nat → Int32) × (Nat → Int32) × (Nat → Int32) × (Nat → Int32)) :=
  bd (lp (fun σ : Int32 × Int32 => fX12_gossip_26B d_26 aside_26 found_26 names_26 pile_26 (σ.1) (σ.2)) FU (v2_26, v3_26)) fun ρ => match ρ with | (v2_26r, v3_26r) => bd (fX12_putBack d_26 aside_26) fun d_10 => some (v2_26r, d_10, aside_26, found_26, names_26, pile_26)
def fX12_gossip (n : Int32) (d : Nat → Int32) (aside : Nat → Int32) (found : Nat → Int32) (names : Nat → Int32) (pile : Nat → Int32) : Option (Int32 × (Nat → Int32) × (Nat → Int32) × (Nat → Int32) × (Nat → Int32) × (Nat → Int32)) :=
  bd (fX12_isAhead n) fun r_1 => (if r_1 = 0 then bd (fX12_finds (1 : Int32) found) fun (r_17, found_18) => some (r_17, d, aside, found_18, names, pile) else bd (fX12_keepAside d aside) fun aside_4 => bd (fX12_hoursGo n d names pile) fun (d_6, names_7, pile_8) => fX12_gossip_26 (0 : Int32) (0 : Int32) d_6 aside_4 found names_7 pile_8)
set_option maxHeartbeats 4000000 in
set_option maxRecDepth 100000 in
theorem c_X12_gossip (l : Launch) (G : Nat → Nat) (D : va_G) (cA : Nat → ClassId) (ad : Nat → Nat) (sz : Nat) (d : Nat → Int32) (kept : Nat → Int32) (aside : Nat → Int32) (images : Int32) (found : Nat → Int32) (base : Int32) (at0 : Int32) (size : Int32) (fault : Int32) (opened : Int32) (isRub : Int32) (names : Nat → Int32) (code : Nat → Int32) (coded : Int32) (pile : Nat → Int32) (needs : Nat → Int32) (traced : Nat → Int32) (traceMany : Int32) (who : Int32) (bitsOf : Nat → Int32) (sizeOf : Nat → Int32) (number : Nat → Int32) (lifted : Nat → Int32) (n : Int32) (rR : Int32) (dR : Nat → Int32) (asideR : Nat → Int32) (foundR : Nat → Int32) (namesR : Nat → Int32) (pileR : Nat → Int32) (h : fX12_gossip n d aside found names pile = some (rR, dR, asideR, foundR, namesR, pileR)) : Met l yX12_gossip wsX12_gossip ({ frames := 7, cells := 0, slots := 0, locals := 164 } : Room) (PW G D (tyC cA) sz (wM cA ad d kept aside images found base at0 size fault opened isRub names code coded pile needs traced traceMany who bitsOf sizeOf number lifted) [.ref (ad 0), .int n]) (QI D (tyC cA) (va_A (wM cA ad d kept aside images found base at0 size fault opened isRub names code coded pile needs traced traceMany who bitsOf sizeOf number lifted) sz) rR (wM cA ad dR kept asideR images foundR base at0 size fault opened isRub namesR code coded pileR needs traced traceMany who bitsOf sizeOf number lifted)) 0 0 (va_A (wM cA ad d kept aside images found base at0 size fault opened isRub names code coded pile needs traced traceMany who bitsOf sizeOf number lifted) sz) := by
  refine ent (cc := cX12_gossip) (maxL := 4) (ret := (some .int)) (fun A => QI D (tyC cA) A rR (wM cA ad dR kept asideR images foundR base at0 size fault opened isRub namesR code coded pileR needs traced traceMany who bitsOf sizeOf number lifted)) (by decide +kernel) rfl (Nat.le_of_ble_eq_true rfl) ?_
  intro p e s m args below meth c A ls H hx hb hml hr hlk hts hown hA hK hE hP hD hS hv hmm
  have hv : lv_has ls 4 [(0, .ref (ad 0)), (1, .int n)] := hv
  have in_12 : ∀ w ∈ u_ws RX12 TX12 23, w ∈ wsX12_gossip := fun _ h => List.mem_cons_of_mem _ (List.mem_append_right _ h)
  have w_0 := hts (.fieldLink RX12 7 "SpoonsLastModel" "d" "[I") (List.mem_of_getElem? (i := 1) rfl)
  generalize hQ : MQ below _ args s 0 0 A = Q
  have C_26 : ∀ (v2_26 : Int32) (v3_26 : Int32) (d_26 : Nat → Int32) (aside_26 : Nat → Int32) (found_26 : Nat → Int32) (names_26 : Nat → Int32) (pile_26 : Nat → Int32), fX12_gossip_26 v2_26 v3_26 d_26 aside_26 found_26 names_26 pile_26 = some (rR, dR, asideR, foundR, namesR, pileR) → WW p l e ({ frames := 7, cells := 0, slots := 0, locals := 164 } : Room) s m args below meth c D A 0 0 Q (wM cA ad d_26 kept aside_26 images found_26 base at0 size fault opened isRub names_26 code coded pile_26 needs traced traceMany who bitsOf sizeOf number lifted) 4 [(0, .ref (ad 0)), (2, .int v2_26), (3, .int v3_26)] 26 [] := by
    intro v2_26 v3_26 d_26 aside_26 found_26 names_26 pile_26 h
    unfold fX12_gossip_26 at h
    obtain ⟨⟨v2_26r, v3_26r⟩, ho, h⟩ := bd_ex h
    have LE : WW p l e ({ frames := 7, cells := 0, slots := 0, locals := 164 } : Room) s m args below meth c D A 0 0 Q (wM cA ad d_26 kept aside_26 images found_26 base at0 size fault opened isRub names_26 code coded pile_26 needs traced traceMany who bitsOf sizeOf number lifted) 4 [(0, .ref (ad 0)), (2, .int v2_26r)] 61 [] := by
      intro H locs ls hP hD hS hv
      refine lv_aload_n hx hb dX12_gossip_61 rfl (lv_at hv 0 rfl) ?_
      obtain ⟨d_10, hf_11, h⟩ := bd_ex h
      have sb := Sb.same hP hD hS hA
      refine calV (va_runV (As := []) (rest := []) ⟨hx, hb, hml, hown, hts⟩ (c_X12_putBack l G D cA ad _ d_26 kept aside_26 images found_26 base at0 size fault opened isRub names_26 code coded pile_26 needs traced traceMany who bitsOf sizeOf number lifted d_10 hf_11) (cwV 0 hts gX12_gossip_X12_putBack rfl rfl rfl (by decide +kernel) ⟨Nat.le_of_ble_eq_true rfl, Nat.le_of_ble_eq_true rfl⟩) (pvV hE hK hS sb (va_recv hK hP (ci := 12) (q0 := 0) rfl rfl)) rfl rfl hv.1 rfl (lv_room (Nat.le_of_ble_eq_true rfl)) dX12_gossip_62 ⟨Nat.le_of_ble_eq_true rfl, Nat.le_of_ble_eq_true rfl⟩) hS sb (Jn.same sb) (fun H locs hP hD hS => ?_)
      have hP : va_P D vwCl (wM cA ad d_10 kept aside_26 images found_26 base at0 size fault opened isRub names_26 code coded pile_26 needs traced traceMany who bitsOf sizeOf number lifted) H := hP
      have hD : va_D A (wM cA ad d_10 kept aside_26 images found_26 base at0 size fault opened isRub names_26 code coded pile_26 needs traced traceMany who bitsOf sizeOf number lifted) := hD
      refine lv_iload_n hx hb dX12_gossip_65 rfl (lv_at hv 1 rfl) ?_
      have h := Option.some.inj h
      have ee0 : v2_26r = rR := congrArg (fun q => q.1) h
      have ee1 : d_10 = dR := congrArg (fun q => q.2.1) h
      have ee2 : aside_26 = asideR := congrArg (fun q => q.2.2.1) h
      have ee3 : found_26 = foundR := congrArg (fun q => q.2.2.2.1) h
      have ee4 : names_26 = namesR := congrArg (fun q => q.2.2.2.2.1) h
      have ee5 : pile_26 = pileR := congrArg (fun q => q.2.2.2.2.2) h
      subst ee0
      subst ee1
      subst ee2
      subst ee3
      subst ee4
      subst ee5
      rw [← hQ]
      exact retI hx hb hr hlk hK hP hD hS dX12_gossip_66 ⟨Nat.le_of_ble_eq_true rfl, Nat.le_of_ble_eq_true rfl⟩
    have LB : ∀ (nf : Nat) (v2_26b : Int32) (v3_26b : Int32), lp (fun σ : Int32 × Int32 => fX12_gossip_26B d_26 aside_26 found_26 names_26 pile_26 (σ.1) (σ.2)) nf (v2_26b, v3_26b) = some (v2_26r, v3_26r) → WW p l e ({ frames := 7, cells := 0, slots := 0, locals := 164 } : Room) s m args below meth c D A 0 0 Q (wM cA ad d_26 kept aside_26 images found_26 base at0 size fault opened isRub names_26 code coded pile_26 needs traced traceMany who bitsOf sizeOf number lifted) 4 [(0, .ref (ad 0)), (2, .int v2_26b), (3, .int v3_26b)] 26 [] := by
      intro nf
      induction nf with
      | zero => intro v2_26b v3_26b hl; cases hl
      | succ nf ih =>
        intro v2_26b v3_26b hl
        obtain ⟨x, h, hl⟩ := lp_ex hl
        have h : fX12_gossip_26B d_26 aside_26 found_26 names_26 pile_26 v2_26b v3_26b = some x := h
        unfold fX12_gossip_26B at h
        intro H locs ls hP hD hS hv
        refine lv_iload_n hx hb dX12_gossip_26 rfl (lv_at hv 2 rfl) ?_
        refine lv_bipush (v := (12 : Int32)) hx hb dX12_gossip_27 (by decide) ?_
        refine lv_icmp_ge (tgt := 61) hx hb dX12_gossip_29 (by decide) (fun c_12 => ?_) (fun c_12 => ?_)
        · have h := ite_t c_12 h
          cases h
          have hl : some (v2_26b, v3_26b) = some (v2_26r, v3_26r) := hl
          have hl := Option.some.inj hl
          have ee0 : v2_26b = v2_26r := congrArg (fun q => q.1) hl
          have ee1 : v3_26b = v3_26r := congrArg (fun q => q.2) hl
          subst ee0
          subst ee1
          exact LE _ _ _ hP hD hS (lv_sub hv [0, 1] rfl)
        · have h := ite_f c_12 h
          refine lv_iload_n hx hb dX12_gossip_32 rfl (lv_at hv 1 rfl) ?_
          refine lv_aload_n hx hb dX12_gossip_33 rfl (lv_at hv 0 rfl) ?_
          refine va_get (D := D) (ci := 12) (v := .ref (ad 1)) (C := RX12) (T := TX12) (N := 23) hx hb hts in_12 hown hK hP 0 rfl rfl 0 (by decide) w_0 (fun _ h9 => h9) rfl dX12_gossip_34 ?_
          refine lv_iconst (v := (2 : Int32)) hx hb dX12_gossip_37 (by decide) ?_
          obtain ⟨c_13, h⟩ := ckI_ex h
          refine va_iald (D := D) hx hb hK hP 1 0 rfl rfl c_13 dX12_gossip_38 ?_
          refine lv_iload_n hx hb dX12_gossip_39 rfl (lv_at hv 2 rfl) ?_
          refine lv_ishr hx hb dX12_gossip_40 ?_
          refine lv_iconst (v := (1 : Int32)) hx hb dX12_gossip_41 (by decide) ?_
          refine lv_iand hx hb dX12_gossip_42 ?_
          refine lv_aload_n hx hb dX12_gossip_43 rfl (lv_at hv 0 rfl) ?_
          refine va_get (D := D) (ci := 12) (v := .ref (ad 1)) (C := RX12) (T := TX12) (N := 23) hx hb hts in_12 hown hK hP 0 rfl rfl 0 (by decide) w_0 (fun _ h9 => h9) rfl dX12_gossip_44 ?_
          refine lv_bipush (v := (6 : Int32)) hx hb dX12_gossip_47 (by decide) ?_
          refine lv_iload_n hx hb dX12_gossip_49 rfl (lv_at hv 2 rfl) ?_
          refine lv_iadd hx hb dX12_gossip_50 ?_
          obtain ⟨c_14, h⟩ := ckI_ex h
          refine va_iald (D := D) hx hb hK hP 1 0 rfl rfl c_14 dX12_gossip_51 ?_
          refine lv_imul hx hb dX12_gossip_52 ?_
          refine lv_iadd hx hb dX12_gossip_53 ?_
          obtain ⟨y_15, ey_15, h⟩ := bnd_ex h
          refine lv_nm ey_15 ?_
          refine lv_istore_n (lv' := [(2, .int y_15), (0, .ref (ad 0)), (3, .int v3_26b)]) hx hb dX12_gossip_54 rfl hv (by decide) rfl (fun ls hv => ?_)
          obtain ⟨y_16, ey_16, h⟩ := bnd_ex h
          refine lv_iinc (v := y_16) (lv' := [(3, .int y_16), (2, .int y_15), (0, .ref (ad 0))]) hx hb dX12_gossip_55 hv (k := 2) rfl (by rw [ey_16]; rfl) (by decide) rfl (fun ls hv => ?_)
          refine lv_goto (tgt := 26) hx hb dX12_gossip_58 (by decide) ?_
          cases h
          exact ih y_15 y_16 hl _ _ _ hP hD hS (lv_sub hv [2, 1, 0] rfl)
    exact LB FU v2_26 v3_26 ho
  have hP : va_P D vwCl (wM cA ad d kept aside images found base at0 size fault opened isRub names code coded pile needs traced traceMany who bitsOf sizeOf number lifted) H := hP
  unfold fX12_gossip at h
  refine lv_iload_n hx hb dX12_gossip_0 rfl (lv_at hv 1 rfl) ?_
  obtain ⟨r_1, hf_2, h⟩ := bd_ex h
  have sb := Sb.nil hP hD hS hA
  refine calI (va_runS (As := [.int n]) (rest := []) ⟨hx, hb, hml, hown, hts⟩ (c_X12_isAhead l G D cA  _ n r_1 hf_2) (va_cwS 1 hts gX12_gossip_X12_isAhead rfl rfl rfl (by decide +kernel) ⟨Nat.le_of_ble_eq_true rfl, Nat.le_of_ble_eq_true rfl⟩) (pvS hE hK hS sb) rfl rfl hv.1 rfl (lv_room (Nat.le_of_ble_eq_true rfl)) dX12_gossip_1 ⟨Nat.le_of_ble_eq_true rfl, Nat.le_of_ble_eq_true rfl⟩) hS sb (Jn.nil hP hD) (fun H locs hP hD hS => ?_)
  have hP : va_P D vwCl (wM cA ad d kept aside images found base at0 size fault opened isRub names code coded pile needs traced traceMany who bitsOf sizeOf number lifted) H := hP
  have hD : va_D A (wM cA ad d kept aside images found base at0 size fault opened isRub names code coded pile needs traced traceMany who bitsOf sizeOf number lifted) := hD
  refine lv_if_ne (tgt := 13) hx hb dX12_gossip_4 (by decide) (fun c_3 => ?_) (fun c_3 => ?_)
  · have h := ite_f c_3 h
    refine lv_aload_n hx hb dX12_gossip_13 rfl (lv_at hv 0 rfl) ?_
    obtain ⟨aside_4, hf_5, h⟩ := bd_ex h
    have sb := Sb.same hP hD hS hA
    refine calV (va_runV (As := []) (rest := []) ⟨hx, hb, hml, hown, hts⟩ (c_X12_keepAside l G D cA ad _ d kept aside images found base at0 size fault opened isRub names code coded pile needs traced traceMany who bitsOf sizeOf number lifted aside_4 hf_5) (cwV 0 hts gX12_gossip_X12_keepAside rfl rfl rfl (by decide +kernel) ⟨Nat.le_of_ble_eq_true rfl, Nat.le_of_ble_eq_true rfl⟩) (pvV hE hK hS sb (va_recv hK hP (ci := 12) (q0 := 0) rfl rfl)) rfl rfl hv.1 rfl (lv_room (Nat.le_of_ble_eq_true rfl)) dX12_gossip_14 ⟨Nat.le_of_ble_eq_true rfl, Nat.le_of_ble_eq_true rfl⟩) hS sb (Jn.same sb) (fun H locs hP hD hS => ?_)
    have hP : va_P D vwCl (wM cA ad d kept aside_4 images found base at0 size fault opened isRub names code coded pile needs traced traceMany who bitsOf sizeOf number lifted) H := hP
    have hD : va_D A (wM cA ad d kept aside_4 images found base at0 size fault opened isRub names code coded pile needs traced traceMany who bitsOf sizeOf number lifted) := hD
    refine lv_aload_n hx hb dX12_gossip_17 rfl (lv_at hv 0 rfl) ?_
    refine lv_iload_n hx hb dX12_gossip_18 rfl (lv_at hv 1 rfl) ?_
    obtain ⟨⟨d_6, names_7, pile_8⟩, hf_9, h⟩ := bd_ex h
    have sb := Sb.same hP hD hS hA
    refine calV (va_runV (As := [.int n]) (rest := []) ⟨hx, hb, hml, hown, hts⟩ (c_X12_hoursGo l G D cA ad _ d kept aside_4 images found base at0 size fault opened isRub names code coded pile needs traced traceMany who bitsOf sizeOf number lifted n d_6 names_7 pile_8 hf_9) (cwV 1 hts gX12_gossip_X12_hoursGo rfl rfl rfl (by decide +kernel) ⟨Nat.le_of_ble_eq_true rfl, Nat.le_of_ble_eq_true rfl⟩) (pvV hE hK hS sb (va_recv hK hP (ci := 12) (q0 := 0) rfl rfl)) rfl rfl hv.1 rfl (lv_room (Nat.le_of_ble_eq_true rfl)) dX12_gossip_19 ⟨Nat.le_of_ble_eq_true rfl, Nat.le_of_ble_eq_true rfl⟩) hS sb (Jn.same sb) (fun H locs hP hD hS => ?_)
    have hP : va_P D vwCl (wM cA ad d_6 kept aside_4 images found base at0 size fault opened isRub names_7 code coded pile_8 needs traced traceMany who bitsOf sizeOf number lifted) H := hP
    have hD : va_D A (wM cA ad d_6 kept aside_4 images found base at0 size fault opened isRub names_7 code coded pile_8 needs traced traceMany who bitsOf sizeOf number lifted) := hD
    refine lv_iconst (v := (0 : Int32)) hx hb dX12_gossip_22 (by decide) ?_
    refine lv_istore_n (lv' := [(2, .int (0 : Int32)), (0, .ref (ad 0)), (1, .int n)]) hx hb dX12_gossip_23 rfl hv (by decide) rfl (fun ls hv => ?_)
    refine lv_iconst (v := (0 : Int32)) hx hb dX12_gossip_24 (by decide) ?_
    refine lv_istore_n (lv' := [(3, .int (0 : Int32)), (2, .int (0 : Int32)), (0, .ref (ad 0)), (1, .int n)]) hx hb dX12_gossip_25 rfl hv (by decide) rfl (fun ls hv => ?_)
    exact C_26 (0 : Int32) (0 : Int32) d_6 aside_4 found names_7 pile_8 h _ _ _ hP hD hS (lv_sub hv [2, 1, 0] rfl)
  · have h := ite_t c_3 h
    refine lv_aload_n hx hb dX12_gossip_7 rfl (lv_at hv 0 rfl) ?_
    refine lv_iconst (v := (1 : Int32)) hx hb dX12_gossip_8 (by decide) ?_
    obtain ⟨⟨r_17, found_18⟩, hf_19, h⟩ := bd_ex h
    have sb := Sb.same hP hD hS hA
    refine calI (va_runV (As := [.int (1 : Int32)]) (rest := []) ⟨hx, hb, hml, hown, hts⟩ (c_X12_finds l G D cA ad _ d kept aside images found base at0 size fault opened isRub names code coded pile needs traced traceMany who bitsOf sizeOf number lifted (1 : Int32) r_17 found_18 hf_19) (cwV 1 hts gX12_gossip_X12_finds rfl rfl rfl (by decide +kernel) ⟨Nat.le_of_ble_eq_true rfl, Nat.le_of_ble_eq_true rfl⟩) (pvV hE hK hS sb (va_recv hK hP (ci := 12) (q0 := 0) rfl rfl)) rfl rfl hv.1 rfl (lv_room (Nat.le_of_ble_eq_true rfl)) dX12_gossip_9 ⟨Nat.le_of_ble_eq_true rfl, Nat.le_of_ble_eq_true rfl⟩) hS sb (Jn.same sb) (fun H locs hP hD hS => ?_)
    have hP : va_P D vwCl (wM cA ad d kept aside images found_18 base at0 size fault opened isRub names code coded pile needs traced traceMany who bitsOf sizeOf number lifted) H := hP
    have hD : va_D A (wM cA ad d kept aside images found_18 base at0 size fault opened isRub names code coded pile needs traced traceMany who bitsOf sizeOf number lifted) := hD
    have h := Option.some.inj h
    have ee0 : r_17 = rR := congrArg (fun q => q.1) h
    have ee1 : d = dR := congrArg (fun q => q.2.1) h
    have ee2 : aside = asideR := congrArg (fun q => q.2.2.1) h
    have ee3 : found_18 = foundR := congrArg (fun q => q.2.2.2.1) h
    have ee4 : names = namesR := congrArg (fun q => q.2.2.2.2.1) h
    have ee5 : pile = pileR := congrArg (fun q => q.2.2.2.2.2) h
    subst ee0
    subst ee1
    subst ee2
    subst ee3
    subst ee4
    subst ee5
    rw [← hQ]
    exact retI hx hb hr hlk hK hP hD hS dX12_gossip_12 ⟨Nat.le_of_ble_eq_true rfl, Nat.le_of_ble_eq_true rfl⟩

def fX12_much_48 (v1_18 : Int32) (v3_48 : Int32) (k0_48 : Int32) (d : Nat → Int32) (found_18 : Nat → Int32) : Option ((Int32 × Int32) ⊕ (Int32 × Int32)) :=
  bnd (v3_48 + (1 : Int32)) fun y_8 => some (.inl (k0_48, y_8))
def fX12_much_18B (v1_18 : Int32) (d : Nat → Int32) (found_18 : Nat → Int32) (v2_18b : Int32) (v3_18b : Int32) : Option ((Int32 × Int32) ⊕ (Int32 × Int32)) :=
  (if (12 : Int32) ≤ v3_18b then some (.inr (v2_18b, v3_18b)) else bd (fX12_of v1_18 ((3 : Int32) + v3_18b) d) fun r_5 => (if r_5 ≤ v2_18b then fX12_much_48 v1_18 v3_18b v2_18b d found_18 else bd (fX12_of v1_18 ((3 : Int32) + v3_18b) d) fun r_9 => fX12_much_48 v1_18 v3_18b r_9 d found_18))
def fX12_much_18 (v1_18 : Int32) (v2_18 : Int32) (v3_18 : Int32) (d : Nat → Int32) (found_18 : Nat → Int32) : Option (Int32 × (Nat → Int32)) :=
  bd (lp (fun σ : Int32 × Int32 => fX12_much_18B v1_18 d found_18 (σ.1) (σ.2)) FU (v2_18, v3_18)) fun ρ => match ρ with | (v2_18r, v3_18r) => some (v2_18r, found_18)
def fX12_much (a : Int32) (d : Nat → Int32) (found : Nat → Int32) : Option (Int32 × (Nat → Int32)) :=
  bd (fX12_isSpoon a d) fun r_1 => (if r_1 = 0 then bd (fX12_finds (1 : Int32) found) fun (r_11, found_12) => some (r_11, found_12) else fX12_much_18 a (0 : Int32) (0 : Int32) d found)
set_option maxHeartbeats 4000000 in
set_option maxRecDepth 100000 in
theorem c_X12_much (l : Launch) (G : Nat → Nat) (D : va_G) (cA : Nat → ClassId) (ad : Nat → Nat) (sz : Nat) (d : Nat → Int32) (kept : Nat → Int32) (aside : Nat → Int32) (images : Int32) (found : Nat → Int32) (base : Int32) (at0 : Int32) (size : Int32) (fault : Int32) (opened : Int32) (isRub : Int32) (names : Nat → Int32) (code : Nat → Int32) (coded : Int32) (pile : Nat → Int32) (needs : Nat → Int32) (traced : Nat → Int32) (traceMany : Int32) (who : Int32) (bitsOf : Nat → Int32) (sizeOf : Nat → Int32) (number : Nat → Int32) (lifted : Nat → Int32) (a : Int32) (rR : Int32) (foundR : Nat → Int32) (h : fX12_much a d found = some (rR, foundR)) : Met l yX12_much wsX12_much ({ frames := 2, cells := 0, slots := 0, locals := 46 } : Room) (PW G D (tyC cA) sz (wM cA ad d kept aside images found base at0 size fault opened isRub names code coded pile needs traced traceMany who bitsOf sizeOf number lifted) [.ref (ad 0), .int a]) (QI D (tyC cA) (va_A (wM cA ad d kept aside images found base at0 size fault opened isRub names code coded pile needs traced traceMany who bitsOf sizeOf number lifted) sz) rR (wM cA ad d kept aside images foundR base at0 size fault opened isRub names code coded pile needs traced traceMany who bitsOf sizeOf number lifted)) 0 0 (va_A (wM cA ad d kept aside images found base at0 size fault opened isRub names code coded pile needs traced traceMany who bitsOf sizeOf number lifted) sz) := by
  refine ent (cc := cX12_much) (maxL := 4) (ret := (some .int)) (fun A => QI D (tyC cA) A rR (wM cA ad d kept aside images foundR base at0 size fault opened isRub names code coded pile needs traced traceMany who bitsOf sizeOf number lifted)) (by decide +kernel) rfl (Nat.le_of_ble_eq_true rfl) ?_
  intro p e s m args below meth c A ls H hx hb hml hr hlk hts hown hA hK hE hP hD hS hv hmm
  have hv : lv_has ls 4 [(0, .ref (ad 0)), (1, .int a)] := hv
  generalize hQ : MQ below _ args s 0 0 A = Q
  have C_18 : ∀ (v1_18 : Int32) (v2_18 : Int32) (v3_18 : Int32) (found_18 : Nat → Int32), fX12_much_18 v1_18 v2_18 v3_18 d found_18 = some (rR, foundR) → WW p l e ({ frames := 2, cells := 0, slots := 0, locals := 46 } : Room) s m args below meth c D A 0 0 Q (wM cA ad d kept aside images found_18 base at0 size fault opened isRub names code coded pile needs traced traceMany who bitsOf sizeOf number lifted) 4 [(0, .ref (ad 0)), (1, .int v1_18), (2, .int v2_18), (3, .int v3_18)] 18 [] := by
    intro v1_18 v2_18 v3_18 found_18 h
    unfold fX12_much_18 at h
    obtain ⟨⟨v2_18r, v3_18r⟩, ho, h⟩ := bd_ex h
    have LE : WW p l e ({ frames := 2, cells := 0, slots := 0, locals := 46 } : Room) s m args below meth c D A 0 0 Q (wM cA ad d kept aside images found_18 base at0 size fault opened isRub names code coded pile needs traced traceMany who bitsOf sizeOf number lifted) 4 [(2, .int v2_18r)] 55 [] := by
      intro H locs ls hP hD hS hv
      refine lv_iload_n hx hb dX12_much_55 rfl (lv_at hv 0 rfl) ?_
      have h := Option.some.inj h
      have ee0 : v2_18r = rR := congrArg (fun q => q.1) h
      have ee1 : found_18 = foundR := congrArg (fun q => q.2) h
      subst ee0
      subst ee1
      rw [← hQ]
      exact retI hx hb hr hlk hK hP hD hS dX12_much_56 ⟨Nat.le_of_ble_eq_true rfl, Nat.le_of_ble_eq_true rfl⟩
    have LB : ∀ (nf : Nat) (v2_18b : Int32) (v3_18b : Int32), lp (fun σ : Int32 × Int32 => fX12_much_18B v1_18 d found_18 (σ.1) (σ.2)) nf (v2_18b, v3_18b) = some (v2_18r, v3_18r) → WW p l e ({ frames := 2, cells := 0, slots := 0, locals := 46 } : Room) s m args below meth c D A 0 0 Q (wM cA ad d kept aside images found_18 base at0 size fault opened isRub names code coded pile needs traced traceMany who bitsOf sizeOf number lifted) 4 [(0, .ref (ad 0)), (1, .int v1_18), (2, .int v2_18b), (3, .int v3_18b)] 18 [] := by
      intro nf
      induction nf with
      | zero => intro v2_18b v3_18b hl; cases hl
      | succ nf ih =>
        intro v2_18b v3_18b hl
        obtain ⟨x, h, hl⟩ := lp_ex hl
        have h : fX12_much_18B v1_18 d found_18 v2_18b v3_18b = some x := h
        unfold fX12_much_18B at h
        have C_48 : ∀ (v3_48 : Int32) (k0_48 : Int32) (x : (Int32 × Int32) ⊕ (Int32 × Int32)), fX12_much_48 v1_18 v3_48 k0_48 d found_18 = some x → lpk (fun σ : Int32 × Int32 => fX12_much_18B v1_18 d found_18 (σ.1) (σ.2)) nf x = some (v2_18r, v3_18r) → WW p l e ({ frames := 2, cells := 0, slots := 0, locals := 46 } : Room) s m args below meth c D A 0 0 Q (wM cA ad d kept aside images found_18 base at0 size fault opened isRub names code coded pile needs traced traceMany who bitsOf sizeOf number lifted) 4 [(0, .ref (ad 0)), (1, .int v1_18), (3, .int v3_48)] 48 [.int k0_48] := by
          intro v3_48 k0_48 x h hl
          unfold fX12_much_48 at h
          intro H locs ls hP hD hS hv
          refine lv_istore_n (lv' := [(2, .int k0_48), (0, .ref (ad 0)), (1, .int v1_18), (3, .int v3_48)]) hx hb dX12_much_48 rfl hv (by decide) rfl (fun ls hv => ?_)
          obtain ⟨y_8, ey_8, h⟩ := bnd_ex h
          refine lv_iinc (v := y_8) (lv' := [(3, .int y_8), (2, .int k0_48), (0, .ref (ad 0)), (1, .int v1_18)]) hx hb dX12_much_49 hv (k := 3) rfl (by rw [ey_8]; rfl) (by decide) rfl (fun ls hv => ?_)
          refine lv_goto (tgt := 18) hx hb dX12_much_52 (by decide) ?_
          cases h
          exact ih k0_48 y_8 hl _ _ _ hP hD hS (lv_sub hv [2, 3, 1, 0] rfl)
        intro H locs ls hP hD hS hv
        refine lv_iload_n hx hb dX12_much_18 rfl (lv_at hv 3 rfl) ?_
        refine lv_bipush (v := (12 : Int32)) hx hb dX12_much_19 (by decide) ?_
        refine lv_icmp_ge (tgt := 55) hx hb dX12_much_21 (by decide) (fun c_4 => ?_) (fun c_4 => ?_)
        · have h := ite_t c_4 h
          cases h
          have hl : some (v2_18b, v3_18b) = some (v2_18r, v3_18r) := hl
          have hl := Option.some.inj hl
          have ee0 : v2_18b = v2_18r := congrArg (fun q => q.1) hl
          have ee1 : v3_18b = v3_18r := congrArg (fun q => q.2) hl
          subst ee0
          subst ee1
          exact LE _ _ _ hP hD hS (lv_sub hv [2] rfl)
        · have h := ite_f c_4 h
          refine lv_aload_n hx hb dX12_much_24 rfl (lv_at hv 0 rfl) ?_
          refine lv_iload_n hx hb dX12_much_25 rfl (lv_at hv 1 rfl) ?_
          refine lv_iconst (v := (3 : Int32)) hx hb dX12_much_26 (by decide) ?_
          refine lv_iload_n hx hb dX12_much_27 rfl (lv_at hv 3 rfl) ?_
          refine lv_iadd hx hb dX12_much_28 ?_
          obtain ⟨r_5, hf_6, h⟩ := bd_ex h
          have sb := Sb.same hP hD hS hA
          refine calI (va_runV (As := [.int v1_18, .int ((3 : Int32) + v3_18b)]) (rest := []) ⟨hx, hb, hml, hown, hts⟩ (c_X12_of l G D cA ad _ d kept aside images found_18 base at0 size fault opened isRub names code coded pile needs traced traceMany who bitsOf sizeOf number lifted v1_18 ((3 : Int32) + v3_18b) r_5 hf_6) (cwV 2 hts gX12_much_X12_of rfl rfl rfl (by decide +kernel) ⟨Nat.le_of_ble_eq_true rfl, Nat.le_of_ble_eq_true rfl⟩) (pvV hE hK hS sb (va_recv hK hP (ci := 12) (q0 := 0) rfl rfl)) rfl rfl hv.1 rfl (lv_room (Nat.le_of_ble_eq_true rfl)) dX12_much_29 ⟨Nat.le_of_ble_eq_true rfl, Nat.le_of_ble_eq_true rfl⟩) hS sb (Jn.same sb) (fun H locs hP hD hS => ?_)
          have hP : va_P D vwCl (wM cA ad d kept aside images found_18 base at0 size fault opened isRub names code coded pile needs traced traceMany who bitsOf sizeOf number lifted) H := hP
          have hD : va_D A (wM cA ad d kept aside images found_18 base at0 size fault opened isRub names code coded pile needs traced traceMany who bitsOf sizeOf number lifted) := hD
          refine lv_iload_n hx hb dX12_much_32 rfl (lv_at hv 2 rfl) ?_
          refine lv_icmp_le (tgt := 47) hx hb dX12_much_33 (by decide) (fun c_7 => ?_) (fun c_7 => ?_)
          · have h := ite_t c_7 h
            refine lv_iload_n hx hb dX12_much_47 rfl (lv_at hv 2 rfl) ?_
            exact C_48 v3_18b v2_18b _ h hl _ _ _ hP hD hS (lv_sub hv [0, 1, 3] rfl)
          · have h := ite_f c_7 h
            refine lv_aload_n hx hb dX12_much_36 rfl (lv_at hv 0 rfl) ?_
            refine lv_iload_n hx hb dX12_much_37 rfl (lv_at hv 1 rfl) ?_
            refine lv_iconst (v := (3 : Int32)) hx hb dX12_much_38 (by decide) ?_
            refine lv_iload_n hx hb dX12_much_39 rfl (lv_at hv 3 rfl) ?_
            refine lv_iadd hx hb dX12_much_40 ?_
            obtain ⟨r_9, hf_10, h⟩ := bd_ex h
            have sb := Sb.same hP hD hS hA
            refine calI (va_runV (As := [.int v1_18, .int ((3 : Int32) + v3_18b)]) (rest := []) ⟨hx, hb, hml, hown, hts⟩ (c_X12_of l G D cA ad _ d kept aside images found_18 base at0 size fault opened isRub names code coded pile needs traced traceMany who bitsOf sizeOf number lifted v1_18 ((3 : Int32) + v3_18b) r_9 hf_10) (cwV 2 hts gX12_much_X12_of rfl rfl rfl (by decide +kernel) ⟨Nat.le_of_ble_eq_true rfl, Nat.le_of_ble_eq_true rfl⟩) (pvV hE hK hS sb (va_recv hK hP (ci := 12) (q0 := 0) rfl rfl)) rfl rfl hv.1 rfl (lv_room (Nat.le_of_ble_eq_true rfl)) dX12_much_41 ⟨Nat.le_of_ble_eq_true rfl, Nat.le_of_ble_eq_true rfl⟩) hS sb (Jn.same sb) (fun H locs hP hD hS => ?_)
            have hP : va_P D vwCl (wM cA ad d kept aside images found_18 base at0 size fault opened isRub names code coded pile needs traced traceMany who bitsOf sizeOf number lifted) H := hP
            have hD : va_D A (wM cA ad d kept aside images found_18 base at0 size fault opened isRub names code coded pile needs traced traceMany who bitsOf sizeOf number lifted) := hD
            refine lv_goto (tgt := 48) hx hb dX12_much_44 (by decide) ?_
            exact C_48 v3_18b r_9 _ h hl _ _ _ hP hD hS (lv_sub hv [0, 1, 3] rfl)
    exact LB FU v2_18 v3_18 ho
  have hP : va_P D vwCl (wM cA ad d kept aside images found base at0 size fault opened isRub names code coded pile needs traced traceMany who bitsOf sizeOf number lifted) H := hP
  unfold fX12_much at h
  refine lv_aload_n hx hb dX12_much_0 rfl (lv_at hv 0 rfl) ?_
  refine lv_iload_n hx hb dX12_much_1 rfl (lv_at hv 1 rfl) ?_
  obtain ⟨r_1, hf_2, h⟩ := bd_ex h
  have sb := Sb.same hP hD hS hA
  refine calI (va_runV (As := [.int a]) (rest := []) ⟨hx, hb, hml, hown, hts⟩ (c_X12_isSpoon l G D cA ad _ d kept aside images found base at0 size fault opened isRub names code coded pile needs traced traceMany who bitsOf sizeOf number lifted a r_1 hf_2) (cwV 1 hts gX12_much_X12_isSpoon rfl rfl rfl (by decide +kernel) ⟨Nat.le_of_ble_eq_true rfl, Nat.le_of_ble_eq_true rfl⟩) (pvV hE hK hS sb (va_recv hK hP (ci := 12) (q0 := 0) rfl rfl)) rfl rfl hv.1 rfl (lv_room (Nat.le_of_ble_eq_true rfl)) dX12_much_2 ⟨Nat.le_of_ble_eq_true rfl, Nat.le_of_ble_eq_true rfl⟩) hS sb (Jn.same sb) (fun H locs hP hD hS => ?_)
  have hP : va_P D vwCl (wM cA ad d kept aside images found base at0 size fault opened isRub names code coded pile needs traced traceMany who bitsOf sizeOf number lifted) H := hP
  have hD : va_D A (wM cA ad d kept aside images found base at0 size fault opened isRub names code coded pile needs traced traceMany who bitsOf sizeOf number lifted) := hD
  refine lv_if_ne (tgt := 14) hx hb dX12_much_5 (by decide) (fun c_3 => ?_) (fun c_3 => ?_)
  · have h := ite_f c_3 h
    refine lv_iconst (v := (0 : Int32)) hx hb dX12_much_14 (by decide) ?_
    refine lv_istore_n (lv' := [(2, .int (0 : Int32)), (0, .ref (ad 0)), (1, .int a)]) hx hb dX12_much_15 rfl hv (by decide) rfl (fun ls hv => ?_)
    refine lv_iconst (v := (0 : Int32)) hx hb dX12_much_16 (by decide) ?_
    refine lv_istore_n (lv' := [(3, .int (0 : Int32)), (2, .int (0 : Int32)), (0, .ref (ad 0)), (1, .int a)]) hx hb dX12_much_17 rfl hv (by decide) rfl (fun ls hv => ?_)
    exact C_18 a (0 : Int32) (0 : Int32) found h _ _ _ hP hD hS (lv_sub hv [2, 3, 1, 0] rfl)
  · have h := ite_t c_3 h
    refine lv_aload_n hx hb dX12_much_8 rfl (lv_at hv 0 rfl) ?_
    refine lv_iconst (v := (1 : Int32)) hx hb dX12_much_9 (by decide) ?_
    obtain ⟨⟨r_11, found_12⟩, hf_13, h⟩ := bd_ex h
    have sb := Sb.same hP hD hS hA
    refine calI (va_runV (As := [.int (1 : Int32)]) (rest := []) ⟨hx, hb, hml, hown, hts⟩ (c_X12_finds l G D cA ad _ d kept aside images found base at0 size fault opened isRub names code coded pile needs traced traceMany who bitsOf sizeOf number lifted (1 : Int32) r_11 found_12 hf_13) (cwV 1 hts gX12_much_X12_finds rfl rfl rfl (by decide +kernel) ⟨Nat.le_of_ble_eq_true rfl, Nat.le_of_ble_eq_true rfl⟩) (pvV hE hK hS sb (va_recv hK hP (ci := 12) (q0 := 0) rfl rfl)) rfl rfl hv.1 rfl (lv_room (Nat.le_of_ble_eq_true rfl)) dX12_much_10 ⟨Nat.le_of_ble_eq_true rfl, Nat.le_of_ble_eq_true rfl⟩) hS sb (Jn.same sb) (fun H locs hP hD hS => ?_)
    have hP : va_P D vwCl (wM cA ad d kept aside images found_12 base at0 size fault opened isRub names code coded pile needs traced traceMany who bitsOf sizeOf number lifted) H := hP
    have hD : va_D A (wM cA ad d kept aside images found_12 base at0 size fault opened isRub names code coded pile needs traced traceMany who bitsOf sizeOf number lifted) := hD
    have h := Option.some.inj h
    have ee0 : r_11 = rR := congrArg (fun q => q.1) h
    have ee1 : found_12 = foundR := congrArg (fun q => q.2) h
    subst ee0
    subst ee1
    rw [← hQ]
    exact retI hx hb hr hlk hK hP hD hS dX12_much_13 ⟨Nat.le_of_ble_eq_true rfl, Nat.le_of_ble_eq_true rfl⟩

def fX12_common_4B (v2_4b : Int32) (v3_4b : Int32) : Option ((Int32 × Int32) ⊕ (Int32 × Int32)) :=
  (if v3_4b = 0 then some (.inr (v2_4b, v3_4b)) else ck (¬ v3_4b = 0) (bnd (v2_4b - v2_4b / v3_4b * v3_4b) fun y_3 => some (.inl (v3_4b, y_3))))
def fX12_common_4 (v2_4 : Int32) (v3_4 : Int32) : Option (Int32) :=
  bd (lp (fun σ : Int32 × Int32 => fX12_common_4B (σ.1) (σ.2)) FU (v2_4, v3_4)) fun ρ => match ρ with | (v2_4r, v3_4r) => some v2_4r
def fX12_common (a : Int32) (b : Int32) : Option (Int32) :=
  fX12_common_4 a b
set_option maxHeartbeats 4000000 in
set_option maxRecDepth 100000 in
theorem c_X12_common (l : Launch) (G : Nat → Nat) (D : va_G) (cA : Nat → ClassId) (sz : Nat) (a : Int32) (b : Int32) (rR : Int32) (h : fX12_common a b = some rR) : Met l yX12_common wsX12_common ({ frames := 0, cells := 0, slots := 0, locals := 0 } : Room) (PW G D (tyC cA) sz (wE) [.int a, .int b]) (QI D (tyC cA) (va_A (wE) sz) rR (wE)) 0 0 (va_A (wE) sz) := by
  refine ent (cc := cX12_common) (maxL := 5) (ret := (some .int)) (fun A => QI D (tyC cA) A rR (wE)) (by decide +kernel) rfl (Nat.le_of_ble_eq_true rfl) ?_
  intro p e s m args below meth c A ls H hx hb hml hr hlk hts hown hA hK hE hP hD hS hv hmm
  have hv : lv_has ls 5 [(0, .int a), (1, .int b)] := hv
  generalize hQ : MQ below _ args s 0 0 A = Q
  have C_4 : ∀ (v2_4 : Int32) (v3_4 : Int32), fX12_common_4 v2_4 v3_4 = some rR → WW p l e ({ frames := 0, cells := 0, slots := 0, locals := 0 } : Room) s m args below meth c D A 0 0 Q (wE) 5 [(2, .int v2_4), (3, .int v3_4)] 4 [] := by
    intro v2_4 v3_4 h
    unfold fX12_common_4 at h
    obtain ⟨⟨v2_4r, v3_4r⟩, ho, h⟩ := bd_ex h
    have LE : WW p l e ({ frames := 0, cells := 0, slots := 0, locals := 0 } : Room) s m args below meth c D A 0 0 Q (wE) 5 [(2, .int v2_4r)] 21 [] := by
      intro H locs ls hP hD hS hv
      refine lv_iload_n hx hb dX12_common_21 rfl (lv_at hv 0 rfl) ?_
      have h := Option.some.inj h
      have ee0 : v2_4r = rR := congrArg (fun q => q) h
      subst ee0
      rw [← hQ]
      exact retI hx hb hr hlk hK hP hD hS dX12_common_22 ⟨Nat.le_of_ble_eq_true rfl, Nat.le_of_ble_eq_true rfl⟩
    have LB : ∀ (nf : Nat) (v2_4b : Int32) (v3_4b : Int32), lp (fun σ : Int32 × Int32 => fX12_common_4B (σ.1) (σ.2)) nf (v2_4b, v3_4b) = some (v2_4r, v3_4r) → WW p l e ({ frames := 0, cells := 0, slots := 0, locals := 0 } : Room) s m args below meth c D A 0 0 Q (wE) 5 [(2, .int v2_4b), (3, .int v3_4b)] 4 [] := by
      intro nf
      induction nf with
      | zero => intro v2_4b v3_4b hl; cases hl
      | succ nf ih =>
        intro v2_4b v3_4b hl
        obtain ⟨x, h, hl⟩ := lp_ex hl
        have h : fX12_common_4B v2_4b v3_4b = some x := h
        unfold fX12_common_4B at h
        intro H locs ls hP hD hS hv
        refine lv_iload_n hx hb dX12_common_4 rfl (lv_at hv 1 rfl) ?_
        refine lv_if_eq (tgt := 21) hx hb dX12_common_5 (by decide) (fun c_1 => ?_) (fun c_1 => ?_)
        · have h := ite_t c_1 h
          cases h
          have hl : some (v2_4b, v3_4b) = some (v2_4r, v3_4r) := hl
          have hl := Option.some.inj hl
          have ee0 : v2_4b = v2_4r := congrArg (fun q => q.1) hl
          have ee1 : v3_4b = v3_4r := congrArg (fun q => q.2) hl
          subst ee0
          subst ee1
          exact LE _ _ _ hP hD hS (lv_sub hv [0] rfl)
        · have h := ite_f c_1 h
          refine lv_iload_n hx hb dX12_common_8 rfl (lv_at hv 0 rfl) ?_
          refine lv_iload_n hx hb dX12_common_9 rfl (lv_at hv 1 rfl) ?_
          obtain ⟨c_2, h⟩ := ck_ex h
          refine lv_irem hx hb dX12_common_10 c_2 ?_
          obtain ⟨y_3, ey_3, h⟩ := bnd_ex h
          refine lv_nm ey_3 ?_
          refine lv_istore (lv' := [(4, .int y_3), (2, .int v2_4b), (3, .int v3_4b)]) hx hb dX12_common_11 hv (by decide) rfl (fun ls hv => ?_)
          refine lv_iload_n hx hb dX12_common_13 rfl (lv_at hv 2 rfl) ?_
          refine lv_istore_n (lv' := [(2, .int v3_4b), (4, .int y_3), (3, .int v3_4b)]) hx hb dX12_common_14 rfl hv (by decide) rfl (fun ls hv => ?_)
          refine lv_iload hx hb dX12_common_15 (lv_at hv 1 rfl) ?_
          refine lv_istore_n (lv' := [(3, .int y_3), (2, .int v3_4b), (4, .int y_3)]) hx hb dX12_common_17 rfl hv (by decide) rfl (fun ls hv => ?_)
          refine lv_goto (tgt := 4) hx hb dX12_common_18 (by decide) ?_
          cases h
          exact ih v3_4b y_3 hl _ _ _ hP hD hS (lv_sub hv [1, 0] rfl)
    exact LB FU v2_4 v3_4 ho
  have hP : va_P D vwCl (wE) H := hP
  unfold fX12_common at h
  refine lv_iload_n hx hb dX12_common_0 rfl (lv_at hv 0 rfl) ?_
  refine lv_istore_n (lv' := [(2, .int a), (0, .int a), (1, .int b)]) hx hb dX12_common_1 rfl hv (by decide) rfl (fun ls hv => ?_)
  refine lv_iload_n hx hb dX12_common_2 rfl (lv_at hv 2 rfl) ?_
  refine lv_istore_n (lv' := [(3, .int b), (2, .int a), (0, .int a), (1, .int b)]) hx hb dX12_common_3 rfl hv (by decide) rfl (fun ls hv => ?_)
  exact C_4 a b h _ _ _ hP hD hS (lv_sub hv [1, 0] rfl)

def fX12_odds_29 (d_29 : Nat → Int32) (aside_29 : Nat → Int32) (found_29 : Nat → Int32) (names_29 : Nat → Int32) (pile_29 : Nat → Int32) : Option (Int32 × (Nat → Int32) × (Nat → Int32) × (Nat → Int32) × (Nat → Int32) × (Nat → Int32)) :=
  bd (fX12_finds (1 : Int32) found_29) fun (r_4, found_5) => some (r_4, d_29, aside_29, found_5, names_29, pile_29)
def fX12_odds_45B (v1_45 : Int32) (v2_45 : Int32) (v3_45 : Int32) (aside_45 : Nat → Int32) (found_45 : Nat → Int32) (v4_45b : Int32) (v5_45b : Int32) (d_45b : Nat → Int32) (names_45b : Nat → Int32) (pile_45b : Nat → Int32) : Option ((Int32 × Int32 × (Nat → Int32) × (Nat → Int32) × (Nat → Int32)) ⊕ (Int32 × Int32 × (Nat → Int32) × (Nat → Int32) × (Nat → Int32))) :=
  (if (12 : Int32) ≤ v5_45b then some (.inr (v4_45b, v5_45b, d_45b, names_45b, pile_45b)) else ckI (1 : Int32) 326 (ckI ((24 : Int32) + ((d_45b ((1 : Int32)).toNatClampNeg) - (d_45b ((1 : Int32)).toNatClampNeg) / (6 : Int32) * (6 : Int32))) 326 (bnd (upd d_45b (((24 : Int32) + ((d_45b ((1 : Int32)).toNatClampNeg) - (d_45b ((1 : Int32)).toNatClampNeg) / (6 : Int32) * (6 : Int32)))).toNatClampNeg v5_45b) fun d_25 => bd (fX12_hoursGo v1_45 d_25 names_45b pile_45b) fun (d_26, names_27, pile_28) => ckI (2 : Int32) 326 (bnd (v4_45b + (((d_26 ((2 : Int32)).toNatClampNeg) >>> (v2_45 &&& 31)) &&& (1 : Int32))) fun y_31 => bd (fX12_putBack d_26 aside_45) fun d_32 => bnd (v5_45b + (1 : Int32)) fun y_34 => some (.inl (y_31, y_34, d_32, names_27, pile_28))))))
def fX12_odds_45 (v1_45 : Int32) (v2_45 : Int32) (v3_45 : Int32) (v4_45 : Int32) (v5_45 : Int32) (d_45 : Nat → Int32) (aside_45 : Nat → Int32) (found_45 : Nat → Int32) (names_45 : Nat → Int32) (pile_45 : Nat → Int32) : Option (Int32 × (Nat → Int32) × (Nat → Int32) × (Nat → Int32) × (Nat → Int32) × (Nat → Int32)) :=
  bd (lp (fun σ : Int32 × Int32 × (Nat → Int32) × (Nat → Int32) × (Nat → Int32) => fX12_odds_45B v1_45 v2_45 v3_45 aside_45 found_45 (σ.1) (σ.2.1) (σ.2.2.1) (σ.2.2.2.1) (σ.2.2.2.2)) FU (v4_45, v5_45, d_45, names_45, pile_45)) fun ρ => match ρ with | (v4_45r, v5_45r, d_45r, names_45r, pile_45r) => (if v3_45 = 0 then bd (fX12_common v4_45r (12 : Int32)) fun r_19 => ck (¬ r_19 = 0) (some ((v4_45r / r_19), d_45r, aside_45, found_45, names_45r, pile_45r)) else bd (fX12_common v4_45r (12 : Int32)) fun r_16 => ck (¬ r_16 = 0) (some (((12 : Int32) / r_16), d_45r, aside_45, found_45, names_45r, pile_45r)))
def fX12_odds (n : Int32) (a : Int32) (b : Int32) (d : Nat → Int32) (aside : Nat → Int32) (found : Nat → Int32) (names : Nat → Int32) (pile : Nat → Int32) : Option (Int32 × (Nat → Int32) × (Nat → Int32) × (Nat → Int32) × (Nat → Int32) × (Nat → Int32)) :=
  bd (fX12_in ((n).toInt64) (0 : Int64) (30 : Int64)) fun r_1 => (if r_1 = 0 then fX12_odds_29 d aside found names pile else bd (fX12_isWord a) fun r_7 => (if r_7 = 0 then fX12_odds_29 d aside found names pile else bd (fX12_in ((b).toInt64) (0 : Int64) (1 : Int64)) fun r_10 => (if r_10 = 0 then fX12_odds_29 d aside found names pile else bd (fX12_keepAside d aside) fun aside_13 => fX12_odds_45 n a b (0 : Int32) (0 : Int32) d aside_13 found names pile)))
set_option maxHeartbeats 4000000 in
set_option maxRecDepth 100000 in
theorem c_X12_odds (l : Launch) (G : Nat → Nat) (D : va_G) (cA : Nat → ClassId) (ad : Nat → Nat) (sz : Nat) (d : Nat → Int32) (kept : Nat → Int32) (aside : Nat → Int32) (images : Int32) (found : Nat → Int32) (base : Int32) (at0 : Int32) (size : Int32) (fault : Int32) (opened : Int32) (isRub : Int32) (names : Nat → Int32) (code : Nat → Int32) (coded : Int32) (pile : Nat → Int32) (needs : Nat → Int32) (traced : Nat → Int32) (traceMany : Int32) (who : Int32) (bitsOf : Nat → Int32) (sizeOf : Nat → Int32) (number : Nat → Int32) (lifted : Nat → Int32) (n : Int32) (a : Int32) (b : Int32) (rR : Int32) (dR : Nat → Int32) (asideR : Nat → Int32) (foundR : Nat → Int32) (namesR : Nat → Int32) (pileR : Nat → Int32) (h : fX12_odds n a b d aside found names pile = some (rR, dR, asideR, foundR, namesR, pileR)) : Met l yX12_odds wsX12_odds ({ frames := 7, cells := 0, slots := 0, locals := 164 } : Room) (PW G D (tyC cA) sz (wM cA ad d kept aside images found base at0 size fault opened isRub names code coded pile needs traced traceMany who bitsOf sizeOf number lifted) [.ref (ad 0), .int n, .int a, .int b]) (QI D (tyC cA) (va_A (wM cA ad d kept aside images found base at0 size fault opened isRub names code coded pile needs traced traceMany who bitsOf sizeOf number lifted) sz) rR (wM cA ad dR kept asideR images foundR base at0 size fault opened isRub namesR code coded pileR needs traced traceMany who bitsOf sizeOf number lifted)) 0 0 (va_A (wM cA ad d kept aside images found base at0 size fault opened isRub names code coded pile needs traced traceMany who bitsOf sizeOf number lifted) sz) := by
  refine ent (cc := cX12_odds) (maxL := 6) (ret := (some .int)) (fun A => QI D (tyC cA) A rR (wM cA ad dR kept asideR images foundR base at0 size fault opened isRub namesR code coded pileR needs traced traceMany who bitsOf sizeOf number lifted)) (by decide +kernel) rfl (Nat.le_of_ble_eq_true rfl) ?_
  intro p e s m args below meth c A ls H hx hb hml hr hlk hts hown hA hK hE hP hD hS hv hmm
  have hv : lv_has ls 6 [(0, .ref (ad 0)), (1, .int n), (2, .int a), (3, .int b)] := hv
  have in_12 : ∀ w ∈ u_ws RX12 TX12 23, w ∈ wsX12_odds := fun _ h => List.mem_cons_of_mem _ (List.mem_append_right _ h)
  have w_0 := hts (.constantLong RX12 272 (30)) (List.mem_of_getElem? (i := 1) rfl)
  have w_1 := hts (.fieldLink RX12 7 "SpoonsLastModel" "d" "[I") (List.mem_of_getElem? (i := 2) rfl)
  generalize hQ : MQ below _ args s 0 0 A = Q
  have C_29 : ∀ (d_29 : Nat → Int32) (aside_29 : Nat → Int32) (found_29 : Nat → Int32) (names_29 : Nat → Int32) (pile_29 : Nat → Int32), fX12_odds_29 d_29 aside_29 found_29 names_29 pile_29 = some (rR, dR, asideR, foundR, namesR, pileR) → WW p l e ({ frames := 7, cells := 0, slots := 0, locals := 164 } : Room) s m args below meth c D A 0 0 Q (wM cA ad d_29 kept aside_29 images found_29 base at0 size fault opened isRub names_29 code coded pile_29 needs traced traceMany who bitsOf sizeOf number lifted) 6 [(0, .ref (ad 0))] 29 [] := by
    intro d_29 aside_29 found_29 names_29 pile_29 h
    unfold fX12_odds_29 at h
    intro H locs ls hP hD hS hv
    refine lv_aload_n hx hb dX12_odds_29 rfl (lv_at hv 0 rfl) ?_
    refine lv_iconst (v := (1 : Int32)) hx hb dX12_odds_30 (by decide) ?_
    obtain ⟨⟨r_4, found_5⟩, hf_6, h⟩ := bd_ex h
    have sb := Sb.same hP hD hS hA
    refine calI (va_runV (As := [.int (1 : Int32)]) (rest := []) ⟨hx, hb, hml, hown, hts⟩ (c_X12_finds l G D cA ad _ d_29 kept aside_29 images found_29 base at0 size fault opened isRub names_29 code coded pile_29 needs traced traceMany who bitsOf sizeOf number lifted (1 : Int32) r_4 found_5 hf_6) (cwV 1 hts gX12_odds_X12_finds rfl rfl rfl (by decide +kernel) ⟨Nat.le_of_ble_eq_true rfl, Nat.le_of_ble_eq_true rfl⟩) (pvV hE hK hS sb (va_recv hK hP (ci := 12) (q0 := 0) rfl rfl)) rfl rfl hv.1 rfl (lv_room (Nat.le_of_ble_eq_true rfl)) dX12_odds_31 ⟨Nat.le_of_ble_eq_true rfl, Nat.le_of_ble_eq_true rfl⟩) hS sb (Jn.same sb) (fun H locs hP hD hS => ?_)
    have hP : va_P D vwCl (wM cA ad d_29 kept aside_29 images found_5 base at0 size fault opened isRub names_29 code coded pile_29 needs traced traceMany who bitsOf sizeOf number lifted) H := hP
    have hD : va_D A (wM cA ad d_29 kept aside_29 images found_5 base at0 size fault opened isRub names_29 code coded pile_29 needs traced traceMany who bitsOf sizeOf number lifted) := hD
    have h := Option.some.inj h
    have ee0 : r_4 = rR := congrArg (fun q => q.1) h
    have ee1 : d_29 = dR := congrArg (fun q => q.2.1) h
    have ee2 : aside_29 = asideR := congrArg (fun q => q.2.2.1) h
    have ee3 : found_5 = foundR := congrArg (fun q => q.2.2.2.1) h
    have ee4 : names_29 = namesR := congrArg (fun q => q.2.2.2.2.1) h
    have ee5 : pile_29 = pileR := congrArg (fun q => q.2.2.2.2.2) h
    subst ee0
    subst ee1
    subst ee2
    subst ee3
    subst ee4
    subst ee5
    rw [← hQ]
    exact retI hx hb hr hlk hK hP hD hS dX12_odds_34 ⟨Nat.le_of_ble_eq_true rfl, Nat.le_of_ble_eq_true rfl⟩
  have C_45 : ∀ (v1_45 : Int32) (v2_45 : Int32) (v3_45 : Int32) (v4_45 : Int32) (v5_45 : Int32) (d_45 : Nat → Int32) (aside_45 : Nat → Int32) (found_45 : Nat → Int32) (names_45 : Nat → Int32) (pile_45 : Nat → Int32), fX12_odds_45 v1_45 v2_45 v3_45 v4_45 v5_45 d_45 aside_45 found_45 names_45 pile_45 = some (rR, dR, asideR, foundR, namesR, pileR) → WW p l e ({ frames := 7, cells := 0, slots := 0, locals := 164 } : Room) s m args below meth c D A 0 0 Q (wM cA ad d_45 kept aside_45 images found_45 base at0 size fault opened isRub names_45 code coded pile_45 needs traced traceMany who bitsOf sizeOf number lifted) 6 [(0, .ref (ad 0)), (1, .int v1_45), (2, .int v2_45), (3, .int v3_45), (4, .int v4_45), (5, .int v5_45)] 45 [] := by
    intro v1_45 v2_45 v3_45 v4_45 v5_45 d_45 aside_45 found_45 names_45 pile_45 h
    unfold fX12_odds_45 at h
    obtain ⟨⟨v4_45r, v5_45r, d_45r, names_45r, pile_45r⟩, ho, h⟩ := bd_ex h
    have LE : WW p l e ({ frames := 7, cells := 0, slots := 0, locals := 164 } : Room) s m args below meth c D A 0 0 Q (wM cA ad d_45r kept aside_45 images found_45 base at0 size fault opened isRub names_45r code coded pile_45r needs traced traceMany who bitsOf sizeOf number lifted) 6 [(3, .int v3_45), (4, .int v4_45r)] 101 [] := by
      intro H locs ls hP hD hS hv
      refine lv_iload_n hx hb dX12_odds_101 rfl (lv_at hv 0 rfl) ?_
      refine lv_if_ne (tgt := 110) hx hb dX12_odds_102 (by decide) (fun c_15 => ?_) (fun c_15 => ?_)
      · have h := ite_f c_15 h
        refine lv_bipush (v := (12 : Int32)) hx hb dX12_odds_110 (by decide) ?_
        refine lv_iload hx hb dX12_odds_112 (lv_at hv 1 rfl) ?_
        refine lv_bipush (v := (12 : Int32)) hx hb dX12_odds_114 (by decide) ?_
        obtain ⟨r_16, hf_17, h⟩ := bd_ex h
        have sb := Sb.nil hP hD hS hA
        refine calI (va_runS (As := [.int v4_45r, .int (12 : Int32)]) (rest := [.int (12 : Int32)]) ⟨hx, hb, hml, hown, hts⟩ (c_X12_common l G D cA  _ v4_45r (12 : Int32) r_16 hf_17) (va_cwS 2 hts gX12_odds_X12_common rfl rfl rfl (by decide +kernel) ⟨Nat.le_of_ble_eq_true rfl, Nat.le_of_ble_eq_true rfl⟩) (pvS hE hK hS sb) rfl rfl hv.1 rfl (lv_room (Nat.le_of_ble_eq_true rfl)) dX12_odds_116 ⟨Nat.le_of_ble_eq_true rfl, Nat.le_of_ble_eq_true rfl⟩) hS sb (Jn.nil hP hD) (fun H locs hP hD hS => ?_)
        have hP : va_P D vwCl (wM cA ad d_45r kept aside_45 images found_45 base at0 size fault opened isRub names_45r code coded pile_45r needs traced traceMany who bitsOf sizeOf number lifted) H := hP
        have hD : va_D A (wM cA ad d_45r kept aside_45 images found_45 base at0 size fault opened isRub names_45r code coded pile_45r needs traced traceMany who bitsOf sizeOf number lifted) := hD
        obtain ⟨c_18, h⟩ := ck_ex h
        refine lv_idiv hx hb dX12_odds_119 c_18 ?_
        have h := Option.some.inj h
        have ee0 : ((12 : Int32) / r_16) = rR := congrArg (fun q => q.1) h
        have ee1 : d_45r = dR := congrArg (fun q => q.2.1) h
        have ee2 : aside_45 = asideR := congrArg (fun q => q.2.2.1) h
        have ee3 : found_45 = foundR := congrArg (fun q => q.2.2.2.1) h
        have ee4 : names_45r = namesR := congrArg (fun q => q.2.2.2.2.1) h
        have ee5 : pile_45r = pileR := congrArg (fun q => q.2.2.2.2.2) h
        subst ee0
        subst ee1
        subst ee2
        subst ee3
        subst ee4
        subst ee5
        rw [← hQ]
        exact retI hx hb hr hlk hK hP hD hS dX12_odds_120 ⟨Nat.le_of_ble_eq_true rfl, Nat.le_of_ble_eq_true rfl⟩
      · have h := ite_t c_15 h
        refine lv_iload hx hb dX12_odds_105 (lv_at hv 1 rfl) ?_
        refine lv_goto (tgt := 112) hx hb dX12_odds_107 (by decide) ?_
        refine lv_iload hx hb dX12_odds_112 (lv_at hv 1 rfl) ?_
        refine lv_bipush (v := (12 : Int32)) hx hb dX12_odds_114 (by decide) ?_
        obtain ⟨r_19, hf_20, h⟩ := bd_ex h
        have sb := Sb.nil hP hD hS hA
        refine calI (va_runS (As := [.int v4_45r, .int (12 : Int32)]) (rest := [.int v4_45r]) ⟨hx, hb, hml, hown, hts⟩ (c_X12_common l G D cA  _ v4_45r (12 : Int32) r_19 hf_20) (va_cwS 2 hts gX12_odds_X12_common rfl rfl rfl (by decide +kernel) ⟨Nat.le_of_ble_eq_true rfl, Nat.le_of_ble_eq_true rfl⟩) (pvS hE hK hS sb) rfl rfl hv.1 rfl (lv_room (Nat.le_of_ble_eq_true rfl)) dX12_odds_116 ⟨Nat.le_of_ble_eq_true rfl, Nat.le_of_ble_eq_true rfl⟩) hS sb (Jn.nil hP hD) (fun H locs hP hD hS => ?_)
        have hP : va_P D vwCl (wM cA ad d_45r kept aside_45 images found_45 base at0 size fault opened isRub names_45r code coded pile_45r needs traced traceMany who bitsOf sizeOf number lifted) H := hP
        have hD : va_D A (wM cA ad d_45r kept aside_45 images found_45 base at0 size fault opened isRub names_45r code coded pile_45r needs traced traceMany who bitsOf sizeOf number lifted) := hD
        obtain ⟨c_21, h⟩ := ck_ex h
        refine lv_idiv hx hb dX12_odds_119 c_21 ?_
        have h := Option.some.inj h
        have ee0 : (v4_45r / r_19) = rR := congrArg (fun q => q.1) h
        have ee1 : d_45r = dR := congrArg (fun q => q.2.1) h
        have ee2 : aside_45 = asideR := congrArg (fun q => q.2.2.1) h
        have ee3 : found_45 = foundR := congrArg (fun q => q.2.2.2.1) h
        have ee4 : names_45r = namesR := congrArg (fun q => q.2.2.2.2.1) h
        have ee5 : pile_45r = pileR := congrArg (fun q => q.2.2.2.2.2) h
        subst ee0
        subst ee1
        subst ee2
        subst ee3
        subst ee4
        subst ee5
        rw [← hQ]
        exact retI hx hb hr hlk hK hP hD hS dX12_odds_120 ⟨Nat.le_of_ble_eq_true rfl, Nat.le_of_ble_eq_true rfl⟩
    have LB : ∀ (nf : Nat) (v4_45b : Int32) (v5_45b : Int32) (d_45b : Nat → Int32) (names_45b : Nat → Int32) (pile_45b : Nat → Int32), lp (fun σ : Int32 × Int32 × (Nat → Int32) × (Nat → Int32) × (Nat → Int32) => fX12_odds_45B v1_45 v2_45 v3_45 aside_45 found_45 (σ.1) (σ.2.1) (σ.2.2.1) (σ.2.2.2.1) (σ.2.2.2.2)) nf (v4_45b, v5_45b, d_45b, names_45b, pile_45b) = some (v4_45r, v5_45r, d_45r, names_45r, pile_45r) → WW p l e ({ frames := 7, cells := 0, slots := 0, locals := 164 } : Room) s m args below meth c D A 0 0 Q (wM cA ad d_45b kept aside_45 images found_45 base at0 size fault opened isRub names_45b code coded pile_45b needs traced traceMany who bitsOf sizeOf number lifted) 6 [(0, .ref (ad 0)), (1, .int v1_45), (2, .int v2_45), (3, .int v3_45), (4, .int v4_45b), (5, .int v5_45b)] 45 [] := by
      intro nf
      induction nf with
      | zero => intro v4_45b v5_45b d_45b names_45b pile_45b hl; cases hl
      | succ nf ih =>
        intro v4_45b v5_45b d_45b names_45b pile_45b hl
        obtain ⟨x, h, hl⟩ := lp_ex hl
        have h : fX12_odds_45B v1_45 v2_45 v3_45 aside_45 found_45 v4_45b v5_45b d_45b names_45b pile_45b = some x := h
        unfold fX12_odds_45B at h
        intro H locs ls hP hD hS hv
        refine lv_iload hx hb dX12_odds_45 (lv_at hv 5 rfl) ?_
        refine lv_bipush (v := (12 : Int32)) hx hb dX12_odds_47 (by decide) ?_
        refine lv_icmp_ge (tgt := 101) hx hb dX12_odds_49 (by decide) (fun c_22 => ?_) (fun c_22 => ?_)
        · have h := ite_t c_22 h
          cases h
          have hl : some (v4_45b, v5_45b, d_45b, names_45b, pile_45b) = some (v4_45r, v5_45r, d_45r, names_45r, pile_45r) := hl
          have hl := Option.some.inj hl
          have ee0 : v4_45b = v4_45r := congrArg (fun q => q.1) hl
          have ee1 : v5_45b = v5_45r := congrArg (fun q => q.2.1) hl
          have ee2 : d_45b = d_45r := congrArg (fun q => q.2.2.1) hl
          have ee3 : names_45b = names_45r := congrArg (fun q => q.2.2.2.1) hl
          have ee4 : pile_45b = pile_45r := congrArg (fun q => q.2.2.2.2) hl
          subst ee0
          subst ee1
          subst ee2
          subst ee3
          subst ee4
          exact LE _ _ _ hP hD hS (lv_sub hv [3, 4] rfl)
        · have h := ite_f c_22 h
          refine lv_aload_n hx hb dX12_odds_52 rfl (lv_at hv 0 rfl) ?_
          refine va_get (D := D) (ci := 12) (v := .ref (ad 1)) (C := RX12) (T := TX12) (N := 23) hx hb hts in_12 hown hK hP 0 rfl rfl 0 (by decide) w_1 (fun _ h9 => h9) rfl dX12_odds_53 ?_
          refine lv_bipush (v := (24 : Int32)) hx hb dX12_odds_56 (by decide) ?_
          refine lv_aload_n hx hb dX12_odds_58 rfl (lv_at hv 0 rfl) ?_
          refine va_get (D := D) (ci := 12) (v := .ref (ad 1)) (C := RX12) (T := TX12) (N := 23) hx hb hts in_12 hown hK hP 0 rfl rfl 0 (by decide) w_1 (fun _ h9 => h9) rfl dX12_odds_59 ?_
          refine lv_iconst (v := (1 : Int32)) hx hb dX12_odds_62 (by decide) ?_
          obtain ⟨c_23, h⟩ := ckI_ex h
          refine va_iald (D := D) hx hb hK hP 1 0 rfl rfl c_23 dX12_odds_63 ?_
          refine lv_bipush (v := (6 : Int32)) hx hb dX12_odds_64 (by decide) ?_
          refine lv_irem hx hb dX12_odds_66 (by decide) ?_
          refine lv_iadd hx hb dX12_odds_67 ?_
          refine lv_iload hx hb dX12_odds_68 (lv_at hv 5 rfl) ?_
          obtain ⟨c_24, h⟩ := ckI_ex h
          obtain ⟨d_25, ed_25, h⟩ := bnd_ex h
          refine va_iast (D := D) hx hb hK hP hD hS 1 0 rfl rfl c_24 dX12_odds_70 (fun H locs hP hD hS => ?_)
          rw [← ed_25] at hP hD
          have hP : va_P D vwCl (wM cA ad d_25 kept aside_45 images found_45 base at0 size fault opened isRub names_45b code coded pile_45b needs traced traceMany who bitsOf sizeOf number lifted) H := hP
          have hD : va_D A (wM cA ad d_25 kept aside_45 images found_45 base at0 size fault opened isRub names_45b code coded pile_45b needs traced traceMany who bitsOf sizeOf number lifted) := hD
          refine lv_aload_n hx hb dX12_odds_71 rfl (lv_at hv 0 rfl) ?_
          refine lv_iload_n hx hb dX12_odds_72 rfl (lv_at hv 1 rfl) ?_
          obtain ⟨⟨d_26, names_27, pile_28⟩, hf_29, h⟩ := bd_ex h
          have sb := Sb.same hP hD hS hA
          refine calV (va_runV (As := [.int v1_45]) (rest := []) ⟨hx, hb, hml, hown, hts⟩ (c_X12_hoursGo l G D cA ad _ d_25 kept aside_45 images found_45 base at0 size fault opened isRub names_45b code coded pile_45b needs traced traceMany who bitsOf sizeOf number lifted v1_45 d_26 names_27 pile_28 hf_29) (cwV 1 hts gX12_odds_X12_hoursGo rfl rfl rfl (by decide +kernel) ⟨Nat.le_of_ble_eq_true rfl, Nat.le_of_ble_eq_true rfl⟩) (pvV hE hK hS sb (va_recv hK hP (ci := 12) (q0 := 0) rfl rfl)) rfl rfl hv.1 rfl (lv_room (Nat.le_of_ble_eq_true rfl)) dX12_odds_73 ⟨Nat.le_of_ble_eq_true rfl, Nat.le_of_ble_eq_true rfl⟩) hS sb (Jn.same sb) (fun H locs hP hD hS => ?_)
          have hP : va_P D vwCl (wM cA ad d_26 kept aside_45 images found_45 base at0 size fault opened isRub names_27 code coded pile_28 needs traced traceMany who bitsOf sizeOf number lifted) H := hP
          have hD : va_D A (wM cA ad d_26 kept aside_45 images found_45 base at0 size fault opened isRub names_27 code coded pile_28 needs traced traceMany who bitsOf sizeOf number lifted) := hD
          refine lv_iload hx hb dX12_odds_76 (lv_at hv 4 rfl) ?_
          refine lv_aload_n hx hb dX12_odds_78 rfl (lv_at hv 0 rfl) ?_
          refine va_get (D := D) (ci := 12) (v := .ref (ad 1)) (C := RX12) (T := TX12) (N := 23) hx hb hts in_12 hown hK hP 0 rfl rfl 0 (by decide) w_1 (fun _ h9 => h9) rfl dX12_odds_79 ?_
          refine lv_iconst (v := (2 : Int32)) hx hb dX12_odds_82 (by decide) ?_
          obtain ⟨c_30, h⟩ := ckI_ex h
          refine va_iald (D := D) hx hb hK hP 1 0 rfl rfl c_30 dX12_odds_83 ?_
          refine lv_iload_n hx hb dX12_odds_84 rfl (lv_at hv 2 rfl) ?_
          refine lv_ishr hx hb dX12_odds_85 ?_
          refine lv_iconst (v := (1 : Int32)) hx hb dX12_odds_86 (by decide) ?_
          refine lv_iand hx hb dX12_odds_87 ?_
          refine lv_iadd hx hb dX12_odds_88 ?_
          obtain ⟨y_31, ey_31, h⟩ := bnd_ex h
          refine lv_nm ey_31 ?_
          refine lv_istore (lv' := [(4, .int y_31), (0, .ref (ad 0)), (1, .int v1_45), (2, .int v2_45), (3, .int v3_45), (5, .int v5_45b)]) hx hb dX12_odds_89 hv (by decide) rfl (fun ls hv => ?_)
          refine lv_aload_n hx hb dX12_odds_91 rfl (lv_at hv 1 rfl) ?_
          obtain ⟨d_32, hf_33, h⟩ := bd_ex h
          have sb := Sb.same hP hD hS hA
          refine calV (va_runV (As := []) (rest := []) ⟨hx, hb, hml, hown, hts⟩ (c_X12_putBack l G D cA ad _ d_26 kept aside_45 images found_45 base at0 size fault opened isRub names_27 code coded pile_28 needs traced traceMany who bitsOf sizeOf number lifted d_32 hf_33) (cwV 0 hts gX12_odds_X12_putBack rfl rfl rfl (by decide +kernel) ⟨Nat.le_of_ble_eq_true rfl, Nat.le_of_ble_eq_true rfl⟩) (pvV hE hK hS sb (va_recv hK hP (ci := 12) (q0 := 0) rfl rfl)) rfl rfl hv.1 rfl (lv_room (Nat.le_of_ble_eq_true rfl)) dX12_odds_92 ⟨Nat.le_of_ble_eq_true rfl, Nat.le_of_ble_eq_true rfl⟩) hS sb (Jn.same sb) (fun H locs hP hD hS => ?_)
          have hP : va_P D vwCl (wM cA ad d_32 kept aside_45 images found_45 base at0 size fault opened isRub names_27 code coded pile_28 needs traced traceMany who bitsOf sizeOf number lifted) H := hP
          have hD : va_D A (wM cA ad d_32 kept aside_45 images found_45 base at0 size fault opened isRub names_27 code coded pile_28 needs traced traceMany who bitsOf sizeOf number lifted) := hD
          obtain ⟨y_34, ey_34, h⟩ := bnd_ex h
          refine lv_iinc (v := y_34) (lv' := [(5, .int y_34), (4, .int y_31), (0, .ref (ad 0)), (1, .int v1_45), (2, .int v2_45), (3, .int v3_45)]) hx hb dX12_odds_95 hv (k := 5) rfl (by rw [ey_34]; rfl) (by decide) rfl (fun ls hv => ?_)
          refine lv_goto (tgt := 45) hx hb dX12_odds_98 (by decide) ?_
          cases h
          exact ih y_31 y_34 d_32 names_27 pile_28 hl _ _ _ hP hD hS (lv_sub hv [2, 3, 4, 5, 1, 0] rfl)
    exact LB FU v4_45 v5_45 d_45 names_45 pile_45 ho
  have hP : va_P D vwCl (wM cA ad d kept aside images found base at0 size fault opened isRub names code coded pile needs traced traceMany who bitsOf sizeOf number lifted) H := hP
  unfold fX12_odds at h
  refine lv_iload_n hx hb dX12_odds_0 rfl (lv_at hv 1 rfl) ?_
  refine lv_i2l (v := (n).toInt64) hx hb dX12_odds_1 rfl ?_
  refine lv_lconst (v := (0 : Int64)) hx hb dX12_odds_2 (by decide) ?_
  refine lv_ldc2 (v := (30 : Int64)) hx hb hown w_0 dX12_odds_3 ?_
  obtain ⟨r_1, hf_2, h⟩ := bd_ex h
  have sb := Sb.nil hP hD hS hA
  refine calI (va_runS (As := [.long (n).toInt64, .long (0 : Int64), .long (30 : Int64)]) (rest := []) ⟨hx, hb, hml, hown, hts⟩ (c_X12_in l G D cA  _ ((n).toInt64) (0 : Int64) (30 : Int64) r_1 hf_2) (va_cwS 3 hts gX12_odds_X12_in rfl rfl rfl (by decide +kernel) ⟨Nat.le_of_ble_eq_true rfl, Nat.le_of_ble_eq_true rfl⟩) (pvS hE hK hS sb) rfl rfl hv.1 rfl (lv_room (Nat.le_of_ble_eq_true rfl)) dX12_odds_6 ⟨Nat.le_of_ble_eq_true rfl, Nat.le_of_ble_eq_true rfl⟩) hS sb (Jn.nil hP hD) (fun H locs hP hD hS => ?_)
  have hP : va_P D vwCl (wM cA ad d kept aside images found base at0 size fault opened isRub names code coded pile needs traced traceMany who bitsOf sizeOf number lifted) H := hP
  have hD : va_D A (wM cA ad d kept aside images found base at0 size fault opened isRub names code coded pile needs traced traceMany who bitsOf sizeOf number lifted) := hD
  refine lv_if_eq (tgt := 29) hx hb dX12_odds_9 (by decide) (fun c_3 => ?_) (fun c_3 => ?_)
  · have h := ite_t c_3 h
    exact C_29 d aside found names pile h _ _ _ hP hD hS (lv_sub hv [0] rfl)
  · have h := ite_f c_3 h
    refine lv_iload_n hx hb dX12_odds_12 rfl (lv_at hv 2 rfl) ?_
    obtain ⟨r_7, hf_8, h⟩ := bd_ex h
    have sb := Sb.nil hP hD hS hA
    refine calI (va_runS (As := [.int a]) (rest := []) ⟨hx, hb, hml, hown, hts⟩ (c_X12_isWord l G D cA  _ a r_7 hf_8) (va_cwS 1 hts gX12_odds_X12_isWord rfl rfl rfl (by decide +kernel) ⟨Nat.le_of_ble_eq_true rfl, Nat.le_of_ble_eq_true rfl⟩) (pvS hE hK hS sb) rfl rfl hv.1 rfl (lv_room (Nat.le_of_ble_eq_true rfl)) dX12_odds_13 ⟨Nat.le_of_ble_eq_true rfl, Nat.le_of_ble_eq_true rfl⟩) hS sb (Jn.nil hP hD) (fun H locs hP hD hS => ?_)
    have hP : va_P D vwCl (wM cA ad d kept aside images found base at0 size fault opened isRub names code coded pile needs traced traceMany who bitsOf sizeOf number lifted) H := hP
    have hD : va_D A (wM cA ad d kept aside images found base at0 size fault opened isRub names code coded pile needs traced traceMany who bitsOf sizeOf number lifted) := hD
    refine lv_if_eq (tgt := 29) hx hb dX12_odds_16 (by decide) (fun c_9 => ?_) (fun c_9 => ?_)
    · have h := ite_t c_9 h
      exact C_29 d aside found names pile h _ _ _ hP hD hS (lv_sub hv [0] rfl)
    · have h := ite_f c_9 h
      refine lv_iload_n hx hb dX12_odds_19 rfl (lv_at hv 3 rfl) ?_
      refine lv_i2l (v := (b).toInt64) hx hb dX12_odds_20 rfl ?_
      refine lv_lconst (v := (0 : Int64)) hx hb dX12_odds_21 (by decide) ?_
      refine lv_lconst (v := (1 : Int64)) hx hb dX12_odds_22 (by decide) ?_
      obtain ⟨r_10, hf_11, h⟩ := bd_ex h
      have sb := Sb.nil hP hD hS hA
      refine calI (va_runS (As := [.long (b).toInt64, .long (0 : Int64), .long (1 : Int64)]) (rest := []) ⟨hx, hb, hml, hown, hts⟩ (c_X12_in l G D cA  _ ((b).toInt64) (0 : Int64) (1 : Int64) r_10 hf_11) (va_cwS 3 hts gX12_odds_X12_in rfl rfl rfl (by decide +kernel) ⟨Nat.le_of_ble_eq_true rfl, Nat.le_of_ble_eq_true rfl⟩) (pvS hE hK hS sb) rfl rfl hv.1 rfl (lv_room (Nat.le_of_ble_eq_true rfl)) dX12_odds_23 ⟨Nat.le_of_ble_eq_true rfl, Nat.le_of_ble_eq_true rfl⟩) hS sb (Jn.nil hP hD) (fun H locs hP hD hS => ?_)
      have hP : va_P D vwCl (wM cA ad d kept aside images found base at0 size fault opened isRub names code coded pile needs traced traceMany who bitsOf sizeOf number lifted) H := hP
      have hD : va_D A (wM cA ad d kept aside images found base at0 size fault opened isRub names code coded pile needs traced traceMany who bitsOf sizeOf number lifted) := hD
      refine lv_if_ne (tgt := 35) hx hb dX12_odds_26 (by decide) (fun c_12 => ?_) (fun c_12 => ?_)
      · have h := ite_f c_12 h
        refine lv_aload_n hx hb dX12_odds_35 rfl (lv_at hv 0 rfl) ?_
        obtain ⟨aside_13, hf_14, h⟩ := bd_ex h
        have sb := Sb.same hP hD hS hA
        refine calV (va_runV (As := []) (rest := []) ⟨hx, hb, hml, hown, hts⟩ (c_X12_keepAside l G D cA ad _ d kept aside images found base at0 size fault opened isRub names code coded pile needs traced traceMany who bitsOf sizeOf number lifted aside_13 hf_14) (cwV 0 hts gX12_odds_X12_keepAside rfl rfl rfl (by decide +kernel) ⟨Nat.le_of_ble_eq_true rfl, Nat.le_of_ble_eq_true rfl⟩) (pvV hE hK hS sb (va_recv hK hP (ci := 12) (q0 := 0) rfl rfl)) rfl rfl hv.1 rfl (lv_room (Nat.le_of_ble_eq_true rfl)) dX12_odds_36 ⟨Nat.le_of_ble_eq_true rfl, Nat.le_of_ble_eq_true rfl⟩) hS sb (Jn.same sb) (fun H locs hP hD hS => ?_)
        have hP : va_P D vwCl (wM cA ad d kept aside_13 images found base at0 size fault opened isRub names code coded pile needs traced traceMany who bitsOf sizeOf number lifted) H := hP
        have hD : va_D A (wM cA ad d kept aside_13 images found base at0 size fault opened isRub names code coded pile needs traced traceMany who bitsOf sizeOf number lifted) := hD
        refine lv_iconst (v := (0 : Int32)) hx hb dX12_odds_39 (by decide) ?_
        refine lv_istore (lv' := [(4, .int (0 : Int32)), (0, .ref (ad 0)), (1, .int n), (2, .int a), (3, .int b)]) hx hb dX12_odds_40 hv (by decide) rfl (fun ls hv => ?_)
        refine lv_iconst (v := (0 : Int32)) hx hb dX12_odds_42 (by decide) ?_
        refine lv_istore (lv' := [(5, .int (0 : Int32)), (4, .int (0 : Int32)), (0, .ref (ad 0)), (1, .int n), (2, .int a), (3, .int b)]) hx hb dX12_odds_43 hv (by decide) rfl (fun ls hv => ?_)
        exact C_45 n a b (0 : Int32) (0 : Int32) d aside_13 found names pile h _ _ _ hP hD hS (lv_sub hv [2, 3, 4, 5, 1, 0] rfl)
      · have h := ite_t c_12 h
        exact C_29 d aside found names pile h _ _ _ hP hD hS (lv_sub hv [0] rfl)

def fX12_ran (a : Int32) (traced : Nat → Int32) (traceMany : Int32) : Option ((Nat → Int32) × Int32) :=
  (if (40 : Int32) ≤ traceMany then some (traced, traceMany) else ckI traceMany 40 (bnd (upd traced (traceMany).toNatClampNeg a) fun traced_3 => bnd (traceMany + (1 : Int32)) fun y_4 => some (traced_3, y_4)))
set_option maxHeartbeats 4000000 in
set_option maxRecDepth 100000 in
theorem c_X12_ran (l : Launch) (G : Nat → Nat) (D : va_G) (cA : Nat → ClassId) (ad : Nat → Nat) (sz : Nat) (d : Nat → Int32) (kept : Nat → Int32) (aside : Nat → Int32) (images : Int32) (found : Nat → Int32) (base : Int32) (at0 : Int32) (size : Int32) (fault : Int32) (opened : Int32) (isRub : Int32) (names : Nat → Int32) (code : Nat → Int32) (coded : Int32) (pile : Nat → Int32) (needs : Nat → Int32) (traced : Nat → Int32) (traceMany : Int32) (who : Int32) (bitsOf : Nat → Int32) (sizeOf : Nat → Int32) (number : Nat → Int32) (lifted : Nat → Int32) (a : Int32) (tracedR : Nat → Int32) (traceManyR : Int32) (h : fX12_ran a traced traceMany = some (tracedR, traceManyR)) : Met l yX12_ran wsX12_ran ({ frames := 0, cells := 0, slots := 0, locals := 0 } : Room) (PW G D (tyC cA) sz (wM cA ad d kept aside images found base at0 size fault opened isRub names code coded pile needs traced traceMany who bitsOf sizeOf number lifted) [.ref (ad 0), .int a]) (QV D (tyC cA) (va_A (wM cA ad d kept aside images found base at0 size fault opened isRub names code coded pile needs traced traceMany who bitsOf sizeOf number lifted) sz) (wM cA ad d kept aside images found base at0 size fault opened isRub names code coded pile needs tracedR traceManyR who bitsOf sizeOf number lifted)) 0 0 (va_A (wM cA ad d kept aside images found base at0 size fault opened isRub names code coded pile needs traced traceMany who bitsOf sizeOf number lifted) sz) := by
  refine ent (cc := cX12_ran) (maxL := 2) (ret := none) (fun A => QV D (tyC cA) A (wM cA ad d kept aside images found base at0 size fault opened isRub names code coded pile needs tracedR traceManyR who bitsOf sizeOf number lifted)) (by decide +kernel) rfl (Nat.le_of_ble_eq_true rfl) ?_
  intro p e s m args below meth c A ls H hx hb hml hr hlk hts hown hA hK hE hP hD hS hv hmm
  have hv : lv_has ls 2 [(0, .ref (ad 0)), (1, .int a)] := hv
  have in_12 : ∀ w ∈ u_ws RX12 TX12 23, w ∈ wsX12_ran := fun _ h => List.mem_cons_of_mem _ (List.mem_append_right _ h)
  have w_0 := hts (.fieldLink RX12 277 "SpoonsLastModel" "traceMany" "I") (List.mem_of_getElem? (i := 1) rfl)
  have w_1 := hts (.fieldLink RX12 34 "SpoonsLastModel" "traced" "[I") (List.mem_of_getElem? (i := 2) rfl)
  generalize hQ : MQ below _ args s 0 0 A = Q
  have hP : va_P D vwCl (wM cA ad d kept aside images found base at0 size fault opened isRub names code coded pile needs traced traceMany who bitsOf sizeOf number lifted) H := hP
  unfold fX12_ran at h
  refine lv_aload_n hx hb dX12_ran_0 rfl (lv_at hv 0 rfl) ?_
  refine va_get (D := D) (ci := 12) (v := .int traceMany) (C := RX12) (T := TX12) (N := 23) hx hb hts in_12 hown hK hP 0 rfl rfl 17 (by decide) w_0 (fun _ h9 => h9) rfl dX12_ran_1 ?_
  refine lv_bipush (v := (40 : Int32)) hx hb dX12_ran_4 (by decide) ?_
  refine lv_icmp_ge (tgt := 29) hx hb dX12_ran_6 (by decide) (fun c_1 => ?_) (fun c_1 => ?_)
  · have h := ite_t c_1 h
    have h := Option.some.inj h
    have ee0 : traced = tracedR := congrArg (fun q => q.1) h
    have ee1 : traceMany = traceManyR := congrArg (fun q => q.2) h
    subst ee0
    subst ee1
    rw [← hQ]
    exact retV hx hb hr hlk hK hP hD hS dX12_ran_29 ⟨Nat.le_of_ble_eq_true rfl, Nat.le_of_ble_eq_true rfl⟩
  · have h := ite_f c_1 h
    refine lv_aload_n hx hb dX12_ran_9 rfl (lv_at hv 0 rfl) ?_
    refine va_get (D := D) (ci := 12) (v := .ref (ad 17)) (C := RX12) (T := TX12) (N := 23) hx hb hts in_12 hown hK hP 0 rfl rfl 16 (by decide) w_1 (fun _ h9 => h9) rfl dX12_ran_10 ?_
    refine lv_aload_n hx hb dX12_ran_13 rfl (lv_at hv 0 rfl) ?_
    refine va_get (D := D) (ci := 12) (v := .int traceMany) (C := RX12) (T := TX12) (N := 23) hx hb hts in_12 hown hK hP 0 rfl rfl 17 (by decide) w_0 (fun _ h9 => h9) rfl dX12_ran_14 ?_
    refine lv_iload_n hx hb dX12_ran_17 rfl (lv_at hv 1 rfl) ?_
    obtain ⟨c_2, h⟩ := ckI_ex h
    obtain ⟨traced_3, etraced_3, h⟩ := bnd_ex h
    refine va_iast (D := D) hx hb hK hP hD hS 9 0 rfl rfl c_2 dX12_ran_18 (fun H locs hP hD hS => ?_)
    rw [← etraced_3] at hP hD
    have hP : va_P D vwCl (wM cA ad d kept aside images found base at0 size fault opened isRub names code coded pile needs traced_3 traceMany who bitsOf sizeOf number lifted) H := hP
    have hD : va_D A (wM cA ad d kept aside images found base at0 size fault opened isRub names code coded pile needs traced_3 traceMany who bitsOf sizeOf number lifted) := hD
    refine lv_aload_n hx hb dX12_ran_19 rfl (lv_at hv 0 rfl) ?_
    refine lv_dup hx hb dX12_ran_20 rfl ?_
    refine va_get (D := D) (ci := 12) (v := .int traceMany) (C := RX12) (T := TX12) (N := 23) hx hb hts in_12 hown hK hP 0 rfl rfl 17 (by decide) w_0 (fun _ h9 => h9) rfl dX12_ran_21 ?_
    refine lv_iconst (v := (1 : Int32)) hx hb dX12_ran_24 (by decide) ?_
    refine lv_iadd hx hb dX12_ran_25 ?_
    obtain ⟨y_4, ey_4, h⟩ := bnd_ex h
    refine lv_nm ey_4 ?_
    refine va_put (D := D) (ci := 12) (v := .int y_4) (ty := .int) (C := RX12) (T := TX12) (N := 23) hx hb hts in_12 tyX12 tyX12_ok nmX12 hown hK hP hD hS 0 rfl rfl 17 (by decide) w_0 (fun _ h9 => h9) rfl (by decide +kernel) rfl rfl (Nat.le_of_ble_eq_true rfl) dX12_ran_26 (fun H locs hP hD hS => ?_)
    have hP : va_P D vwCl (wM cA ad d kept aside images found base at0 size fault opened isRub names code coded pile needs traced_3 y_4 who bitsOf sizeOf number lifted) H := hP
    have hD : va_D A (wM cA ad d kept aside images found base at0 size fault opened isRub names code coded pile needs traced_3 y_4 who bitsOf sizeOf number lifted) := hD
    have h := Option.some.inj h
    have ee0 : traced_3 = tracedR := congrArg (fun q => q.1) h
    have ee1 : y_4 = traceManyR := congrArg (fun q => q.2) h
    subst ee0
    subst ee1
    rw [← hQ]
    exact retV hx hb hr hlk hK hP hD hS dX12_ran_29 ⟨Nat.le_of_ble_eq_true rfl, Nat.le_of_ble_eq_true rfl⟩

def fbX12_shinesBy (ru : Int32 → Int32 → (Nat → Int32) → Int32 → Int32 → Option (Int32 × (Nat → Int32) × Int32)) (ki : Int32) (x : Int32) (traced : Nat → Int32) (traceMany : Int32) (who : Int32) : Option (Int32 × (Nat → Int32) × Int32) :=
  (if ki = (0 : Int32) then bd (fX12_ran (10 : Int32) traced traceMany) fun (traced_2, traceMany_3) => some ((x + who), traced_2, traceMany_3) else (if ki = (1 : Int32) then bd (fX12_ran (20 : Int32) traced traceMany) fun (traced_6, traceMany_7) => bd (fX12_above (1 : Int32)) fun r_9 => bd (ru r_9 x traced_6 traceMany_7 who) fun (r_11, traced_12, traceMany_13) => some ((r_11 * (3 : Int32)), traced_12, traceMany_13) else bd (fX12_above ki) fun r_15 => bd (ru r_15 x traced traceMany who) fun (r_17, traced_18, traceMany_19) => some (r_17, traced_18, traceMany_19)))
set_option maxHeartbeats 4000000 in
set_option maxRecDepth 100000 in
theorem cb_X12_shinesBy (l : Launch) (G : Nat → Nat) (D : va_G) (cA : Nat → ClassId) (ad : Nat → Nat) (sz : Nat) (d : Nat → Int32) (kept : Nat → Int32) (aside : Nat → Int32) (images : Int32) (found : Nat → Int32) (base : Int32) (at0 : Int32) (size : Int32) (fault : Int32) (opened : Int32) (isRub : Int32) (names : Nat → Int32) (code : Nat → Int32) (coded : Int32) (pile : Nat → Int32) (needs : Nat → Int32) (traced : Nat → Int32) (traceMany : Int32) (who : Int32) (bitsOf : Nat → Int32) (sizeOf : Nat → Int32) (number : Nat → Int32) (lifted : Nat → Int32) (ru : Int32 → Int32 → (Nat → Int32) → Int32 → Int32 → Option (Int32 × (Nat → Int32) × Int32)) (a b : Nat) (hru : ∀ (sz : Nat) (d : Nat → Int32) (kept : Nat → Int32) (aside : Nat → Int32) (images : Int32) (found : Nat → Int32) (base : Int32) (at0 : Int32) (size : Int32) (fault : Int32) (opened : Int32) (isRub : Int32) (names : Nat → Int32) (code : Nat → Int32) (coded : Int32) (pile : Nat → Int32) (needs : Nat → Int32) (traced : Nat → Int32) (traceMany : Int32) (who : Int32) (bitsOf : Nat → Int32) (sizeOf : Nat → Int32) (number : Nat → Int32) (lifted : Nat → Int32) (ki : Int32) (x : Int32) (rR : Int32) (tracedR : Nat → Int32) (traceManyR : Int32), ru ki x traced traceMany who = some (rR, tracedR, traceManyR) → Met l yX12_shinesBy wsX12_shinesBy ({ frames := a, cells := 0, slots := 0, locals := b } : Room) (PW G D (tyC cA) sz (wM cA ad d kept aside images found base at0 size fault opened isRub names code coded pile needs traced traceMany who bitsOf sizeOf number lifted) [.ref (ad 0), .int ki, .int x]) (QI D (tyC cA) (va_A (wM cA ad d kept aside images found base at0 size fault opened isRub names code coded pile needs traced traceMany who bitsOf sizeOf number lifted) sz) rR (wM cA ad d kept aside images found base at0 size fault opened isRub names code coded pile needs tracedR traceManyR who bitsOf sizeOf number lifted)) 0 0 (va_A (wM cA ad d kept aside images found base at0 size fault opened isRub names code coded pile needs traced traceMany who bitsOf sizeOf number lifted) sz)) (ki : Int32) (x : Int32) (rR : Int32) (tracedR : Nat → Int32) (traceManyR : Int32) (h : fbX12_shinesBy ru ki x traced traceMany who = some (rR, tracedR, traceManyR)) : Met l yX12_shinesBy wsX12_shinesBy ({ frames := a + 1, cells := 0, slots := 0, locals := b + 22 } : Room) (PW G D (tyC cA) sz (wM cA ad d kept aside images found base at0 size fault opened isRub names code coded pile needs traced traceMany who bitsOf sizeOf number lifted) [.ref (ad 0), .int ki, .int x]) (QI D (tyC cA) (va_A (wM cA ad d kept aside images found base at0 size fault opened isRub names code coded pile needs traced traceMany who bitsOf sizeOf number lifted) sz) rR (wM cA ad d kept aside images found base at0 size fault opened isRub names code coded pile needs tracedR traceManyR who bitsOf sizeOf number lifted)) 0 0 (va_A (wM cA ad d kept aside images found base at0 size fault opened isRub names code coded pile needs traced traceMany who bitsOf sizeOf number lifted) sz) := by
  refine ent (cc := cX12_shinesBy) (maxL := 3) (ret := (some .int)) (fun A => QI D (tyC cA) A rR (wM cA ad d kept aside images found base at0 size fault opened isRub names code coded pile needs tracedR traceManyR who bitsOf sizeOf number lifted)) (by decide +kernel) rfl (Nat.le_of_ble_eq_true rfl) ?_
  intro p e s m args below meth c A ls H hx hb hml hr hlk hts hown hA hK hE hP hD hS hv hmm
  have hv : lv_has ls 3 [(0, .ref (ad 0)), (1, .int ki), (2, .int x)] := hv
  have in_12 : ∀ w ∈ u_ws RX12 TX12 23, w ∈ wsX12_shinesBy := fun _ h => List.mem_cons_of_mem _ (List.mem_append_right _ h)
  have w_0 := hts (.fieldLink RX12 283 "SpoonsLastModel" "who" "I") (List.mem_of_getElem? (i := 1) rfl)
  generalize hQ : MQ below _ args s 0 0 A = Q
  have hP : va_P D vwCl (wM cA ad d kept aside images found base at0 size fault opened isRub names code coded pile needs traced traceMany who bitsOf sizeOf number lifted) H := hP
  unfold fbX12_shinesBy at h
  refine lv_iload_n hx hb dX12_shinesBy_0 rfl (lv_at hv 1 rfl) ?_
  by_cases c_1 : ki = (0 : Int32)
  · refine lv_lookup (tgt := 28) (off := 27) hx hb dX12_shinesBy_1 (by decide) (by rw [c_1]; rfl) (by decide) ?_
    have h := ite_t c_1 h
    refine lv_aload_n hx hb dX12_shinesBy_28 rfl (lv_at hv 0 rfl) ?_
    refine lv_bipush (v := (10 : Int32)) hx hb dX12_shinesBy_29 (by decide) ?_
    obtain ⟨⟨traced_2, traceMany_3⟩, hf_4, h⟩ := bd_ex h
    have sb := Sb.same hP hD hS hA
    refine calV (va_runV (As := [.int (10 : Int32)]) (rest := []) ⟨hx, hb, hml, hown, hts⟩ (c_X12_ran l G D cA ad _ d kept aside images found base at0 size fault opened isRub names code coded pile needs traced traceMany who bitsOf sizeOf number lifted (10 : Int32) traced_2 traceMany_3 hf_4) (cwV 1 hts gX12_shinesBy_X12_ran rfl rfl rfl (by decide +kernel) ⟨show 0 + 1 ≤ a + 1 by omega, show 8 + (2 + 11) + 0 ≤ b + 22 by omega⟩) (pvV hE hK hS sb (va_recv hK hP (ci := 12) (q0 := 0) rfl rfl)) rfl rfl hv.1 rfl (lv_room (Nat.le_of_ble_eq_true rfl)) dX12_shinesBy_31 ⟨Nat.le_of_ble_eq_true rfl, Nat.le_of_ble_eq_true rfl⟩) hS sb (Jn.same sb) (fun H locs hP hD hS => ?_)
    have hP : va_P D vwCl (wM cA ad d kept aside images found base at0 size fault opened isRub names code coded pile needs traced_2 traceMany_3 who bitsOf sizeOf number lifted) H := hP
    have hD : va_D A (wM cA ad d kept aside images found base at0 size fault opened isRub names code coded pile needs traced_2 traceMany_3 who bitsOf sizeOf number lifted) := hD
    refine lv_iload_n hx hb dX12_shinesBy_34 rfl (lv_at hv 2 rfl) ?_
    refine lv_aload_n hx hb dX12_shinesBy_35 rfl (lv_at hv 0 rfl) ?_
    refine va_get (D := D) (ci := 12) (v := .int who) (C := RX12) (T := TX12) (N := 23) hx hb hts in_12 hown hK hP 0 rfl rfl 18 (by decide) w_0 (fun _ h9 => h9) rfl dX12_shinesBy_36 ?_
    refine lv_iadd hx hb dX12_shinesBy_39 ?_
    have h := Option.some.inj h
    have ee0 : (x + who) = rR := congrArg (fun q => q.1) h
    have ee1 : traced_2 = tracedR := congrArg (fun q => q.2.1) h
    have ee2 : traceMany_3 = traceManyR := congrArg (fun q => q.2.2) h
    subst ee0
    subst ee1
    subst ee2
    rw [← hQ]
    exact retI hx hb hr hlk hK hP hD hS dX12_shinesBy_40 ⟨Nat.le_of_ble_eq_true rfl, Nat.le_of_ble_eq_true rfl⟩
  have h := ite_f c_1 h
  by_cases c_5 : ki = (1 : Int32)
  · refine lv_lookup (tgt := 41) (off := 40) hx hb dX12_shinesBy_1 (by decide) (by rw [c_5]; rfl) (by decide) ?_
    have h := ite_t c_5 h
    refine lv_aload_n hx hb dX12_shinesBy_41 rfl (lv_at hv 0 rfl) ?_
    refine lv_bipush (v := (20 : Int32)) hx hb dX12_shinesBy_42 (by decide) ?_
    obtain ⟨⟨traced_6, traceMany_7⟩, hf_8, h⟩ := bd_ex h
    have sb := Sb.same hP hD hS hA
    refine calV (va_runV (As := [.int (20 : Int32)]) (rest := []) ⟨hx, hb, hml, hown, hts⟩ (c_X12_ran l G D cA ad _ d kept aside images found base at0 size fault opened isRub names code coded pile needs traced traceMany who bitsOf sizeOf number lifted (20 : Int32) traced_6 traceMany_7 hf_8) (cwV 1 hts gX12_shinesBy_X12_ran rfl rfl rfl (by decide +kernel) ⟨show 0 + 1 ≤ a + 1 by omega, show 8 + (2 + 11) + 0 ≤ b + 22 by omega⟩) (pvV hE hK hS sb (va_recv hK hP (ci := 12) (q0 := 0) rfl rfl)) rfl rfl hv.1 rfl (lv_room (Nat.le_of_ble_eq_true rfl)) dX12_shinesBy_44 ⟨Nat.le_of_ble_eq_true rfl, Nat.le_of_ble_eq_true rfl⟩) hS sb (Jn.same sb) (fun H locs hP hD hS => ?_)
    have hP : va_P D vwCl (wM cA ad d kept aside images found base at0 size fault opened isRub names code coded pile needs traced_6 traceMany_7 who bitsOf sizeOf number lifted) H := hP
    have hD : va_D A (wM cA ad d kept aside images found base at0 size fault opened isRub names code coded pile needs traced_6 traceMany_7 who bitsOf sizeOf number lifted) := hD
    refine lv_aload_n hx hb dX12_shinesBy_47 rfl (lv_at hv 0 rfl) ?_
    refine lv_iconst (v := (1 : Int32)) hx hb dX12_shinesBy_48 (by decide) ?_
    obtain ⟨r_9, hf_10, h⟩ := bd_ex h
    have sb := Sb.nil hP hD hS hA
    refine calI (va_runS (As := [.int (1 : Int32)]) (rest := [.ref (ad 0)]) ⟨hx, hb, hml, hown, hts⟩ (c_X12_above l G D cA  _ (1 : Int32) r_9 hf_10) (va_cwS 1 hts gX12_shinesBy_X12_above rfl rfl rfl (by decide +kernel) ⟨show 0 + 1 ≤ a + 1 by omega, show 8 + (1 + 11) + 0 ≤ b + 22 by omega⟩) (pvS hE hK hS sb) rfl rfl hv.1 rfl (lv_room (Nat.le_of_ble_eq_true rfl)) dX12_shinesBy_49 ⟨Nat.le_of_ble_eq_true rfl, Nat.le_of_ble_eq_true rfl⟩) hS sb (Jn.nil hP hD) (fun H locs hP hD hS => ?_)
    have hP : va_P D vwCl (wM cA ad d kept aside images found base at0 size fault opened isRub names code coded pile needs traced_6 traceMany_7 who bitsOf sizeOf number lifted) H := hP
    have hD : va_D A (wM cA ad d kept aside images found base at0 size fault opened isRub names code coded pile needs traced_6 traceMany_7 who bitsOf sizeOf number lifted) := hD
    refine lv_iload_n hx hb dX12_shinesBy_52 rfl (lv_at hv 2 rfl) ?_
    obtain ⟨⟨r_11, traced_12, traceMany_13⟩, hf_14, h⟩ := bd_ex h
    have sb := Sb.same hP hD hS hA
    refine calI (va_runV (As := [.int r_9, .int x]) (rest := []) ⟨hx, hb, hml, hown, hts⟩ (hru _ d kept aside images found base at0 size fault opened isRub names code coded pile needs traced_6 traceMany_7 who bitsOf sizeOf number lifted r_9 x r_11 traced_12 traceMany_13 hf_14) (cwV 2 hts gX12_shinesBy_X12_shinesBy rfl rfl rfl (by decide +kernel) ⟨show a + 1 ≤ a + 1 by omega, show 8 + (3 + 11) + b ≤ b + 22 by omega⟩) (pvV hE hK hS sb (va_recv hK hP (ci := 12) (q0 := 0) rfl rfl)) rfl rfl hv.1 rfl (lv_room (Nat.le_of_ble_eq_true rfl)) dX12_shinesBy_53 ⟨Nat.le_of_ble_eq_true rfl, Nat.le_of_ble_eq_true rfl⟩) hS sb (Jn.same sb) (fun H locs hP hD hS => ?_)
    have hP : va_P D vwCl (wM cA ad d kept aside images found base at0 size fault opened isRub names code coded pile needs traced_12 traceMany_13 who bitsOf sizeOf number lifted) H := hP
    have hD : va_D A (wM cA ad d kept aside images found base at0 size fault opened isRub names code coded pile needs traced_12 traceMany_13 who bitsOf sizeOf number lifted) := hD
    refine lv_iconst (v := (3 : Int32)) hx hb dX12_shinesBy_56 (by decide) ?_
    refine lv_imul hx hb dX12_shinesBy_57 ?_
    have h := Option.some.inj h
    have ee0 : (r_11 * (3 : Int32)) = rR := congrArg (fun q => q.1) h
    have ee1 : traced_12 = tracedR := congrArg (fun q => q.2.1) h
    have ee2 : traceMany_13 = traceManyR := congrArg (fun q => q.2.2) h
    subst ee0
    subst ee1
    subst ee2
    rw [← hQ]
    exact retI hx hb hr hlk hK hP hD hS dX12_shinesBy_58 ⟨Nat.le_of_ble_eq_true rfl, Nat.le_of_ble_eq_true rfl⟩
  have h := ite_f c_5 h
  refine lv_lookup (tgt := 59) (off := 58) hx hb dX12_shinesBy_1 (by decide) (by show Op.lookupswitch.offset [(0, 27), (1, 40)] (58) _ = _; rw [lv_osw (a := 0) c_1 (by decide), lv_osw (a := 1) c_5 (by decide)]; rfl) (by decide) ?_
  refine lv_aload_n hx hb dX12_shinesBy_59 rfl (lv_at hv 0 rfl) ?_
  refine lv_iload_n hx hb dX12_shinesBy_60 rfl (lv_at hv 1 rfl) ?_
  obtain ⟨r_15, hf_16, h⟩ := bd_ex h
  have sb := Sb.nil hP hD hS hA
  refine calI (va_runS (As := [.int ki]) (rest := [.ref (ad 0)]) ⟨hx, hb, hml, hown, hts⟩ (c_X12_above l G D cA  _ ki r_15 hf_16) (va_cwS 1 hts gX12_shinesBy_X12_above rfl rfl rfl (by decide +kernel) ⟨show 0 + 1 ≤ a + 1 by omega, show 8 + (1 + 11) + 0 ≤ b + 22 by omega⟩) (pvS hE hK hS sb) rfl rfl hv.1 rfl (lv_room (Nat.le_of_ble_eq_true rfl)) dX12_shinesBy_61 ⟨Nat.le_of_ble_eq_true rfl, Nat.le_of_ble_eq_true rfl⟩) hS sb (Jn.nil hP hD) (fun H locs hP hD hS => ?_)
  have hP : va_P D vwCl (wM cA ad d kept aside images found base at0 size fault opened isRub names code coded pile needs traced traceMany who bitsOf sizeOf number lifted) H := hP
  have hD : va_D A (wM cA ad d kept aside images found base at0 size fault opened isRub names code coded pile needs traced traceMany who bitsOf sizeOf number lifted) := hD
  refine lv_iload_n hx hb dX12_shinesBy_64 rfl (lv_at hv 2 rfl) ?_
  obtain ⟨⟨r_17, traced_18, traceMany_19⟩, hf_20, h⟩ := bd_ex h
  have sb := Sb.same hP hD hS hA
  refine calI (va_runV (As := [.int r_15, .int x]) (rest := []) ⟨hx, hb, hml, hown, hts⟩ (hru _ d kept aside images found base at0 size fault opened isRub names code coded pile needs traced traceMany who bitsOf sizeOf number lifted r_15 x r_17 traced_18 traceMany_19 hf_20) (cwV 2 hts gX12_shinesBy_X12_shinesBy rfl rfl rfl (by decide +kernel) ⟨show a + 1 ≤ a + 1 by omega, show 8 + (3 + 11) + b ≤ b + 22 by omega⟩) (pvV hE hK hS sb (va_recv hK hP (ci := 12) (q0 := 0) rfl rfl)) rfl rfl hv.1 rfl (lv_room (Nat.le_of_ble_eq_true rfl)) dX12_shinesBy_65 ⟨Nat.le_of_ble_eq_true rfl, Nat.le_of_ble_eq_true rfl⟩) hS sb (Jn.same sb) (fun H locs hP hD hS => ?_)
  have hP : va_P D vwCl (wM cA ad d kept aside images found base at0 size fault opened isRub names code coded pile needs traced_18 traceMany_19 who bitsOf sizeOf number lifted) H := hP
  have hD : va_D A (wM cA ad d kept aside images found base at0 size fault opened isRub names code coded pile needs traced_18 traceMany_19 who bitsOf sizeOf number lifted) := hD
  have h := Option.some.inj h
  have ee0 : r_17 = rR := congrArg (fun q => q.1) h
  have ee1 : traced_18 = tracedR := congrArg (fun q => q.2.1) h
  have ee2 : traceMany_19 = traceManyR := congrArg (fun q => q.2.2) h
  subst ee0
  subst ee1
  subst ee2
  rw [← hQ]
  exact retI hx hb hr hlk hK hP hD hS dX12_shinesBy_68 ⟨Nat.le_of_ble_eq_true rfl, Nat.le_of_ble_eq_true rfl⟩
def fX12_shinesBy  : Nat → Int32 → Int32 → (Nat → Int32) → Int32 → Int32 → Option (Int32 × (Nat → Int32) × Int32)
  | 0, _, _, _, _, _ => none
  | n + 1, ki, x, traced, traceMany, who => fbX12_shinesBy (fX12_shinesBy n) ki x traced traceMany who
theorem c_X12_shinesBy_n (n : Nat) (l : Launch) (G : Nat → Nat) (D : va_G) (cA : Nat → ClassId) (ad : Nat → Nat) (sz : Nat) (d : Nat → Int32) (kept : Nat → Int32) (aside : Nat → Int32) (images : Int32) (found : Nat → Int32) (base : Int32) (at0 : Int32) (size : Int32) (fault : Int32) (opened : Int32) (isRub : Int32) (names : Nat → Int32) (code : Nat → Int32) (coded : Int32) (pile : Nat → Int32) (needs : Nat → Int32) (traced : Nat → Int32) (traceMany : Int32) (who : Int32) (bitsOf : Nat → Int32) (sizeOf : Nat → Int32) (number : Nat → Int32) (lifted : Nat → Int32) (ki : Int32) (x : Int32) (rR : Int32) (tracedR : Nat → Int32) (traceManyR : Int32) (h : fX12_shinesBy n ki x traced traceMany who = some (rR, tracedR, traceManyR)) : Met l yX12_shinesBy wsX12_shinesBy ({ frames := 1 * n, cells := 0, slots := 0, locals := 22 * n } : Room) (PW G D (tyC cA) sz (wM cA ad d kept aside images found base at0 size fault opened isRub names code coded pile needs traced traceMany who bitsOf sizeOf number lifted) [.ref (ad 0), .int ki, .int x]) (QI D (tyC cA) (va_A (wM cA ad d kept aside images found base at0 size fault opened isRub names code coded pile needs traced traceMany who bitsOf sizeOf number lifted) sz) rR (wM cA ad d kept aside images found base at0 size fault opened isRub names code coded pile needs tracedR traceManyR who bitsOf sizeOf number lifted)) 0 0 (va_A (wM cA ad d kept aside images found base at0 size fault opened isRub names code coded pile needs traced traceMany who bitsOf sizeOf number lifted) sz) := by
  induction n generalizing sz d kept aside images found base at0 size fault opened isRub names code coded pile needs traced traceMany who bitsOf sizeOf number lifted ki x rR tracedR traceManyR with
  | zero => cases h
  | succ n ih => exact cb_X12_shinesBy l G D cA ad sz d kept aside images found base at0 size fault opened isRub names code coded pile needs traced traceMany who bitsOf sizeOf number lifted (fX12_shinesBy n) (1 * n) (22 * n) ih ki x rR tracedR traceManyR h

def fbX12_holdsBy (ru : Int32 → Int32 → (Nat → Int32) → (Nat → Int32) → Int32 → Int32 → Option (Int32 × (Nat → Int32) × Int32)) (ki : Int32) (x : Int32) (d : Nat → Int32) (traced : Nat → Int32) (traceMany : Int32) (who : Int32) : Option (Int32 × (Nat → Int32) × Int32) :=
  (if ki = (0 : Int32) then bd (fX12_ran (12 : Int32) traced traceMany) fun (traced_2, traceMany_3) => bd (fX12_of who (1 : Int32) d) fun r_5 => some ((x - r_5), traced_2, traceMany_3) else (if ki = (3 : Int32) then bd (fX12_ran (40 : Int32) traced traceMany) fun (traced_8, traceMany_9) => bd (fX12_above (3 : Int32)) fun r_11 => bd (ru r_11 x d traced_8 traceMany_9 who) fun (r_13, traced_14, traceMany_15) => some ((-r_13), traced_14, traceMany_15) else (if ki = (6 : Int32) then bd (fX12_ran (70 : Int32) traced traceMany) fun (traced_18, traceMany_19) => bd (fX12_above (6 : Int32)) fun r_21 => bd (ru r_21 x d traced_18 traceMany_19 who) fun (r_23, traced_24, traceMany_25) => some ((r_23 ^^^ who), traced_24, traceMany_25) else bd (fX12_above ki) fun r_27 => bd (ru r_27 x d traced traceMany who) fun (r_29, traced_30, traceMany_31) => some (r_29, traced_30, traceMany_31))))
set_option maxHeartbeats 4000000 in
set_option maxRecDepth 100000 in
theorem cb_X12_holdsBy (l : Launch) (G : Nat → Nat) (D : va_G) (cA : Nat → ClassId) (ad : Nat → Nat) (sz : Nat) (d : Nat → Int32) (kept : Nat → Int32) (aside : Nat → Int32) (images : Int32) (found : Nat → Int32) (base : Int32) (at0 : Int32) (size : Int32) (fault : Int32) (opened : Int32) (isRub : Int32) (names : Nat → Int32) (code : Nat → Int32) (coded : Int32) (pile : Nat → Int32) (needs : Nat → Int32) (traced : Nat → Int32) (traceMany : Int32) (who : Int32) (bitsOf : Nat → Int32) (sizeOf : Nat → Int32) (number : Nat → Int32) (lifted : Nat → Int32) (ru : Int32 → Int32 → (Nat → Int32) → (Nat → Int32) → Int32 → Int32 → Option (Int32 × (Nat → Int32) × Int32)) (a b : Nat) (hru : ∀ (sz : Nat) (d : Nat → Int32) (kept : Nat → Int32) (aside : Nat → Int32) (images : Int32) (found : Nat → Int32) (base : Int32) (at0 : Int32) (size : Int32) (fault : Int32) (opened : Int32) (isRub : Int32) (names : Nat → Int32) (code : Nat → Int32) (coded : Int32) (pile : Nat → Int32) (needs : Nat → Int32) (traced : Nat → Int32) (traceMany : Int32) (who : Int32) (bitsOf : Nat → Int32) (sizeOf : Nat → Int32) (number : Nat → Int32) (lifted : Nat → Int32) (ki : Int32) (x : Int32) (rR : Int32) (tracedR : Nat → Int32) (traceManyR : Int32), ru ki x d traced traceMany who = some (rR, tracedR, traceManyR) → Met l yX12_holdsBy wsX12_holdsBy ({ frames := a, cells := 0, slots := 0, locals := b } : Room) (PW G D (tyC cA) sz (wM cA ad d kept aside images found base at0 size fault opened isRub names code coded pile needs traced traceMany who bitsOf sizeOf number lifted) [.ref (ad 0), .int ki, .int x]) (QI D (tyC cA) (va_A (wM cA ad d kept aside images found base at0 size fault opened isRub names code coded pile needs traced traceMany who bitsOf sizeOf number lifted) sz) rR (wM cA ad d kept aside images found base at0 size fault opened isRub names code coded pile needs tracedR traceManyR who bitsOf sizeOf number lifted)) 0 0 (va_A (wM cA ad d kept aside images found base at0 size fault opened isRub names code coded pile needs traced traceMany who bitsOf sizeOf number lifted) sz)) (ki : Int32) (x : Int32) (rR : Int32) (tracedR : Nat → Int32) (traceManyR : Int32) (h : fbX12_holdsBy ru ki x d traced traceMany who = some (rR, tracedR, traceManyR)) : Met l yX12_holdsBy wsX12_holdsBy ({ frames := a + 1, cells := 0, slots := 0, locals := b + 22 } : Room) (PW G D (tyC cA) sz (wM cA ad d kept aside images found base at0 size fault opened isRub names code coded pile needs traced traceMany who bitsOf sizeOf number lifted) [.ref (ad 0), .int ki, .int x]) (QI D (tyC cA) (va_A (wM cA ad d kept aside images found base at0 size fault opened isRub names code coded pile needs traced traceMany who bitsOf sizeOf number lifted) sz) rR (wM cA ad d kept aside images found base at0 size fault opened isRub names code coded pile needs tracedR traceManyR who bitsOf sizeOf number lifted)) 0 0 (va_A (wM cA ad d kept aside images found base at0 size fault opened isRub names code coded pile needs traced traceMany who bitsOf sizeOf number lifted) sz) := by
  refine ent (cc := cX12_holdsBy) (maxL := 3) (ret := (some .int)) (fun A => QI D (tyC cA) A rR (wM cA ad d kept aside images found base at0 size fault opened isRub names code coded pile needs tracedR traceManyR who bitsOf sizeOf number lifted)) (by decide +kernel) rfl (Nat.le_of_ble_eq_true rfl) ?_
  intro p e s m args below meth c A ls H hx hb hml hr hlk hts hown hA hK hE hP hD hS hv hmm
  have hv : lv_has ls 3 [(0, .ref (ad 0)), (1, .int ki), (2, .int x)] := hv
  have in_12 : ∀ w ∈ u_ws RX12 TX12 23, w ∈ wsX12_holdsBy := fun _ h => List.mem_cons_of_mem _ (List.mem_append_right _ h)
  have w_0 := hts (.fieldLink RX12 283 "SpoonsLastModel" "who" "I") (List.mem_of_getElem? (i := 1) rfl)
  generalize hQ : MQ below _ args s 0 0 A = Q
  have hP : va_P D vwCl (wM cA ad d kept aside images found base at0 size fault opened isRub names code coded pile needs traced traceMany who bitsOf sizeOf number lifted) H := hP
  unfold fbX12_holdsBy at h
  refine lv_iload_n hx hb dX12_holdsBy_0 rfl (lv_at hv 1 rfl) ?_
  by_cases c_1 : ki = (0 : Int32)
  · refine lv_lookup (tgt := 36) (off := 35) hx hb dX12_holdsBy_1 (by decide) (by rw [c_1]; rfl) (by decide) ?_
    have h := ite_t c_1 h
    refine lv_aload_n hx hb dX12_holdsBy_36 rfl (lv_at hv 0 rfl) ?_
    refine lv_bipush (v := (12 : Int32)) hx hb dX12_holdsBy_37 (by decide) ?_
    obtain ⟨⟨traced_2, traceMany_3⟩, hf_4, h⟩ := bd_ex h
    have sb := Sb.same hP hD hS hA
    refine calV (va_runV (As := [.int (12 : Int32)]) (rest := []) ⟨hx, hb, hml, hown, hts⟩ (c_X12_ran l G D cA ad _ d kept aside images found base at0 size fault opened isRub names code coded pile needs traced traceMany who bitsOf sizeOf number lifted (12 : Int32) traced_2 traceMany_3 hf_4) (cwV 1 hts gX12_holdsBy_X12_ran rfl rfl rfl (by decide +kernel) ⟨show 0 + 1 ≤ a + 1 by omega, show 8 + (2 + 11) + 0 ≤ b + 22 by omega⟩) (pvV hE hK hS sb (va_recv hK hP (ci := 12) (q0 := 0) rfl rfl)) rfl rfl hv.1 rfl (lv_room (Nat.le_of_ble_eq_true rfl)) dX12_holdsBy_39 ⟨Nat.le_of_ble_eq_true rfl, Nat.le_of_ble_eq_true rfl⟩) hS sb (Jn.same sb) (fun H locs hP hD hS => ?_)
    have hP : va_P D vwCl (wM cA ad d kept aside images found base at0 size fault opened isRub names code coded pile needs traced_2 traceMany_3 who bitsOf sizeOf number lifted) H := hP
    have hD : va_D A (wM cA ad d kept aside images found base at0 size fault opened isRub names code coded pile needs traced_2 traceMany_3 who bitsOf sizeOf number lifted) := hD
    refine lv_iload_n hx hb dX12_holdsBy_42 rfl (lv_at hv 2 rfl) ?_
    refine lv_aload_n hx hb dX12_holdsBy_43 rfl (lv_at hv 0 rfl) ?_
    refine lv_aload_n hx hb dX12_holdsBy_44 rfl (lv_at hv 0 rfl) ?_
    refine va_get (D := D) (ci := 12) (v := .int who) (C := RX12) (T := TX12) (N := 23) hx hb hts in_12 hown hK hP 0 rfl rfl 18 (by decide) w_0 (fun _ h9 => h9) rfl dX12_holdsBy_45 ?_
    refine lv_iconst (v := (1 : Int32)) hx hb dX12_holdsBy_48 (by decide) ?_
    obtain ⟨r_5, hf_6, h⟩ := bd_ex h
    have sb := Sb.same hP hD hS hA
    refine calI (va_runV (As := [.int who, .int (1 : Int32)]) (rest := [.int x]) ⟨hx, hb, hml, hown, hts⟩ (c_X12_of l G D cA ad _ d kept aside images found base at0 size fault opened isRub names code coded pile needs traced_2 traceMany_3 who bitsOf sizeOf number lifted who (1 : Int32) r_5 hf_6) (cwV 2 hts gX12_holdsBy_X12_of rfl rfl rfl (by decide +kernel) ⟨show 0 + 1 ≤ a + 1 by omega, show 8 + (3 + 11) + 0 ≤ b + 22 by omega⟩) (pvV hE hK hS sb (va_recv hK hP (ci := 12) (q0 := 0) rfl rfl)) rfl rfl hv.1 rfl (lv_room (Nat.le_of_ble_eq_true rfl)) dX12_holdsBy_49 ⟨Nat.le_of_ble_eq_true rfl, Nat.le_of_ble_eq_true rfl⟩) hS sb (Jn.same sb) (fun H locs hP hD hS => ?_)
    have hP : va_P D vwCl (wM cA ad d kept aside images found base at0 size fault opened isRub names code coded pile needs traced_2 traceMany_3 who bitsOf sizeOf number lifted) H := hP
    have hD : va_D A (wM cA ad d kept aside images found base at0 size fault opened isRub names code coded pile needs traced_2 traceMany_3 who bitsOf sizeOf number lifted) := hD
    refine lv_isub hx hb dX12_holdsBy_52 ?_
    have h := Option.some.inj h
    have ee0 : (x - r_5) = rR := congrArg (fun q => q.1) h
    have ee1 : traced_2 = tracedR := congrArg (fun q => q.2.1) h
    have ee2 : traceMany_3 = traceManyR := congrArg (fun q => q.2.2) h
    subst ee0
    subst ee1
    subst ee2
    rw [← hQ]
    exact retI hx hb hr hlk hK hP hD hS dX12_holdsBy_53 ⟨Nat.le_of_ble_eq_true rfl, Nat.le_of_ble_eq_true rfl⟩
  have h := ite_f c_1 h
  by_cases c_7 : ki = (3 : Int32)
  · refine lv_lookup (tgt := 54) (off := 53) hx hb dX12_holdsBy_1 (by decide) (by rw [c_7]; rfl) (by decide) ?_
    have h := ite_t c_7 h
    refine lv_aload_n hx hb dX12_holdsBy_54 rfl (lv_at hv 0 rfl) ?_
    refine lv_bipush (v := (40 : Int32)) hx hb dX12_holdsBy_55 (by decide) ?_
    obtain ⟨⟨traced_8, traceMany_9⟩, hf_10, h⟩ := bd_ex h
    have sb := Sb.same hP hD hS hA
    refine calV (va_runV (As := [.int (40 : Int32)]) (rest := []) ⟨hx, hb, hml, hown, hts⟩ (c_X12_ran l G D cA ad _ d kept aside images found base at0 size fault opened isRub names code coded pile needs traced traceMany who bitsOf sizeOf number lifted (40 : Int32) traced_8 traceMany_9 hf_10) (cwV 1 hts gX12_holdsBy_X12_ran rfl rfl rfl (by decide +kernel) ⟨show 0 + 1 ≤ a + 1 by omega, show 8 + (2 + 11) + 0 ≤ b + 22 by omega⟩) (pvV hE hK hS sb (va_recv hK hP (ci := 12) (q0 := 0) rfl rfl)) rfl rfl hv.1 rfl (lv_room (Nat.le_of_ble_eq_true rfl)) dX12_holdsBy_57 ⟨Nat.le_of_ble_eq_true rfl, Nat.le_of_ble_eq_true rfl⟩) hS sb (Jn.same sb) (fun H locs hP hD hS => ?_)
    have hP : va_P D vwCl (wM cA ad d kept aside images found base at0 size fault opened isRub names code coded pile needs traced_8 traceMany_9 who bitsOf sizeOf number lifted) H := hP
    have hD : va_D A (wM cA ad d kept aside images found base at0 size fault opened isRub names code coded pile needs traced_8 traceMany_9 who bitsOf sizeOf number lifted) := hD
    refine lv_aload_n hx hb dX12_holdsBy_60 rfl (lv_at hv 0 rfl) ?_
    refine lv_iconst (v := (3 : Int32)) hx hb dX12_holdsBy_61 (by decide) ?_
    obtain ⟨r_11, hf_12, h⟩ := bd_ex h
    have sb := Sb.nil hP hD hS hA
    refine calI (va_runS (As := [.int (3 : Int32)]) (rest := [.ref (ad 0)]) ⟨hx, hb, hml, hown, hts⟩ (c_X12_above l G D cA  _ (3 : Int32) r_11 hf_12) (va_cwS 1 hts gX12_holdsBy_X12_above rfl rfl rfl (by decide +kernel) ⟨show 0 + 1 ≤ a + 1 by omega, show 8 + (1 + 11) + 0 ≤ b + 22 by omega⟩) (pvS hE hK hS sb) rfl rfl hv.1 rfl (lv_room (Nat.le_of_ble_eq_true rfl)) dX12_holdsBy_62 ⟨Nat.le_of_ble_eq_true rfl, Nat.le_of_ble_eq_true rfl⟩) hS sb (Jn.nil hP hD) (fun H locs hP hD hS => ?_)
    have hP : va_P D vwCl (wM cA ad d kept aside images found base at0 size fault opened isRub names code coded pile needs traced_8 traceMany_9 who bitsOf sizeOf number lifted) H := hP
    have hD : va_D A (wM cA ad d kept aside images found base at0 size fault opened isRub names code coded pile needs traced_8 traceMany_9 who bitsOf sizeOf number lifted) := hD
    refine lv_iload_n hx hb dX12_holdsBy_65 rfl (lv_at hv 2 rfl) ?_
    obtain ⟨⟨r_13, traced_14, traceMany_15⟩, hf_16, h⟩ := bd_ex h
    have sb := Sb.same hP hD hS hA
    refine calI (va_runV (As := [.int r_11, .int x]) (rest := []) ⟨hx, hb, hml, hown, hts⟩ (hru _ d kept aside images found base at0 size fault opened isRub names code coded pile needs traced_8 traceMany_9 who bitsOf sizeOf number lifted r_11 x r_13 traced_14 traceMany_15 hf_16) (cwV 2 hts gX12_holdsBy_X12_holdsBy rfl rfl rfl (by decide +kernel) ⟨show a + 1 ≤ a + 1 by omega, show 8 + (3 + 11) + b ≤ b + 22 by omega⟩) (pvV hE hK hS sb (va_recv hK hP (ci := 12) (q0 := 0) rfl rfl)) rfl rfl hv.1 rfl (lv_room (Nat.le_of_ble_eq_true rfl)) dX12_holdsBy_66 ⟨Nat.le_of_ble_eq_true rfl, Nat.le_of_ble_eq_true rfl⟩) hS sb (Jn.same sb) (fun H locs hP hD hS => ?_)
    have hP : va_P D vwCl (wM cA ad d kept aside images found base at0 size fault opened isRub names code coded pile needs traced_14 traceMany_15 who bitsOf sizeOf number lifted) H := hP
    have hD : va_D A (wM cA ad d kept aside images found base at0 size fault opened isRub names code coded pile needs traced_14 traceMany_15 who bitsOf sizeOf number lifted) := hD
    refine lv_ineg hx hb dX12_holdsBy_69 ?_
    have h := Option.some.inj h
    have ee0 : (-r_13) = rR := congrArg (fun q => q.1) h
    have ee1 : traced_14 = tracedR := congrArg (fun q => q.2.1) h
    have ee2 : traceMany_15 = traceManyR := congrArg (fun q => q.2.2) h
    subst ee0
    subst ee1
    subst ee2
    rw [← hQ]
    exact retI hx hb hr hlk hK hP hD hS dX12_holdsBy_70 ⟨Nat.le_of_ble_eq_true rfl, Nat.le_of_ble_eq_true rfl⟩
  have h := ite_f c_7 h
  by_cases c_17 : ki = (6 : Int32)
  · refine lv_lookup (tgt := 71) (off := 70) hx hb dX12_holdsBy_1 (by decide) (by rw [c_17]; rfl) (by decide) ?_
    have h := ite_t c_17 h
    refine lv_aload_n hx hb dX12_holdsBy_71 rfl (lv_at hv 0 rfl) ?_
    refine lv_bipush (v := (70 : Int32)) hx hb dX12_holdsBy_72 (by decide) ?_
    obtain ⟨⟨traced_18, traceMany_19⟩, hf_20, h⟩ := bd_ex h
    have sb := Sb.same hP hD hS hA
    refine calV (va_runV (As := [.int (70 : Int32)]) (rest := []) ⟨hx, hb, hml, hown, hts⟩ (c_X12_ran l G D cA ad _ d kept aside images found base at0 size fault opened isRub names code coded pile needs traced traceMany who bitsOf sizeOf number lifted (70 : Int32) traced_18 traceMany_19 hf_20) (cwV 1 hts gX12_holdsBy_X12_ran rfl rfl rfl (by decide +kernel) ⟨show 0 + 1 ≤ a + 1 by omega, show 8 + (2 + 11) + 0 ≤ b + 22 by omega⟩) (pvV hE hK hS sb (va_recv hK hP (ci := 12) (q0 := 0) rfl rfl)) rfl rfl hv.1 rfl (lv_room (Nat.le_of_ble_eq_true rfl)) dX12_holdsBy_74 ⟨Nat.le_of_ble_eq_true rfl, Nat.le_of_ble_eq_true rfl⟩) hS sb (Jn.same sb) (fun H locs hP hD hS => ?_)
    have hP : va_P D vwCl (wM cA ad d kept aside images found base at0 size fault opened isRub names code coded pile needs traced_18 traceMany_19 who bitsOf sizeOf number lifted) H := hP
    have hD : va_D A (wM cA ad d kept aside images found base at0 size fault opened isRub names code coded pile needs traced_18 traceMany_19 who bitsOf sizeOf number lifted) := hD
    refine lv_aload_n hx hb dX12_holdsBy_77 rfl (lv_at hv 0 rfl) ?_
    refine lv_bipush (v := (6 : Int32)) hx hb dX12_holdsBy_78 (by decide) ?_
    obtain ⟨r_21, hf_22, h⟩ := bd_ex h
    have sb := Sb.nil hP hD hS hA
    refine calI (va_runS (As := [.int (6 : Int32)]) (rest := [.ref (ad 0)]) ⟨hx, hb, hml, hown, hts⟩ (c_X12_above l G D cA  _ (6 : Int32) r_21 hf_22) (va_cwS 1 hts gX12_holdsBy_X12_above rfl rfl rfl (by decide +kernel) ⟨show 0 + 1 ≤ a + 1 by omega, show 8 + (1 + 11) + 0 ≤ b + 22 by omega⟩) (pvS hE hK hS sb) rfl rfl hv.1 rfl (lv_room (Nat.le_of_ble_eq_true rfl)) dX12_holdsBy_80 ⟨Nat.le_of_ble_eq_true rfl, Nat.le_of_ble_eq_true rfl⟩) hS sb (Jn.nil hP hD) (fun H locs hP hD hS => ?_)
    have hP : va_P D vwCl (wM cA ad d kept aside images found base at0 size fault opened isRub names code coded pile needs traced_18 traceMany_19 who bitsOf sizeOf number lifted) H := hP
    have hD : va_D A (wM cA ad d kept aside images found base at0 size fault opened isRub names code coded pile needs traced_18 traceMany_19 who bitsOf sizeOf number lifted) := hD
    refine lv_iload_n hx hb dX12_holdsBy_83 rfl (lv_at hv 2 rfl) ?_
    obtain ⟨⟨r_23, traced_24, traceMany_25⟩, hf_26, h⟩ := bd_ex h
    have sb := Sb.same hP hD hS hA
    refine calI (va_runV (As := [.int r_21, .int x]) (rest := []) ⟨hx, hb, hml, hown, hts⟩ (hru _ d kept aside images found base at0 size fault opened isRub names code coded pile needs traced_18 traceMany_19 who bitsOf sizeOf number lifted r_21 x r_23 traced_24 traceMany_25 hf_26) (cwV 2 hts gX12_holdsBy_X12_holdsBy rfl rfl rfl (by decide +kernel) ⟨show a + 1 ≤ a + 1 by omega, show 8 + (3 + 11) + b ≤ b + 22 by omega⟩) (pvV hE hK hS sb (va_recv hK hP (ci := 12) (q0 := 0) rfl rfl)) rfl rfl hv.1 rfl (lv_room (Nat.le_of_ble_eq_true rfl)) dX12_holdsBy_84 ⟨Nat.le_of_ble_eq_true rfl, Nat.le_of_ble_eq_true rfl⟩) hS sb (Jn.same sb) (fun H locs hP hD hS => ?_)
    have hP : va_P D vwCl (wM cA ad d kept aside images found base at0 size fault opened isRub names code coded pile needs traced_24 traceMany_25 who bitsOf sizeOf number lifted) H := hP
    have hD : va_D A (wM cA ad d kept aside images found base at0 size fault opened isRub names code coded pile needs traced_24 traceMany_25 who bitsOf sizeOf number lifted) := hD
    refine lv_aload_n hx hb dX12_holdsBy_87 rfl (lv_at hv 0 rfl) ?_
    refine va_get (D := D) (ci := 12) (v := .int who) (C := RX12) (T := TX12) (N := 23) hx hb hts in_12 hown hK hP 0 rfl rfl 18 (by decide) w_0 (fun _ h9 => h9) rfl dX12_holdsBy_88 ?_
    refine lv_ixor hx hb dX12_holdsBy_91 ?_
    have h := Option.some.inj h
    have ee0 : (r_23 ^^^ who) = rR := congrArg (fun q => q.1) h
    have ee1 : traced_24 = tracedR := congrArg (fun q => q.2.1) h
    have ee2 : traceMany_25 = traceManyR := congrArg (fun q => q.2.2) h
    subst ee0
    subst ee1
    subst ee2
    rw [← hQ]
    exact retI hx hb hr hlk hK hP hD hS dX12_holdsBy_92 ⟨Nat.le_of_ble_eq_true rfl, Nat.le_of_ble_eq_true rfl⟩
  have h := ite_f c_17 h
  refine lv_lookup (tgt := 93) (off := 92) hx hb dX12_holdsBy_1 (by decide) (by show Op.lookupswitch.offset [(0, 35), (3, 53), (6, 70)] (92) _ = _; rw [lv_osw (a := 0) c_1 (by decide), lv_osw (a := 3) c_7 (by decide), lv_osw (a := 6) c_17 (by decide)]; rfl) (by decide) ?_
  refine lv_aload_n hx hb dX12_holdsBy_93 rfl (lv_at hv 0 rfl) ?_
  refine lv_iload_n hx hb dX12_holdsBy_94 rfl (lv_at hv 1 rfl) ?_
  obtain ⟨r_27, hf_28, h⟩ := bd_ex h
  have sb := Sb.nil hP hD hS hA
  refine calI (va_runS (As := [.int ki]) (rest := [.ref (ad 0)]) ⟨hx, hb, hml, hown, hts⟩ (c_X12_above l G D cA  _ ki r_27 hf_28) (va_cwS 1 hts gX12_holdsBy_X12_above rfl rfl rfl (by decide +kernel) ⟨show 0 + 1 ≤ a + 1 by omega, show 8 + (1 + 11) + 0 ≤ b + 22 by omega⟩) (pvS hE hK hS sb) rfl rfl hv.1 rfl (lv_room (Nat.le_of_ble_eq_true rfl)) dX12_holdsBy_95 ⟨Nat.le_of_ble_eq_true rfl, Nat.le_of_ble_eq_true rfl⟩) hS sb (Jn.nil hP hD) (fun H locs hP hD hS => ?_)
  have hP : va_P D vwCl (wM cA ad d kept aside images found base at0 size fault opened isRub names code coded pile needs traced traceMany who bitsOf sizeOf number lifted) H := hP
  have hD : va_D A (wM cA ad d kept aside images found base at0 size fault opened isRub names code coded pile needs traced traceMany who bitsOf sizeOf number lifted) := hD
  refine lv_iload_n hx hb dX12_holdsBy_98 rfl (lv_at hv 2 rfl) ?_
  obtain ⟨⟨r_29, traced_30, traceMany_31⟩, hf_32, h⟩ := bd_ex h
  have sb := Sb.same hP hD hS hA
  refine calI (va_runV (As := [.int r_27, .int x]) (rest := []) ⟨hx, hb, hml, hown, hts⟩ (hru _ d kept aside images found base at0 size fault opened isRub names code coded pile needs traced traceMany who bitsOf sizeOf number lifted r_27 x r_29 traced_30 traceMany_31 hf_32) (cwV 2 hts gX12_holdsBy_X12_holdsBy rfl rfl rfl (by decide +kernel) ⟨show a + 1 ≤ a + 1 by omega, show 8 + (3 + 11) + b ≤ b + 22 by omega⟩) (pvV hE hK hS sb (va_recv hK hP (ci := 12) (q0 := 0) rfl rfl)) rfl rfl hv.1 rfl (lv_room (Nat.le_of_ble_eq_true rfl)) dX12_holdsBy_99 ⟨Nat.le_of_ble_eq_true rfl, Nat.le_of_ble_eq_true rfl⟩) hS sb (Jn.same sb) (fun H locs hP hD hS => ?_)
  have hP : va_P D vwCl (wM cA ad d kept aside images found base at0 size fault opened isRub names code coded pile needs traced_30 traceMany_31 who bitsOf sizeOf number lifted) H := hP
  have hD : va_D A (wM cA ad d kept aside images found base at0 size fault opened isRub names code coded pile needs traced_30 traceMany_31 who bitsOf sizeOf number lifted) := hD
  have h := Option.some.inj h
  have ee0 : r_29 = rR := congrArg (fun q => q.1) h
  have ee1 : traced_30 = tracedR := congrArg (fun q => q.2.1) h
  have ee2 : traceMany_31 = traceManyR := congrArg (fun q => q.2.2) h
  subst ee0
  subst ee1
  subst ee2
  rw [← hQ]
  exact retI hx hb hr hlk hK hP hD hS dX12_holdsBy_102 ⟨Nat.le_of_ble_eq_true rfl, Nat.le_of_ble_eq_true rfl⟩
def fX12_holdsBy  : Nat → Int32 → Int32 → (Nat → Int32) → (Nat → Int32) → Int32 → Int32 → Option (Int32 × (Nat → Int32) × Int32)
  | 0, _, _, _, _, _, _ => none
  | n + 1, ki, x, d, traced, traceMany, who => fbX12_holdsBy (fX12_holdsBy n) ki x d traced traceMany who
theorem c_X12_holdsBy_n (n : Nat) (l : Launch) (G : Nat → Nat) (D : va_G) (cA : Nat → ClassId) (ad : Nat → Nat) (sz : Nat) (d : Nat → Int32) (kept : Nat → Int32) (aside : Nat → Int32) (images : Int32) (found : Nat → Int32) (base : Int32) (at0 : Int32) (size : Int32) (fault : Int32) (opened : Int32) (isRub : Int32) (names : Nat → Int32) (code : Nat → Int32) (coded : Int32) (pile : Nat → Int32) (needs : Nat → Int32) (traced : Nat → Int32) (traceMany : Int32) (who : Int32) (bitsOf : Nat → Int32) (sizeOf : Nat → Int32) (number : Nat → Int32) (lifted : Nat → Int32) (ki : Int32) (x : Int32) (rR : Int32) (tracedR : Nat → Int32) (traceManyR : Int32) (h : fX12_holdsBy n ki x d traced traceMany who = some (rR, tracedR, traceManyR)) : Met l yX12_holdsBy wsX12_holdsBy ({ frames := 1 * n, cells := 0, slots := 0, locals := 22 * n } : Room) (PW G D (tyC cA) sz (wM cA ad d kept aside images found base at0 size fault opened isRub names code coded pile needs traced traceMany who bitsOf sizeOf number lifted) [.ref (ad 0), .int ki, .int x]) (QI D (tyC cA) (va_A (wM cA ad d kept aside images found base at0 size fault opened isRub names code coded pile needs traced traceMany who bitsOf sizeOf number lifted) sz) rR (wM cA ad d kept aside images found base at0 size fault opened isRub names code coded pile needs tracedR traceManyR who bitsOf sizeOf number lifted)) 0 0 (va_A (wM cA ad d kept aside images found base at0 size fault opened isRub names code coded pile needs traced traceMany who bitsOf sizeOf number lifted) sz) := by
  induction n generalizing sz d kept aside images found base at0 size fault opened isRub names code coded pile needs traced traceMany who bitsOf sizeOf number lifted ki x rR tracedR traceManyR with
  | zero => cases h
  | succ n ih => exact cb_X12_holdsBy l G D cA ad sz d kept aside images found base at0 size fault opened isRub names code coded pile needs traced traceMany who bitsOf sizeOf number lifted (fX12_holdsBy n) (1 * n) (22 * n) ih ki x rR tracedR traceManyR h

def fbX12_dullsBy (ru : Int32 → Int32 → (Nat → Int32) → (Nat → Int32) → Int32 → Int32 → Option (Int32 × (Nat → Int32) × Int32)) (ki : Int32) (x : Int32) (d : Nat → Int32) (traced : Nat → Int32) (traceMany : Int32) (who : Int32) : Option (Int32 × (Nat → Int32) × Int32) :=
  (if ki = (0 : Int32) then bd (fX12_ran (11 : Int32) traced traceMany) fun (traced_2, traceMany_3) => bd (fX12_of who (0 : Int32) d) fun r_5 => bd (fX12_shinesBy 8 r_5 x traced_2 traceMany_3 who) fun (r_7, traced_8, traceMany_9) => some ((r_7 * (2 : Int32)), traced_8, traceMany_9) else (if ki = (2 : Int32) then bd (fX12_ran (30 : Int32) traced traceMany) fun (traced_12, traceMany_13) => bd (fX12_above (2 : Int32)) fun r_15 => bd (ru r_15 x d traced_12 traceMany_13 who) fun (r_17, traced_18, traceMany_19) => bd (fX12_of who (0 : Int32) d) fun r_21 => bd (fX12_holdsBy 8 r_21 (1 : Int32) d traced_18 traceMany_19 who) fun (r_23, traced_24, traceMany_25) => some ((r_17 - r_23), traced_24, traceMany_25) else (if ki = (5 : Int32) then bd (fX12_ran (60 : Int32) traced traceMany) fun (traced_28, traceMany_29) => bd (fX12_above (5 : Int32)) fun r_31 => bd (ru r_31 (x + (1 : Int32)) d traced_28 traceMany_29 who) fun (r_33, traced_34, traceMany_35) => some (r_33, traced_34, traceMany_35) else bd (fX12_above ki) fun r_37 => bd (ru r_37 x d traced traceMany who) fun (r_39, traced_40, traceMany_41) => some (r_39, traced_40, traceMany_41))))
set_option maxHeartbeats 4000000 in
set_option maxRecDepth 100000 in
theorem cb_X12_dullsBy (l : Launch) (G : Nat → Nat) (D : va_G) (cA : Nat → ClassId) (ad : Nat → Nat) (sz : Nat) (d : Nat → Int32) (kept : Nat → Int32) (aside : Nat → Int32) (images : Int32) (found : Nat → Int32) (base : Int32) (at0 : Int32) (size : Int32) (fault : Int32) (opened : Int32) (isRub : Int32) (names : Nat → Int32) (code : Nat → Int32) (coded : Int32) (pile : Nat → Int32) (needs : Nat → Int32) (traced : Nat → Int32) (traceMany : Int32) (who : Int32) (bitsOf : Nat → Int32) (sizeOf : Nat → Int32) (number : Nat → Int32) (lifted : Nat → Int32) (ru : Int32 → Int32 → (Nat → Int32) → (Nat → Int32) → Int32 → Int32 → Option (Int32 × (Nat → Int32) × Int32)) (a b : Nat) (hru : ∀ (sz : Nat) (d : Nat → Int32) (kept : Nat → Int32) (aside : Nat → Int32) (images : Int32) (found : Nat → Int32) (base : Int32) (at0 : Int32) (size : Int32) (fault : Int32) (opened : Int32) (isRub : Int32) (names : Nat → Int32) (code : Nat → Int32) (coded : Int32) (pile : Nat → Int32) (needs : Nat → Int32) (traced : Nat → Int32) (traceMany : Int32) (who : Int32) (bitsOf : Nat → Int32) (sizeOf : Nat → Int32) (number : Nat → Int32) (lifted : Nat → Int32) (ki : Int32) (x : Int32) (rR : Int32) (tracedR : Nat → Int32) (traceManyR : Int32), ru ki x d traced traceMany who = some (rR, tracedR, traceManyR) → Met l yX12_dullsBy wsX12_dullsBy ({ frames := a, cells := 0, slots := 0, locals := b } : Room) (PW G D (tyC cA) sz (wM cA ad d kept aside images found base at0 size fault opened isRub names code coded pile needs traced traceMany who bitsOf sizeOf number lifted) [.ref (ad 0), .int ki, .int x]) (QI D (tyC cA) (va_A (wM cA ad d kept aside images found base at0 size fault opened isRub names code coded pile needs traced traceMany who bitsOf sizeOf number lifted) sz) rR (wM cA ad d kept aside images found base at0 size fault opened isRub names code coded pile needs tracedR traceManyR who bitsOf sizeOf number lifted)) 0 0 (va_A (wM cA ad d kept aside images found base at0 size fault opened isRub names code coded pile needs traced traceMany who bitsOf sizeOf number lifted) sz)) (ki : Int32) (x : Int32) (rR : Int32) (tracedR : Nat → Int32) (traceManyR : Int32) (h : fbX12_dullsBy ru ki x d traced traceMany who = some (rR, tracedR, traceManyR)) : Met l yX12_dullsBy wsX12_dullsBy ({ frames := a + 9, cells := 0, slots := 0, locals := b + 198 } : Room) (PW G D (tyC cA) sz (wM cA ad d kept aside images found base at0 size fault opened isRub names code coded pile needs traced traceMany who bitsOf sizeOf number lifted) [.ref (ad 0), .int ki, .int x]) (QI D (tyC cA) (va_A (wM cA ad d kept aside images found base at0 size fault opened isRub names code coded pile needs traced traceMany who bitsOf sizeOf number lifted) sz) rR (wM cA ad d kept aside images found base at0 size fault opened isRub names code coded pile needs tracedR traceManyR who bitsOf sizeOf number lifted)) 0 0 (va_A (wM cA ad d kept aside images found base at0 size fault opened isRub names code coded pile needs traced traceMany who bitsOf sizeOf number lifted) sz) := by
  refine ent (cc := cX12_dullsBy) (maxL := 4) (ret := (some .int)) (fun A => QI D (tyC cA) A rR (wM cA ad d kept aside images found base at0 size fault opened isRub names code coded pile needs tracedR traceManyR who bitsOf sizeOf number lifted)) (by decide +kernel) rfl (Nat.le_of_ble_eq_true rfl) ?_
  intro p e s m args below meth c A ls H hx hb hml hr hlk hts hown hA hK hE hP hD hS hv hmm
  have hv : lv_has ls 4 [(0, .ref (ad 0)), (1, .int ki), (2, .int x)] := hv
  have in_12 : ∀ w ∈ u_ws RX12 TX12 23, w ∈ wsX12_dullsBy := fun _ h => List.mem_cons_of_mem _ (List.mem_append_right _ h)
  have w_0 := hts (.fieldLink RX12 283 "SpoonsLastModel" "who" "I") (List.mem_of_getElem? (i := 1) rfl)
  generalize hQ : MQ below _ args s 0 0 A = Q
  have hP : va_P D vwCl (wM cA ad d kept aside images found base at0 size fault opened isRub names code coded pile needs traced traceMany who bitsOf sizeOf number lifted) H := hP
  unfold fbX12_dullsBy at h
  refine lv_iconst (v := (0 : Int32)) hx hb dX12_dullsBy_0 (by decide) ?_
  refine lv_istore_n (lv' := [(3, .int (0 : Int32)), (0, .ref (ad 0)), (1, .int ki), (2, .int x)]) hx hb dX12_dullsBy_1 rfl hv (by decide) rfl (fun ls hv => ?_)
  refine lv_iload_n hx hb dX12_dullsBy_2 rfl (lv_at hv 2 rfl) ?_
  by_cases c_1 : ki = (0 : Int32)
  · refine lv_lookup (tgt := 36) (off := 33) hx hb dX12_dullsBy_3 (by decide) (by rw [c_1]; rfl) (by decide) ?_
    have h := ite_t c_1 h
    refine lv_aload_n hx hb dX12_dullsBy_36 rfl (lv_at hv 1 rfl) ?_
    refine lv_bipush (v := (11 : Int32)) hx hb dX12_dullsBy_37 (by decide) ?_
    obtain ⟨⟨traced_2, traceMany_3⟩, hf_4, h⟩ := bd_ex h
    have sb := Sb.same hP hD hS hA
    refine calV (va_runV (As := [.int (11 : Int32)]) (rest := []) ⟨hx, hb, hml, hown, hts⟩ (c_X12_ran l G D cA ad _ d kept aside images found base at0 size fault opened isRub names code coded pile needs traced traceMany who bitsOf sizeOf number lifted (11 : Int32) traced_2 traceMany_3 hf_4) (cwV 1 hts gX12_dullsBy_X12_ran rfl rfl rfl (by decide +kernel) ⟨show 0 + 1 ≤ a + 9 by omega, show 8 + (2 + 11) + 0 ≤ b + 198 by omega⟩) (pvV hE hK hS sb (va_recv hK hP (ci := 12) (q0 := 0) rfl rfl)) rfl rfl hv.1 rfl (lv_room (Nat.le_of_ble_eq_true rfl)) dX12_dullsBy_39 ⟨Nat.le_of_ble_eq_true rfl, Nat.le_of_ble_eq_true rfl⟩) hS sb (Jn.same sb) (fun H locs hP hD hS => ?_)
    have hP : va_P D vwCl (wM cA ad d kept aside images found base at0 size fault opened isRub names code coded pile needs traced_2 traceMany_3 who bitsOf sizeOf number lifted) H := hP
    have hD : va_D A (wM cA ad d kept aside images found base at0 size fault opened isRub names code coded pile needs traced_2 traceMany_3 who bitsOf sizeOf number lifted) := hD
    refine lv_aload_n hx hb dX12_dullsBy_42 rfl (lv_at hv 1 rfl) ?_
    refine lv_aload_n hx hb dX12_dullsBy_43 rfl (lv_at hv 1 rfl) ?_
    refine lv_aload_n hx hb dX12_dullsBy_44 rfl (lv_at hv 1 rfl) ?_
    refine va_get (D := D) (ci := 12) (v := .int who) (C := RX12) (T := TX12) (N := 23) hx hb hts in_12 hown hK hP 0 rfl rfl 18 (by decide) w_0 (fun _ h9 => h9) rfl dX12_dullsBy_45 ?_
    refine lv_iconst (v := (0 : Int32)) hx hb dX12_dullsBy_48 (by decide) ?_
    obtain ⟨r_5, hf_6, h⟩ := bd_ex h
    have sb := Sb.same hP hD hS hA
    refine calI (va_runV (As := [.int who, .int (0 : Int32)]) (rest := [.ref (ad 0)]) ⟨hx, hb, hml, hown, hts⟩ (c_X12_of l G D cA ad _ d kept aside images found base at0 size fault opened isRub names code coded pile needs traced_2 traceMany_3 who bitsOf sizeOf number lifted who (0 : Int32) r_5 hf_6) (cwV 2 hts gX12_dullsBy_X12_of rfl rfl rfl (by decide +kernel) ⟨show 0 + 1 ≤ a + 9 by omega, show 8 + (3 + 11) + 0 ≤ b + 198 by omega⟩) (pvV hE hK hS sb (va_recv hK hP (ci := 12) (q0 := 0) rfl rfl)) rfl rfl hv.1 rfl (lv_room (Nat.le_of_ble_eq_true rfl)) dX12_dullsBy_49 ⟨Nat.le_of_ble_eq_true rfl, Nat.le_of_ble_eq_true rfl⟩) hS sb (Jn.same sb) (fun H locs hP hD hS => ?_)
    have hP : va_P D vwCl (wM cA ad d kept aside images found base at0 size fault opened isRub names code coded pile needs traced_2 traceMany_3 who bitsOf sizeOf number lifted) H := hP
    have hD : va_D A (wM cA ad d kept aside images found base at0 size fault opened isRub names code coded pile needs traced_2 traceMany_3 who bitsOf sizeOf number lifted) := hD
    refine lv_iload_n hx hb dX12_dullsBy_52 rfl (lv_at hv 3 rfl) ?_
    obtain ⟨⟨r_7, traced_8, traceMany_9⟩, hf_10, h⟩ := bd_ex h
    have sb := Sb.same hP hD hS hA
    refine calI (va_runV (As := [.int r_5, .int x]) (rest := []) ⟨hx, hb, hml, hown, hts⟩ (c_X12_shinesBy_n 8 l G D cA ad _ d kept aside images found base at0 size fault opened isRub names code coded pile needs traced_2 traceMany_3 who bitsOf sizeOf number lifted r_5 x r_7 traced_8 traceMany_9 hf_10) (cwV 2 hts gX12_dullsBy_X12_shinesBy rfl rfl rfl (by decide +kernel) ⟨show 8 + 1 ≤ a + 9 by omega, show 8 + (3 + 11) + 176 ≤ b + 198 by omega⟩) (pvV hE hK hS sb (va_recv hK hP (ci := 12) (q0 := 0) rfl rfl)) rfl rfl hv.1 rfl (lv_room (Nat.le_of_ble_eq_true rfl)) dX12_dullsBy_53 ⟨Nat.le_of_ble_eq_true rfl, Nat.le_of_ble_eq_true rfl⟩) hS sb (Jn.same sb) (fun H locs hP hD hS => ?_)
    have hP : va_P D vwCl (wM cA ad d kept aside images found base at0 size fault opened isRub names code coded pile needs traced_8 traceMany_9 who bitsOf sizeOf number lifted) H := hP
    have hD : va_D A (wM cA ad d kept aside images found base at0 size fault opened isRub names code coded pile needs traced_8 traceMany_9 who bitsOf sizeOf number lifted) := hD
    refine lv_iconst (v := (2 : Int32)) hx hb dX12_dullsBy_56 (by decide) ?_
    refine lv_imul hx hb dX12_dullsBy_57 ?_
    have h := Option.some.inj h
    have ee0 : (r_7 * (2 : Int32)) = rR := congrArg (fun q => q.1) h
    have ee1 : traced_8 = tracedR := congrArg (fun q => q.2.1) h
    have ee2 : traceMany_9 = traceManyR := congrArg (fun q => q.2.2) h
    subst ee0
    subst ee1
    subst ee2
    rw [← hQ]
    exact retI hx hb hr hlk hK hP hD hS dX12_dullsBy_58 ⟨Nat.le_of_ble_eq_true rfl, Nat.le_of_ble_eq_true rfl⟩
  have h := ite_f c_1 h
  by_cases c_11 : ki = (2 : Int32)
  · refine lv_lookup (tgt := 59) (off := 56) hx hb dX12_dullsBy_3 (by decide) (by rw [c_11]; rfl) (by decide) ?_
    have h := ite_t c_11 h
    refine lv_aload_n hx hb dX12_dullsBy_59 rfl (lv_at hv 1 rfl) ?_
    refine lv_bipush (v := (30 : Int32)) hx hb dX12_dullsBy_60 (by decide) ?_
    obtain ⟨⟨traced_12, traceMany_13⟩, hf_14, h⟩ := bd_ex h
    have sb := Sb.same hP hD hS hA
    refine calV (va_runV (As := [.int (30 : Int32)]) (rest := []) ⟨hx, hb, hml, hown, hts⟩ (c_X12_ran l G D cA ad _ d kept aside images found base at0 size fault opened isRub names code coded pile needs traced traceMany who bitsOf sizeOf number lifted (30 : Int32) traced_12 traceMany_13 hf_14) (cwV 1 hts gX12_dullsBy_X12_ran rfl rfl rfl (by decide +kernel) ⟨show 0 + 1 ≤ a + 9 by omega, show 8 + (2 + 11) + 0 ≤ b + 198 by omega⟩) (pvV hE hK hS sb (va_recv hK hP (ci := 12) (q0 := 0) rfl rfl)) rfl rfl hv.1 rfl (lv_room (Nat.le_of_ble_eq_true rfl)) dX12_dullsBy_62 ⟨Nat.le_of_ble_eq_true rfl, Nat.le_of_ble_eq_true rfl⟩) hS sb (Jn.same sb) (fun H locs hP hD hS => ?_)
    have hP : va_P D vwCl (wM cA ad d kept aside images found base at0 size fault opened isRub names code coded pile needs traced_12 traceMany_13 who bitsOf sizeOf number lifted) H := hP
    have hD : va_D A (wM cA ad d kept aside images found base at0 size fault opened isRub names code coded pile needs traced_12 traceMany_13 who bitsOf sizeOf number lifted) := hD
    refine lv_aload_n hx hb dX12_dullsBy_65 rfl (lv_at hv 1 rfl) ?_
    refine lv_iconst (v := (2 : Int32)) hx hb dX12_dullsBy_66 (by decide) ?_
    obtain ⟨r_15, hf_16, h⟩ := bd_ex h
    have sb := Sb.nil hP hD hS hA
    refine calI (va_runS (As := [.int (2 : Int32)]) (rest := [.ref (ad 0)]) ⟨hx, hb, hml, hown, hts⟩ (c_X12_above l G D cA  _ (2 : Int32) r_15 hf_16) (va_cwS 1 hts gX12_dullsBy_X12_above rfl rfl rfl (by decide +kernel) ⟨show 0 + 1 ≤ a + 9 by omega, show 8 + (1 + 11) + 0 ≤ b + 198 by omega⟩) (pvS hE hK hS sb) rfl rfl hv.1 rfl (lv_room (Nat.le_of_ble_eq_true rfl)) dX12_dullsBy_67 ⟨Nat.le_of_ble_eq_true rfl, Nat.le_of_ble_eq_true rfl⟩) hS sb (Jn.nil hP hD) (fun H locs hP hD hS => ?_)
    have hP : va_P D vwCl (wM cA ad d kept aside images found base at0 size fault opened isRub names code coded pile needs traced_12 traceMany_13 who bitsOf sizeOf number lifted) H := hP
    have hD : va_D A (wM cA ad d kept aside images found base at0 size fault opened isRub names code coded pile needs traced_12 traceMany_13 who bitsOf sizeOf number lifted) := hD
    refine lv_iload_n hx hb dX12_dullsBy_70 rfl (lv_at hv 3 rfl) ?_
    obtain ⟨⟨r_17, traced_18, traceMany_19⟩, hf_20, h⟩ := bd_ex h
    have sb := Sb.same hP hD hS hA
    refine calI (va_runV (As := [.int r_15, .int x]) (rest := []) ⟨hx, hb, hml, hown, hts⟩ (hru _ d kept aside images found base at0 size fault opened isRub names code coded pile needs traced_12 traceMany_13 who bitsOf sizeOf number lifted r_15 x r_17 traced_18 traceMany_19 hf_20) (cwV 2 hts gX12_dullsBy_X12_dullsBy rfl rfl rfl (by decide +kernel) ⟨show a + 1 ≤ a + 9 by omega, show 8 + (4 + 11) + b ≤ b + 198 by omega⟩) (pvV hE hK hS sb (va_recv hK hP (ci := 12) (q0 := 0) rfl rfl)) rfl rfl hv.1 rfl (lv_room (Nat.le_of_ble_eq_true rfl)) dX12_dullsBy_71 ⟨Nat.le_of_ble_eq_true rfl, Nat.le_of_ble_eq_true rfl⟩) hS sb (Jn.same sb) (fun H locs hP hD hS => ?_)
    have hP : va_P D vwCl (wM cA ad d kept aside images found base at0 size fault opened isRub names code coded pile needs traced_18 traceMany_19 who bitsOf sizeOf number lifted) H := hP
    have hD : va_D A (wM cA ad d kept aside images found base at0 size fault opened isRub names code coded pile needs traced_18 traceMany_19 who bitsOf sizeOf number lifted) := hD
    refine lv_istore_n (lv' := [(3, .int r_17), (0, .ref (ad 0)), (1, .int ki), (2, .int x)]) hx hb dX12_dullsBy_74 rfl hv (by decide) rfl (fun ls hv => ?_)
    refine lv_iload_n hx hb dX12_dullsBy_75 rfl (lv_at hv 0 rfl) ?_
    refine lv_aload_n hx hb dX12_dullsBy_76 rfl (lv_at hv 1 rfl) ?_
    refine lv_aload_n hx hb dX12_dullsBy_77 rfl (lv_at hv 1 rfl) ?_
    refine lv_aload_n hx hb dX12_dullsBy_78 rfl (lv_at hv 1 rfl) ?_
    refine va_get (D := D) (ci := 12) (v := .int who) (C := RX12) (T := TX12) (N := 23) hx hb hts in_12 hown hK hP 0 rfl rfl 18 (by decide) w_0 (fun _ h9 => h9) rfl dX12_dullsBy_79 ?_
    refine lv_iconst (v := (0 : Int32)) hx hb dX12_dullsBy_82 (by decide) ?_
    obtain ⟨r_21, hf_22, h⟩ := bd_ex h
    have sb := Sb.same hP hD hS hA
    refine calI (va_runV (As := [.int who, .int (0 : Int32)]) (rest := [.ref (ad 0), .int r_17]) ⟨hx, hb, hml, hown, hts⟩ (c_X12_of l G D cA ad _ d kept aside images found base at0 size fault opened isRub names code coded pile needs traced_18 traceMany_19 who bitsOf sizeOf number lifted who (0 : Int32) r_21 hf_22) (cwV 2 hts gX12_dullsBy_X12_of rfl rfl rfl (by decide +kernel) ⟨show 0 + 1 ≤ a + 9 by omega, show 8 + (3 + 11) + 0 ≤ b + 198 by omega⟩) (pvV hE hK hS sb (va_recv hK hP (ci := 12) (q0 := 0) rfl rfl)) rfl rfl hv.1 rfl (lv_room (Nat.le_of_ble_eq_true rfl)) dX12_dullsBy_83 ⟨Nat.le_of_ble_eq_true rfl, Nat.le_of_ble_eq_true rfl⟩) hS sb (Jn.same sb) (fun H locs hP hD hS => ?_)
    have hP : va_P D vwCl (wM cA ad d kept aside images found base at0 size fault opened isRub names code coded pile needs traced_18 traceMany_19 who bitsOf sizeOf number lifted) H := hP
    have hD : va_D A (wM cA ad d kept aside images found base at0 size fault opened isRub names code coded pile needs traced_18 traceMany_19 who bitsOf sizeOf number lifted) := hD
    refine lv_iconst (v := (1 : Int32)) hx hb dX12_dullsBy_86 (by decide) ?_
    obtain ⟨⟨r_23, traced_24, traceMany_25⟩, hf_26, h⟩ := bd_ex h
    have sb := Sb.same hP hD hS hA
    refine calI (va_runV (As := [.int r_21, .int (1 : Int32)]) (rest := [.int r_17]) ⟨hx, hb, hml, hown, hts⟩ (c_X12_holdsBy_n 8 l G D cA ad _ d kept aside images found base at0 size fault opened isRub names code coded pile needs traced_18 traceMany_19 who bitsOf sizeOf number lifted r_21 (1 : Int32) r_23 traced_24 traceMany_25 hf_26) (cwV 2 hts gX12_dullsBy_X12_holdsBy rfl rfl rfl (by decide +kernel) ⟨show 8 + 1 ≤ a + 9 by omega, show 8 + (3 + 11) + 176 ≤ b + 198 by omega⟩) (pvV hE hK hS sb (va_recv hK hP (ci := 12) (q0 := 0) rfl rfl)) rfl rfl hv.1 rfl (lv_room (Nat.le_of_ble_eq_true rfl)) dX12_dullsBy_87 ⟨Nat.le_of_ble_eq_true rfl, Nat.le_of_ble_eq_true rfl⟩) hS sb (Jn.same sb) (fun H locs hP hD hS => ?_)
    have hP : va_P D vwCl (wM cA ad d kept aside images found base at0 size fault opened isRub names code coded pile needs traced_24 traceMany_25 who bitsOf sizeOf number lifted) H := hP
    have hD : va_D A (wM cA ad d kept aside images found base at0 size fault opened isRub names code coded pile needs traced_24 traceMany_25 who bitsOf sizeOf number lifted) := hD
    refine lv_isub hx hb dX12_dullsBy_90 ?_
    have h := Option.some.inj h
    have ee0 : (r_17 - r_23) = rR := congrArg (fun q => q.1) h
    have ee1 : traced_24 = tracedR := congrArg (fun q => q.2.1) h
    have ee2 : traceMany_25 = traceManyR := congrArg (fun q => q.2.2) h
    subst ee0
    subst ee1
    subst ee2
    rw [← hQ]
    exact retI hx hb hr hlk hK hP hD hS dX12_dullsBy_91 ⟨Nat.le_of_ble_eq_true rfl, Nat.le_of_ble_eq_true rfl⟩
  have h := ite_f c_11 h
  by_cases c_27 : ki = (5 : Int32)
  · refine lv_lookup (tgt := 92) (off := 89) hx hb dX12_dullsBy_3 (by decide) (by rw [c_27]; rfl) (by decide) ?_
    have h := ite_t c_27 h
    refine lv_aload_n hx hb dX12_dullsBy_92 rfl (lv_at hv 1 rfl) ?_
    refine lv_bipush (v := (60 : Int32)) hx hb dX12_dullsBy_93 (by decide) ?_
    obtain ⟨⟨traced_28, traceMany_29⟩, hf_30, h⟩ := bd_ex h
    have sb := Sb.same hP hD hS hA
    refine calV (va_runV (As := [.int (60 : Int32)]) (rest := []) ⟨hx, hb, hml, hown, hts⟩ (c_X12_ran l G D cA ad _ d kept aside images found base at0 size fault opened isRub names code coded pile needs traced traceMany who bitsOf sizeOf number lifted (60 : Int32) traced_28 traceMany_29 hf_30) (cwV 1 hts gX12_dullsBy_X12_ran rfl rfl rfl (by decide +kernel) ⟨show 0 + 1 ≤ a + 9 by omega, show 8 + (2 + 11) + 0 ≤ b + 198 by omega⟩) (pvV hE hK hS sb (va_recv hK hP (ci := 12) (q0 := 0) rfl rfl)) rfl rfl hv.1 rfl (lv_room (Nat.le_of_ble_eq_true rfl)) dX12_dullsBy_95 ⟨Nat.le_of_ble_eq_true rfl, Nat.le_of_ble_eq_true rfl⟩) hS sb (Jn.same sb) (fun H locs hP hD hS => ?_)
    have hP : va_P D vwCl (wM cA ad d kept aside images found base at0 size fault opened isRub names code coded pile needs traced_28 traceMany_29 who bitsOf sizeOf number lifted) H := hP
    have hD : va_D A (wM cA ad d kept aside images found base at0 size fault opened isRub names code coded pile needs traced_28 traceMany_29 who bitsOf sizeOf number lifted) := hD
    refine lv_aload_n hx hb dX12_dullsBy_98 rfl (lv_at hv 1 rfl) ?_
    refine lv_iconst (v := (5 : Int32)) hx hb dX12_dullsBy_99 (by decide) ?_
    obtain ⟨r_31, hf_32, h⟩ := bd_ex h
    have sb := Sb.nil hP hD hS hA
    refine calI (va_runS (As := [.int (5 : Int32)]) (rest := [.ref (ad 0)]) ⟨hx, hb, hml, hown, hts⟩ (c_X12_above l G D cA  _ (5 : Int32) r_31 hf_32) (va_cwS 1 hts gX12_dullsBy_X12_above rfl rfl rfl (by decide +kernel) ⟨show 0 + 1 ≤ a + 9 by omega, show 8 + (1 + 11) + 0 ≤ b + 198 by omega⟩) (pvS hE hK hS sb) rfl rfl hv.1 rfl (lv_room (Nat.le_of_ble_eq_true rfl)) dX12_dullsBy_100 ⟨Nat.le_of_ble_eq_true rfl, Nat.le_of_ble_eq_true rfl⟩) hS sb (Jn.nil hP hD) (fun H locs hP hD hS => ?_)
    have hP : va_P D vwCl (wM cA ad d kept aside images found base at0 size fault opened isRub names code coded pile needs traced_28 traceMany_29 who bitsOf sizeOf number lifted) H := hP
    have hD : va_D A (wM cA ad d kept aside images found base at0 size fault opened isRub names code coded pile needs traced_28 traceMany_29 who bitsOf sizeOf number lifted) := hD
    refine lv_iload_n hx hb dX12_dullsBy_103 rfl (lv_at hv 3 rfl) ?_
    refine lv_iconst (v := (1 : Int32)) hx hb dX12_dullsBy_104 (by decide) ?_
    refine lv_iadd hx hb dX12_dullsBy_105 ?_
    obtain ⟨⟨r_33, traced_34, traceMany_35⟩, hf_36, h⟩ := bd_ex h
    have sb := Sb.same hP hD hS hA
    refine calI (va_runV (As := [.int r_31, .int (x + (1 : Int32))]) (rest := []) ⟨hx, hb, hml, hown, hts⟩ (hru _ d kept aside images found base at0 size fault opened isRub names code coded pile needs traced_28 traceMany_29 who bitsOf sizeOf number lifted r_31 (x + (1 : Int32)) r_33 traced_34 traceMany_35 hf_36) (cwV 2 hts gX12_dullsBy_X12_dullsBy rfl rfl rfl (by decide +kernel) ⟨show a + 1 ≤ a + 9 by omega, show 8 + (4 + 11) + b ≤ b + 198 by omega⟩) (pvV hE hK hS sb (va_recv hK hP (ci := 12) (q0 := 0) rfl rfl)) rfl rfl hv.1 rfl (lv_room (Nat.le_of_ble_eq_true rfl)) dX12_dullsBy_106 ⟨Nat.le_of_ble_eq_true rfl, Nat.le_of_ble_eq_true rfl⟩) hS sb (Jn.same sb) (fun H locs hP hD hS => ?_)
    have hP : va_P D vwCl (wM cA ad d kept aside images found base at0 size fault opened isRub names code coded pile needs traced_34 traceMany_35 who bitsOf sizeOf number lifted) H := hP
    have hD : va_D A (wM cA ad d kept aside images found base at0 size fault opened isRub names code coded pile needs traced_34 traceMany_35 who bitsOf sizeOf number lifted) := hD
    have h := Option.some.inj h
    have ee0 : r_33 = rR := congrArg (fun q => q.1) h
    have ee1 : traced_34 = tracedR := congrArg (fun q => q.2.1) h
    have ee2 : traceMany_35 = traceManyR := congrArg (fun q => q.2.2) h
    subst ee0
    subst ee1
    subst ee2
    rw [← hQ]
    exact retI hx hb hr hlk hK hP hD hS dX12_dullsBy_109 ⟨Nat.le_of_ble_eq_true rfl, Nat.le_of_ble_eq_true rfl⟩
  have h := ite_f c_27 h
  refine lv_lookup (tgt := 110) (off := 107) hx hb dX12_dullsBy_3 (by decide) (by show Op.lookupswitch.offset [(0, 33), (2, 56), (5, 89)] (107) _ = _; rw [lv_osw (a := 0) c_1 (by decide), lv_osw (a := 2) c_11 (by decide), lv_osw (a := 5) c_27 (by decide)]; rfl) (by decide) ?_
  refine lv_aload_n hx hb dX12_dullsBy_110 rfl (lv_at hv 1 rfl) ?_
  refine lv_iload_n hx hb dX12_dullsBy_111 rfl (lv_at hv 2 rfl) ?_
  obtain ⟨r_37, hf_38, h⟩ := bd_ex h
  have sb := Sb.nil hP hD hS hA
  refine calI (va_runS (As := [.int ki]) (rest := [.ref (ad 0)]) ⟨hx, hb, hml, hown, hts⟩ (c_X12_above l G D cA  _ ki r_37 hf_38) (va_cwS 1 hts gX12_dullsBy_X12_above rfl rfl rfl (by decide +kernel) ⟨show 0 + 1 ≤ a + 9 by omega, show 8 + (1 + 11) + 0 ≤ b + 198 by omega⟩) (pvS hE hK hS sb) rfl rfl hv.1 rfl (lv_room (Nat.le_of_ble_eq_true rfl)) dX12_dullsBy_112 ⟨Nat.le_of_ble_eq_true rfl, Nat.le_of_ble_eq_true rfl⟩) hS sb (Jn.nil hP hD) (fun H locs hP hD hS => ?_)
  have hP : va_P D vwCl (wM cA ad d kept aside images found base at0 size fault opened isRub names code coded pile needs traced traceMany who bitsOf sizeOf number lifted) H := hP
  have hD : va_D A (wM cA ad d kept aside images found base at0 size fault opened isRub names code coded pile needs traced traceMany who bitsOf sizeOf number lifted) := hD
  refine lv_iload_n hx hb dX12_dullsBy_115 rfl (lv_at hv 3 rfl) ?_
  obtain ⟨⟨r_39, traced_40, traceMany_41⟩, hf_42, h⟩ := bd_ex h
  have sb := Sb.same hP hD hS hA
  refine calI (va_runV (As := [.int r_37, .int x]) (rest := []) ⟨hx, hb, hml, hown, hts⟩ (hru _ d kept aside images found base at0 size fault opened isRub names code coded pile needs traced traceMany who bitsOf sizeOf number lifted r_37 x r_39 traced_40 traceMany_41 hf_42) (cwV 2 hts gX12_dullsBy_X12_dullsBy rfl rfl rfl (by decide +kernel) ⟨show a + 1 ≤ a + 9 by omega, show 8 + (4 + 11) + b ≤ b + 198 by omega⟩) (pvV hE hK hS sb (va_recv hK hP (ci := 12) (q0 := 0) rfl rfl)) rfl rfl hv.1 rfl (lv_room (Nat.le_of_ble_eq_true rfl)) dX12_dullsBy_116 ⟨Nat.le_of_ble_eq_true rfl, Nat.le_of_ble_eq_true rfl⟩) hS sb (Jn.same sb) (fun H locs hP hD hS => ?_)
  have hP : va_P D vwCl (wM cA ad d kept aside images found base at0 size fault opened isRub names code coded pile needs traced_40 traceMany_41 who bitsOf sizeOf number lifted) H := hP
  have hD : va_D A (wM cA ad d kept aside images found base at0 size fault opened isRub names code coded pile needs traced_40 traceMany_41 who bitsOf sizeOf number lifted) := hD
  have h := Option.some.inj h
  have ee0 : r_39 = rR := congrArg (fun q => q.1) h
  have ee1 : traced_40 = tracedR := congrArg (fun q => q.2.1) h
  have ee2 : traceMany_41 = traceManyR := congrArg (fun q => q.2.2) h
  subst ee0
  subst ee1
  subst ee2
  rw [← hQ]
  exact retI hx hb hr hlk hK hP hD hS dX12_dullsBy_119 ⟨Nat.le_of_ble_eq_true rfl, Nat.le_of_ble_eq_true rfl⟩
def fX12_dullsBy  : Nat → Int32 → Int32 → (Nat → Int32) → (Nat → Int32) → Int32 → Int32 → Option (Int32 × (Nat → Int32) × Int32)
  | 0, _, _, _, _, _, _ => none
  | n + 1, ki, x, d, traced, traceMany, who => fbX12_dullsBy (fX12_dullsBy n) ki x d traced traceMany who
theorem c_X12_dullsBy_n (n : Nat) (l : Launch) (G : Nat → Nat) (D : va_G) (cA : Nat → ClassId) (ad : Nat → Nat) (sz : Nat) (d : Nat → Int32) (kept : Nat → Int32) (aside : Nat → Int32) (images : Int32) (found : Nat → Int32) (base : Int32) (at0 : Int32) (size : Int32) (fault : Int32) (opened : Int32) (isRub : Int32) (names : Nat → Int32) (code : Nat → Int32) (coded : Int32) (pile : Nat → Int32) (needs : Nat → Int32) (traced : Nat → Int32) (traceMany : Int32) (who : Int32) (bitsOf : Nat → Int32) (sizeOf : Nat → Int32) (number : Nat → Int32) (lifted : Nat → Int32) (ki : Int32) (x : Int32) (rR : Int32) (tracedR : Nat → Int32) (traceManyR : Int32) (h : fX12_dullsBy n ki x d traced traceMany who = some (rR, tracedR, traceManyR)) : Met l yX12_dullsBy wsX12_dullsBy ({ frames := 9 * n, cells := 0, slots := 0, locals := 198 * n } : Room) (PW G D (tyC cA) sz (wM cA ad d kept aside images found base at0 size fault opened isRub names code coded pile needs traced traceMany who bitsOf sizeOf number lifted) [.ref (ad 0), .int ki, .int x]) (QI D (tyC cA) (va_A (wM cA ad d kept aside images found base at0 size fault opened isRub names code coded pile needs traced traceMany who bitsOf sizeOf number lifted) sz) rR (wM cA ad d kept aside images found base at0 size fault opened isRub names code coded pile needs tracedR traceManyR who bitsOf sizeOf number lifted)) 0 0 (va_A (wM cA ad d kept aside images found base at0 size fault opened isRub names code coded pile needs traced traceMany who bitsOf sizeOf number lifted) sz) := by
  induction n generalizing sz d kept aside images found base at0 size fault opened isRub names code coded pile needs traced traceMany who bitsOf sizeOf number lifted ki x rR tracedR traceManyR with
  | zero => cases h
  | succ n ih => exact cb_X12_dullsBy l G D cA ad sz d kept aside images found base at0 size fault opened isRub names code coded pile needs traced traceMany who bitsOf sizeOf number lifted (fX12_dullsBy n) (9 * n) (198 * n) ih ki x rR tracedR traceManyR h

def fbX12_tellsBy (ru : Int32 → Int32 → (Nat → Int32) → (Nat → Int32) → Int32 → Int32 → Option (Int32 × (Nat → Int32) × Int32)) (ki : Int32) (x : Int32) (d : Nat → Int32) (traced : Nat → Int32) (traceMany : Int32) (who : Int32) : Option (Int32 × (Nat → Int32) × Int32) :=
  (if ki = (0 : Int32) then bd (fX12_ran (13 : Int32) traced traceMany) fun (traced_2, traceMany_3) => bd (fX12_of who (0 : Int32) d) fun r_5 => bd (fX12_dullsBy 8 r_5 x d traced_2 traceMany_3 who) fun (r_7, traced_8, traceMany_9) => bd (fX12_of who (0 : Int32) d) fun r_11 => bd (fX12_holdsBy 8 r_11 x d traced_8 traceMany_9 who) fun (r_13, traced_14, traceMany_15) => some ((r_7 ^^^ r_13), traced_14, traceMany_15) else (if ki = (4 : Int32) then bd (fX12_ran (50 : Int32) traced traceMany) fun (traced_18, traceMany_19) => bd (fX12_above (4 : Int32)) fun r_21 => bd (ru r_21 x d traced_18 traceMany_19 who) fun (r_23, traced_24, traceMany_25) => bd (fX12_of who (0 : Int32) d) fun r_27 => bd (fX12_shinesBy 8 r_27 (2 : Int32) traced_24 traceMany_25 who) fun (r_29, traced_30, traceMany_31) => some ((r_23 - r_29), traced_30, traceMany_31) else (if ki = (6 : Int32) then bd (fX12_ran (71 : Int32) traced traceMany) fun (traced_34, traceMany_35) => bd (fX12_of who (0 : Int32) d) fun r_37 => bd (fX12_dullsBy 8 r_37 x d traced_34 traceMany_35 who) fun (r_39, traced_40, traceMany_41) => bd (fX12_above (6 : Int32)) fun r_43 => bd (ru r_43 x d traced_40 traceMany_41 who) fun (r_45, traced_46, traceMany_47) => some ((r_39 - r_45), traced_46, traceMany_47) else bd (fX12_above ki) fun r_49 => bd (ru r_49 x d traced traceMany who) fun (r_51, traced_52, traceMany_53) => some (r_51, traced_52, traceMany_53))))
set_option maxHeartbeats 4000000 in
set_option maxRecDepth 100000 in
theorem cb_X12_tellsBy (l : Launch) (G : Nat → Nat) (D : va_G) (cA : Nat → ClassId) (ad : Nat → Nat) (sz : Nat) (d : Nat → Int32) (kept : Nat → Int32) (aside : Nat → Int32) (images : Int32) (found : Nat → Int32) (base : Int32) (at0 : Int32) (size : Int32) (fault : Int32) (opened : Int32) (isRub : Int32) (names : Nat → Int32) (code : Nat → Int32) (coded : Int32) (pile : Nat → Int32) (needs : Nat → Int32) (traced : Nat → Int32) (traceMany : Int32) (who : Int32) (bitsOf : Nat → Int32) (sizeOf : Nat → Int32) (number : Nat → Int32) (lifted : Nat → Int32) (ru : Int32 → Int32 → (Nat → Int32) → (Nat → Int32) → Int32 → Int32 → Option (Int32 × (Nat → Int32) × Int32)) (a b : Nat) (hru : ∀ (sz : Nat) (d : Nat → Int32) (kept : Nat → Int32) (aside : Nat → Int32) (images : Int32) (found : Nat → Int32) (base : Int32) (at0 : Int32) (size : Int32) (fault : Int32) (opened : Int32) (isRub : Int32) (names : Nat → Int32) (code : Nat → Int32) (coded : Int32) (pile : Nat → Int32) (needs : Nat → Int32) (traced : Nat → Int32) (traceMany : Int32) (who : Int32) (bitsOf : Nat → Int32) (sizeOf : Nat → Int32) (number : Nat → Int32) (lifted : Nat → Int32) (ki : Int32) (x : Int32) (rR : Int32) (tracedR : Nat → Int32) (traceManyR : Int32), ru ki x d traced traceMany who = some (rR, tracedR, traceManyR) → Met l yX12_tellsBy wsX12_tellsBy ({ frames := a, cells := 0, slots := 0, locals := b } : Room) (PW G D (tyC cA) sz (wM cA ad d kept aside images found base at0 size fault opened isRub names code coded pile needs traced traceMany who bitsOf sizeOf number lifted) [.ref (ad 0), .int ki, .int x]) (QI D (tyC cA) (va_A (wM cA ad d kept aside images found base at0 size fault opened isRub names code coded pile needs traced traceMany who bitsOf sizeOf number lifted) sz) rR (wM cA ad d kept aside images found base at0 size fault opened isRub names code coded pile needs tracedR traceManyR who bitsOf sizeOf number lifted)) 0 0 (va_A (wM cA ad d kept aside images found base at0 size fault opened isRub names code coded pile needs traced traceMany who bitsOf sizeOf number lifted) sz)) (ki : Int32) (x : Int32) (rR : Int32) (tracedR : Nat → Int32) (traceManyR : Int32) (h : fbX12_tellsBy ru ki x d traced traceMany who = some (rR, tracedR, traceManyR)) : Met l yX12_tellsBy wsX12_tellsBy ({ frames := a + 73, cells := 0, slots := 0, locals := b + 1607 } : Room) (PW G D (tyC cA) sz (wM cA ad d kept aside images found base at0 size fault opened isRub names code coded pile needs traced traceMany who bitsOf sizeOf number lifted) [.ref (ad 0), .int ki, .int x]) (QI D (tyC cA) (va_A (wM cA ad d kept aside images found base at0 size fault opened isRub names code coded pile needs traced traceMany who bitsOf sizeOf number lifted) sz) rR (wM cA ad d kept aside images found base at0 size fault opened isRub names code coded pile needs tracedR traceManyR who bitsOf sizeOf number lifted)) 0 0 (va_A (wM cA ad d kept aside images found base at0 size fault opened isRub names code coded pile needs traced traceMany who bitsOf sizeOf number lifted) sz) := by
  refine ent (cc := cX12_tellsBy) (maxL := 4) (ret := (some .int)) (fun A => QI D (tyC cA) A rR (wM cA ad d kept aside images found base at0 size fault opened isRub names code coded pile needs tracedR traceManyR who bitsOf sizeOf number lifted)) (by decide +kernel) rfl (Nat.le_of_ble_eq_true rfl) ?_
  intro p e s m args below meth c A ls H hx hb hml hr hlk hts hown hA hK hE hP hD hS hv hmm
  have hv : lv_has ls 4 [(0, .ref (ad 0)), (1, .int ki), (2, .int x)] := hv
  have in_12 : ∀ w ∈ u_ws RX12 TX12 23, w ∈ wsX12_tellsBy := fun _ h => List.mem_cons_of_mem _ (List.mem_append_right _ h)
  have w_0 := hts (.fieldLink RX12 283 "SpoonsLastModel" "who" "I") (List.mem_of_getElem? (i := 1) rfl)
  generalize hQ : MQ below _ args s 0 0 A = Q
  have hP : va_P D vwCl (wM cA ad d kept aside images found base at0 size fault opened isRub names code coded pile needs traced traceMany who bitsOf sizeOf number lifted) H := hP
  unfold fbX12_tellsBy at h
  refine lv_iconst (v := (0 : Int32)) hx hb dX12_tellsBy_0 (by decide) ?_
  refine lv_istore_n (lv' := [(3, .int (0 : Int32)), (0, .ref (ad 0)), (1, .int ki), (2, .int x)]) hx hb dX12_tellsBy_1 rfl hv (by decide) rfl (fun ls hv => ?_)
  refine lv_iload_n hx hb dX12_tellsBy_2 rfl (lv_at hv 2 rfl) ?_
  by_cases c_1 : ki = (0 : Int32)
  · refine lv_lookup (tgt := 36) (off := 33) hx hb dX12_tellsBy_3 (by decide) (by rw [c_1]; rfl) (by decide) ?_
    have h := ite_t c_1 h
    refine lv_aload_n hx hb dX12_tellsBy_36 rfl (lv_at hv 1 rfl) ?_
    refine lv_bipush (v := (13 : Int32)) hx hb dX12_tellsBy_37 (by decide) ?_
    obtain ⟨⟨traced_2, traceMany_3⟩, hf_4, h⟩ := bd_ex h
    have sb := Sb.same hP hD hS hA
    refine calV (va_runV (As := [.int (13 : Int32)]) (rest := []) ⟨hx, hb, hml, hown, hts⟩ (c_X12_ran l G D cA ad _ d kept aside images found base at0 size fault opened isRub names code coded pile needs traced traceMany who bitsOf sizeOf number lifted (13 : Int32) traced_2 traceMany_3 hf_4) (cwV 1 hts gX12_tellsBy_X12_ran rfl rfl rfl (by decide +kernel) ⟨show 0 + 1 ≤ a + 73 by omega, show 8 + (2 + 11) + 0 ≤ b + 1607 by omega⟩) (pvV hE hK hS sb (va_recv hK hP (ci := 12) (q0 := 0) rfl rfl)) rfl rfl hv.1 rfl (lv_room (Nat.le_of_ble_eq_true rfl)) dX12_tellsBy_39 ⟨Nat.le_of_ble_eq_true rfl, Nat.le_of_ble_eq_true rfl⟩) hS sb (Jn.same sb) (fun H locs hP hD hS => ?_)
    have hP : va_P D vwCl (wM cA ad d kept aside images found base at0 size fault opened isRub names code coded pile needs traced_2 traceMany_3 who bitsOf sizeOf number lifted) H := hP
    have hD : va_D A (wM cA ad d kept aside images found base at0 size fault opened isRub names code coded pile needs traced_2 traceMany_3 who bitsOf sizeOf number lifted) := hD
    refine lv_aload_n hx hb dX12_tellsBy_42 rfl (lv_at hv 1 rfl) ?_
    refine lv_aload_n hx hb dX12_tellsBy_43 rfl (lv_at hv 1 rfl) ?_
    refine lv_aload_n hx hb dX12_tellsBy_44 rfl (lv_at hv 1 rfl) ?_
    refine va_get (D := D) (ci := 12) (v := .int who) (C := RX12) (T := TX12) (N := 23) hx hb hts in_12 hown hK hP 0 rfl rfl 18 (by decide) w_0 (fun _ h9 => h9) rfl dX12_tellsBy_45 ?_
    refine lv_iconst (v := (0 : Int32)) hx hb dX12_tellsBy_48 (by decide) ?_
    obtain ⟨r_5, hf_6, h⟩ := bd_ex h
    have sb := Sb.same hP hD hS hA
    refine calI (va_runV (As := [.int who, .int (0 : Int32)]) (rest := [.ref (ad 0)]) ⟨hx, hb, hml, hown, hts⟩ (c_X12_of l G D cA ad _ d kept aside images found base at0 size fault opened isRub names code coded pile needs traced_2 traceMany_3 who bitsOf sizeOf number lifted who (0 : Int32) r_5 hf_6) (cwV 2 hts gX12_tellsBy_X12_of rfl rfl rfl (by decide +kernel) ⟨show 0 + 1 ≤ a + 73 by omega, show 8 + (3 + 11) + 0 ≤ b + 1607 by omega⟩) (pvV hE hK hS sb (va_recv hK hP (ci := 12) (q0 := 0) rfl rfl)) rfl rfl hv.1 rfl (lv_room (Nat.le_of_ble_eq_true rfl)) dX12_tellsBy_49 ⟨Nat.le_of_ble_eq_true rfl, Nat.le_of_ble_eq_true rfl⟩) hS sb (Jn.same sb) (fun H locs hP hD hS => ?_)
    have hP : va_P D vwCl (wM cA ad d kept aside images found base at0 size fault opened isRub names code coded pile needs traced_2 traceMany_3 who bitsOf sizeOf number lifted) H := hP
    have hD : va_D A (wM cA ad d kept aside images found base at0 size fault opened isRub names code coded pile needs traced_2 traceMany_3 who bitsOf sizeOf number lifted) := hD
    refine lv_iload_n hx hb dX12_tellsBy_52 rfl (lv_at hv 3 rfl) ?_
    obtain ⟨⟨r_7, traced_8, traceMany_9⟩, hf_10, h⟩ := bd_ex h
    have sb := Sb.same hP hD hS hA
    refine calI (va_runV (As := [.int r_5, .int x]) (rest := []) ⟨hx, hb, hml, hown, hts⟩ (c_X12_dullsBy_n 8 l G D cA ad _ d kept aside images found base at0 size fault opened isRub names code coded pile needs traced_2 traceMany_3 who bitsOf sizeOf number lifted r_5 x r_7 traced_8 traceMany_9 hf_10) (cwV 2 hts gX12_tellsBy_X12_dullsBy rfl rfl rfl (by decide +kernel) ⟨show 72 + 1 ≤ a + 73 by omega, show 8 + (4 + 11) + 1584 ≤ b + 1607 by omega⟩) (pvV hE hK hS sb (va_recv hK hP (ci := 12) (q0 := 0) rfl rfl)) rfl rfl hv.1 rfl (lv_room (Nat.le_of_ble_eq_true rfl)) dX12_tellsBy_53 ⟨Nat.le_of_ble_eq_true rfl, Nat.le_of_ble_eq_true rfl⟩) hS sb (Jn.same sb) (fun H locs hP hD hS => ?_)
    have hP : va_P D vwCl (wM cA ad d kept aside images found base at0 size fault opened isRub names code coded pile needs traced_8 traceMany_9 who bitsOf sizeOf number lifted) H := hP
    have hD : va_D A (wM cA ad d kept aside images found base at0 size fault opened isRub names code coded pile needs traced_8 traceMany_9 who bitsOf sizeOf number lifted) := hD
    refine lv_istore_n (lv' := [(3, .int r_7), (0, .ref (ad 0)), (1, .int ki), (2, .int x)]) hx hb dX12_tellsBy_56 rfl hv (by decide) rfl (fun ls hv => ?_)
    refine lv_iload_n hx hb dX12_tellsBy_57 rfl (lv_at hv 0 rfl) ?_
    refine lv_aload_n hx hb dX12_tellsBy_58 rfl (lv_at hv 1 rfl) ?_
    refine lv_aload_n hx hb dX12_tellsBy_59 rfl (lv_at hv 1 rfl) ?_
    refine lv_aload_n hx hb dX12_tellsBy_60 rfl (lv_at hv 1 rfl) ?_
    refine va_get (D := D) (ci := 12) (v := .int who) (C := RX12) (T := TX12) (N := 23) hx hb hts in_12 hown hK hP 0 rfl rfl 18 (by decide) w_0 (fun _ h9 => h9) rfl dX12_tellsBy_61 ?_
    refine lv_iconst (v := (0 : Int32)) hx hb dX12_tellsBy_64 (by decide) ?_
    obtain ⟨r_11, hf_12, h⟩ := bd_ex h
    have sb := Sb.same hP hD hS hA
    refine calI (va_runV (As := [.int who, .int (0 : Int32)]) (rest := [.ref (ad 0), .int r_7]) ⟨hx, hb, hml, hown, hts⟩ (c_X12_of l G D cA ad _ d kept aside images found base at0 size fault opened isRub names code coded pile needs traced_8 traceMany_9 who bitsOf sizeOf number lifted who (0 : Int32) r_11 hf_12) (cwV 2 hts gX12_tellsBy_X12_of rfl rfl rfl (by decide +kernel) ⟨show 0 + 1 ≤ a + 73 by omega, show 8 + (3 + 11) + 0 ≤ b + 1607 by omega⟩) (pvV hE hK hS sb (va_recv hK hP (ci := 12) (q0 := 0) rfl rfl)) rfl rfl hv.1 rfl (lv_room (Nat.le_of_ble_eq_true rfl)) dX12_tellsBy_65 ⟨Nat.le_of_ble_eq_true rfl, Nat.le_of_ble_eq_true rfl⟩) hS sb (Jn.same sb) (fun H locs hP hD hS => ?_)
    have hP : va_P D vwCl (wM cA ad d kept aside images found base at0 size fault opened isRub names code coded pile needs traced_8 traceMany_9 who bitsOf sizeOf number lifted) H := hP
    have hD : va_D A (wM cA ad d kept aside images found base at0 size fault opened isRub names code coded pile needs traced_8 traceMany_9 who bitsOf sizeOf number lifted) := hD
    refine lv_iload_n hx hb dX12_tellsBy_68 rfl (lv_at hv 3 rfl) ?_
    obtain ⟨⟨r_13, traced_14, traceMany_15⟩, hf_16, h⟩ := bd_ex h
    have sb := Sb.same hP hD hS hA
    refine calI (va_runV (As := [.int r_11, .int x]) (rest := [.int r_7]) ⟨hx, hb, hml, hown, hts⟩ (c_X12_holdsBy_n 8 l G D cA ad _ d kept aside images found base at0 size fault opened isRub names code coded pile needs traced_8 traceMany_9 who bitsOf sizeOf number lifted r_11 x r_13 traced_14 traceMany_15 hf_16) (cwV 2 hts gX12_tellsBy_X12_holdsBy rfl rfl rfl (by decide +kernel) ⟨show 8 + 1 ≤ a + 73 by omega, show 8 + (3 + 11) + 176 ≤ b + 1607 by omega⟩) (pvV hE hK hS sb (va_recv hK hP (ci := 12) (q0 := 0) rfl rfl)) rfl rfl hv.1 rfl (lv_room (Nat.le_of_ble_eq_true rfl)) dX12_tellsBy_69 ⟨Nat.le_of_ble_eq_true rfl, Nat.le_of_ble_eq_true rfl⟩) hS sb (Jn.same sb) (fun H locs hP hD hS => ?_)
    have hP : va_P D vwCl (wM cA ad d kept aside images found base at0 size fault opened isRub names code coded pile needs traced_14 traceMany_15 who bitsOf sizeOf number lifted) H := hP
    have hD : va_D A (wM cA ad d kept aside images found base at0 size fault opened isRub names code coded pile needs traced_14 traceMany_15 who bitsOf sizeOf number lifted) := hD
    refine lv_ixor hx hb dX12_tellsBy_72 ?_
    have h := Option.some.inj h
    have ee0 : (r_7 ^^^ r_13) = rR := congrArg (fun q => q.1) h
    have ee1 : traced_14 = tracedR := congrArg (fun q => q.2.1) h
    have ee2 : traceMany_15 = traceManyR := congrArg (fun q => q.2.2) h
    subst ee0
    subst ee1
    subst ee2
    rw [← hQ]
    exact retI hx hb hr hlk hK hP hD hS dX12_tellsBy_73 ⟨Nat.le_of_ble_eq_true rfl, Nat.le_of_ble_eq_true rfl⟩
  have h := ite_f c_1 h
  by_cases c_17 : ki = (4 : Int32)
  · refine lv_lookup (tgt := 74) (off := 71) hx hb dX12_tellsBy_3 (by decide) (by rw [c_17]; rfl) (by decide) ?_
    have h := ite_t c_17 h
    refine lv_aload_n hx hb dX12_tellsBy_74 rfl (lv_at hv 1 rfl) ?_
    refine lv_bipush (v := (50 : Int32)) hx hb dX12_tellsBy_75 (by decide) ?_
    obtain ⟨⟨traced_18, traceMany_19⟩, hf_20, h⟩ := bd_ex h
    have sb := Sb.same hP hD hS hA
    refine calV (va_runV (As := [.int (50 : Int32)]) (rest := []) ⟨hx, hb, hml, hown, hts⟩ (c_X12_ran l G D cA ad _ d kept aside images found base at0 size fault opened isRub names code coded pile needs traced traceMany who bitsOf sizeOf number lifted (50 : Int32) traced_18 traceMany_19 hf_20) (cwV 1 hts gX12_tellsBy_X12_ran rfl rfl rfl (by decide +kernel) ⟨show 0 + 1 ≤ a + 73 by omega, show 8 + (2 + 11) + 0 ≤ b + 1607 by omega⟩) (pvV hE hK hS sb (va_recv hK hP (ci := 12) (q0 := 0) rfl rfl)) rfl rfl hv.1 rfl (lv_room (Nat.le_of_ble_eq_true rfl)) dX12_tellsBy_77 ⟨Nat.le_of_ble_eq_true rfl, Nat.le_of_ble_eq_true rfl⟩) hS sb (Jn.same sb) (fun H locs hP hD hS => ?_)
    have hP : va_P D vwCl (wM cA ad d kept aside images found base at0 size fault opened isRub names code coded pile needs traced_18 traceMany_19 who bitsOf sizeOf number lifted) H := hP
    have hD : va_D A (wM cA ad d kept aside images found base at0 size fault opened isRub names code coded pile needs traced_18 traceMany_19 who bitsOf sizeOf number lifted) := hD
    refine lv_aload_n hx hb dX12_tellsBy_80 rfl (lv_at hv 1 rfl) ?_
    refine lv_iconst (v := (4 : Int32)) hx hb dX12_tellsBy_81 (by decide) ?_
    obtain ⟨r_21, hf_22, h⟩ := bd_ex h
    have sb := Sb.nil hP hD hS hA
    refine calI (va_runS (As := [.int (4 : Int32)]) (rest := [.ref (ad 0)]) ⟨hx, hb, hml, hown, hts⟩ (c_X12_above l G D cA  _ (4 : Int32) r_21 hf_22) (va_cwS 1 hts gX12_tellsBy_X12_above rfl rfl rfl (by decide +kernel) ⟨show 0 + 1 ≤ a + 73 by omega, show 8 + (1 + 11) + 0 ≤ b + 1607 by omega⟩) (pvS hE hK hS sb) rfl rfl hv.1 rfl (lv_room (Nat.le_of_ble_eq_true rfl)) dX12_tellsBy_82 ⟨Nat.le_of_ble_eq_true rfl, Nat.le_of_ble_eq_true rfl⟩) hS sb (Jn.nil hP hD) (fun H locs hP hD hS => ?_)
    have hP : va_P D vwCl (wM cA ad d kept aside images found base at0 size fault opened isRub names code coded pile needs traced_18 traceMany_19 who bitsOf sizeOf number lifted) H := hP
    have hD : va_D A (wM cA ad d kept aside images found base at0 size fault opened isRub names code coded pile needs traced_18 traceMany_19 who bitsOf sizeOf number lifted) := hD
    refine lv_iload_n hx hb dX12_tellsBy_85 rfl (lv_at hv 3 rfl) ?_
    obtain ⟨⟨r_23, traced_24, traceMany_25⟩, hf_26, h⟩ := bd_ex h
    have sb := Sb.same hP hD hS hA
    refine calI (va_runV (As := [.int r_21, .int x]) (rest := []) ⟨hx, hb, hml, hown, hts⟩ (hru _ d kept aside images found base at0 size fault opened isRub names code coded pile needs traced_18 traceMany_19 who bitsOf sizeOf number lifted r_21 x r_23 traced_24 traceMany_25 hf_26) (cwV 2 hts gX12_tellsBy_X12_tellsBy rfl rfl rfl (by decide +kernel) ⟨show a + 1 ≤ a + 73 by omega, show 8 + (4 + 11) + b ≤ b + 1607 by omega⟩) (pvV hE hK hS sb (va_recv hK hP (ci := 12) (q0 := 0) rfl rfl)) rfl rfl hv.1 rfl (lv_room (Nat.le_of_ble_eq_true rfl)) dX12_tellsBy_86 ⟨Nat.le_of_ble_eq_true rfl, Nat.le_of_ble_eq_true rfl⟩) hS sb (Jn.same sb) (fun H locs hP hD hS => ?_)
    have hP : va_P D vwCl (wM cA ad d kept aside images found base at0 size fault opened isRub names code coded pile needs traced_24 traceMany_25 who bitsOf sizeOf number lifted) H := hP
    have hD : va_D A (wM cA ad d kept aside images found base at0 size fault opened isRub names code coded pile needs traced_24 traceMany_25 who bitsOf sizeOf number lifted) := hD
    refine lv_istore_n (lv' := [(3, .int r_23), (0, .ref (ad 0)), (1, .int ki), (2, .int x)]) hx hb dX12_tellsBy_89 rfl hv (by decide) rfl (fun ls hv => ?_)
    refine lv_iload_n hx hb dX12_tellsBy_90 rfl (lv_at hv 0 rfl) ?_
    refine lv_aload_n hx hb dX12_tellsBy_91 rfl (lv_at hv 1 rfl) ?_
    refine lv_aload_n hx hb dX12_tellsBy_92 rfl (lv_at hv 1 rfl) ?_
    refine lv_aload_n hx hb dX12_tellsBy_93 rfl (lv_at hv 1 rfl) ?_
    refine va_get (D := D) (ci := 12) (v := .int who) (C := RX12) (T := TX12) (N := 23) hx hb hts in_12 hown hK hP 0 rfl rfl 18 (by decide) w_0 (fun _ h9 => h9) rfl dX12_tellsBy_94 ?_
    refine lv_iconst (v := (0 : Int32)) hx hb dX12_tellsBy_97 (by decide) ?_
    obtain ⟨r_27, hf_28, h⟩ := bd_ex h
    have sb := Sb.same hP hD hS hA
    refine calI (va_runV (As := [.int who, .int (0 : Int32)]) (rest := [.ref (ad 0), .int r_23]) ⟨hx, hb, hml, hown, hts⟩ (c_X12_of l G D cA ad _ d kept aside images found base at0 size fault opened isRub names code coded pile needs traced_24 traceMany_25 who bitsOf sizeOf number lifted who (0 : Int32) r_27 hf_28) (cwV 2 hts gX12_tellsBy_X12_of rfl rfl rfl (by decide +kernel) ⟨show 0 + 1 ≤ a + 73 by omega, show 8 + (3 + 11) + 0 ≤ b + 1607 by omega⟩) (pvV hE hK hS sb (va_recv hK hP (ci := 12) (q0 := 0) rfl rfl)) rfl rfl hv.1 rfl (lv_room (Nat.le_of_ble_eq_true rfl)) dX12_tellsBy_98 ⟨Nat.le_of_ble_eq_true rfl, Nat.le_of_ble_eq_true rfl⟩) hS sb (Jn.same sb) (fun H locs hP hD hS => ?_)
    have hP : va_P D vwCl (wM cA ad d kept aside images found base at0 size fault opened isRub names code coded pile needs traced_24 traceMany_25 who bitsOf sizeOf number lifted) H := hP
    have hD : va_D A (wM cA ad d kept aside images found base at0 size fault opened isRub names code coded pile needs traced_24 traceMany_25 who bitsOf sizeOf number lifted) := hD
    refine lv_iconst (v := (2 : Int32)) hx hb dX12_tellsBy_101 (by decide) ?_
    obtain ⟨⟨r_29, traced_30, traceMany_31⟩, hf_32, h⟩ := bd_ex h
    have sb := Sb.same hP hD hS hA
    refine calI (va_runV (As := [.int r_27, .int (2 : Int32)]) (rest := [.int r_23]) ⟨hx, hb, hml, hown, hts⟩ (c_X12_shinesBy_n 8 l G D cA ad _ d kept aside images found base at0 size fault opened isRub names code coded pile needs traced_24 traceMany_25 who bitsOf sizeOf number lifted r_27 (2 : Int32) r_29 traced_30 traceMany_31 hf_32) (cwV 2 hts gX12_tellsBy_X12_shinesBy rfl rfl rfl (by decide +kernel) ⟨show 8 + 1 ≤ a + 73 by omega, show 8 + (3 + 11) + 176 ≤ b + 1607 by omega⟩) (pvV hE hK hS sb (va_recv hK hP (ci := 12) (q0 := 0) rfl rfl)) rfl rfl hv.1 rfl (lv_room (Nat.le_of_ble_eq_true rfl)) dX12_tellsBy_102 ⟨Nat.le_of_ble_eq_true rfl, Nat.le_of_ble_eq_true rfl⟩) hS sb (Jn.same sb) (fun H locs hP hD hS => ?_)
    have hP : va_P D vwCl (wM cA ad d kept aside images found base at0 size fault opened isRub names code coded pile needs traced_30 traceMany_31 who bitsOf sizeOf number lifted) H := hP
    have hD : va_D A (wM cA ad d kept aside images found base at0 size fault opened isRub names code coded pile needs traced_30 traceMany_31 who bitsOf sizeOf number lifted) := hD
    refine lv_isub hx hb dX12_tellsBy_105 ?_
    have h := Option.some.inj h
    have ee0 : (r_23 - r_29) = rR := congrArg (fun q => q.1) h
    have ee1 : traced_30 = tracedR := congrArg (fun q => q.2.1) h
    have ee2 : traceMany_31 = traceManyR := congrArg (fun q => q.2.2) h
    subst ee0
    subst ee1
    subst ee2
    rw [← hQ]
    exact retI hx hb hr hlk hK hP hD hS dX12_tellsBy_106 ⟨Nat.le_of_ble_eq_true rfl, Nat.le_of_ble_eq_true rfl⟩
  have h := ite_f c_17 h
  by_cases c_33 : ki = (6 : Int32)
  · refine lv_lookup (tgt := 107) (off := 104) hx hb dX12_tellsBy_3 (by decide) (by rw [c_33]; rfl) (by decide) ?_
    have h := ite_t c_33 h
    refine lv_aload_n hx hb dX12_tellsBy_107 rfl (lv_at hv 1 rfl) ?_
    refine lv_bipush (v := (71 : Int32)) hx hb dX12_tellsBy_108 (by decide) ?_
    obtain ⟨⟨traced_34, traceMany_35⟩, hf_36, h⟩ := bd_ex h
    have sb := Sb.same hP hD hS hA
    refine calV (va_runV (As := [.int (71 : Int32)]) (rest := []) ⟨hx, hb, hml, hown, hts⟩ (c_X12_ran l G D cA ad _ d kept aside images found base at0 size fault opened isRub names code coded pile needs traced traceMany who bitsOf sizeOf number lifted (71 : Int32) traced_34 traceMany_35 hf_36) (cwV 1 hts gX12_tellsBy_X12_ran rfl rfl rfl (by decide +kernel) ⟨show 0 + 1 ≤ a + 73 by omega, show 8 + (2 + 11) + 0 ≤ b + 1607 by omega⟩) (pvV hE hK hS sb (va_recv hK hP (ci := 12) (q0 := 0) rfl rfl)) rfl rfl hv.1 rfl (lv_room (Nat.le_of_ble_eq_true rfl)) dX12_tellsBy_110 ⟨Nat.le_of_ble_eq_true rfl, Nat.le_of_ble_eq_true rfl⟩) hS sb (Jn.same sb) (fun H locs hP hD hS => ?_)
    have hP : va_P D vwCl (wM cA ad d kept aside images found base at0 size fault opened isRub names code coded pile needs traced_34 traceMany_35 who bitsOf sizeOf number lifted) H := hP
    have hD : va_D A (wM cA ad d kept aside images found base at0 size fault opened isRub names code coded pile needs traced_34 traceMany_35 who bitsOf sizeOf number lifted) := hD
    refine lv_aload_n hx hb dX12_tellsBy_113 rfl (lv_at hv 1 rfl) ?_
    refine lv_aload_n hx hb dX12_tellsBy_114 rfl (lv_at hv 1 rfl) ?_
    refine lv_aload_n hx hb dX12_tellsBy_115 rfl (lv_at hv 1 rfl) ?_
    refine va_get (D := D) (ci := 12) (v := .int who) (C := RX12) (T := TX12) (N := 23) hx hb hts in_12 hown hK hP 0 rfl rfl 18 (by decide) w_0 (fun _ h9 => h9) rfl dX12_tellsBy_116 ?_
    refine lv_iconst (v := (0 : Int32)) hx hb dX12_tellsBy_119 (by decide) ?_
    obtain ⟨r_37, hf_38, h⟩ := bd_ex h
    have sb := Sb.same hP hD hS hA
    refine calI (va_runV (As := [.int who, .int (0 : Int32)]) (rest := [.ref (ad 0)]) ⟨hx, hb, hml, hown, hts⟩ (c_X12_of l G D cA ad _ d kept aside images found base at0 size fault opened isRub names code coded pile needs traced_34 traceMany_35 who bitsOf sizeOf number lifted who (0 : Int32) r_37 hf_38) (cwV 2 hts gX12_tellsBy_X12_of rfl rfl rfl (by decide +kernel) ⟨show 0 + 1 ≤ a + 73 by omega, show 8 + (3 + 11) + 0 ≤ b + 1607 by omega⟩) (pvV hE hK hS sb (va_recv hK hP (ci := 12) (q0 := 0) rfl rfl)) rfl rfl hv.1 rfl (lv_room (Nat.le_of_ble_eq_true rfl)) dX12_tellsBy_120 ⟨Nat.le_of_ble_eq_true rfl, Nat.le_of_ble_eq_true rfl⟩) hS sb (Jn.same sb) (fun H locs hP hD hS => ?_)
    have hP : va_P D vwCl (wM cA ad d kept aside images found base at0 size fault opened isRub names code coded pile needs traced_34 traceMany_35 who bitsOf sizeOf number lifted) H := hP
    have hD : va_D A (wM cA ad d kept aside images found base at0 size fault opened isRub names code coded pile needs traced_34 traceMany_35 who bitsOf sizeOf number lifted) := hD
    refine lv_iload_n hx hb dX12_tellsBy_123 rfl (lv_at hv 3 rfl) ?_
    obtain ⟨⟨r_39, traced_40, traceMany_41⟩, hf_42, h⟩ := bd_ex h
    have sb := Sb.same hP hD hS hA
    refine calI (va_runV (As := [.int r_37, .int x]) (rest := []) ⟨hx, hb, hml, hown, hts⟩ (c_X12_dullsBy_n 8 l G D cA ad _ d kept aside images found base at0 size fault opened isRub names code coded pile needs traced_34 traceMany_35 who bitsOf sizeOf number lifted r_37 x r_39 traced_40 traceMany_41 hf_42) (cwV 2 hts gX12_tellsBy_X12_dullsBy rfl rfl rfl (by decide +kernel) ⟨show 72 + 1 ≤ a + 73 by omega, show 8 + (4 + 11) + 1584 ≤ b + 1607 by omega⟩) (pvV hE hK hS sb (va_recv hK hP (ci := 12) (q0 := 0) rfl rfl)) rfl rfl hv.1 rfl (lv_room (Nat.le_of_ble_eq_true rfl)) dX12_tellsBy_124 ⟨Nat.le_of_ble_eq_true rfl, Nat.le_of_ble_eq_true rfl⟩) hS sb (Jn.same sb) (fun H locs hP hD hS => ?_)
    have hP : va_P D vwCl (wM cA ad d kept aside images found base at0 size fault opened isRub names code coded pile needs traced_40 traceMany_41 who bitsOf sizeOf number lifted) H := hP
    have hD : va_D A (wM cA ad d kept aside images found base at0 size fault opened isRub names code coded pile needs traced_40 traceMany_41 who bitsOf sizeOf number lifted) := hD
    refine lv_istore_n (lv' := [(3, .int r_39), (0, .ref (ad 0)), (1, .int ki), (2, .int x)]) hx hb dX12_tellsBy_127 rfl hv (by decide) rfl (fun ls hv => ?_)
    refine lv_iload_n hx hb dX12_tellsBy_128 rfl (lv_at hv 0 rfl) ?_
    refine lv_aload_n hx hb dX12_tellsBy_129 rfl (lv_at hv 1 rfl) ?_
    refine lv_bipush (v := (6 : Int32)) hx hb dX12_tellsBy_130 (by decide) ?_
    obtain ⟨r_43, hf_44, h⟩ := bd_ex h
    have sb := Sb.nil hP hD hS hA
    refine calI (va_runS (As := [.int (6 : Int32)]) (rest := [.ref (ad 0), .int r_39]) ⟨hx, hb, hml, hown, hts⟩ (c_X12_above l G D cA  _ (6 : Int32) r_43 hf_44) (va_cwS 1 hts gX12_tellsBy_X12_above rfl rfl rfl (by decide +kernel) ⟨show 0 + 1 ≤ a + 73 by omega, show 8 + (1 + 11) + 0 ≤ b + 1607 by omega⟩) (pvS hE hK hS sb) rfl rfl hv.1 rfl (lv_room (Nat.le_of_ble_eq_true rfl)) dX12_tellsBy_132 ⟨Nat.le_of_ble_eq_true rfl, Nat.le_of_ble_eq_true rfl⟩) hS sb (Jn.nil hP hD) (fun H locs hP hD hS => ?_)
    have hP : va_P D vwCl (wM cA ad d kept aside images found base at0 size fault opened isRub names code coded pile needs traced_40 traceMany_41 who bitsOf sizeOf number lifted) H := hP
    have hD : va_D A (wM cA ad d kept aside images found base at0 size fault opened isRub names code coded pile needs traced_40 traceMany_41 who bitsOf sizeOf number lifted) := hD
    refine lv_iload_n hx hb dX12_tellsBy_135 rfl (lv_at hv 3 rfl) ?_
    obtain ⟨⟨r_45, traced_46, traceMany_47⟩, hf_48, h⟩ := bd_ex h
    have sb := Sb.same hP hD hS hA
    refine calI (va_runV (As := [.int r_43, .int x]) (rest := [.int r_39]) ⟨hx, hb, hml, hown, hts⟩ (hru _ d kept aside images found base at0 size fault opened isRub names code coded pile needs traced_40 traceMany_41 who bitsOf sizeOf number lifted r_43 x r_45 traced_46 traceMany_47 hf_48) (cwV 2 hts gX12_tellsBy_X12_tellsBy rfl rfl rfl (by decide +kernel) ⟨show a + 1 ≤ a + 73 by omega, show 8 + (4 + 11) + b ≤ b + 1607 by omega⟩) (pvV hE hK hS sb (va_recv hK hP (ci := 12) (q0 := 0) rfl rfl)) rfl rfl hv.1 rfl (lv_room (Nat.le_of_ble_eq_true rfl)) dX12_tellsBy_136 ⟨Nat.le_of_ble_eq_true rfl, Nat.le_of_ble_eq_true rfl⟩) hS sb (Jn.same sb) (fun H locs hP hD hS => ?_)
    have hP : va_P D vwCl (wM cA ad d kept aside images found base at0 size fault opened isRub names code coded pile needs traced_46 traceMany_47 who bitsOf sizeOf number lifted) H := hP
    have hD : va_D A (wM cA ad d kept aside images found base at0 size fault opened isRub names code coded pile needs traced_46 traceMany_47 who bitsOf sizeOf number lifted) := hD
    refine lv_isub hx hb dX12_tellsBy_139 ?_
    have h := Option.some.inj h
    have ee0 : (r_39 - r_45) = rR := congrArg (fun q => q.1) h
    have ee1 : traced_46 = tracedR := congrArg (fun q => q.2.1) h
    have ee2 : traceMany_47 = traceManyR := congrArg (fun q => q.2.2) h
    subst ee0
    subst ee1
    subst ee2
    rw [← hQ]
    exact retI hx hb hr hlk hK hP hD hS dX12_tellsBy_140 ⟨Nat.le_of_ble_eq_true rfl, Nat.le_of_ble_eq_true rfl⟩
  have h := ite_f c_33 h
  refine lv_lookup (tgt := 141) (off := 138) hx hb dX12_tellsBy_3 (by decide) (by show Op.lookupswitch.offset [(0, 33), (4, 71), (6, 104)] (138) _ = _; rw [lv_osw (a := 0) c_1 (by decide), lv_osw (a := 4) c_17 (by decide), lv_osw (a := 6) c_33 (by decide)]; rfl) (by decide) ?_
  refine lv_aload_n hx hb dX12_tellsBy_141 rfl (lv_at hv 1 rfl) ?_
  refine lv_iload_n hx hb dX12_tellsBy_142 rfl (lv_at hv 2 rfl) ?_
  obtain ⟨r_49, hf_50, h⟩ := bd_ex h
  have sb := Sb.nil hP hD hS hA
  refine calI (va_runS (As := [.int ki]) (rest := [.ref (ad 0)]) ⟨hx, hb, hml, hown, hts⟩ (c_X12_above l G D cA  _ ki r_49 hf_50) (va_cwS 1 hts gX12_tellsBy_X12_above rfl rfl rfl (by decide +kernel) ⟨show 0 + 1 ≤ a + 73 by omega, show 8 + (1 + 11) + 0 ≤ b + 1607 by omega⟩) (pvS hE hK hS sb) rfl rfl hv.1 rfl (lv_room (Nat.le_of_ble_eq_true rfl)) dX12_tellsBy_143 ⟨Nat.le_of_ble_eq_true rfl, Nat.le_of_ble_eq_true rfl⟩) hS sb (Jn.nil hP hD) (fun H locs hP hD hS => ?_)
  have hP : va_P D vwCl (wM cA ad d kept aside images found base at0 size fault opened isRub names code coded pile needs traced traceMany who bitsOf sizeOf number lifted) H := hP
  have hD : va_D A (wM cA ad d kept aside images found base at0 size fault opened isRub names code coded pile needs traced traceMany who bitsOf sizeOf number lifted) := hD
  refine lv_iload_n hx hb dX12_tellsBy_146 rfl (lv_at hv 3 rfl) ?_
  obtain ⟨⟨r_51, traced_52, traceMany_53⟩, hf_54, h⟩ := bd_ex h
  have sb := Sb.same hP hD hS hA
  refine calI (va_runV (As := [.int r_49, .int x]) (rest := []) ⟨hx, hb, hml, hown, hts⟩ (hru _ d kept aside images found base at0 size fault opened isRub names code coded pile needs traced traceMany who bitsOf sizeOf number lifted r_49 x r_51 traced_52 traceMany_53 hf_54) (cwV 2 hts gX12_tellsBy_X12_tellsBy rfl rfl rfl (by decide +kernel) ⟨show a + 1 ≤ a + 73 by omega, show 8 + (4 + 11) + b ≤ b + 1607 by omega⟩) (pvV hE hK hS sb (va_recv hK hP (ci := 12) (q0 := 0) rfl rfl)) rfl rfl hv.1 rfl (lv_room (Nat.le_of_ble_eq_true rfl)) dX12_tellsBy_147 ⟨Nat.le_of_ble_eq_true rfl, Nat.le_of_ble_eq_true rfl⟩) hS sb (Jn.same sb) (fun H locs hP hD hS => ?_)
  have hP : va_P D vwCl (wM cA ad d kept aside images found base at0 size fault opened isRub names code coded pile needs traced_52 traceMany_53 who bitsOf sizeOf number lifted) H := hP
  have hD : va_D A (wM cA ad d kept aside images found base at0 size fault opened isRub names code coded pile needs traced_52 traceMany_53 who bitsOf sizeOf number lifted) := hD
  have h := Option.some.inj h
  have ee0 : r_51 = rR := congrArg (fun q => q.1) h
  have ee1 : traced_52 = tracedR := congrArg (fun q => q.2.1) h
  have ee2 : traceMany_53 = traceManyR := congrArg (fun q => q.2.2) h
  subst ee0
  subst ee1
  subst ee2
  rw [← hQ]
  exact retI hx hb hr hlk hK hP hD hS dX12_tellsBy_150 ⟨Nat.le_of_ble_eq_true rfl, Nat.le_of_ble_eq_true rfl⟩
def fX12_tellsBy  : Nat → Int32 → Int32 → (Nat → Int32) → (Nat → Int32) → Int32 → Int32 → Option (Int32 × (Nat → Int32) × Int32)
  | 0, _, _, _, _, _, _ => none
  | n + 1, ki, x, d, traced, traceMany, who => fbX12_tellsBy (fX12_tellsBy n) ki x d traced traceMany who
theorem c_X12_tellsBy_n (n : Nat) (l : Launch) (G : Nat → Nat) (D : va_G) (cA : Nat → ClassId) (ad : Nat → Nat) (sz : Nat) (d : Nat → Int32) (kept : Nat → Int32) (aside : Nat → Int32) (images : Int32) (found : Nat → Int32) (base : Int32) (at0 : Int32) (size : Int32) (fault : Int32) (opened : Int32) (isRub : Int32) (names : Nat → Int32) (code : Nat → Int32) (coded : Int32) (pile : Nat → Int32) (needs : Nat → Int32) (traced : Nat → Int32) (traceMany : Int32) (who : Int32) (bitsOf : Nat → Int32) (sizeOf : Nat → Int32) (number : Nat → Int32) (lifted : Nat → Int32) (ki : Int32) (x : Int32) (rR : Int32) (tracedR : Nat → Int32) (traceManyR : Int32) (h : fX12_tellsBy n ki x d traced traceMany who = some (rR, tracedR, traceManyR)) : Met l yX12_tellsBy wsX12_tellsBy ({ frames := 73 * n, cells := 0, slots := 0, locals := 1607 * n } : Room) (PW G D (tyC cA) sz (wM cA ad d kept aside images found base at0 size fault opened isRub names code coded pile needs traced traceMany who bitsOf sizeOf number lifted) [.ref (ad 0), .int ki, .int x]) (QI D (tyC cA) (va_A (wM cA ad d kept aside images found base at0 size fault opened isRub names code coded pile needs traced traceMany who bitsOf sizeOf number lifted) sz) rR (wM cA ad d kept aside images found base at0 size fault opened isRub names code coded pile needs tracedR traceManyR who bitsOf sizeOf number lifted)) 0 0 (va_A (wM cA ad d kept aside images found base at0 size fault opened isRub names code coded pile needs traced traceMany who bitsOf sizeOf number lifted) sz) := by
  induction n generalizing sz d kept aside images found base at0 size fault opened isRub names code coded pile needs traced traceMany who bitsOf sizeOf number lifted ki x rR tracedR traceManyR with
  | zero => cases h
  | succ n ih => exact cb_X12_tellsBy l G D cA ad sz d kept aside images found base at0 size fault opened isRub names code coded pile needs traced traceMany who bitsOf sizeOf number lifted (fX12_tellsBy n) (73 * n) (1607 * n) ih ki x rR tracedR traceManyR h

def fX12_voice (a : Int32) (b : Int32) (k : Int32) (d : Nat → Int32) (found : Nat → Int32) (traced : Nat → Int32) (traceMany : Int32) (who : Int32) : Option (Int32 × (Nat → Int32) × (Nat → Int32) × Int32 × Int32) :=
  bd (fX12_isSpoon a d) fun r_1 => (if r_1 = 0 then bd (fX12_finds (1 : Int32) found) fun (r_4, found_5) => some (r_4, found_5, traced, traceMany, who) else bd (fX12_in ((b).toInt64) (0 : Int64) (3 : Int64)) fun r_7 => (if r_7 = 0 then bd (fX12_finds (1 : Int32) found) fun (r_31, found_32) => some (r_31, found_32, traced, traceMany, who) else bd (fX12_of a (0 : Int32) d) fun r_10 => (if b = 0 then bd (fX12_shinesBy 8 r_10 k traced (0 : Int32) a) fun (r_27, traced_28, traceMany_29) => some (r_27, found, traced_28, traceMany_29, a) else (if b = (1 : Int32) then bd (fX12_dullsBy 8 r_10 k d traced (0 : Int32) a) fun (r_23, traced_24, traceMany_25) => some (r_23, found, traced_24, traceMany_25, a) else (if b = (2 : Int32) then bd (fX12_holdsBy 8 r_10 k d traced (0 : Int32) a) fun (r_19, traced_20, traceMany_21) => some (r_19, found, traced_20, traceMany_21, a) else bd (fX12_tellsBy 8 r_10 k d traced (0 : Int32) a) fun (r_15, traced_16, traceMany_17) => some (r_15, found, traced_16, traceMany_17, a))))))
set_option maxHeartbeats 4000000 in
set_option maxRecDepth 100000 in
theorem c_X12_voice (l : Launch) (G : Nat → Nat) (D : va_G) (cA : Nat → ClassId) (ad : Nat → Nat) (sz : Nat) (d : Nat → Int32) (kept : Nat → Int32) (aside : Nat → Int32) (images : Int32) (found : Nat → Int32) (base : Int32) (at0 : Int32) (size : Int32) (fault : Int32) (opened : Int32) (isRub : Int32) (names : Nat → Int32) (code : Nat → Int32) (coded : Int32) (pile : Nat → Int32) (needs : Nat → Int32) (traced : Nat → Int32) (traceMany : Int32) (who : Int32) (bitsOf : Nat → Int32) (sizeOf : Nat → Int32) (number : Nat → Int32) (lifted : Nat → Int32) (a : Int32) (b : Int32) (k : Int32) (rR : Int32) (foundR : Nat → Int32) (tracedR : Nat → Int32) (traceManyR : Int32) (whoR : Int32) (h : fX12_voice a b k d found traced traceMany who = some (rR, foundR, tracedR, traceManyR, whoR)) : Met l yX12_voice wsX12_voice ({ frames := 585, cells := 0, slots := 0, locals := 12879 } : Room) (PW G D (tyC cA) sz (wM cA ad d kept aside images found base at0 size fault opened isRub names code coded pile needs traced traceMany who bitsOf sizeOf number lifted) [.ref (ad 0), .int a, .int b, .int k]) (QI D (tyC cA) (va_A (wM cA ad d kept aside images found base at0 size fault opened isRub names code coded pile needs traced traceMany who bitsOf sizeOf number lifted) sz) rR (wM cA ad d kept aside images foundR base at0 size fault opened isRub names code coded pile needs tracedR traceManyR whoR bitsOf sizeOf number lifted)) 0 0 (va_A (wM cA ad d kept aside images found base at0 size fault opened isRub names code coded pile needs traced traceMany who bitsOf sizeOf number lifted) sz) := by
  refine ent (cc := cX12_voice) (maxL := 5) (ret := (some .int)) (fun A => QI D (tyC cA) A rR (wM cA ad d kept aside images foundR base at0 size fault opened isRub names code coded pile needs tracedR traceManyR whoR bitsOf sizeOf number lifted)) (by decide +kernel) rfl (Nat.le_of_ble_eq_true rfl) ?_
  intro p e s m args below meth c A ls H hx hb hml hr hlk hts hown hA hK hE hP hD hS hv hmm
  have hv : lv_has ls 5 [(0, .ref (ad 0)), (1, .int a), (2, .int b), (3, .int k)] := hv
  have in_12 : ∀ w ∈ u_ws RX12 TX12 23, w ∈ wsX12_voice := fun _ h => List.mem_cons_of_mem _ (List.mem_append_right _ h)
  have w_0 := hts (.constantLong RX12 216 (3)) (List.mem_of_getElem? (i := 1) rfl)
  have w_1 := hts (.fieldLink RX12 283 "SpoonsLastModel" "who" "I") (List.mem_of_getElem? (i := 2) rfl)
  have w_2 := hts (.fieldLink RX12 277 "SpoonsLastModel" "traceMany" "I") (List.mem_of_getElem? (i := 3) rfl)
  generalize hQ : MQ below _ args s 0 0 A = Q
  have hP : va_P D vwCl (wM cA ad d kept aside images found base at0 size fault opened isRub names code coded pile needs traced traceMany who bitsOf sizeOf number lifted) H := hP
  unfold fX12_voice at h
  refine lv_aload_n hx hb dX12_voice_0 rfl (lv_at hv 0 rfl) ?_
  refine lv_iload_n hx hb dX12_voice_1 rfl (lv_at hv 1 rfl) ?_
  obtain ⟨r_1, hf_2, h⟩ := bd_ex h
  have sb := Sb.same hP hD hS hA
  refine calI (va_runV (As := [.int a]) (rest := []) ⟨hx, hb, hml, hown, hts⟩ (c_X12_isSpoon l G D cA ad _ d kept aside images found base at0 size fault opened isRub names code coded pile needs traced traceMany who bitsOf sizeOf number lifted a r_1 hf_2) (cwV 1 hts gX12_voice_X12_isSpoon rfl rfl rfl (by decide +kernel) ⟨Nat.le_of_ble_eq_true rfl, Nat.le_of_ble_eq_true rfl⟩) (pvV hE hK hS sb (va_recv hK hP (ci := 12) (q0 := 0) rfl rfl)) rfl rfl hv.1 rfl (lv_room (Nat.le_of_ble_eq_true rfl)) dX12_voice_2 ⟨Nat.le_of_ble_eq_true rfl, Nat.le_of_ble_eq_true rfl⟩) hS sb (Jn.same sb) (fun H locs hP hD hS => ?_)
  have hP : va_P D vwCl (wM cA ad d kept aside images found base at0 size fault opened isRub names code coded pile needs traced traceMany who bitsOf sizeOf number lifted) H := hP
  have hD : va_D A (wM cA ad d kept aside images found base at0 size fault opened isRub names code coded pile needs traced traceMany who bitsOf sizeOf number lifted) := hD
  refine lv_if_eq (tgt := 20) hx hb dX12_voice_5 (by decide) (fun c_3 => ?_) (fun c_3 => ?_)
  · have h := ite_t c_3 h
    refine lv_aload_n hx hb dX12_voice_20 rfl (lv_at hv 0 rfl) ?_
    refine lv_iconst (v := (1 : Int32)) hx hb dX12_voice_21 (by decide) ?_
    obtain ⟨⟨r_4, found_5⟩, hf_6, h⟩ := bd_ex h
    have sb := Sb.same hP hD hS hA
    refine calI (va_runV (As := [.int (1 : Int32)]) (rest := []) ⟨hx, hb, hml, hown, hts⟩ (c_X12_finds l G D cA ad _ d kept aside images found base at0 size fault opened isRub names code coded pile needs traced traceMany who bitsOf sizeOf number lifted (1 : Int32) r_4 found_5 hf_6) (cwV 1 hts gX12_voice_X12_finds rfl rfl rfl (by decide +kernel) ⟨Nat.le_of_ble_eq_true rfl, Nat.le_of_ble_eq_true rfl⟩) (pvV hE hK hS sb (va_recv hK hP (ci := 12) (q0 := 0) rfl rfl)) rfl rfl hv.1 rfl (lv_room (Nat.le_of_ble_eq_true rfl)) dX12_voice_22 ⟨Nat.le_of_ble_eq_true rfl, Nat.le_of_ble_eq_true rfl⟩) hS sb (Jn.same sb) (fun H locs hP hD hS => ?_)
    have hP : va_P D vwCl (wM cA ad d kept aside images found_5 base at0 size fault opened isRub names code coded pile needs traced traceMany who bitsOf sizeOf number lifted) H := hP
    have hD : va_D A (wM cA ad d kept aside images found_5 base at0 size fault opened isRub names code coded pile needs traced traceMany who bitsOf sizeOf number lifted) := hD
    have h := Option.some.inj h
    have ee0 : r_4 = rR := congrArg (fun q => q.1) h
    have ee1 : found_5 = foundR := congrArg (fun q => q.2.1) h
    have ee2 : traced = tracedR := congrArg (fun q => q.2.2.1) h
    have ee3 : traceMany = traceManyR := congrArg (fun q => q.2.2.2.1) h
    have ee4 : who = whoR := congrArg (fun q => q.2.2.2.2) h
    subst ee0
    subst ee1
    subst ee2
    subst ee3
    subst ee4
    rw [← hQ]
    exact retI hx hb hr hlk hK hP hD hS dX12_voice_25 ⟨Nat.le_of_ble_eq_true rfl, Nat.le_of_ble_eq_true rfl⟩
  · have h := ite_f c_3 h
    refine lv_iload_n hx hb dX12_voice_8 rfl (lv_at hv 2 rfl) ?_
    refine lv_i2l (v := (b).toInt64) hx hb dX12_voice_9 rfl ?_
    refine lv_lconst (v := (0 : Int64)) hx hb dX12_voice_10 (by decide) ?_
    refine lv_ldc2 (v := (3 : Int64)) hx hb hown w_0 dX12_voice_11 ?_
    obtain ⟨r_7, hf_8, h⟩ := bd_ex h
    have sb := Sb.nil hP hD hS hA
    refine calI (va_runS (As := [.long (b).toInt64, .long (0 : Int64), .long (3 : Int64)]) (rest := []) ⟨hx, hb, hml, hown, hts⟩ (c_X12_in l G D cA  _ ((b).toInt64) (0 : Int64) (3 : Int64) r_7 hf_8) (va_cwS 3 hts gX12_voice_X12_in rfl rfl rfl (by decide +kernel) ⟨Nat.le_of_ble_eq_true rfl, Nat.le_of_ble_eq_true rfl⟩) (pvS hE hK hS sb) rfl rfl hv.1 rfl (lv_room (Nat.le_of_ble_eq_true rfl)) dX12_voice_14 ⟨Nat.le_of_ble_eq_true rfl, Nat.le_of_ble_eq_true rfl⟩) hS sb (Jn.nil hP hD) (fun H locs hP hD hS => ?_)
    have hP : va_P D vwCl (wM cA ad d kept aside images found base at0 size fault opened isRub names code coded pile needs traced traceMany who bitsOf sizeOf number lifted) H := hP
    have hD : va_D A (wM cA ad d kept aside images found base at0 size fault opened isRub names code coded pile needs traced traceMany who bitsOf sizeOf number lifted) := hD
    refine lv_if_ne (tgt := 26) hx hb dX12_voice_17 (by decide) (fun c_9 => ?_) (fun c_9 => ?_)
    · have h := ite_f c_9 h
      refine lv_aload_n hx hb dX12_voice_26 rfl (lv_at hv 0 rfl) ?_
      refine lv_iload_n hx hb dX12_voice_27 rfl (lv_at hv 1 rfl) ?_
      refine va_put (D := D) (ci := 12) (v := .int a) (ty := .int) (C := RX12) (T := TX12) (N := 23) hx hb hts in_12 tyX12 tyX12_ok nmX12 hown hK hP hD hS 0 rfl rfl 18 (by decide) w_1 (fun _ h9 => h9) rfl (by decide +kernel) rfl rfl (Nat.le_of_ble_eq_true rfl) dX12_voice_28 (fun H locs hP hD hS => ?_)
      have hP : va_P D vwCl (wM cA ad d kept aside images found base at0 size fault opened isRub names code coded pile needs traced traceMany a bitsOf sizeOf number lifted) H := hP
      have hD : va_D A (wM cA ad d kept aside images found base at0 size fault opened isRub names code coded pile needs traced traceMany a bitsOf sizeOf number lifted) := hD
      refine lv_aload_n hx hb dX12_voice_31 rfl (lv_at hv 0 rfl) ?_
      refine lv_iconst (v := (0 : Int32)) hx hb dX12_voice_32 (by decide) ?_
      refine va_put (D := D) (ci := 12) (v := .int (0 : Int32)) (ty := .int) (C := RX12) (T := TX12) (N := 23) hx hb hts in_12 tyX12 tyX12_ok nmX12 hown hK hP hD hS 0 rfl rfl 17 (by decide) w_2 (fun _ h9 => h9) rfl (by decide +kernel) rfl rfl (Nat.le_of_ble_eq_true rfl) dX12_voice_33 (fun H locs hP hD hS => ?_)
      have hP : va_P D vwCl (wM cA ad d kept aside images found base at0 size fault opened isRub names code coded pile needs traced (0 : Int32) a bitsOf sizeOf number lifted) H := hP
      have hD : va_D A (wM cA ad d kept aside images found base at0 size fault opened isRub names code coded pile needs traced (0 : Int32) a bitsOf sizeOf number lifted) := hD
      refine lv_aload_n hx hb dX12_voice_36 rfl (lv_at hv 0 rfl) ?_
      refine lv_aload_n hx hb dX12_voice_37 rfl (lv_at hv 0 rfl) ?_
      refine va_get (D := D) (ci := 12) (v := .int a) (C := RX12) (T := TX12) (N := 23) hx hb hts in_12 hown hK hP 0 rfl rfl 18 (by decide) w_1 (fun _ h9 => h9) rfl dX12_voice_38 ?_
      refine lv_iconst (v := (0 : Int32)) hx hb dX12_voice_41 (by decide) ?_
      obtain ⟨r_10, hf_11, h⟩ := bd_ex h
      have sb := Sb.same hP hD hS hA
      refine calI (va_runV (As := [.int a, .int (0 : Int32)]) (rest := []) ⟨hx, hb, hml, hown, hts⟩ (c_X12_of l G D cA ad _ d kept aside images found base at0 size fault opened isRub names code coded pile needs traced (0 : Int32) a bitsOf sizeOf number lifted a (0 : Int32) r_10 hf_11) (cwV 2 hts gX12_voice_X12_of rfl rfl rfl (by decide +kernel) ⟨Nat.le_of_ble_eq_true rfl, Nat.le_of_ble_eq_true rfl⟩) (pvV hE hK hS sb (va_recv hK hP (ci := 12) (q0 := 0) rfl rfl)) rfl rfl hv.1 rfl (lv_room (Nat.le_of_ble_eq_true rfl)) dX12_voice_42 ⟨Nat.le_of_ble_eq_true rfl, Nat.le_of_ble_eq_true rfl⟩) hS sb (Jn.same sb) (fun H locs hP hD hS => ?_)
      have hP : va_P D vwCl (wM cA ad d kept aside images found base at0 size fault opened isRub names code coded pile needs traced (0 : Int32) a bitsOf sizeOf number lifted) H := hP
      have hD : va_D A (wM cA ad d kept aside images found base at0 size fault opened isRub names code coded pile needs traced (0 : Int32) a bitsOf sizeOf number lifted) := hD
      refine lv_istore (lv' := [(4, .int r_10), (0, .ref (ad 0)), (1, .int a), (2, .int b), (3, .int k)]) hx hb dX12_voice_45 hv (by decide) rfl (fun ls hv => ?_)
      refine lv_iload_n hx hb dX12_voice_47 rfl (lv_at hv 3 rfl) ?_
      refine lv_if_ne (tgt := 61) hx hb dX12_voice_48 (by decide) (fun c_12 => ?_) (fun c_12 => ?_)
      · have h := ite_f c_12 h
        refine lv_iload_n hx hb dX12_voice_61 rfl (lv_at hv 3 rfl) ?_
        refine lv_iconst (v := (1 : Int32)) hx hb dX12_voice_62 (by decide) ?_
        refine lv_icmp_ne (tgt := 76) hx hb dX12_voice_63 (by decide) (fun c_13 => ?_) (fun c_13 => ?_)
        · have h := ite_f c_13 h
          refine lv_iload_n hx hb dX12_voice_76 rfl (lv_at hv 3 rfl) ?_
          refine lv_iconst (v := (2 : Int32)) hx hb dX12_voice_77 (by decide) ?_
          refine lv_icmp_ne (tgt := 91) hx hb dX12_voice_78 (by decide) (fun c_14 => ?_) (fun c_14 => ?_)
          · have h := ite_f c_14 h
            refine lv_aload_n hx hb dX12_voice_91 rfl (lv_at hv 1 rfl) ?_
            refine lv_iload hx hb dX12_voice_92 (lv_at hv 0 rfl) ?_
            refine lv_iload_n hx hb dX12_voice_94 rfl (lv_at hv 4 rfl) ?_
            obtain ⟨⟨r_15, traced_16, traceMany_17⟩, hf_18, h⟩ := bd_ex h
            have sb := Sb.same hP hD hS hA
            refine calI (va_runV (As := [.int r_10, .int k]) (rest := []) ⟨hx, hb, hml, hown, hts⟩ (c_X12_tellsBy_n 8 l G D cA ad _ d kept aside images found base at0 size fault opened isRub names code coded pile needs traced (0 : Int32) a bitsOf sizeOf number lifted r_10 k r_15 traced_16 traceMany_17 hf_18) (cwV 2 hts gX12_voice_X12_tellsBy rfl rfl rfl (by decide +kernel) ⟨Nat.le_of_ble_eq_true rfl, Nat.le_of_ble_eq_true rfl⟩) (pvV hE hK hS sb (va_recv hK hP (ci := 12) (q0 := 0) rfl rfl)) rfl rfl hv.1 rfl (lv_room (Nat.le_of_ble_eq_true rfl)) dX12_voice_95 ⟨Nat.le_of_ble_eq_true rfl, Nat.le_of_ble_eq_true rfl⟩) hS sb (Jn.same sb) (fun H locs hP hD hS => ?_)
            have hP : va_P D vwCl (wM cA ad d kept aside images found base at0 size fault opened isRub names code coded pile needs traced_16 traceMany_17 a bitsOf sizeOf number lifted) H := hP
            have hD : va_D A (wM cA ad d kept aside images found base at0 size fault opened isRub names code coded pile needs traced_16 traceMany_17 a bitsOf sizeOf number lifted) := hD
            have h := Option.some.inj h
            have ee0 : r_15 = rR := congrArg (fun q => q.1) h
            have ee1 : found = foundR := congrArg (fun q => q.2.1) h
            have ee2 : traced_16 = tracedR := congrArg (fun q => q.2.2.1) h
            have ee3 : traceMany_17 = traceManyR := congrArg (fun q => q.2.2.2.1) h
            have ee4 : a = whoR := congrArg (fun q => q.2.2.2.2) h
            subst ee0
            subst ee1
            subst ee2
            subst ee3
            subst ee4
            rw [← hQ]
            exact retI hx hb hr hlk hK hP hD hS dX12_voice_98 ⟨Nat.le_of_ble_eq_true rfl, Nat.le_of_ble_eq_true rfl⟩
          · have h := ite_t c_14 h
            refine lv_aload_n hx hb dX12_voice_81 rfl (lv_at hv 1 rfl) ?_
            refine lv_iload hx hb dX12_voice_82 (lv_at hv 0 rfl) ?_
            refine lv_iload_n hx hb dX12_voice_84 rfl (lv_at hv 4 rfl) ?_
            obtain ⟨⟨r_19, traced_20, traceMany_21⟩, hf_22, h⟩ := bd_ex h
            have sb := Sb.same hP hD hS hA
            refine calI (va_runV (As := [.int r_10, .int k]) (rest := []) ⟨hx, hb, hml, hown, hts⟩ (c_X12_holdsBy_n 8 l G D cA ad _ d kept aside images found base at0 size fault opened isRub names code coded pile needs traced (0 : Int32) a bitsOf sizeOf number lifted r_10 k r_19 traced_20 traceMany_21 hf_22) (cwV 2 hts gX12_voice_X12_holdsBy rfl rfl rfl (by decide +kernel) ⟨Nat.le_of_ble_eq_true rfl, Nat.le_of_ble_eq_true rfl⟩) (pvV hE hK hS sb (va_recv hK hP (ci := 12) (q0 := 0) rfl rfl)) rfl rfl hv.1 rfl (lv_room (Nat.le_of_ble_eq_true rfl)) dX12_voice_85 ⟨Nat.le_of_ble_eq_true rfl, Nat.le_of_ble_eq_true rfl⟩) hS sb (Jn.same sb) (fun H locs hP hD hS => ?_)
            have hP : va_P D vwCl (wM cA ad d kept aside images found base at0 size fault opened isRub names code coded pile needs traced_20 traceMany_21 a bitsOf sizeOf number lifted) H := hP
            have hD : va_D A (wM cA ad d kept aside images found base at0 size fault opened isRub names code coded pile needs traced_20 traceMany_21 a bitsOf sizeOf number lifted) := hD
            refine lv_goto (tgt := 98) hx hb dX12_voice_88 (by decide) ?_
            have h := Option.some.inj h
            have ee0 : r_19 = rR := congrArg (fun q => q.1) h
            have ee1 : found = foundR := congrArg (fun q => q.2.1) h
            have ee2 : traced_20 = tracedR := congrArg (fun q => q.2.2.1) h
            have ee3 : traceMany_21 = traceManyR := congrArg (fun q => q.2.2.2.1) h
            have ee4 : a = whoR := congrArg (fun q => q.2.2.2.2) h
            subst ee0
            subst ee1
            subst ee2
            subst ee3
            subst ee4
            rw [← hQ]
            exact retI hx hb hr hlk hK hP hD hS dX12_voice_98 ⟨Nat.le_of_ble_eq_true rfl, Nat.le_of_ble_eq_true rfl⟩
        · have h := ite_t c_13 h
          refine lv_aload_n hx hb dX12_voice_66 rfl (lv_at hv 1 rfl) ?_
          refine lv_iload hx hb dX12_voice_67 (lv_at hv 0 rfl) ?_
          refine lv_iload_n hx hb dX12_voice_69 rfl (lv_at hv 4 rfl) ?_
          obtain ⟨⟨r_23, traced_24, traceMany_25⟩, hf_26, h⟩ := bd_ex h
          have sb := Sb.same hP hD hS hA
          refine calI (va_runV (As := [.int r_10, .int k]) (rest := []) ⟨hx, hb, hml, hown, hts⟩ (c_X12_dullsBy_n 8 l G D cA ad _ d kept aside images found base at0 size fault opened isRub names code coded pile needs traced (0 : Int32) a bitsOf sizeOf number lifted r_10 k r_23 traced_24 traceMany_25 hf_26) (cwV 2 hts gX12_voice_X12_dullsBy rfl rfl rfl (by decide +kernel) ⟨Nat.le_of_ble_eq_true rfl, Nat.le_of_ble_eq_true rfl⟩) (pvV hE hK hS sb (va_recv hK hP (ci := 12) (q0 := 0) rfl rfl)) rfl rfl hv.1 rfl (lv_room (Nat.le_of_ble_eq_true rfl)) dX12_voice_70 ⟨Nat.le_of_ble_eq_true rfl, Nat.le_of_ble_eq_true rfl⟩) hS sb (Jn.same sb) (fun H locs hP hD hS => ?_)
          have hP : va_P D vwCl (wM cA ad d kept aside images found base at0 size fault opened isRub names code coded pile needs traced_24 traceMany_25 a bitsOf sizeOf number lifted) H := hP
          have hD : va_D A (wM cA ad d kept aside images found base at0 size fault opened isRub names code coded pile needs traced_24 traceMany_25 a bitsOf sizeOf number lifted) := hD
          refine lv_goto (tgt := 98) hx hb dX12_voice_73 (by decide) ?_
          have h := Option.some.inj h
          have ee0 : r_23 = rR := congrArg (fun q => q.1) h
          have ee1 : found = foundR := congrArg (fun q => q.2.1) h
          have ee2 : traced_24 = tracedR := congrArg (fun q => q.2.2.1) h
          have ee3 : traceMany_25 = traceManyR := congrArg (fun q => q.2.2.2.1) h
          have ee4 : a = whoR := congrArg (fun q => q.2.2.2.2) h
          subst ee0
          subst ee1
          subst ee2
          subst ee3
          subst ee4
          rw [← hQ]
          exact retI hx hb hr hlk hK hP hD hS dX12_voice_98 ⟨Nat.le_of_ble_eq_true rfl, Nat.le_of_ble_eq_true rfl⟩
      · have h := ite_t c_12 h
        refine lv_aload_n hx hb dX12_voice_51 rfl (lv_at hv 1 rfl) ?_
        refine lv_iload hx hb dX12_voice_52 (lv_at hv 0 rfl) ?_
        refine lv_iload_n hx hb dX12_voice_54 rfl (lv_at hv 4 rfl) ?_
        obtain ⟨⟨r_27, traced_28, traceMany_29⟩, hf_30, h⟩ := bd_ex h
        have sb := Sb.same hP hD hS hA
        refine calI (va_runV (As := [.int r_10, .int k]) (rest := []) ⟨hx, hb, hml, hown, hts⟩ (c_X12_shinesBy_n 8 l G D cA ad _ d kept aside images found base at0 size fault opened isRub names code coded pile needs traced (0 : Int32) a bitsOf sizeOf number lifted r_10 k r_27 traced_28 traceMany_29 hf_30) (cwV 2 hts gX12_voice_X12_shinesBy rfl rfl rfl (by decide +kernel) ⟨Nat.le_of_ble_eq_true rfl, Nat.le_of_ble_eq_true rfl⟩) (pvV hE hK hS sb (va_recv hK hP (ci := 12) (q0 := 0) rfl rfl)) rfl rfl hv.1 rfl (lv_room (Nat.le_of_ble_eq_true rfl)) dX12_voice_55 ⟨Nat.le_of_ble_eq_true rfl, Nat.le_of_ble_eq_true rfl⟩) hS sb (Jn.same sb) (fun H locs hP hD hS => ?_)
        have hP : va_P D vwCl (wM cA ad d kept aside images found base at0 size fault opened isRub names code coded pile needs traced_28 traceMany_29 a bitsOf sizeOf number lifted) H := hP
        have hD : va_D A (wM cA ad d kept aside images found base at0 size fault opened isRub names code coded pile needs traced_28 traceMany_29 a bitsOf sizeOf number lifted) := hD
        refine lv_goto (tgt := 98) hx hb dX12_voice_58 (by decide) ?_
        have h := Option.some.inj h
        have ee0 : r_27 = rR := congrArg (fun q => q.1) h
        have ee1 : found = foundR := congrArg (fun q => q.2.1) h
        have ee2 : traced_28 = tracedR := congrArg (fun q => q.2.2.1) h
        have ee3 : traceMany_29 = traceManyR := congrArg (fun q => q.2.2.2.1) h
        have ee4 : a = whoR := congrArg (fun q => q.2.2.2.2) h
        subst ee0
        subst ee1
        subst ee2
        subst ee3
        subst ee4
        rw [← hQ]
        exact retI hx hb hr hlk hK hP hD hS dX12_voice_98 ⟨Nat.le_of_ble_eq_true rfl, Nat.le_of_ble_eq_true rfl⟩
    · have h := ite_t c_9 h
      refine lv_aload_n hx hb dX12_voice_20 rfl (lv_at hv 0 rfl) ?_
      refine lv_iconst (v := (1 : Int32)) hx hb dX12_voice_21 (by decide) ?_
      obtain ⟨⟨r_31, found_32⟩, hf_33, h⟩ := bd_ex h
      have sb := Sb.same hP hD hS hA
      refine calI (va_runV (As := [.int (1 : Int32)]) (rest := []) ⟨hx, hb, hml, hown, hts⟩ (c_X12_finds l G D cA ad _ d kept aside images found base at0 size fault opened isRub names code coded pile needs traced traceMany who bitsOf sizeOf number lifted (1 : Int32) r_31 found_32 hf_33) (cwV 1 hts gX12_voice_X12_finds rfl rfl rfl (by decide +kernel) ⟨Nat.le_of_ble_eq_true rfl, Nat.le_of_ble_eq_true rfl⟩) (pvV hE hK hS sb (va_recv hK hP (ci := 12) (q0 := 0) rfl rfl)) rfl rfl hv.1 rfl (lv_room (Nat.le_of_ble_eq_true rfl)) dX12_voice_22 ⟨Nat.le_of_ble_eq_true rfl, Nat.le_of_ble_eq_true rfl⟩) hS sb (Jn.same sb) (fun H locs hP hD hS => ?_)
      have hP : va_P D vwCl (wM cA ad d kept aside images found_32 base at0 size fault opened isRub names code coded pile needs traced traceMany who bitsOf sizeOf number lifted) H := hP
      have hD : va_D A (wM cA ad d kept aside images found_32 base at0 size fault opened isRub names code coded pile needs traced traceMany who bitsOf sizeOf number lifted) := hD
      have h := Option.some.inj h
      have ee0 : r_31 = rR := congrArg (fun q => q.1) h
      have ee1 : found_32 = foundR := congrArg (fun q => q.2.1) h
      have ee2 : traced = tracedR := congrArg (fun q => q.2.2.1) h
      have ee3 : traceMany = traceManyR := congrArg (fun q => q.2.2.2.1) h
      have ee4 : who = whoR := congrArg (fun q => q.2.2.2.2) h
      subst ee0
      subst ee1
      subst ee2
      subst ee3
      subst ee4
      rw [← hQ]
      exact retI hx hb hr hlk hK hP hD hS dX12_voice_25 ⟨Nat.le_of_ble_eq_true rfl, Nat.le_of_ble_eq_true rfl⟩

def fX12_trace (a : Int32) (found : Nat → Int32) (traced : Nat → Int32) (traceMany : Int32) : Option (Int32 × (Nat → Int32)) :=
  bd (fX12_in ((a).toInt64) (0 : Int64) (((traceMany - (1 : Int32))).toInt64)) fun r_1 => (if r_1 = 0 then bd (fX12_finds (2 : Int32) found) fun (r_4, found_5) => some (r_4, found_5) else ckI a 40 (some ((traced (a).toNatClampNeg), found)))
set_option maxHeartbeats 4000000 in
set_option maxRecDepth 100000 in
theorem c_X12_trace (l : Launch) (G : Nat → Nat) (D : va_G) (cA : Nat → ClassId) (ad : Nat → Nat) (sz : Nat) (d : Nat → Int32) (kept : Nat → Int32) (aside : Nat → Int32) (images : Int32) (found : Nat → Int32) (base : Int32) (at0 : Int32) (size : Int32) (fault : Int32) (opened : Int32) (isRub : Int32) (names : Nat → Int32) (code : Nat → Int32) (coded : Int32) (pile : Nat → Int32) (needs : Nat → Int32) (traced : Nat → Int32) (traceMany : Int32) (who : Int32) (bitsOf : Nat → Int32) (sizeOf : Nat → Int32) (number : Nat → Int32) (lifted : Nat → Int32) (a : Int32) (rR : Int32) (foundR : Nat → Int32) (h : fX12_trace a found traced traceMany = some (rR, foundR)) : Met l yX12_trace wsX12_trace ({ frames := 1, cells := 0, slots := 0, locals := 25 } : Room) (PW G D (tyC cA) sz (wM cA ad d kept aside images found base at0 size fault opened isRub names code coded pile needs traced traceMany who bitsOf sizeOf number lifted) [.ref (ad 0), .int a]) (QI D (tyC cA) (va_A (wM cA ad d kept aside images found base at0 size fault opened isRub names code coded pile needs traced traceMany who bitsOf sizeOf number lifted) sz) rR (wM cA ad d kept aside images foundR base at0 size fault opened isRub names code coded pile needs traced traceMany who bitsOf sizeOf number lifted)) 0 0 (va_A (wM cA ad d kept aside images found base at0 size fault opened isRub names code coded pile needs traced traceMany who bitsOf sizeOf number lifted) sz) := by
  refine ent (cc := cX12_trace) (maxL := 2) (ret := (some .int)) (fun A => QI D (tyC cA) A rR (wM cA ad d kept aside images foundR base at0 size fault opened isRub names code coded pile needs traced traceMany who bitsOf sizeOf number lifted)) (by decide +kernel) rfl (Nat.le_of_ble_eq_true rfl) ?_
  intro p e s m args below meth c A ls H hx hb hml hr hlk hts hown hA hK hE hP hD hS hv hmm
  have hv : lv_has ls 2 [(0, .ref (ad 0)), (1, .int a)] := hv
  have in_12 : ∀ w ∈ u_ws RX12 TX12 23, w ∈ wsX12_trace := fun _ h => List.mem_cons_of_mem _ (List.mem_append_right _ h)
  have w_0 := hts (.fieldLink RX12 277 "SpoonsLastModel" "traceMany" "I") (List.mem_of_getElem? (i := 1) rfl)
  have w_1 := hts (.fieldLink RX12 34 "SpoonsLastModel" "traced" "[I") (List.mem_of_getElem? (i := 2) rfl)
  generalize hQ : MQ below _ args s 0 0 A = Q
  have hP : va_P D vwCl (wM cA ad d kept aside images found base at0 size fault opened isRub names code coded pile needs traced traceMany who bitsOf sizeOf number lifted) H := hP
  unfold fX12_trace at h
  refine lv_iload_n hx hb dX12_trace_0 rfl (lv_at hv 1 rfl) ?_
  refine lv_i2l (v := (a).toInt64) hx hb dX12_trace_1 rfl ?_
  refine lv_lconst (v := (0 : Int64)) hx hb dX12_trace_2 (by decide) ?_
  refine lv_aload_n hx hb dX12_trace_3 rfl (lv_at hv 0 rfl) ?_
  refine va_get (D := D) (ci := 12) (v := .int traceMany) (C := RX12) (T := TX12) (N := 23) hx hb hts in_12 hown hK hP 0 rfl rfl 17 (by decide) w_0 (fun _ h9 => h9) rfl dX12_trace_4 ?_
  refine lv_iconst (v := (1 : Int32)) hx hb dX12_trace_7 (by decide) ?_
  refine lv_isub hx hb dX12_trace_8 ?_
  refine lv_i2l (v := ((traceMany - (1 : Int32))).toInt64) hx hb dX12_trace_9 rfl ?_
  obtain ⟨r_1, hf_2, h⟩ := bd_ex h
  have sb := Sb.nil hP hD hS hA
  refine calI (va_runS (As := [.long (a).toInt64, .long (0 : Int64), .long ((traceMany - (1 : Int32))).toInt64]) (rest := []) ⟨hx, hb, hml, hown, hts⟩ (c_X12_in l G D cA  _ ((a).toInt64) (0 : Int64) (((traceMany - (1 : Int32))).toInt64) r_1 hf_2) (va_cwS 3 hts gX12_trace_X12_in rfl rfl rfl (by decide +kernel) ⟨Nat.le_of_ble_eq_true rfl, Nat.le_of_ble_eq_true rfl⟩) (pvS hE hK hS sb) rfl rfl hv.1 rfl (lv_room (Nat.le_of_ble_eq_true rfl)) dX12_trace_10 ⟨Nat.le_of_ble_eq_true rfl, Nat.le_of_ble_eq_true rfl⟩) hS sb (Jn.nil hP hD) (fun H locs hP hD hS => ?_)
  have hP : va_P D vwCl (wM cA ad d kept aside images found base at0 size fault opened isRub names code coded pile needs traced traceMany who bitsOf sizeOf number lifted) H := hP
  have hD : va_D A (wM cA ad d kept aside images found base at0 size fault opened isRub names code coded pile needs traced traceMany who bitsOf sizeOf number lifted) := hD
  refine lv_if_eq (tgt := 25) hx hb dX12_trace_13 (by decide) (fun c_3 => ?_) (fun c_3 => ?_)
  · have h := ite_t c_3 h
    refine lv_aload_n hx hb dX12_trace_25 rfl (lv_at hv 0 rfl) ?_
    refine lv_iconst (v := (2 : Int32)) hx hb dX12_trace_26 (by decide) ?_
    obtain ⟨⟨r_4, found_5⟩, hf_6, h⟩ := bd_ex h
    have sb := Sb.same hP hD hS hA
    refine calI (va_runV (As := [.int (2 : Int32)]) (rest := []) ⟨hx, hb, hml, hown, hts⟩ (c_X12_finds l G D cA ad _ d kept aside images found base at0 size fault opened isRub names code coded pile needs traced traceMany who bitsOf sizeOf number lifted (2 : Int32) r_4 found_5 hf_6) (cwV 1 hts gX12_trace_X12_finds rfl rfl rfl (by decide +kernel) ⟨Nat.le_of_ble_eq_true rfl, Nat.le_of_ble_eq_true rfl⟩) (pvV hE hK hS sb (va_recv hK hP (ci := 12) (q0 := 0) rfl rfl)) rfl rfl hv.1 rfl (lv_room (Nat.le_of_ble_eq_true rfl)) dX12_trace_27 ⟨Nat.le_of_ble_eq_true rfl, Nat.le_of_ble_eq_true rfl⟩) hS sb (Jn.same sb) (fun H locs hP hD hS => ?_)
    have hP : va_P D vwCl (wM cA ad d kept aside images found_5 base at0 size fault opened isRub names code coded pile needs traced traceMany who bitsOf sizeOf number lifted) H := hP
    have hD : va_D A (wM cA ad d kept aside images found_5 base at0 size fault opened isRub names code coded pile needs traced traceMany who bitsOf sizeOf number lifted) := hD
    have h := Option.some.inj h
    have ee0 : r_4 = rR := congrArg (fun q => q.1) h
    have ee1 : found_5 = foundR := congrArg (fun q => q.2) h
    subst ee0
    subst ee1
    rw [← hQ]
    exact retI hx hb hr hlk hK hP hD hS dX12_trace_30 ⟨Nat.le_of_ble_eq_true rfl, Nat.le_of_ble_eq_true rfl⟩
  · have h := ite_f c_3 h
    refine lv_aload_n hx hb dX12_trace_16 rfl (lv_at hv 0 rfl) ?_
    refine va_get (D := D) (ci := 12) (v := .ref (ad 17)) (C := RX12) (T := TX12) (N := 23) hx hb hts in_12 hown hK hP 0 rfl rfl 16 (by decide) w_1 (fun _ h9 => h9) rfl dX12_trace_17 ?_
    refine lv_iload_n hx hb dX12_trace_20 rfl (lv_at hv 1 rfl) ?_
    obtain ⟨c_7, h⟩ := ckI_ex h
    refine va_iald (D := D) hx hb hK hP 9 0 rfl rfl c_7 dX12_trace_21 ?_
    refine lv_goto (tgt := 30) hx hb dX12_trace_22 (by decide) ?_
    have h := Option.some.inj h
    have ee0 : (traced (a).toNatClampNeg) = rR := congrArg (fun q => q.1) h
    have ee1 : found = foundR := congrArg (fun q => q.2) h
    subst ee0
    subst ee1
    rw [← hQ]
    exact retI hx hb hr hlk hK hP hD hS dX12_trace_30 ⟨Nat.le_of_ble_eq_true rfl, Nat.le_of_ble_eq_true rfl⟩

def fX12_sheet_90B (v1_90 : Int32) (found_90 : Nat → Int32) (bitsOf_90 : Nat → Int32) (sizeOf_90 : Nat → Int32) (v4_90b : Int32) (number_90b : Nat → Int32) : Option ((Int32 × (Nat → Int32)) ⊕ (Int32 × (Nat → Int32))) :=
  (if (40 : Int32) ≤ v4_90b then some (.inr (v4_90b, number_90b)) else ckI (((40 : Int32) * v1_90) + v4_90b) 160 (bnd (upd number_90b ((((40 : Int32) * v1_90) + v4_90b)).toNatClampNeg (0 : Int32)) fun number_17 => bnd (v4_90b + (1 : Int32)) fun y_18 => some (.inl (y_18, number_17))))
def fX12_sheet_90 (v1_90 : Int32) (v4_90 : Int32) (found_90 : Nat → Int32) (bitsOf_90 : Nat → Int32) (sizeOf_90 : Nat → Int32) (number_90 : Nat → Int32) : Option (Int32 × (Nat → Int32) × (Nat → Int32) × (Nat → Int32) × (Nat → Int32)) :=
  bd (lp (fun σ : Int32 × (Nat → Int32) => fX12_sheet_90B v1_90 found_90 bitsOf_90 sizeOf_90 (σ.1) (σ.2)) FU (v4_90, number_90)) fun ρ => match ρ with | (v4_90r, number_90r) => some ((1 : Int32), found_90, bitsOf_90, sizeOf_90, number_90r)
def fX12_sheet_86 (v1_86 : Int32) (k0_86 : Int32) (k1_86 : Int32) (found_86 : Nat → Int32) (bitsOf_86 : Nat → Int32) (sizeOf_86 : Nat → Int32) (number_86 : Nat → Int32) : Option (Int32 × (Nat → Int32) × (Nat → Int32) × (Nat → Int32) × (Nat → Int32)) :=
  ckI k1_86 4 (bnd (upd sizeOf_86 (k1_86).toNatClampNeg k0_86) fun sizeOf_14 => fX12_sheet_90 v1_86 (0 : Int32) found_86 bitsOf_86 sizeOf_14 number_86)
def fX12_sheet_65 (v1_65 : Int32) (v2_65 : Int32) (v3_65 : Int32) (found_65 : Nat → Int32) (bitsOf_65 : Nat → Int32) (sizeOf_65 : Nat → Int32) (number_65 : Nat → Int32) : Option (Int32 × (Nat → Int32) × (Nat → Int32) × (Nat → Int32) × (Nat → Int32)) :=
  ckI v1_65 4 (bnd (upd bitsOf_65 (v1_65).toNatClampNeg v2_65) fun bitsOf_11 => (if v2_65 = 0 then fX12_sheet_86 v1_65 (0 : Int32) v1_65 found_65 bitsOf_11 sizeOf_65 number_65 else fX12_sheet_86 v1_65 v3_65 v1_65 found_65 bitsOf_11 sizeOf_65 number_65))
def fX12_sheet_49 (v1_49 : Int32) (v2_49 : Int32) (v3_49 : Int32) (found_49 : Nat → Int32) (bitsOf_49 : Nat → Int32) (sizeOf_49 : Nat → Int32) (number_49 : Nat → Int32) : Option (Int32 × (Nat → Int32) × (Nat → Int32) × (Nat → Int32) × (Nat → Int32)) :=
  (if v2_49 = 0 then fX12_sheet_65 v1_49 v2_49 v3_49 found_49 bitsOf_49 sizeOf_49 number_49 else (if v3_49 ≤ (40 : Int32) then fX12_sheet_65 v1_49 v2_49 v3_49 found_49 bitsOf_49 sizeOf_49 number_49 else bd (fX12_finds (1 : Int32) found_49) fun (r_20, found_21) => some (r_20, found_21, bitsOf_49, sizeOf_49, number_49)))
def fX12_sheet_35 (v1_35 : Int32) (v2_35 : Int32) (v3_35 : Int32) (found_35 : Nat → Int32) (bitsOf_35 : Nat → Int32) (sizeOf_35 : Nat → Int32) (number_35 : Nat → Int32) : Option (Int32 × (Nat → Int32) × (Nat → Int32) × (Nat → Int32) × (Nat → Int32)) :=
  (if v2_35 = 0 then fX12_sheet_49 v1_35 v2_35 v3_35 found_35 bitsOf_35 sizeOf_35 number_35 else (if 0 ≤ v3_35 then fX12_sheet_49 v1_35 v2_35 v3_35 found_35 bitsOf_35 sizeOf_35 number_35 else bd (fX12_finds (3 : Int32) found_35) fun (r_24, found_25) => some (r_24, found_25, bitsOf_35, sizeOf_35, number_35)))
def fX12_sheet (a : Int32) (b : Int32) (n : Int32) (found : Nat → Int32) (bitsOf : Nat → Int32) (sizeOf : Nat → Int32) (number : Nat → Int32) : Option (Int32 × (Nat → Int32) × (Nat → Int32) × (Nat → Int32) × (Nat → Int32)) :=
  bd (fX12_isSheet a) fun r_1 => (if r_1 = 0 then bd (fX12_finds (1 : Int32) found) fun (r_4, found_5) => some (r_4, found_5, bitsOf, sizeOf, number) else (if b = 0 then fX12_sheet_35 a b n found bitsOf sizeOf number else (if b = (8 : Int32) then fX12_sheet_35 a b n found bitsOf sizeOf number else (if b = (16 : Int32) then fX12_sheet_35 a b n found bitsOf sizeOf number else (if b = (32 : Int32) then fX12_sheet_35 a b n found bitsOf sizeOf number else bd (fX12_finds (1 : Int32) found) fun (r_30, found_31) => some (r_30, found_31, bitsOf, sizeOf, number))))))
set_option maxHeartbeats 4000000 in
set_option maxRecDepth 100000 in
theorem c_X12_sheet (l : Launch) (G : Nat → Nat) (D : va_G) (cA : Nat → ClassId) (ad : Nat → Nat) (sz : Nat) (d : Nat → Int32) (kept : Nat → Int32) (aside : Nat → Int32) (images : Int32) (found : Nat → Int32) (base : Int32) (at0 : Int32) (size : Int32) (fault : Int32) (opened : Int32) (isRub : Int32) (names : Nat → Int32) (code : Nat → Int32) (coded : Int32) (pile : Nat → Int32) (needs : Nat → Int32) (traced : Nat → Int32) (traceMany : Int32) (who : Int32) (bitsOf : Nat → Int32) (sizeOf : Nat → Int32) (number : Nat → Int32) (lifted : Nat → Int32) (a : Int32) (b : Int32) (n : Int32) (rR : Int32) (foundR : Nat → Int32) (bitsOfR : Nat → Int32) (sizeOfR : Nat → Int32) (numberR : Nat → Int32) (h : fX12_sheet a b n found bitsOf sizeOf number = some (rR, foundR, bitsOfR, sizeOfR, numberR)) : Met l yX12_sheet wsX12_sheet ({ frames := 2, cells := 0, slots := 0, locals := 45 } : Room) (PW G D (tyC cA) sz (wM cA ad d kept aside images found base at0 size fault opened isRub names code coded pile needs traced traceMany who bitsOf sizeOf number lifted) [.ref (ad 0), .int a, .int b, .int n]) (QI D (tyC cA) (va_A (wM cA ad d kept aside images found base at0 size fault opened isRub names code coded pile needs traced traceMany who bitsOf sizeOf number lifted) sz) rR (wM cA ad d kept aside images foundR base at0 size fault opened isRub names code coded pile needs traced traceMany who bitsOfR sizeOfR numberR lifted)) 0 0 (va_A (wM cA ad d kept aside images found base at0 size fault opened isRub names code coded pile needs traced traceMany who bitsOf sizeOf number lifted) sz) := by
  refine ent (cc := cX12_sheet) (maxL := 5) (ret := (some .int)) (fun A => QI D (tyC cA) A rR (wM cA ad d kept aside images foundR base at0 size fault opened isRub names code coded pile needs traced traceMany who bitsOfR sizeOfR numberR lifted)) (by decide +kernel) rfl (Nat.le_of_ble_eq_true rfl) ?_
  intro p e s m args below meth c A ls H hx hb hml hr hlk hts hown hA hK hE hP hD hS hv hmm
  have hv : lv_has ls 5 [(0, .ref (ad 0)), (1, .int a), (2, .int b), (3, .int n)] := hv
  have in_12 : ∀ w ∈ u_ws RX12 TX12 23, w ∈ wsX12_sheet := fun _ h => List.mem_cons_of_mem _ (List.mem_append_right _ h)
  have w_0 := hts (.fieldLink RX12 37 "SpoonsLastModel" "bitsOf" "[I") (List.mem_of_getElem? (i := 1) rfl)
  have w_1 := hts (.fieldLink RX12 40 "SpoonsLastModel" "sizeOf" "[I") (List.mem_of_getElem? (i := 2) rfl)
  have w_2 := hts (.fieldLink RX12 43 "SpoonsLastModel" "number" "[I") (List.mem_of_getElem? (i := 3) rfl)
  generalize hQ : MQ below _ args s 0 0 A = Q
  have C_90 : ∀ (v1_90 : Int32) (v4_90 : Int32) (found_90 : Nat → Int32) (bitsOf_90 : Nat → Int32) (sizeOf_90 : Nat → Int32) (number_90 : Nat → Int32), fX12_sheet_90 v1_90 v4_90 found_90 bitsOf_90 sizeOf_90 number_90 = some (rR, foundR, bitsOfR, sizeOfR, numberR) → WW p l e ({ frames := 2, cells := 0, slots := 0, locals := 45 } : Room) s m args below meth c D A 0 0 Q (wM cA ad d kept aside images found_90 base at0 size fault opened isRub names code coded pile needs traced traceMany who bitsOf_90 sizeOf_90 number_90 lifted) 5 [(0, .ref (ad 0)), (1, .int v1_90), (4, .int v4_90)] 90 [] := by
    intro v1_90 v4_90 found_90 bitsOf_90 sizeOf_90 number_90 h
    unfold fX12_sheet_90 at h
    obtain ⟨⟨v4_90r, number_90r⟩, ho, h⟩ := bd_ex h
    have LE : WW p l e ({ frames := 2, cells := 0, slots := 0, locals := 45 } : Room) s m args below meth c D A 0 0 Q (wM cA ad d kept aside images found_90 base at0 size fault opened isRub names code coded pile needs traced traceMany who bitsOf_90 sizeOf_90 number_90r lifted) 5 [] 116 [] := by
      intro H locs ls hP hD hS hv
      refine lv_iconst (v := (1 : Int32)) hx hb dX12_sheet_116 (by decide) ?_
      have h := Option.some.inj h
      have ee0 : (1 : Int32) = rR := congrArg (fun q => q.1) h
      have ee1 : found_90 = foundR := congrArg (fun q => q.2.1) h
      have ee2 : bitsOf_90 = bitsOfR := congrArg (fun q => q.2.2.1) h
      have ee3 : sizeOf_90 = sizeOfR := congrArg (fun q => q.2.2.2.1) h
      have ee4 : number_90r = numberR := congrArg (fun q => q.2.2.2.2) h
      subst ee0
      subst ee1
      subst ee2
      subst ee3
      subst ee4
      rw [← hQ]
      exact retI hx hb hr hlk hK hP hD hS dX12_sheet_117 ⟨Nat.le_of_ble_eq_true rfl, Nat.le_of_ble_eq_true rfl⟩
    have LB : ∀ (nf : Nat) (v4_90b : Int32) (number_90b : Nat → Int32), lp (fun σ : Int32 × (Nat → Int32) => fX12_sheet_90B v1_90 found_90 bitsOf_90 sizeOf_90 (σ.1) (σ.2)) nf (v4_90b, number_90b) = some (v4_90r, number_90r) → WW p l e ({ frames := 2, cells := 0, slots := 0, locals := 45 } : Room) s m args below meth c D A 0 0 Q (wM cA ad d kept aside images found_90 base at0 size fault opened isRub names code coded pile needs traced traceMany who bitsOf_90 sizeOf_90 number_90b lifted) 5 [(0, .ref (ad 0)), (1, .int v1_90), (4, .int v4_90b)] 90 [] := by
      intro nf
      induction nf with
      | zero => intro v4_90b number_90b hl; cases hl
      | succ nf ih =>
        intro v4_90b number_90b hl
        obtain ⟨x, h, hl⟩ := lp_ex hl
        have h : fX12_sheet_90B v1_90 found_90 bitsOf_90 sizeOf_90 v4_90b number_90b = some x := h
        unfold fX12_sheet_90B at h
        intro H locs ls hP hD hS hv
        refine lv_iload hx hb dX12_sheet_90 (lv_at hv 2 rfl) ?_
        refine lv_bipush (v := (40 : Int32)) hx hb dX12_sheet_92 (by decide) ?_
        refine lv_icmp_ge (tgt := 116) hx hb dX12_sheet_94 (by decide) (fun c_15 => ?_) (fun c_15 => ?_)
        · have h := ite_t c_15 h
          cases h
          have hl : some (v4_90b, number_90b) = some (v4_90r, number_90r) := hl
          have hl := Option.some.inj hl
          have ee0 : v4_90b = v4_90r := congrArg (fun q => q.1) hl
          have ee1 : number_90b = number_90r := congrArg (fun q => q.2) hl
          subst ee0
          subst ee1
          exact LE _ _ _ hP hD hS (lv_sub hv [] rfl)
        · have h := ite_f c_15 h
          refine lv_aload_n hx hb dX12_sheet_97 rfl (lv_at hv 0 rfl) ?_
          refine va_get (D := D) (ci := 12) (v := .ref (ad 22)) (C := RX12) (T := TX12) (N := 23) hx hb hts in_12 hown hK hP 0 rfl rfl 21 (by decide) w_2 (fun _ h9 => h9) rfl dX12_sheet_98 ?_
          refine lv_bipush (v := (40 : Int32)) hx hb dX12_sheet_101 (by decide) ?_
          refine lv_iload_n hx hb dX12_sheet_103 rfl (lv_at hv 1 rfl) ?_
          refine lv_imul hx hb dX12_sheet_104 ?_
          refine lv_iload hx hb dX12_sheet_105 (lv_at hv 2 rfl) ?_
          refine lv_iadd hx hb dX12_sheet_107 ?_
          refine lv_iconst (v := (0 : Int32)) hx hb dX12_sheet_108 (by decide) ?_
          obtain ⟨c_16, h⟩ := ckI_ex h
          obtain ⟨number_17, enumber_17, h⟩ := bnd_ex h
          refine va_iast (D := D) hx hb hK hP hD hS 12 0 rfl rfl c_16 dX12_sheet_109 (fun H locs hP hD hS => ?_)
          rw [← enumber_17] at hP hD
          have hP : va_P D vwCl (wM cA ad d kept aside images found_90 base at0 size fault opened isRub names code coded pile needs traced traceMany who bitsOf_90 sizeOf_90 number_17 lifted) H := hP
          have hD : va_D A (wM cA ad d kept aside images found_90 base at0 size fault opened isRub names code coded pile needs traced traceMany who bitsOf_90 sizeOf_90 number_17 lifted) := hD
          obtain ⟨y_18, ey_18, h⟩ := bnd_ex h
          refine lv_iinc (v := y_18) (lv' := [(4, .int y_18), (0, .ref (ad 0)), (1, .int v1_90)]) hx hb dX12_sheet_110 hv (k := 2) rfl (by rw [ey_18]; rfl) (by decide) rfl (fun ls hv => ?_)
          refine lv_goto (tgt := 90) hx hb dX12_sheet_113 (by decide) ?_
          cases h
          exact ih y_18 number_17 hl _ _ _ hP hD hS (lv_sub hv [1, 2, 0] rfl)
    exact LB FU v4_90 number_90 ho
  have C_86 : ∀ (v1_86 : Int32) (k0_86 : Int32) (k1_86 : Int32) (found_86 : Nat → Int32) (bitsOf_86 : Nat → Int32) (sizeOf_86 : Nat → Int32) (number_86 : Nat → Int32), fX12_sheet_86 v1_86 k0_86 k1_86 found_86 bitsOf_86 sizeOf_86 number_86 = some (rR, foundR, bitsOfR, sizeOfR, numberR) → WW p l e ({ frames := 2, cells := 0, slots := 0, locals := 45 } : Room) s m args below meth c D A 0 0 Q (wM cA ad d kept aside images found_86 base at0 size fault opened isRub names code coded pile needs traced traceMany who bitsOf_86 sizeOf_86 number_86 lifted) 5 [(0, .ref (ad 0)), (1, .int v1_86)] 86 [.int k0_86, .int k1_86, .ref (ad 21)] := by
    intro v1_86 k0_86 k1_86 found_86 bitsOf_86 sizeOf_86 number_86 h
    unfold fX12_sheet_86 at h
    intro H locs ls hP hD hS hv
    obtain ⟨c_13, h⟩ := ckI_ex h
    obtain ⟨sizeOf_14, esizeOf_14, h⟩ := bnd_ex h
    refine va_iast (D := D) hx hb hK hP hD hS 11 0 rfl rfl c_13 dX12_sheet_86 (fun H locs hP hD hS => ?_)
    rw [← esizeOf_14] at hP hD
    have hP : va_P D vwCl (wM cA ad d kept aside images found_86 base at0 size fault opened isRub names code coded pile needs traced traceMany who bitsOf_86 sizeOf_14 number_86 lifted) H := hP
    have hD : va_D A (wM cA ad d kept aside images found_86 base at0 size fault opened isRub names code coded pile needs traced traceMany who bitsOf_86 sizeOf_14 number_86 lifted) := hD
    refine lv_iconst (v := (0 : Int32)) hx hb dX12_sheet_87 (by decide) ?_
    refine lv_istore (lv' := [(4, .int (0 : Int32)), (0, .ref (ad 0)), (1, .int v1_86)]) hx hb dX12_sheet_88 hv (by decide) rfl (fun ls hv => ?_)
    exact C_90 v1_86 (0 : Int32) found_86 bitsOf_86 sizeOf_14 number_86 h _ _ _ hP hD hS (lv_sub hv [1, 2, 0] rfl)
  have C_65 : ∀ (v1_65 : Int32) (v2_65 : Int32) (v3_65 : Int32) (found_65 : Nat → Int32) (bitsOf_65 : Nat → Int32) (sizeOf_65 : Nat → Int32) (number_65 : Nat → Int32), fX12_sheet_65 v1_65 v2_65 v3_65 found_65 bitsOf_65 sizeOf_65 number_65 = some (rR, foundR, bitsOfR, sizeOfR, numberR) → WW p l e ({ frames := 2, cells := 0, slots := 0, locals := 45 } : Room) s m args below meth c D A 0 0 Q (wM cA ad d kept aside images found_65 base at0 size fault opened isRub names code coded pile needs traced traceMany who bitsOf_65 sizeOf_65 number_65 lifted) 5 [(0, .ref (ad 0)), (1, .int v1_65), (2, .int v2_65), (3, .int v3_65)] 65 [] := by
    intro v1_65 v2_65 v3_65 found_65 bitsOf_65 sizeOf_65 number_65 h
    unfold fX12_sheet_65 at h
    intro H locs ls hP hD hS hv
    refine lv_aload_n hx hb dX12_sheet_65 rfl (lv_at hv 0 rfl) ?_
    refine va_get (D := D) (ci := 12) (v := .ref (ad 20)) (C := RX12) (T := TX12) (N := 23) hx hb hts in_12 hown hK hP 0 rfl rfl 19 (by decide) w_0 (fun _ h9 => h9) rfl dX12_sheet_66 ?_
    refine lv_iload_n hx hb dX12_sheet_69 rfl (lv_at hv 1 rfl) ?_
    refine lv_iload_n hx hb dX12_sheet_70 rfl (lv_at hv 2 rfl) ?_
    obtain ⟨c_10, h⟩ := ckI_ex h
    obtain ⟨bitsOf_11, ebitsOf_11, h⟩ := bnd_ex h
    refine va_iast (D := D) hx hb hK hP hD hS 10 0 rfl rfl c_10 dX12_sheet_71 (fun H locs hP hD hS => ?_)
    rw [← ebitsOf_11] at hP hD
    have hP : va_P D vwCl (wM cA ad d kept aside images found_65 base at0 size fault opened isRub names code coded pile needs traced traceMany who bitsOf_11 sizeOf_65 number_65 lifted) H := hP
    have hD : va_D A (wM cA ad d kept aside images found_65 base at0 size fault opened isRub names code coded pile needs traced traceMany who bitsOf_11 sizeOf_65 number_65 lifted) := hD
    refine lv_aload_n hx hb dX12_sheet_72 rfl (lv_at hv 0 rfl) ?_
    refine va_get (D := D) (ci := 12) (v := .ref (ad 21)) (C := RX12) (T := TX12) (N := 23) hx hb hts in_12 hown hK hP 0 rfl rfl 20 (by decide) w_1 (fun _ h9 => h9) rfl dX12_sheet_73 ?_
    refine lv_iload_n hx hb dX12_sheet_76 rfl (lv_at hv 1 rfl) ?_
    refine lv_iload_n hx hb dX12_sheet_77 rfl (lv_at hv 2 rfl) ?_
    refine lv_if_ne (tgt := 85) hx hb dX12_sheet_78 (by decide) (fun c_12 => ?_) (fun c_12 => ?_)
    · have h := ite_f c_12 h
      refine lv_iload_n hx hb dX12_sheet_85 rfl (lv_at hv 3 rfl) ?_
      exact C_86 v1_65 v3_65 v1_65 found_65 bitsOf_11 sizeOf_65 number_65 h _ _ _ hP hD hS (lv_sub hv [0, 1] rfl)
    · have h := ite_t c_12 h
      refine lv_iconst (v := (0 : Int32)) hx hb dX12_sheet_81 (by decide) ?_
      refine lv_goto (tgt := 86) hx hb dX12_sheet_82 (by decide) ?_
      exact C_86 v1_65 (0 : Int32) v1_65 found_65 bitsOf_11 sizeOf_65 number_65 h _ _ _ hP hD hS (lv_sub hv [0, 1] rfl)
  have C_49 : ∀ (v1_49 : Int32) (v2_49 : Int32) (v3_49 : Int32) (found_49 : Nat → Int32) (bitsOf_49 : Nat → Int32) (sizeOf_49 : Nat → Int32) (number_49 : Nat → Int32), fX12_sheet_49 v1_49 v2_49 v3_49 found_49 bitsOf_49 sizeOf_49 number_49 = some (rR, foundR, bitsOfR, sizeOfR, numberR) → WW p l e ({ frames := 2, cells := 0, slots := 0, locals := 45 } : Room) s m args below meth c D A 0 0 Q (wM cA ad d kept aside images found_49 base at0 size fault opened isRub names code coded pile needs traced traceMany who bitsOf_49 sizeOf_49 number_49 lifted) 5 [(0, .ref (ad 0)), (1, .int v1_49), (2, .int v2_49), (3, .int v3_49)] 49 [] := by
    intro v1_49 v2_49 v3_49 found_49 bitsOf_49 sizeOf_49 number_49 h
    unfold fX12_sheet_49 at h
    intro H locs ls hP hD hS hv
    refine lv_iload_n hx hb dX12_sheet_49 rfl (lv_at hv 2 rfl) ?_
    refine lv_if_eq (tgt := 65) hx hb dX12_sheet_50 (by decide) (fun c_9 => ?_) (fun c_9 => ?_)
    · have h := ite_t c_9 h
      exact C_65 v1_49 v2_49 v3_49 found_49 bitsOf_49 sizeOf_49 number_49 h _ _ _ hP hD hS (lv_sub hv [0, 1, 2, 3] rfl)
    · have h := ite_f c_9 h
      refine lv_iload_n hx hb dX12_sheet_53 rfl (lv_at hv 3 rfl) ?_
      refine lv_bipush (v := (40 : Int32)) hx hb dX12_sheet_54 (by decide) ?_
      refine lv_icmp_le (tgt := 65) hx hb dX12_sheet_56 (by decide) (fun c_19 => ?_) (fun c_19 => ?_)
      · have h := ite_t c_19 h
        exact C_65 v1_49 v2_49 v3_49 found_49 bitsOf_49 sizeOf_49 number_49 h _ _ _ hP hD hS (lv_sub hv [0, 1, 2, 3] rfl)
      · have h := ite_f c_19 h
        refine lv_aload_n hx hb dX12_sheet_59 rfl (lv_at hv 0 rfl) ?_
        refine lv_iconst (v := (1 : Int32)) hx hb dX12_sheet_60 (by decide) ?_
        obtain ⟨⟨r_20, found_21⟩, hf_22, h⟩ := bd_ex h
        have sb := Sb.same hP hD hS hA
        refine calI (va_runV (As := [.int (1 : Int32)]) (rest := []) ⟨hx, hb, hml, hown, hts⟩ (c_X12_finds l G D cA ad _ d kept aside images found_49 base at0 size fault opened isRub names code coded pile needs traced traceMany who bitsOf_49 sizeOf_49 number_49 lifted (1 : Int32) r_20 found_21 hf_22) (cwV 1 hts gX12_sheet_X12_finds rfl rfl rfl (by decide +kernel) ⟨Nat.le_of_ble_eq_true rfl, Nat.le_of_ble_eq_true rfl⟩) (pvV hE hK hS sb (va_recv hK hP (ci := 12) (q0 := 0) rfl rfl)) rfl rfl hv.1 rfl (lv_room (Nat.le_of_ble_eq_true rfl)) dX12_sheet_61 ⟨Nat.le_of_ble_eq_true rfl, Nat.le_of_ble_eq_true rfl⟩) hS sb (Jn.same sb) (fun H locs hP hD hS => ?_)
        have hP : va_P D vwCl (wM cA ad d kept aside images found_21 base at0 size fault opened isRub names code coded pile needs traced traceMany who bitsOf_49 sizeOf_49 number_49 lifted) H := hP
        have hD : va_D A (wM cA ad d kept aside images found_21 base at0 size fault opened isRub names code coded pile needs traced traceMany who bitsOf_49 sizeOf_49 number_49 lifted) := hD
        have h := Option.some.inj h
        have ee0 : r_20 = rR := congrArg (fun q => q.1) h
        have ee1 : found_21 = foundR := congrArg (fun q => q.2.1) h
        have ee2 : bitsOf_49 = bitsOfR := congrArg (fun q => q.2.2.1) h
        have ee3 : sizeOf_49 = sizeOfR := congrArg (fun q => q.2.2.2.1) h
        have ee4 : number_49 = numberR := congrArg (fun q => q.2.2.2.2) h
        subst ee0
        subst ee1
        subst ee2
        subst ee3
        subst ee4
        rw [← hQ]
        exact retI hx hb hr hlk hK hP hD hS dX12_sheet_64 ⟨Nat.le_of_ble_eq_true rfl, Nat.le_of_ble_eq_true rfl⟩
  have C_35 : ∀ (v1_35 : Int32) (v2_35 : Int32) (v3_35 : Int32) (found_35 : Nat → Int32) (bitsOf_35 : Nat → Int32) (sizeOf_35 : Nat → Int32) (number_35 : Nat → Int32), fX12_sheet_35 v1_35 v2_35 v3_35 found_35 bitsOf_35 sizeOf_35 number_35 = some (rR, foundR, bitsOfR, sizeOfR, numberR) → WW p l e ({ frames := 2, cells := 0, slots := 0, locals := 45 } : Room) s m args below meth c D A 0 0 Q (wM cA ad d kept aside images found_35 base at0 size fault opened isRub names code coded pile needs traced traceMany who bitsOf_35 sizeOf_35 number_35 lifted) 5 [(0, .ref (ad 0)), (1, .int v1_35), (2, .int v2_35), (3, .int v3_35)] 35 [] := by
    intro v1_35 v2_35 v3_35 found_35 bitsOf_35 sizeOf_35 number_35 h
    unfold fX12_sheet_35 at h
    intro H locs ls hP hD hS hv
    refine lv_iload_n hx hb dX12_sheet_35 rfl (lv_at hv 2 rfl) ?_
    refine lv_if_eq (tgt := 49) hx hb dX12_sheet_36 (by decide) (fun c_8 => ?_) (fun c_8 => ?_)
    · have h := ite_t c_8 h
      exact C_49 v1_35 v2_35 v3_35 found_35 bitsOf_35 sizeOf_35 number_35 h _ _ _ hP hD hS (lv_sub hv [0, 1, 2, 3] rfl)
    · have h := ite_f c_8 h
      refine lv_iload_n hx hb dX12_sheet_39 rfl (lv_at hv 3 rfl) ?_
      refine lv_if_ge (tgt := 49) hx hb dX12_sheet_40 (by decide) (fun c_23 => ?_) (fun c_23 => ?_)
      · have h := ite_t c_23 h
        exact C_49 v1_35 v2_35 v3_35 found_35 bitsOf_35 sizeOf_35 number_35 h _ _ _ hP hD hS (lv_sub hv [0, 1, 2, 3] rfl)
      · have h := ite_f c_23 h
        refine lv_aload_n hx hb dX12_sheet_43 rfl (lv_at hv 0 rfl) ?_
        refine lv_iconst (v := (3 : Int32)) hx hb dX12_sheet_44 (by decide) ?_
        obtain ⟨⟨r_24, found_25⟩, hf_26, h⟩ := bd_ex h
        have sb := Sb.same hP hD hS hA
        refine calI (va_runV (As := [.int (3 : Int32)]) (rest := []) ⟨hx, hb, hml, hown, hts⟩ (c_X12_finds l G D cA ad _ d kept aside images found_35 base at0 size fault opened isRub names code coded pile needs traced traceMany who bitsOf_35 sizeOf_35 number_35 lifted (3 : Int32) r_24 found_25 hf_26) (cwV 1 hts gX12_sheet_X12_finds rfl rfl rfl (by decide +kernel) ⟨Nat.le_of_ble_eq_true rfl, Nat.le_of_ble_eq_true rfl⟩) (pvV hE hK hS sb (va_recv hK hP (ci := 12) (q0 := 0) rfl rfl)) rfl rfl hv.1 rfl (lv_room (Nat.le_of_ble_eq_true rfl)) dX12_sheet_45 ⟨Nat.le_of_ble_eq_true rfl, Nat.le_of_ble_eq_true rfl⟩) hS sb (Jn.same sb) (fun H locs hP hD hS => ?_)
        have hP : va_P D vwCl (wM cA ad d kept aside images found_25 base at0 size fault opened isRub names code coded pile needs traced traceMany who bitsOf_35 sizeOf_35 number_35 lifted) H := hP
        have hD : va_D A (wM cA ad d kept aside images found_25 base at0 size fault opened isRub names code coded pile needs traced traceMany who bitsOf_35 sizeOf_35 number_35 lifted) := hD
        have h := Option.some.inj h
        have ee0 : r_24 = rR := congrArg (fun q => q.1) h
        have ee1 : found_25 = foundR := congrArg (fun q => q.2.1) h
        have ee2 : bitsOf_35 = bitsOfR := congrArg (fun q => q.2.2.1) h
        have ee3 : sizeOf_35 = sizeOfR := congrArg (fun q => q.2.2.2.1) h
        have ee4 : number_35 = numberR := congrArg (fun q => q.2.2.2.2) h
        subst ee0
        subst ee1
        subst ee2
        subst ee3
        subst ee4
        rw [← hQ]
        exact retI hx hb hr hlk hK hP hD hS dX12_sheet_48 ⟨Nat.le_of_ble_eq_true rfl, Nat.le_of_ble_eq_true rfl⟩
  have hP : va_P D vwCl (wM cA ad d kept aside images found base at0 size fault opened isRub names code coded pile needs traced traceMany who bitsOf sizeOf number lifted) H := hP
  unfold fX12_sheet at h
  refine lv_iload_n hx hb dX12_sheet_0 rfl (lv_at hv 1 rfl) ?_
  obtain ⟨r_1, hf_2, h⟩ := bd_ex h
  have sb := Sb.nil hP hD hS hA
  refine calI (va_runS (As := [.int a]) (rest := []) ⟨hx, hb, hml, hown, hts⟩ (c_X12_isSheet l G D cA  _ a r_1 hf_2) (va_cwS 1 hts gX12_sheet_X12_isSheet rfl rfl rfl (by decide +kernel) ⟨Nat.le_of_ble_eq_true rfl, Nat.le_of_ble_eq_true rfl⟩) (pvS hE hK hS sb) rfl rfl hv.1 rfl (lv_room (Nat.le_of_ble_eq_true rfl)) dX12_sheet_1 ⟨Nat.le_of_ble_eq_true rfl, Nat.le_of_ble_eq_true rfl⟩) hS sb (Jn.nil hP hD) (fun H locs hP hD hS => ?_)
  have hP : va_P D vwCl (wM cA ad d kept aside images found base at0 size fault opened isRub names code coded pile needs traced traceMany who bitsOf sizeOf number lifted) H := hP
  have hD : va_D A (wM cA ad d kept aside images found base at0 size fault opened isRub names code coded pile needs traced traceMany who bitsOf sizeOf number lifted) := hD
  refine lv_if_eq (tgt := 29) hx hb dX12_sheet_4 (by decide) (fun c_3 => ?_) (fun c_3 => ?_)
  · have h := ite_t c_3 h
    refine lv_aload_n hx hb dX12_sheet_29 rfl (lv_at hv 0 rfl) ?_
    refine lv_iconst (v := (1 : Int32)) hx hb dX12_sheet_30 (by decide) ?_
    obtain ⟨⟨r_4, found_5⟩, hf_6, h⟩ := bd_ex h
    have sb := Sb.same hP hD hS hA
    refine calI (va_runV (As := [.int (1 : Int32)]) (rest := []) ⟨hx, hb, hml, hown, hts⟩ (c_X12_finds l G D cA ad _ d kept aside images found base at0 size fault opened isRub names code coded pile needs traced traceMany who bitsOf sizeOf number lifted (1 : Int32) r_4 found_5 hf_6) (cwV 1 hts gX12_sheet_X12_finds rfl rfl rfl (by decide +kernel) ⟨Nat.le_of_ble_eq_true rfl, Nat.le_of_ble_eq_true rfl⟩) (pvV hE hK hS sb (va_recv hK hP (ci := 12) (q0 := 0) rfl rfl)) rfl rfl hv.1 rfl (lv_room (Nat.le_of_ble_eq_true rfl)) dX12_sheet_31 ⟨Nat.le_of_ble_eq_true rfl, Nat.le_of_ble_eq_true rfl⟩) hS sb (Jn.same sb) (fun H locs hP hD hS => ?_)
    have hP : va_P D vwCl (wM cA ad d kept aside images found_5 base at0 size fault opened isRub names code coded pile needs traced traceMany who bitsOf sizeOf number lifted) H := hP
    have hD : va_D A (wM cA ad d kept aside images found_5 base at0 size fault opened isRub names code coded pile needs traced traceMany who bitsOf sizeOf number lifted) := hD
    have h := Option.some.inj h
    have ee0 : r_4 = rR := congrArg (fun q => q.1) h
    have ee1 : found_5 = foundR := congrArg (fun q => q.2.1) h
    have ee2 : bitsOf = bitsOfR := congrArg (fun q => q.2.2.1) h
    have ee3 : sizeOf = sizeOfR := congrArg (fun q => q.2.2.2.1) h
    have ee4 : number = numberR := congrArg (fun q => q.2.2.2.2) h
    subst ee0
    subst ee1
    subst ee2
    subst ee3
    subst ee4
    rw [← hQ]
    exact retI hx hb hr hlk hK hP hD hS dX12_sheet_34 ⟨Nat.le_of_ble_eq_true rfl, Nat.le_of_ble_eq_true rfl⟩
  · have h := ite_f c_3 h
    refine lv_iload_n hx hb dX12_sheet_7 rfl (lv_at hv 2 rfl) ?_
    refine lv_if_eq (tgt := 35) hx hb dX12_sheet_8 (by decide) (fun c_7 => ?_) (fun c_7 => ?_)
    · have h := ite_t c_7 h
      exact C_35 a b n found bitsOf sizeOf number h _ _ _ hP hD hS (lv_sub hv [0, 1, 2, 3] rfl)
    · have h := ite_f c_7 h
      refine lv_iload_n hx hb dX12_sheet_11 rfl (lv_at hv 2 rfl) ?_
      refine lv_bipush (v := (8 : Int32)) hx hb dX12_sheet_12 (by decide) ?_
      refine lv_icmp_eq (tgt := 35) hx hb dX12_sheet_14 (by decide) (fun c_27 => ?_) (fun c_27 => ?_)
      · have h := ite_t c_27 h
        exact C_35 a b n found bitsOf sizeOf number h _ _ _ hP hD hS (lv_sub hv [0, 1, 2, 3] rfl)
      · have h := ite_f c_27 h
        refine lv_iload_n hx hb dX12_sheet_17 rfl (lv_at hv 2 rfl) ?_
        refine lv_bipush (v := (16 : Int32)) hx hb dX12_sheet_18 (by decide) ?_
        refine lv_icmp_eq (tgt := 35) hx hb dX12_sheet_20 (by decide) (fun c_28 => ?_) (fun c_28 => ?_)
        · have h := ite_t c_28 h
          exact C_35 a b n found bitsOf sizeOf number h _ _ _ hP hD hS (lv_sub hv [0, 1, 2, 3] rfl)
        · have h := ite_f c_28 h
          refine lv_iload_n hx hb dX12_sheet_23 rfl (lv_at hv 2 rfl) ?_
          refine lv_bipush (v := (32 : Int32)) hx hb dX12_sheet_24 (by decide) ?_
          refine lv_icmp_eq (tgt := 35) hx hb dX12_sheet_26 (by decide) (fun c_29 => ?_) (fun c_29 => ?_)
          · have h := ite_t c_29 h
            exact C_35 a b n found bitsOf sizeOf number h _ _ _ hP hD hS (lv_sub hv [0, 1, 2, 3] rfl)
          · have h := ite_f c_29 h
            refine lv_aload_n hx hb dX12_sheet_29 rfl (lv_at hv 0 rfl) ?_
            refine lv_iconst (v := (1 : Int32)) hx hb dX12_sheet_30 (by decide) ?_
            obtain ⟨⟨r_30, found_31⟩, hf_32, h⟩ := bd_ex h
            have sb := Sb.same hP hD hS hA
            refine calI (va_runV (As := [.int (1 : Int32)]) (rest := []) ⟨hx, hb, hml, hown, hts⟩ (c_X12_finds l G D cA ad _ d kept aside images found base at0 size fault opened isRub names code coded pile needs traced traceMany who bitsOf sizeOf number lifted (1 : Int32) r_30 found_31 hf_32) (cwV 1 hts gX12_sheet_X12_finds rfl rfl rfl (by decide +kernel) ⟨Nat.le_of_ble_eq_true rfl, Nat.le_of_ble_eq_true rfl⟩) (pvV hE hK hS sb (va_recv hK hP (ci := 12) (q0 := 0) rfl rfl)) rfl rfl hv.1 rfl (lv_room (Nat.le_of_ble_eq_true rfl)) dX12_sheet_31 ⟨Nat.le_of_ble_eq_true rfl, Nat.le_of_ble_eq_true rfl⟩) hS sb (Jn.same sb) (fun H locs hP hD hS => ?_)
            have hP : va_P D vwCl (wM cA ad d kept aside images found_31 base at0 size fault opened isRub names code coded pile needs traced traceMany who bitsOf sizeOf number lifted) H := hP
            have hD : va_D A (wM cA ad d kept aside images found_31 base at0 size fault opened isRub names code coded pile needs traced traceMany who bitsOf sizeOf number lifted) := hD
            have h := Option.some.inj h
            have ee0 : r_30 = rR := congrArg (fun q => q.1) h
            have ee1 : found_31 = foundR := congrArg (fun q => q.2.1) h
            have ee2 : bitsOf = bitsOfR := congrArg (fun q => q.2.2.1) h
            have ee3 : sizeOf = sizeOfR := congrArg (fun q => q.2.2.2.1) h
            have ee4 : number = numberR := congrArg (fun q => q.2.2.2.2) h
            subst ee0
            subst ee1
            subst ee2
            subst ee3
            subst ee4
            rw [← hQ]
            exact retI hx hb hr hlk hK hP hD hS dX12_sheet_34 ⟨Nat.le_of_ble_eq_true rfl, Nat.le_of_ble_eq_true rfl⟩

def fX12_put (a : Int32) (b : Int32) (v : Int32) (found : Nat → Int32) (bitsOf : Nat → Int32) (sizeOf : Nat → Int32) (number : Nat → Int32) : Option (Int32 × (Nat → Int32) × (Nat → Int32)) :=
  bd (fX12_isSheet a) fun r_1 => (if r_1 = 0 then bd (fX12_finds (1 : Int32) found) fun (r_28, found_29) => some (r_28, found_29, number) else ckI a 4 ((if (bitsOf (a).toNatClampNeg) = 0 then bd (fX12_finds (2 : Int32) found) fun (r_25, found_26) => some (r_25, found_26, number) else ckI a 4 (bd (fX12_in ((b).toInt64) (0 : Int64) ((((sizeOf (a).toNatClampNeg) - (1 : Int32))).toInt64)) fun r_7 => (if r_7 = 0 then bd (fX12_finds (1 : Int32) found) fun (r_22, found_23) => some (r_22, found_23, number) else ckI a 4 ((if (bitsOf (a).toNatClampNeg) = (8 : Int32) then bnd ((v).toInt8.toInt32) fun y_19 => ckI (((40 : Int32) * a) + b) 160 (bnd (upd number ((((40 : Int32) * a) + b)).toNatClampNeg y_19) fun number_21 => some ((1 : Int32), found, number_21)) else ckI a 4 ((if (bitsOf (a).toNatClampNeg) = (16 : Int32) then bnd ((v).toInt16.toInt32) fun y_16 => ckI (((40 : Int32) * a) + b) 160 (bnd (upd number ((((40 : Int32) * a) + b)).toNatClampNeg y_16) fun number_18 => some ((1 : Int32), found, number_18)) else ckI (((40 : Int32) * a) + b) 160 (bnd (upd number ((((40 : Int32) * a) + b)).toNatClampNeg v) fun number_15 => some ((1 : Int32), found, number_15)))))))))))
set_option maxHeartbeats 4000000 in
set_option maxRecDepth 100000 in
theorem c_X12_put (l : Launch) (G : Nat → Nat) (D : va_G) (cA : Nat → ClassId) (ad : Nat → Nat) (sz : Nat) (d : Nat → Int32) (kept : Nat → Int32) (aside : Nat → Int32) (images : Int32) (found : Nat → Int32) (base : Int32) (at0 : Int32) (size : Int32) (fault : Int32) (opened : Int32) (isRub : Int32) (names : Nat → Int32) (code : Nat → Int32) (coded : Int32) (pile : Nat → Int32) (needs : Nat → Int32) (traced : Nat → Int32) (traceMany : Int32) (who : Int32) (bitsOf : Nat → Int32) (sizeOf : Nat → Int32) (number : Nat → Int32) (lifted : Nat → Int32) (a : Int32) (b : Int32) (v : Int32) (rR : Int32) (foundR : Nat → Int32) (numberR : Nat → Int32) (h : fX12_put a b v found bitsOf sizeOf number = some (rR, foundR, numberR)) : Met l yX12_put wsX12_put ({ frames := 2, cells := 0, slots := 0, locals := 45 } : Room) (PW G D (tyC cA) sz (wM cA ad d kept aside images found base at0 size fault opened isRub names code coded pile needs traced traceMany who bitsOf sizeOf number lifted) [.ref (ad 0), .int a, .int b, .int v]) (QI D (tyC cA) (va_A (wM cA ad d kept aside images found base at0 size fault opened isRub names code coded pile needs traced traceMany who bitsOf sizeOf number lifted) sz) rR (wM cA ad d kept aside images foundR base at0 size fault opened isRub names code coded pile needs traced traceMany who bitsOf sizeOf numberR lifted)) 0 0 (va_A (wM cA ad d kept aside images found base at0 size fault opened isRub names code coded pile needs traced traceMany who bitsOf sizeOf number lifted) sz) := by
  refine ent (cc := cX12_put) (maxL := 4) (ret := (some .int)) (fun A => QI D (tyC cA) A rR (wM cA ad d kept aside images foundR base at0 size fault opened isRub names code coded pile needs traced traceMany who bitsOf sizeOf numberR lifted)) (by decide +kernel) rfl (Nat.le_of_ble_eq_true rfl) ?_
  intro p e s m args below meth c A ls H hx hb hml hr hlk hts hown hA hK hE hP hD hS hv hmm
  have hv : lv_has ls 4 [(0, .ref (ad 0)), (1, .int a), (2, .int b), (3, .int v)] := hv
  have in_12 : ∀ w ∈ u_ws RX12 TX12 23, w ∈ wsX12_put := fun _ h => List.mem_cons_of_mem _ (List.mem_append_right _ h)
  have w_0 := hts (.fieldLink RX12 37 "SpoonsLastModel" "bitsOf" "[I") (List.mem_of_getElem? (i := 1) rfl)
  have w_1 := hts (.fieldLink RX12 40 "SpoonsLastModel" "sizeOf" "[I") (List.mem_of_getElem? (i := 2) rfl)
  have w_2 := hts (.fieldLink RX12 43 "SpoonsLastModel" "number" "[I") (List.mem_of_getElem? (i := 3) rfl)
  generalize hQ : MQ below _ args s 0 0 A = Q
  have hP : va_P D vwCl (wM cA ad d kept aside images found base at0 size fault opened isRub names code coded pile needs traced traceMany who bitsOf sizeOf number lifted) H := hP
  unfold fX12_put at h
  refine lv_iload_n hx hb dX12_put_0 rfl (lv_at hv 1 rfl) ?_
  obtain ⟨r_1, hf_2, h⟩ := bd_ex h
  have sb := Sb.nil hP hD hS hA
  refine calI (va_runS (As := [.int a]) (rest := []) ⟨hx, hb, hml, hown, hts⟩ (c_X12_isSheet l G D cA  _ a r_1 hf_2) (va_cwS 1 hts gX12_put_X12_isSheet rfl rfl rfl (by decide +kernel) ⟨Nat.le_of_ble_eq_true rfl, Nat.le_of_ble_eq_true rfl⟩) (pvS hE hK hS sb) rfl rfl hv.1 rfl (lv_room (Nat.le_of_ble_eq_true rfl)) dX12_put_1 ⟨Nat.le_of_ble_eq_true rfl, Nat.le_of_ble_eq_true rfl⟩) hS sb (Jn.nil hP hD) (fun H locs hP hD hS => ?_)
  have hP : va_P D vwCl (wM cA ad d kept aside images found base at0 size fault opened isRub names code coded pile needs traced traceMany who bitsOf sizeOf number lifted) H := hP
  have hD : va_D A (wM cA ad d kept aside images found base at0 size fault opened isRub names code coded pile needs traced traceMany who bitsOf sizeOf number lifted) := hD
  refine lv_if_ne (tgt := 13) hx hb dX12_put_4 (by decide) (fun c_3 => ?_) (fun c_3 => ?_)
  · have h := ite_f c_3 h
    refine lv_aload_n hx hb dX12_put_13 rfl (lv_at hv 0 rfl) ?_
    refine va_get (D := D) (ci := 12) (v := .ref (ad 20)) (C := RX12) (T := TX12) (N := 23) hx hb hts in_12 hown hK hP 0 rfl rfl 19 (by decide) w_0 (fun _ h9 => h9) rfl dX12_put_14 ?_
    refine lv_iload_n hx hb dX12_put_17 rfl (lv_at hv 1 rfl) ?_
    obtain ⟨c_4, h⟩ := ckI_ex h
    refine va_iald (D := D) hx hb hK hP 10 0 rfl rfl c_4 dX12_put_18 ?_
    refine lv_if_ne (tgt := 28) hx hb dX12_put_19 (by decide) (fun c_5 => ?_) (fun c_5 => ?_)
    · have h := ite_f c_5 h
      refine lv_iload_n hx hb dX12_put_28 rfl (lv_at hv 2 rfl) ?_
      refine lv_i2l (v := (b).toInt64) hx hb dX12_put_29 rfl ?_
      refine lv_lconst (v := (0 : Int64)) hx hb dX12_put_30 (by decide) ?_
      refine lv_aload_n hx hb dX12_put_31 rfl (lv_at hv 0 rfl) ?_
      refine va_get (D := D) (ci := 12) (v := .ref (ad 21)) (C := RX12) (T := TX12) (N := 23) hx hb hts in_12 hown hK hP 0 rfl rfl 20 (by decide) w_1 (fun _ h9 => h9) rfl dX12_put_32 ?_
      refine lv_iload_n hx hb dX12_put_35 rfl (lv_at hv 1 rfl) ?_
      obtain ⟨c_6, h⟩ := ckI_ex h
      refine va_iald (D := D) hx hb hK hP 11 0 rfl rfl c_6 dX12_put_36 ?_
      refine lv_iconst (v := (1 : Int32)) hx hb dX12_put_37 (by decide) ?_
      refine lv_isub hx hb dX12_put_38 ?_
      refine lv_i2l (v := (((sizeOf (a).toNatClampNeg) - (1 : Int32))).toInt64) hx hb dX12_put_39 rfl ?_
      obtain ⟨r_7, hf_8, h⟩ := bd_ex h
      have sb := Sb.nil hP hD hS hA
      refine calI (va_runS (As := [.long (b).toInt64, .long (0 : Int64), .long (((sizeOf (a).toNatClampNeg) - (1 : Int32))).toInt64]) (rest := []) ⟨hx, hb, hml, hown, hts⟩ (c_X12_in l G D cA  _ ((b).toInt64) (0 : Int64) ((((sizeOf (a).toNatClampNeg) - (1 : Int32))).toInt64) r_7 hf_8) (va_cwS 3 hts gX12_put_X12_in rfl rfl rfl (by decide +kernel) ⟨Nat.le_of_ble_eq_true rfl, Nat.le_of_ble_eq_true rfl⟩) (pvS hE hK hS sb) rfl rfl hv.1 rfl (lv_room (Nat.le_of_ble_eq_true rfl)) dX12_put_40 ⟨Nat.le_of_ble_eq_true rfl, Nat.le_of_ble_eq_true rfl⟩) hS sb (Jn.nil hP hD) (fun H locs hP hD hS => ?_)
      have hP : va_P D vwCl (wM cA ad d kept aside images found base at0 size fault opened isRub names code coded pile needs traced traceMany who bitsOf sizeOf number lifted) H := hP
      have hD : va_D A (wM cA ad d kept aside images found base at0 size fault opened isRub names code coded pile needs traced traceMany who bitsOf sizeOf number lifted) := hD
      refine lv_if_ne (tgt := 52) hx hb dX12_put_43 (by decide) (fun c_9 => ?_) (fun c_9 => ?_)
      · have h := ite_f c_9 h
        refine lv_aload_n hx hb dX12_put_52 rfl (lv_at hv 0 rfl) ?_
        refine va_get (D := D) (ci := 12) (v := .ref (ad 22)) (C := RX12) (T := TX12) (N := 23) hx hb hts in_12 hown hK hP 0 rfl rfl 21 (by decide) w_2 (fun _ h9 => h9) rfl dX12_put_53 ?_
        refine lv_bipush (v := (40 : Int32)) hx hb dX12_put_56 (by decide) ?_
        refine lv_iload_n hx hb dX12_put_58 rfl (lv_at hv 1 rfl) ?_
        refine lv_imul hx hb dX12_put_59 ?_
        refine lv_iload_n hx hb dX12_put_60 rfl (lv_at hv 2 rfl) ?_
        refine lv_iadd hx hb dX12_put_61 ?_
        refine lv_aload_n hx hb dX12_put_62 rfl (lv_at hv 0 rfl) ?_
        refine va_get (D := D) (ci := 12) (v := .ref (ad 20)) (C := RX12) (T := TX12) (N := 23) hx hb hts in_12 hown hK hP 0 rfl rfl 19 (by decide) w_0 (fun _ h9 => h9) rfl dX12_put_63 ?_
        refine lv_iload_n hx hb dX12_put_66 rfl (lv_at hv 1 rfl) ?_
        obtain ⟨c_10, h⟩ := ckI_ex h
        refine va_iald (D := D) hx hb hK hP 10 0 rfl rfl c_10 dX12_put_67 ?_
        refine lv_bipush (v := (8 : Int32)) hx hb dX12_put_68 (by decide) ?_
        refine lv_icmp_ne (tgt := 78) hx hb dX12_put_70 (by decide) (fun c_11 => ?_) (fun c_11 => ?_)
        · have h := ite_f c_11 h
          refine lv_aload_n hx hb dX12_put_78 rfl (lv_at hv 0 rfl) ?_
          refine va_get (D := D) (ci := 12) (v := .ref (ad 20)) (C := RX12) (T := TX12) (N := 23) hx hb hts in_12 hown hK hP 0 rfl rfl 19 (by decide) w_0 (fun _ h9 => h9) rfl dX12_put_79 ?_
          refine lv_iload_n hx hb dX12_put_82 rfl (lv_at hv 1 rfl) ?_
          obtain ⟨c_12, h⟩ := ckI_ex h
          refine va_iald (D := D) hx hb hK hP 10 0 rfl rfl c_12 dX12_put_83 ?_
          refine lv_bipush (v := (16 : Int32)) hx hb dX12_put_84 (by decide) ?_
          refine lv_icmp_ne (tgt := 94) hx hb dX12_put_86 (by decide) (fun c_13 => ?_) (fun c_13 => ?_)
          · have h := ite_f c_13 h
            refine lv_iload_n hx hb dX12_put_94 rfl (lv_at hv 3 rfl) ?_
            obtain ⟨c_14, h⟩ := ckI_ex h
            obtain ⟨number_15, enumber_15, h⟩ := bnd_ex h
            refine va_iast (D := D) hx hb hK hP hD hS 12 0 rfl rfl c_14 dX12_put_95 (fun H locs hP hD hS => ?_)
            rw [← enumber_15] at hP hD
            have hP : va_P D vwCl (wM cA ad d kept aside images found base at0 size fault opened isRub names code coded pile needs traced traceMany who bitsOf sizeOf number_15 lifted) H := hP
            have hD : va_D A (wM cA ad d kept aside images found base at0 size fault opened isRub names code coded pile needs traced traceMany who bitsOf sizeOf number_15 lifted) := hD
            refine lv_iconst (v := (1 : Int32)) hx hb dX12_put_96 (by decide) ?_
            have h := Option.some.inj h
            have ee0 : (1 : Int32) = rR := congrArg (fun q => q.1) h
            have ee1 : found = foundR := congrArg (fun q => q.2.1) h
            have ee2 : number_15 = numberR := congrArg (fun q => q.2.2) h
            subst ee0
            subst ee1
            subst ee2
            rw [← hQ]
            exact retI hx hb hr hlk hK hP hD hS dX12_put_97 ⟨Nat.le_of_ble_eq_true rfl, Nat.le_of_ble_eq_true rfl⟩
          · have h := ite_t c_13 h
            refine lv_iload_n hx hb dX12_put_89 rfl (lv_at hv 3 rfl) ?_
            refine lv_i2s (v := (v).toInt16.toInt32) hx hb dX12_put_90 rfl ?_
            refine lv_goto (tgt := 95) hx hb dX12_put_91 (by decide) ?_
            obtain ⟨y_16, ey_16, h⟩ := bnd_ex h
            refine lv_nm ey_16 ?_
            obtain ⟨c_17, h⟩ := ckI_ex h
            obtain ⟨number_18, enumber_18, h⟩ := bnd_ex h
            refine va_iast (D := D) hx hb hK hP hD hS 12 0 rfl rfl c_17 dX12_put_95 (fun H locs hP hD hS => ?_)
            rw [← enumber_18] at hP hD
            have hP : va_P D vwCl (wM cA ad d kept aside images found base at0 size fault opened isRub names code coded pile needs traced traceMany who bitsOf sizeOf number_18 lifted) H := hP
            have hD : va_D A (wM cA ad d kept aside images found base at0 size fault opened isRub names code coded pile needs traced traceMany who bitsOf sizeOf number_18 lifted) := hD
            refine lv_iconst (v := (1 : Int32)) hx hb dX12_put_96 (by decide) ?_
            have h := Option.some.inj h
            have ee0 : (1 : Int32) = rR := congrArg (fun q => q.1) h
            have ee1 : found = foundR := congrArg (fun q => q.2.1) h
            have ee2 : number_18 = numberR := congrArg (fun q => q.2.2) h
            subst ee0
            subst ee1
            subst ee2
            rw [← hQ]
            exact retI hx hb hr hlk hK hP hD hS dX12_put_97 ⟨Nat.le_of_ble_eq_true rfl, Nat.le_of_ble_eq_true rfl⟩
        · have h := ite_t c_11 h
          refine lv_iload_n hx hb dX12_put_73 rfl (lv_at hv 3 rfl) ?_
          refine lv_i2b (v := (v).toInt8.toInt32) hx hb dX12_put_74 rfl ?_
          refine lv_goto (tgt := 95) hx hb dX12_put_75 (by decide) ?_
          obtain ⟨y_19, ey_19, h⟩ := bnd_ex h
          refine lv_nm ey_19 ?_
          obtain ⟨c_20, h⟩ := ckI_ex h
          obtain ⟨number_21, enumber_21, h⟩ := bnd_ex h
          refine va_iast (D := D) hx hb hK hP hD hS 12 0 rfl rfl c_20 dX12_put_95 (fun H locs hP hD hS => ?_)
          rw [← enumber_21] at hP hD
          have hP : va_P D vwCl (wM cA ad d kept aside images found base at0 size fault opened isRub names code coded pile needs traced traceMany who bitsOf sizeOf number_21 lifted) H := hP
          have hD : va_D A (wM cA ad d kept aside images found base at0 size fault opened isRub names code coded pile needs traced traceMany who bitsOf sizeOf number_21 lifted) := hD
          refine lv_iconst (v := (1 : Int32)) hx hb dX12_put_96 (by decide) ?_
          have h := Option.some.inj h
          have ee0 : (1 : Int32) = rR := congrArg (fun q => q.1) h
          have ee1 : found = foundR := congrArg (fun q => q.2.1) h
          have ee2 : number_21 = numberR := congrArg (fun q => q.2.2) h
          subst ee0
          subst ee1
          subst ee2
          rw [← hQ]
          exact retI hx hb hr hlk hK hP hD hS dX12_put_97 ⟨Nat.le_of_ble_eq_true rfl, Nat.le_of_ble_eq_true rfl⟩
      · have h := ite_t c_9 h
        refine lv_aload_n hx hb dX12_put_46 rfl (lv_at hv 0 rfl) ?_
        refine lv_iconst (v := (1 : Int32)) hx hb dX12_put_47 (by decide) ?_
        obtain ⟨⟨r_22, found_23⟩, hf_24, h⟩ := bd_ex h
        have sb := Sb.same hP hD hS hA
        refine calI (va_runV (As := [.int (1 : Int32)]) (rest := []) ⟨hx, hb, hml, hown, hts⟩ (c_X12_finds l G D cA ad _ d kept aside images found base at0 size fault opened isRub names code coded pile needs traced traceMany who bitsOf sizeOf number lifted (1 : Int32) r_22 found_23 hf_24) (cwV 1 hts gX12_put_X12_finds rfl rfl rfl (by decide +kernel) ⟨Nat.le_of_ble_eq_true rfl, Nat.le_of_ble_eq_true rfl⟩) (pvV hE hK hS sb (va_recv hK hP (ci := 12) (q0 := 0) rfl rfl)) rfl rfl hv.1 rfl (lv_room (Nat.le_of_ble_eq_true rfl)) dX12_put_48 ⟨Nat.le_of_ble_eq_true rfl, Nat.le_of_ble_eq_true rfl⟩) hS sb (Jn.same sb) (fun H locs hP hD hS => ?_)
        have hP : va_P D vwCl (wM cA ad d kept aside images found_23 base at0 size fault opened isRub names code coded pile needs traced traceMany who bitsOf sizeOf number lifted) H := hP
        have hD : va_D A (wM cA ad d kept aside images found_23 base at0 size fault opened isRub names code coded pile needs traced traceMany who bitsOf sizeOf number lifted) := hD
        have h := Option.some.inj h
        have ee0 : r_22 = rR := congrArg (fun q => q.1) h
        have ee1 : found_23 = foundR := congrArg (fun q => q.2.1) h
        have ee2 : number = numberR := congrArg (fun q => q.2.2) h
        subst ee0
        subst ee1
        subst ee2
        rw [← hQ]
        exact retI hx hb hr hlk hK hP hD hS dX12_put_51 ⟨Nat.le_of_ble_eq_true rfl, Nat.le_of_ble_eq_true rfl⟩
    · have h := ite_t c_5 h
      refine lv_aload_n hx hb dX12_put_22 rfl (lv_at hv 0 rfl) ?_
      refine lv_iconst (v := (2 : Int32)) hx hb dX12_put_23 (by decide) ?_
      obtain ⟨⟨r_25, found_26⟩, hf_27, h⟩ := bd_ex h
      have sb := Sb.same hP hD hS hA
      refine calI (va_runV (As := [.int (2 : Int32)]) (rest := []) ⟨hx, hb, hml, hown, hts⟩ (c_X12_finds l G D cA ad _ d kept aside images found base at0 size fault opened isRub names code coded pile needs traced traceMany who bitsOf sizeOf number lifted (2 : Int32) r_25 found_26 hf_27) (cwV 1 hts gX12_put_X12_finds rfl rfl rfl (by decide +kernel) ⟨Nat.le_of_ble_eq_true rfl, Nat.le_of_ble_eq_true rfl⟩) (pvV hE hK hS sb (va_recv hK hP (ci := 12) (q0 := 0) rfl rfl)) rfl rfl hv.1 rfl (lv_room (Nat.le_of_ble_eq_true rfl)) dX12_put_24 ⟨Nat.le_of_ble_eq_true rfl, Nat.le_of_ble_eq_true rfl⟩) hS sb (Jn.same sb) (fun H locs hP hD hS => ?_)
      have hP : va_P D vwCl (wM cA ad d kept aside images found_26 base at0 size fault opened isRub names code coded pile needs traced traceMany who bitsOf sizeOf number lifted) H := hP
      have hD : va_D A (wM cA ad d kept aside images found_26 base at0 size fault opened isRub names code coded pile needs traced traceMany who bitsOf sizeOf number lifted) := hD
      have h := Option.some.inj h
      have ee0 : r_25 = rR := congrArg (fun q => q.1) h
      have ee1 : found_26 = foundR := congrArg (fun q => q.2.1) h
      have ee2 : number = numberR := congrArg (fun q => q.2.2) h
      subst ee0
      subst ee1
      subst ee2
      rw [← hQ]
      exact retI hx hb hr hlk hK hP hD hS dX12_put_27 ⟨Nat.le_of_ble_eq_true rfl, Nat.le_of_ble_eq_true rfl⟩
  · have h := ite_t c_3 h
    refine lv_aload_n hx hb dX12_put_7 rfl (lv_at hv 0 rfl) ?_
    refine lv_iconst (v := (1 : Int32)) hx hb dX12_put_8 (by decide) ?_
    obtain ⟨⟨r_28, found_29⟩, hf_30, h⟩ := bd_ex h
    have sb := Sb.same hP hD hS hA
    refine calI (va_runV (As := [.int (1 : Int32)]) (rest := []) ⟨hx, hb, hml, hown, hts⟩ (c_X12_finds l G D cA ad _ d kept aside images found base at0 size fault opened isRub names code coded pile needs traced traceMany who bitsOf sizeOf number lifted (1 : Int32) r_28 found_29 hf_30) (cwV 1 hts gX12_put_X12_finds rfl rfl rfl (by decide +kernel) ⟨Nat.le_of_ble_eq_true rfl, Nat.le_of_ble_eq_true rfl⟩) (pvV hE hK hS sb (va_recv hK hP (ci := 12) (q0 := 0) rfl rfl)) rfl rfl hv.1 rfl (lv_room (Nat.le_of_ble_eq_true rfl)) dX12_put_9 ⟨Nat.le_of_ble_eq_true rfl, Nat.le_of_ble_eq_true rfl⟩) hS sb (Jn.same sb) (fun H locs hP hD hS => ?_)
    have hP : va_P D vwCl (wM cA ad d kept aside images found_29 base at0 size fault opened isRub names code coded pile needs traced traceMany who bitsOf sizeOf number lifted) H := hP
    have hD : va_D A (wM cA ad d kept aside images found_29 base at0 size fault opened isRub names code coded pile needs traced traceMany who bitsOf sizeOf number lifted) := hD
    have h := Option.some.inj h
    have ee0 : r_28 = rR := congrArg (fun q => q.1) h
    have ee1 : found_29 = foundR := congrArg (fun q => q.2.1) h
    have ee2 : number = numberR := congrArg (fun q => q.2.2) h
    subst ee0
    subst ee1
    subst ee2
    rw [← hQ]
    exact retI hx hb hr hlk hK hP hD hS dX12_put_12 ⟨Nat.le_of_ble_eq_true rfl, Nat.le_of_ble_eq_true rfl⟩

def fX12_move_106 (found_106 : Nat → Int32) (bitsOf : Nat → Int32) (sizeOf : Nat → Int32) (number_106 : Nat → Int32) (lifted_106 : Nat → Int32) : Option (Int32 × (Nat → Int32) × (Nat → Int32) × (Nat → Int32)) :=
  bd (fX12_finds (1 : Int32) found_106) fun (r_21, found_22) => some (r_21, found_22, number_106, lifted_106)
def fX12_move_152B (v3_152 : Int32) (v4_152 : Int32) (v5_152 : Int32) (found_152 : Nat → Int32) (bitsOf : Nat → Int32) (sizeOf : Nat → Int32) (lifted_152 : Nat → Int32) (v6_152b : Int32) (number_152b : Nat → Int32) : Option ((Int32 × (Nat → Int32)) ⊕ (Int32 × (Nat → Int32))) :=
  (if v5_152 ≤ v6_152b then some (.inr (v6_152b, number_152b)) else ckI v6_152b 40 (bnd (lifted_152 (v6_152b).toNatClampNeg) fun y_32 => ckI ((((40 : Int32) * v3_152) + v4_152) + v6_152b) 160 (bnd (upd number_152b (((((40 : Int32) * v3_152) + v4_152) + v6_152b)).toNatClampNeg y_32) fun number_34 => bnd (v6_152b + (1 : Int32)) fun y_35 => some (.inl (y_35, number_34)))))
def fX12_move_152 (v3_152 : Int32) (v4_152 : Int32) (v5_152 : Int32) (v6_152 : Int32) (found_152 : Nat → Int32) (bitsOf : Nat → Int32) (sizeOf : Nat → Int32) (number_152 : Nat → Int32) (lifted_152 : Nat → Int32) : Option (Int32 × (Nat → Int32) × (Nat → Int32) × (Nat → Int32)) :=
  bd (lp (fun σ : Int32 × (Nat → Int32) => fX12_move_152B v3_152 v4_152 v5_152 found_152 bitsOf sizeOf lifted_152 (σ.1) (σ.2)) FU (v6_152, number_152)) fun ρ => match ρ with | (v6_152r, number_152r) => some (v5_152, found_152, number_152r, lifted_152)
def fX12_move_115B (v1_115 : Int32) (v2_115 : Int32) (v3_115 : Int32) (v4_115 : Int32) (v5_115 : Int32) (found_115 : Nat → Int32) (bitsOf : Nat → Int32) (sizeOf : Nat → Int32) (number_115 : Nat → Int32) (v6_115b : Int32) (lifted_115b : Nat → Int32) : Option ((Int32 × (Nat → Int32)) ⊕ (Int32 × (Nat → Int32))) :=
  (if v5_115 ≤ v6_115b then some (.inr (v6_115b, lifted_115b)) else ckI ((((40 : Int32) * v1_115) + v2_115) + v6_115b) 160 (bnd (number_115 (((((40 : Int32) * v1_115) + v2_115) + v6_115b)).toNatClampNeg) fun y_38 => ckI v6_115b 40 (bnd (upd lifted_115b (v6_115b).toNatClampNeg y_38) fun lifted_40 => bnd (v6_115b + (1 : Int32)) fun y_41 => some (.inl (y_41, lifted_40)))))
def fX12_move_115 (v1_115 : Int32) (v2_115 : Int32) (v3_115 : Int32) (v4_115 : Int32) (v5_115 : Int32) (v6_115 : Int32) (found_115 : Nat → Int32) (bitsOf : Nat → Int32) (sizeOf : Nat → Int32) (number_115 : Nat → Int32) (lifted_115 : Nat → Int32) : Option (Int32 × (Nat → Int32) × (Nat → Int32) × (Nat → Int32)) :=
  bd (lp (fun σ : Int32 × (Nat → Int32) => fX12_move_115B v1_115 v2_115 v3_115 v4_115 v5_115 found_115 bitsOf sizeOf number_115 (σ.1) (σ.2)) FU (v6_115, lifted_115)) fun ρ => match ρ with | (v6_115r, lifted_115r) => fX12_move_152 v3_115 v4_115 v5_115 (0 : Int32) found_115 bitsOf sizeOf number_115 lifted_115r
def fX12_move (a : Int32) (b : Int32) (k : Int32) (o : Int32) (n : Int32) (found : Nat → Int32) (bitsOf : Nat → Int32) (sizeOf : Nat → Int32) (number : Nat → Int32) (lifted : Nat → Int32) : Option (Int32 × (Nat → Int32) × (Nat → Int32) × (Nat → Int32)) :=
  bd (fX12_isSheet a) fun r_1 => (if r_1 = 0 then bd (fX12_finds (1 : Int32) found) fun (r_4, found_5) => some (r_4, found_5, number, lifted) else bd (fX12_isSheet k) fun r_7 => (if r_7 = 0 then bd (fX12_finds (1 : Int32) found) fun (r_48, found_49) => some (r_48, found_49, number, lifted) else ckI a 4 ((if (bitsOf (a).toNatClampNeg) = 0 then bd (fX12_finds (2 : Int32) found) fun (r_12, found_13) => some (r_12, found_13, number, lifted) else ckI k 4 ((if (bitsOf (k).toNatClampNeg) = 0 then bd (fX12_finds (2 : Int32) found) fun (r_45, found_46) => some (r_45, found_46, number, lifted) else ckI a 4 (ckI k 4 ((if (bitsOf (a).toNatClampNeg) = (bitsOf (k).toNatClampNeg) then (if n < 0 then fX12_move_106 found bitsOf sizeOf number lifted else (if b < 0 then fX12_move_106 found bitsOf sizeOf number lifted else (if o < 0 then fX12_move_106 found bitsOf sizeOf number lifted else ckI a 4 ((if ((sizeOf (a).toNatClampNeg) - b) < n then fX12_move_106 found bitsOf sizeOf number lifted else ckI k 4 ((if n ≤ ((sizeOf (k).toNatClampNeg) - o) then fX12_move_115 a b k o n (0 : Int32) found bitsOf sizeOf number lifted else fX12_move_106 found bitsOf sizeOf number lifted))))))) else bd (fX12_finds (5 : Int32) found) fun (r_42, found_43) => some (r_42, found_43, number, lifted))))))))))
set_option maxHeartbeats 4000000 in
set_option maxRecDepth 100000 in
theorem c_X12_move (l : Launch) (G : Nat → Nat) (D : va_G) (cA : Nat → ClassId) (ad : Nat → Nat) (sz : Nat) (d : Nat → Int32) (kept : Nat → Int32) (aside : Nat → Int32) (images : Int32) (found : Nat → Int32) (base : Int32) (at0 : Int32) (size : Int32) (fault : Int32) (opened : Int32) (isRub : Int32) (names : Nat → Int32) (code : Nat → Int32) (coded : Int32) (pile : Nat → Int32) (needs : Nat → Int32) (traced : Nat → Int32) (traceMany : Int32) (who : Int32) (bitsOf : Nat → Int32) (sizeOf : Nat → Int32) (number : Nat → Int32) (lifted : Nat → Int32) (a : Int32) (b : Int32) (k : Int32) (o : Int32) (n : Int32) (rR : Int32) (foundR : Nat → Int32) (numberR : Nat → Int32) (liftedR : Nat → Int32) (h : fX12_move a b k o n found bitsOf sizeOf number lifted = some (rR, foundR, numberR, liftedR)) : Met l yX12_move wsX12_move ({ frames := 2, cells := 0, slots := 0, locals := 45 } : Room) (PW G D (tyC cA) sz (wM cA ad d kept aside images found base at0 size fault opened isRub names code coded pile needs traced traceMany who bitsOf sizeOf number lifted) [.ref (ad 0), .int a, .int b, .int k, .int o, .int n]) (QI D (tyC cA) (va_A (wM cA ad d kept aside images found base at0 size fault opened isRub names code coded pile needs traced traceMany who bitsOf sizeOf number lifted) sz) rR (wM cA ad d kept aside images foundR base at0 size fault opened isRub names code coded pile needs traced traceMany who bitsOf sizeOf numberR liftedR)) 0 0 (va_A (wM cA ad d kept aside images found base at0 size fault opened isRub names code coded pile needs traced traceMany who bitsOf sizeOf number lifted) sz) := by
  refine ent (cc := cX12_move) (maxL := 7) (ret := (some .int)) (fun A => QI D (tyC cA) A rR (wM cA ad d kept aside images foundR base at0 size fault opened isRub names code coded pile needs traced traceMany who bitsOf sizeOf numberR liftedR)) (by decide +kernel) rfl (Nat.le_of_ble_eq_true rfl) ?_
  intro p e s m args below meth c A ls H hx hb hml hr hlk hts hown hA hK hE hP hD hS hv hmm
  have hv : lv_has ls 7 [(0, .ref (ad 0)), (1, .int a), (2, .int b), (3, .int k), (4, .int o), (5, .int n)] := hv
  have in_12 : ∀ w ∈ u_ws RX12 TX12 23, w ∈ wsX12_move := fun _ h => List.mem_cons_of_mem _ (List.mem_append_right _ h)
  have w_0 := hts (.fieldLink RX12 37 "SpoonsLastModel" "bitsOf" "[I") (List.mem_of_getElem? (i := 1) rfl)
  have w_1 := hts (.fieldLink RX12 40 "SpoonsLastModel" "sizeOf" "[I") (List.mem_of_getElem? (i := 2) rfl)
  have w_2 := hts (.fieldLink RX12 43 "SpoonsLastModel" "number" "[I") (List.mem_of_getElem? (i := 4) rfl)
  have w_3 := hts (.fieldLink RX12 46 "SpoonsLastModel" "lifted" "[I") (List.mem_of_getElem? (i := 3) rfl)
  generalize hQ : MQ below _ args s 0 0 A = Q
  have C_106 : ∀ (found_106 : Nat → Int32) (number_106 : Nat → Int32) (lifted_106 : Nat → Int32), fX12_move_106 found_106 bitsOf sizeOf number_106 lifted_106 = some (rR, foundR, numberR, liftedR) → WW p l e ({ frames := 2, cells := 0, slots := 0, locals := 45 } : Room) s m args below meth c D A 0 0 Q (wM cA ad d kept aside images found_106 base at0 size fault opened isRub names code coded pile needs traced traceMany who bitsOf sizeOf number_106 lifted_106) 7 [(0, .ref (ad 0))] 106 [] := by
    intro found_106 number_106 lifted_106 h
    unfold fX12_move_106 at h
    intro H locs ls hP hD hS hv
    refine lv_aload_n hx hb dX12_move_106 rfl (lv_at hv 0 rfl) ?_
    refine lv_iconst (v := (1 : Int32)) hx hb dX12_move_107 (by decide) ?_
    obtain ⟨⟨r_21, found_22⟩, hf_23, h⟩ := bd_ex h
    have sb := Sb.same hP hD hS hA
    refine calI (va_runV (As := [.int (1 : Int32)]) (rest := []) ⟨hx, hb, hml, hown, hts⟩ (c_X12_finds l G D cA ad _ d kept aside images found_106 base at0 size fault opened isRub names code coded pile needs traced traceMany who bitsOf sizeOf number_106 lifted_106 (1 : Int32) r_21 found_22 hf_23) (cwV 1 hts gX12_move_X12_finds rfl rfl rfl (by decide +kernel) ⟨Nat.le_of_ble_eq_true rfl, Nat.le_of_ble_eq_true rfl⟩) (pvV hE hK hS sb (va_recv hK hP (ci := 12) (q0 := 0) rfl rfl)) rfl rfl hv.1 rfl (lv_room (Nat.le_of_ble_eq_true rfl)) dX12_move_108 ⟨Nat.le_of_ble_eq_true rfl, Nat.le_of_ble_eq_true rfl⟩) hS sb (Jn.same sb) (fun H locs hP hD hS => ?_)
    have hP : va_P D vwCl (wM cA ad d kept aside images found_22 base at0 size fault opened isRub names code coded pile needs traced traceMany who bitsOf sizeOf number_106 lifted_106) H := hP
    have hD : va_D A (wM cA ad d kept aside images found_22 base at0 size fault opened isRub names code coded pile needs traced traceMany who bitsOf sizeOf number_106 lifted_106) := hD
    have h := Option.some.inj h
    have ee0 : r_21 = rR := congrArg (fun q => q.1) h
    have ee1 : found_22 = foundR := congrArg (fun q => q.2.1) h
    have ee2 : number_106 = numberR := congrArg (fun q => q.2.2.1) h
    have ee3 : lifted_106 = liftedR := congrArg (fun q => q.2.2.2) h
    subst ee0
    subst ee1
    subst ee2
    subst ee3
    rw [← hQ]
    exact retI hx hb hr hlk hK hP hD hS dX12_move_111 ⟨Nat.le_of_ble_eq_true rfl, Nat.le_of_ble_eq_true rfl⟩
  have C_152 : ∀ (v3_152 : Int32) (v4_152 : Int32) (v5_152 : Int32) (v6_152 : Int32) (found_152 : Nat → Int32) (number_152 : Nat → Int32) (lifted_152 : Nat → Int32), fX12_move_152 v3_152 v4_152 v5_152 v6_152 found_152 bitsOf sizeOf number_152 lifted_152 = some (rR, foundR, numberR, liftedR) → WW p l e ({ frames := 2, cells := 0, slots := 0, locals := 45 } : Room) s m args below meth c D A 0 0 Q (wM cA ad d kept aside images found_152 base at0 size fault opened isRub names code coded pile needs traced traceMany who bitsOf sizeOf number_152 lifted_152) 7 [(0, .ref (ad 0)), (3, .int v3_152), (4, .int v4_152), (5, .int v5_152), (6, .int v6_152)] 152 [] := by
    intro v3_152 v4_152 v5_152 v6_152 found_152 number_152 lifted_152 h
    unfold fX12_move_152 at h
    obtain ⟨⟨v6_152r, number_152r⟩, ho, h⟩ := bd_ex h
    have LE : WW p l e ({ frames := 2, cells := 0, slots := 0, locals := 45 } : Room) s m args below meth c D A 0 0 Q (wM cA ad d kept aside images found_152 base at0 size fault opened isRub names code coded pile needs traced traceMany who bitsOf sizeOf number_152r lifted_152) 7 [(5, .int v5_152)] 187 [] := by
      intro H locs ls hP hD hS hv
      refine lv_iload hx hb dX12_move_187 (lv_at hv 0 rfl) ?_
      have h := Option.some.inj h
      have ee0 : v5_152 = rR := congrArg (fun q => q.1) h
      have ee1 : found_152 = foundR := congrArg (fun q => q.2.1) h
      have ee2 : number_152r = numberR := congrArg (fun q => q.2.2.1) h
      have ee3 : lifted_152 = liftedR := congrArg (fun q => q.2.2.2) h
      subst ee0
      subst ee1
      subst ee2
      subst ee3
      rw [← hQ]
      exact retI hx hb hr hlk hK hP hD hS dX12_move_189 ⟨Nat.le_of_ble_eq_true rfl, Nat.le_of_ble_eq_true rfl⟩
    have LB : ∀ (nf : Nat) (v6_152b : Int32) (number_152b : Nat → Int32), lp (fun σ : Int32 × (Nat → Int32) => fX12_move_152B v3_152 v4_152 v5_152 found_152 bitsOf sizeOf lifted_152 (σ.1) (σ.2)) nf (v6_152b, number_152b) = some (v6_152r, number_152r) → WW p l e ({ frames := 2, cells := 0, slots := 0, locals := 45 } : Room) s m args below meth c D A 0 0 Q (wM cA ad d kept aside images found_152 base at0 size fault opened isRub names code coded pile needs traced traceMany who bitsOf sizeOf number_152b lifted_152) 7 [(0, .ref (ad 0)), (3, .int v3_152), (4, .int v4_152), (5, .int v5_152), (6, .int v6_152b)] 152 [] := by
      intro nf
      induction nf with
      | zero => intro v6_152b number_152b hl; cases hl
      | succ nf ih =>
        intro v6_152b number_152b hl
        obtain ⟨x, h, hl⟩ := lp_ex hl
        have h : fX12_move_152B v3_152 v4_152 v5_152 found_152 bitsOf sizeOf lifted_152 v6_152b number_152b = some x := h
        unfold fX12_move_152B at h
        intro H locs ls hP hD hS hv
        refine lv_iload hx hb dX12_move_152 (lv_at hv 4 rfl) ?_
        refine lv_iload hx hb dX12_move_154 (lv_at hv 3 rfl) ?_
        refine lv_icmp_ge (tgt := 187) hx hb dX12_move_156 (by decide) (fun c_30 => ?_) (fun c_30 => ?_)
        · have h := ite_t c_30 h
          cases h
          have hl : some (v6_152b, number_152b) = some (v6_152r, number_152r) := hl
          have hl := Option.some.inj hl
          have ee0 : v6_152b = v6_152r := congrArg (fun q => q.1) hl
          have ee1 : number_152b = number_152r := congrArg (fun q => q.2) hl
          subst ee0
          subst ee1
          exact LE _ _ _ hP hD hS (lv_sub hv [3] rfl)
        · have h := ite_f c_30 h
          refine lv_aload_n hx hb dX12_move_159 rfl (lv_at hv 0 rfl) ?_
          refine va_get (D := D) (ci := 12) (v := .ref (ad 22)) (C := RX12) (T := TX12) (N := 23) hx hb hts in_12 hown hK hP 0 rfl rfl 21 (by decide) w_2 (fun _ h9 => h9) rfl dX12_move_160 ?_
          refine lv_bipush (v := (40 : Int32)) hx hb dX12_move_163 (by decide) ?_
          refine lv_iload_n hx hb dX12_move_165 rfl (lv_at hv 1 rfl) ?_
          refine lv_imul hx hb dX12_move_166 ?_
          refine lv_iload hx hb dX12_move_167 (lv_at hv 2 rfl) ?_
          refine lv_iadd hx hb dX12_move_169 ?_
          refine lv_iload hx hb dX12_move_170 (lv_at hv 4 rfl) ?_
          refine lv_iadd hx hb dX12_move_172 ?_
          refine lv_aload_n hx hb dX12_move_173 rfl (lv_at hv 0 rfl) ?_
          refine va_get (D := D) (ci := 12) (v := .ref (ad 23)) (C := RX12) (T := TX12) (N := 23) hx hb hts in_12 hown hK hP 0 rfl rfl 22 (by decide) w_3 (fun _ h9 => h9) rfl dX12_move_174 ?_
          refine lv_iload hx hb dX12_move_177 (lv_at hv 4 rfl) ?_
          obtain ⟨c_31, h⟩ := ckI_ex h
          refine va_iald (D := D) hx hb hK hP 13 0 rfl rfl c_31 dX12_move_179 ?_
          obtain ⟨y_32, ey_32, h⟩ := bnd_ex h
          refine lv_nm ey_32 ?_
          obtain ⟨c_33, h⟩ := ckI_ex h
          obtain ⟨number_34, enumber_34, h⟩ := bnd_ex h
          refine va_iast (D := D) hx hb hK hP hD hS 12 0 rfl rfl c_33 dX12_move_180 (fun H locs hP hD hS => ?_)
          rw [← enumber_34] at hP hD
          have hP : va_P D vwCl (wM cA ad d kept aside images found_152 base at0 size fault opened isRub names code coded pile needs traced traceMany who bitsOf sizeOf number_34 lifted_152) H := hP
          have hD : va_D A (wM cA ad d kept aside images found_152 base at0 size fault opened isRub names code coded pile needs traced traceMany who bitsOf sizeOf number_34 lifted_152) := hD
          obtain ⟨y_35, ey_35, h⟩ := bnd_ex h
          refine lv_iinc (v := y_35) (lv' := [(6, .int y_35), (0, .ref (ad 0)), (3, .int v3_152), (4, .int v4_152), (5, .int v5_152)]) hx hb dX12_move_181 hv (k := 4) rfl (by rw [ey_35]; rfl) (by decide) rfl (fun ls hv => ?_)
          refine lv_goto (tgt := 152) hx hb dX12_move_184 (by decide) ?_
          cases h
          exact ih y_35 number_34 hl _ _ _ hP hD hS (lv_sub hv [1, 2, 3, 4, 0] rfl)
    exact LB FU v6_152 number_152 ho
  have C_115 : ∀ (v1_115 : Int32) (v2_115 : Int32) (v3_115 : Int32) (v4_115 : Int32) (v5_115 : Int32) (v6_115 : Int32) (found_115 : Nat → Int32) (number_115 : Nat → Int32) (lifted_115 : Nat → Int32), fX12_move_115 v1_115 v2_115 v3_115 v4_115 v5_115 v6_115 found_115 bitsOf sizeOf number_115 lifted_115 = some (rR, foundR, numberR, liftedR) → WW p l e ({ frames := 2, cells := 0, slots := 0, locals := 45 } : Room) s m args below meth c D A 0 0 Q (wM cA ad d kept aside images found_115 base at0 size fault opened isRub names code coded pile needs traced traceMany who bitsOf sizeOf number_115 lifted_115) 7 [(0, .ref (ad 0)), (1, .int v1_115), (2, .int v2_115), (3, .int v3_115), (4, .int v4_115), (5, .int v5_115), (6, .int v6_115)] 115 [] := by
    intro v1_115 v2_115 v3_115 v4_115 v5_115 v6_115 found_115 number_115 lifted_115 h
    unfold fX12_move_115 at h
    obtain ⟨⟨v6_115r, lifted_115r⟩, ho, h⟩ := bd_ex h
    have LE : WW p l e ({ frames := 2, cells := 0, slots := 0, locals := 45 } : Room) s m args below meth c D A 0 0 Q (wM cA ad d kept aside images found_115 base at0 size fault opened isRub names code coded pile needs traced traceMany who bitsOf sizeOf number_115 lifted_115r) 7 [(0, .ref (ad 0)), (3, .int v3_115), (4, .int v4_115), (5, .int v5_115)] 149 [] := by
      intro H locs ls hP hD hS hv
      refine lv_iconst (v := (0 : Int32)) hx hb dX12_move_149 (by decide) ?_
      refine lv_istore (lv' := [(6, .int (0 : Int32)), (0, .ref (ad 0)), (3, .int v3_115), (4, .int v4_115), (5, .int v5_115)]) hx hb dX12_move_150 hv (by decide) rfl (fun ls hv => ?_)
      exact C_152 v3_115 v4_115 v5_115 (0 : Int32) found_115 number_115 lifted_115r h _ _ _ hP hD hS (lv_sub hv [1, 2, 3, 4, 0] rfl)
    have LB : ∀ (nf : Nat) (v6_115b : Int32) (lifted_115b : Nat → Int32), lp (fun σ : Int32 × (Nat → Int32) => fX12_move_115B v1_115 v2_115 v3_115 v4_115 v5_115 found_115 bitsOf sizeOf number_115 (σ.1) (σ.2)) nf (v6_115b, lifted_115b) = some (v6_115r, lifted_115r) → WW p l e ({ frames := 2, cells := 0, slots := 0, locals := 45 } : Room) s m args below meth c D A 0 0 Q (wM cA ad d kept aside images found_115 base at0 size fault opened isRub names code coded pile needs traced traceMany who bitsOf sizeOf number_115 lifted_115b) 7 [(0, .ref (ad 0)), (1, .int v1_115), (2, .int v2_115), (3, .int v3_115), (4, .int v4_115), (5, .int v5_115), (6, .int v6_115b)] 115 [] := by
      intro nf
      induction nf with
      | zero => intro v6_115b lifted_115b hl; cases hl
      | succ nf ih =>
        intro v6_115b lifted_115b hl
        obtain ⟨x, h, hl⟩ := lp_ex hl
        have h : fX12_move_115B v1_115 v2_115 v3_115 v4_115 v5_115 found_115 bitsOf sizeOf number_115 v6_115b lifted_115b = some x := h
        unfold fX12_move_115B at h
        intro H locs ls hP hD hS hv
        refine lv_iload hx hb dX12_move_115 (lv_at hv 6 rfl) ?_
        refine lv_iload hx hb dX12_move_117 (lv_at hv 5 rfl) ?_
        refine lv_icmp_ge (tgt := 149) hx hb dX12_move_119 (by decide) (fun c_36 => ?_) (fun c_36 => ?_)
        · have h := ite_t c_36 h
          cases h
          have hl : some (v6_115b, lifted_115b) = some (v6_115r, lifted_115r) := hl
          have hl := Option.some.inj hl
          have ee0 : v6_115b = v6_115r := congrArg (fun q => q.1) hl
          have ee1 : lifted_115b = lifted_115r := congrArg (fun q => q.2) hl
          subst ee0
          subst ee1
          exact LE _ _ _ hP hD hS (lv_sub hv [0, 3, 4, 5] rfl)
        · have h := ite_f c_36 h
          refine lv_aload_n hx hb dX12_move_122 rfl (lv_at hv 0 rfl) ?_
          refine va_get (D := D) (ci := 12) (v := .ref (ad 23)) (C := RX12) (T := TX12) (N := 23) hx hb hts in_12 hown hK hP 0 rfl rfl 22 (by decide) w_3 (fun _ h9 => h9) rfl dX12_move_123 ?_
          refine lv_iload hx hb dX12_move_126 (lv_at hv 6 rfl) ?_
          refine lv_aload_n hx hb dX12_move_128 rfl (lv_at hv 0 rfl) ?_
          refine va_get (D := D) (ci := 12) (v := .ref (ad 22)) (C := RX12) (T := TX12) (N := 23) hx hb hts in_12 hown hK hP 0 rfl rfl 21 (by decide) w_2 (fun _ h9 => h9) rfl dX12_move_129 ?_
          refine lv_bipush (v := (40 : Int32)) hx hb dX12_move_132 (by decide) ?_
          refine lv_iload_n hx hb dX12_move_134 rfl (lv_at hv 1 rfl) ?_
          refine lv_imul hx hb dX12_move_135 ?_
          refine lv_iload_n hx hb dX12_move_136 rfl (lv_at hv 2 rfl) ?_
          refine lv_iadd hx hb dX12_move_137 ?_
          refine lv_iload hx hb dX12_move_138 (lv_at hv 6 rfl) ?_
          refine lv_iadd hx hb dX12_move_140 ?_
          obtain ⟨c_37, h⟩ := ckI_ex h
          refine va_iald (D := D) hx hb hK hP 12 0 rfl rfl c_37 dX12_move_141 ?_
          obtain ⟨y_38, ey_38, h⟩ := bnd_ex h
          refine lv_nm ey_38 ?_
          obtain ⟨c_39, h⟩ := ckI_ex h
          obtain ⟨lifted_40, elifted_40, h⟩ := bnd_ex h
          refine va_iast (D := D) hx hb hK hP hD hS 13 0 rfl rfl c_39 dX12_move_142 (fun H locs hP hD hS => ?_)
          rw [← elifted_40] at hP hD
          have hP : va_P D vwCl (wM cA ad d kept aside images found_115 base at0 size fault opened isRub names code coded pile needs traced traceMany who bitsOf sizeOf number_115 lifted_40) H := hP
          have hD : va_D A (wM cA ad d kept aside images found_115 base at0 size fault opened isRub names code coded pile needs traced traceMany who bitsOf sizeOf number_115 lifted_40) := hD
          obtain ⟨y_41, ey_41, h⟩ := bnd_ex h
          refine lv_iinc (v := y_41) (lv' := [(6, .int y_41), (0, .ref (ad 0)), (1, .int v1_115), (2, .int v2_115), (3, .int v3_115), (4, .int v4_115), (5, .int v5_115)]) hx hb dX12_move_143 hv (k := 6) rfl (by rw [ey_41]; rfl) (by decide) rfl (fun ls hv => ?_)
          refine lv_goto (tgt := 115) hx hb dX12_move_146 (by decide) ?_
          cases h
          exact ih y_41 lifted_40 hl _ _ _ hP hD hS (lv_sub hv [1, 2, 3, 4, 5, 6, 0] rfl)
    exact LB FU v6_115 lifted_115 ho
  have hP : va_P D vwCl (wM cA ad d kept aside images found base at0 size fault opened isRub names code coded pile needs traced traceMany who bitsOf sizeOf number lifted) H := hP
  unfold fX12_move at h
  refine lv_iload_n hx hb dX12_move_0 rfl (lv_at hv 1 rfl) ?_
  obtain ⟨r_1, hf_2, h⟩ := bd_ex h
  have sb := Sb.nil hP hD hS hA
  refine calI (va_runS (As := [.int a]) (rest := []) ⟨hx, hb, hml, hown, hts⟩ (c_X12_isSheet l G D cA  _ a r_1 hf_2) (va_cwS 1 hts gX12_move_X12_isSheet rfl rfl rfl (by decide +kernel) ⟨Nat.le_of_ble_eq_true rfl, Nat.le_of_ble_eq_true rfl⟩) (pvS hE hK hS sb) rfl rfl hv.1 rfl (lv_room (Nat.le_of_ble_eq_true rfl)) dX12_move_1 ⟨Nat.le_of_ble_eq_true rfl, Nat.le_of_ble_eq_true rfl⟩) hS sb (Jn.nil hP hD) (fun H locs hP hD hS => ?_)
  have hP : va_P D vwCl (wM cA ad d kept aside images found base at0 size fault opened isRub names code coded pile needs traced traceMany who bitsOf sizeOf number lifted) H := hP
  have hD : va_D A (wM cA ad d kept aside images found base at0 size fault opened isRub names code coded pile needs traced traceMany who bitsOf sizeOf number lifted) := hD
  refine lv_if_eq (tgt := 14) hx hb dX12_move_4 (by decide) (fun c_3 => ?_) (fun c_3 => ?_)
  · have h := ite_t c_3 h
    refine lv_aload_n hx hb dX12_move_14 rfl (lv_at hv 0 rfl) ?_
    refine lv_iconst (v := (1 : Int32)) hx hb dX12_move_15 (by decide) ?_
    obtain ⟨⟨r_4, found_5⟩, hf_6, h⟩ := bd_ex h
    have sb := Sb.same hP hD hS hA
    refine calI (va_runV (As := [.int (1 : Int32)]) (rest := []) ⟨hx, hb, hml, hown, hts⟩ (c_X12_finds l G D cA ad _ d kept aside images found base at0 size fault opened isRub names code coded pile needs traced traceMany who bitsOf sizeOf number lifted (1 : Int32) r_4 found_5 hf_6) (cwV 1 hts gX12_move_X12_finds rfl rfl rfl (by decide +kernel) ⟨Nat.le_of_ble_eq_true rfl, Nat.le_of_ble_eq_true rfl⟩) (pvV hE hK hS sb (va_recv hK hP (ci := 12) (q0 := 0) rfl rfl)) rfl rfl hv.1 rfl (lv_room (Nat.le_of_ble_eq_true rfl)) dX12_move_16 ⟨Nat.le_of_ble_eq_true rfl, Nat.le_of_ble_eq_true rfl⟩) hS sb (Jn.same sb) (fun H locs hP hD hS => ?_)
    have hP : va_P D vwCl (wM cA ad d kept aside images found_5 base at0 size fault opened isRub names code coded pile needs traced traceMany who bitsOf sizeOf number lifted) H := hP
    have hD : va_D A (wM cA ad d kept aside images found_5 base at0 size fault opened isRub names code coded pile needs traced traceMany who bitsOf sizeOf number lifted) := hD
    have h := Option.some.inj h
    have ee0 : r_4 = rR := congrArg (fun q => q.1) h
    have ee1 : found_5 = foundR := congrArg (fun q => q.2.1) h
    have ee2 : number = numberR := congrArg (fun q => q.2.2.1) h
    have ee3 : lifted = liftedR := congrArg (fun q => q.2.2.2) h
    subst ee0
    subst ee1
    subst ee2
    subst ee3
    rw [← hQ]
    exact retI hx hb hr hlk hK hP hD hS dX12_move_19 ⟨Nat.le_of_ble_eq_true rfl, Nat.le_of_ble_eq_true rfl⟩
  · have h := ite_f c_3 h
    refine lv_iload_n hx hb dX12_move_7 rfl (lv_at hv 3 rfl) ?_
    obtain ⟨r_7, hf_8, h⟩ := bd_ex h
    have sb := Sb.nil hP hD hS hA
    refine calI (va_runS (As := [.int k]) (rest := []) ⟨hx, hb, hml, hown, hts⟩ (c_X12_isSheet l G D cA  _ k r_7 hf_8) (va_cwS 1 hts gX12_move_X12_isSheet rfl rfl rfl (by decide +kernel) ⟨Nat.le_of_ble_eq_true rfl, Nat.le_of_ble_eq_true rfl⟩) (pvS hE hK hS sb) rfl rfl hv.1 rfl (lv_room (Nat.le_of_ble_eq_true rfl)) dX12_move_8 ⟨Nat.le_of_ble_eq_true rfl, Nat.le_of_ble_eq_true rfl⟩) hS sb (Jn.nil hP hD) (fun H locs hP hD hS => ?_)
    have hP : va_P D vwCl (wM cA ad d kept aside images found base at0 size fault opened isRub names code coded pile needs traced traceMany who bitsOf sizeOf number lifted) H := hP
    have hD : va_D A (wM cA ad d kept aside images found base at0 size fault opened isRub names code coded pile needs traced traceMany who bitsOf sizeOf number lifted) := hD
    refine lv_if_ne (tgt := 20) hx hb dX12_move_11 (by decide) (fun c_9 => ?_) (fun c_9 => ?_)
    · have h := ite_f c_9 h
      refine lv_aload_n hx hb dX12_move_20 rfl (lv_at hv 0 rfl) ?_
      refine va_get (D := D) (ci := 12) (v := .ref (ad 20)) (C := RX12) (T := TX12) (N := 23) hx hb hts in_12 hown hK hP 0 rfl rfl 19 (by decide) w_0 (fun _ h9 => h9) rfl dX12_move_21 ?_
      refine lv_iload_n hx hb dX12_move_24 rfl (lv_at hv 1 rfl) ?_
      obtain ⟨c_10, h⟩ := ckI_ex h
      refine va_iald (D := D) hx hb hK hP 10 0 rfl rfl c_10 dX12_move_25 ?_
      refine lv_if_eq (tgt := 38) hx hb dX12_move_26 (by decide) (fun c_11 => ?_) (fun c_11 => ?_)
      · have h := ite_t c_11 h
        refine lv_aload_n hx hb dX12_move_38 rfl (lv_at hv 0 rfl) ?_
        refine lv_iconst (v := (2 : Int32)) hx hb dX12_move_39 (by decide) ?_
        obtain ⟨⟨r_12, found_13⟩, hf_14, h⟩ := bd_ex h
        have sb := Sb.same hP hD hS hA
        refine calI (va_runV (As := [.int (2 : Int32)]) (rest := []) ⟨hx, hb, hml, hown, hts⟩ (c_X12_finds l G D cA ad _ d kept aside images found base at0 size fault opened isRub names code coded pile needs traced traceMany who bitsOf sizeOf number lifted (2 : Int32) r_12 found_13 hf_14) (cwV 1 hts gX12_move_X12_finds rfl rfl rfl (by decide +kernel) ⟨Nat.le_of_ble_eq_true rfl, Nat.le_of_ble_eq_true rfl⟩) (pvV hE hK hS sb (va_recv hK hP (ci := 12) (q0 := 0) rfl rfl)) rfl rfl hv.1 rfl (lv_room (Nat.le_of_ble_eq_true rfl)) dX12_move_40 ⟨Nat.le_of_ble_eq_true rfl, Nat.le_of_ble_eq_true rfl⟩) hS sb (Jn.same sb) (fun H locs hP hD hS => ?_)
        have hP : va_P D vwCl (wM cA ad d kept aside images found_13 base at0 size fault opened isRub names code coded pile needs traced traceMany who bitsOf sizeOf number lifted) H := hP
        have hD : va_D A (wM cA ad d kept aside images found_13 base at0 size fault opened isRub names code coded pile needs traced traceMany who bitsOf sizeOf number lifted) := hD
        have h := Option.some.inj h
        have ee0 : r_12 = rR := congrArg (fun q => q.1) h
        have ee1 : found_13 = foundR := congrArg (fun q => q.2.1) h
        have ee2 : number = numberR := congrArg (fun q => q.2.2.1) h
        have ee3 : lifted = liftedR := congrArg (fun q => q.2.2.2) h
        subst ee0
        subst ee1
        subst ee2
        subst ee3
        rw [← hQ]
        exact retI hx hb hr hlk hK hP hD hS dX12_move_43 ⟨Nat.le_of_ble_eq_true rfl, Nat.le_of_ble_eq_true rfl⟩
      · have h := ite_f c_11 h
        refine lv_aload_n hx hb dX12_move_29 rfl (lv_at hv 0 rfl) ?_
        refine va_get (D := D) (ci := 12) (v := .ref (ad 20)) (C := RX12) (T := TX12) (N := 23) hx hb hts in_12 hown hK hP 0 rfl rfl 19 (by decide) w_0 (fun _ h9 => h9) rfl dX12_move_30 ?_
        refine lv_iload_n hx hb dX12_move_33 rfl (lv_at hv 3 rfl) ?_
        obtain ⟨c_15, h⟩ := ckI_ex h
        refine va_iald (D := D) hx hb hK hP 10 0 rfl rfl c_15 dX12_move_34 ?_
        refine lv_if_ne (tgt := 44) hx hb dX12_move_35 (by decide) (fun c_16 => ?_) (fun c_16 => ?_)
        · have h := ite_f c_16 h
          refine lv_aload_n hx hb dX12_move_44 rfl (lv_at hv 0 rfl) ?_
          refine va_get (D := D) (ci := 12) (v := .ref (ad 20)) (C := RX12) (T := TX12) (N := 23) hx hb hts in_12 hown hK hP 0 rfl rfl 19 (by decide) w_0 (fun _ h9 => h9) rfl dX12_move_45 ?_
          refine lv_iload_n hx hb dX12_move_48 rfl (lv_at hv 1 rfl) ?_
          obtain ⟨c_17, h⟩ := ckI_ex h
          refine va_iald (D := D) hx hb hK hP 10 0 rfl rfl c_17 dX12_move_49 ?_
          refine lv_aload_n hx hb dX12_move_50 rfl (lv_at hv 0 rfl) ?_
          refine va_get (D := D) (ci := 12) (v := .ref (ad 20)) (C := RX12) (T := TX12) (N := 23) hx hb hts in_12 hown hK hP 0 rfl rfl 19 (by decide) w_0 (fun _ h9 => h9) rfl dX12_move_51 ?_
          refine lv_iload_n hx hb dX12_move_54 rfl (lv_at hv 3 rfl) ?_
          obtain ⟨c_18, h⟩ := ckI_ex h
          refine va_iald (D := D) hx hb hK hP 10 0 rfl rfl c_18 dX12_move_55 ?_
          refine lv_icmp_eq (tgt := 65) hx hb dX12_move_56 (by decide) (fun c_19 => ?_) (fun c_19 => ?_)
          · have h := ite_t c_19 h
            refine lv_iload hx hb dX12_move_65 (lv_at hv 5 rfl) ?_
            refine lv_if_lt (tgt := 106) hx hb dX12_move_67 (by decide) (fun c_20 => ?_) (fun c_20 => ?_)
            · have h := ite_t c_20 h
              exact C_106 found number lifted h _ _ _ hP hD hS (lv_sub hv [0] rfl)
            · have h := ite_f c_20 h
              refine lv_iload_n hx hb dX12_move_70 rfl (lv_at hv 2 rfl) ?_
              refine lv_if_lt (tgt := 106) hx hb dX12_move_71 (by decide) (fun c_24 => ?_) (fun c_24 => ?_)
              · have h := ite_t c_24 h
                exact C_106 found number lifted h _ _ _ hP hD hS (lv_sub hv [0] rfl)
              · have h := ite_f c_24 h
                refine lv_iload hx hb dX12_move_74 (lv_at hv 4 rfl) ?_
                refine lv_if_lt (tgt := 106) hx hb dX12_move_76 (by decide) (fun c_25 => ?_) (fun c_25 => ?_)
                · have h := ite_t c_25 h
                  exact C_106 found number lifted h _ _ _ hP hD hS (lv_sub hv [0] rfl)
                · have h := ite_f c_25 h
                  refine lv_iload hx hb dX12_move_79 (lv_at hv 5 rfl) ?_
                  refine lv_aload_n hx hb dX12_move_81 rfl (lv_at hv 0 rfl) ?_
                  refine va_get (D := D) (ci := 12) (v := .ref (ad 21)) (C := RX12) (T := TX12) (N := 23) hx hb hts in_12 hown hK hP 0 rfl rfl 20 (by decide) w_1 (fun _ h9 => h9) rfl dX12_move_82 ?_
                  refine lv_iload_n hx hb dX12_move_85 rfl (lv_at hv 1 rfl) ?_
                  obtain ⟨c_26, h⟩ := ckI_ex h
                  refine va_iald (D := D) hx hb hK hP 11 0 rfl rfl c_26 dX12_move_86 ?_
                  refine lv_iload_n hx hb dX12_move_87 rfl (lv_at hv 2 rfl) ?_
                  refine lv_isub hx hb dX12_move_88 ?_
                  refine lv_icmp_gt (tgt := 106) hx hb dX12_move_89 (by decide) (fun c_27 => ?_) (fun c_27 => ?_)
                  · have h := ite_t c_27 h
                    exact C_106 found number lifted h _ _ _ hP hD hS (lv_sub hv [0] rfl)
                  · have h := ite_f c_27 h
                    refine lv_iload hx hb dX12_move_92 (lv_at hv 5 rfl) ?_
                    refine lv_aload_n hx hb dX12_move_94 rfl (lv_at hv 0 rfl) ?_
                    refine va_get (D := D) (ci := 12) (v := .ref (ad 21)) (C := RX12) (T := TX12) (N := 23) hx hb hts in_12 hown hK hP 0 rfl rfl 20 (by decide) w_1 (fun _ h9 => h9) rfl dX12_move_95 ?_
                    refine lv_iload_n hx hb dX12_move_98 rfl (lv_at hv 3 rfl) ?_
                    obtain ⟨c_28, h⟩ := ckI_ex h
                    refine va_iald (D := D) hx hb hK hP 11 0 rfl rfl c_28 dX12_move_99 ?_
                    refine lv_iload hx hb dX12_move_100 (lv_at hv 4 rfl) ?_
                    refine lv_isub hx hb dX12_move_102 ?_
                    refine lv_icmp_le (tgt := 112) hx hb dX12_move_103 (by decide) (fun c_29 => ?_) (fun c_29 => ?_)
                    · have h := ite_t c_29 h
                      refine lv_iconst (v := (0 : Int32)) hx hb dX12_move_112 (by decide) ?_
                      refine lv_istore (lv' := [(6, .int (0 : Int32)), (0, .ref (ad 0)), (1, .int a), (2, .int b), (3, .int k), (4, .int o), (5, .int n)]) hx hb dX12_move_113 hv (by decide) rfl (fun ls hv => ?_)
                      exact C_115 a b k o n (0 : Int32) found number lifted h _ _ _ hP hD hS (lv_sub hv [1, 2, 3, 4, 5, 6, 0] rfl)
                    · have h := ite_f c_29 h
                      exact C_106 found number lifted h _ _ _ hP hD hS (lv_sub hv [0] rfl)
          · have h := ite_f c_19 h
            refine lv_aload_n hx hb dX12_move_59 rfl (lv_at hv 0 rfl) ?_
            refine lv_iconst (v := (5 : Int32)) hx hb dX12_move_60 (by decide) ?_
            obtain ⟨⟨r_42, found_43⟩, hf_44, h⟩ := bd_ex h
            have sb := Sb.same hP hD hS hA
            refine calI (va_runV (As := [.int (5 : Int32)]) (rest := []) ⟨hx, hb, hml, hown, hts⟩ (c_X12_finds l G D cA ad _ d kept aside images found base at0 size fault opened isRub names code coded pile needs traced traceMany who bitsOf sizeOf number lifted (5 : Int32) r_42 found_43 hf_44) (cwV 1 hts gX12_move_X12_finds rfl rfl rfl (by decide +kernel) ⟨Nat.le_of_ble_eq_true rfl, Nat.le_of_ble_eq_true rfl⟩) (pvV hE hK hS sb (va_recv hK hP (ci := 12) (q0 := 0) rfl rfl)) rfl rfl hv.1 rfl (lv_room (Nat.le_of_ble_eq_true rfl)) dX12_move_61 ⟨Nat.le_of_ble_eq_true rfl, Nat.le_of_ble_eq_true rfl⟩) hS sb (Jn.same sb) (fun H locs hP hD hS => ?_)
            have hP : va_P D vwCl (wM cA ad d kept aside images found_43 base at0 size fault opened isRub names code coded pile needs traced traceMany who bitsOf sizeOf number lifted) H := hP
            have hD : va_D A (wM cA ad d kept aside images found_43 base at0 size fault opened isRub names code coded pile needs traced traceMany who bitsOf sizeOf number lifted) := hD
            have h := Option.some.inj h
            have ee0 : r_42 = rR := congrArg (fun q => q.1) h
            have ee1 : found_43 = foundR := congrArg (fun q => q.2.1) h
            have ee2 : number = numberR := congrArg (fun q => q.2.2.1) h
            have ee3 : lifted = liftedR := congrArg (fun q => q.2.2.2) h
            subst ee0
            subst ee1
            subst ee2
            subst ee3
            rw [← hQ]
            exact retI hx hb hr hlk hK hP hD hS dX12_move_64 ⟨Nat.le_of_ble_eq_true rfl, Nat.le_of_ble_eq_true rfl⟩
        · have h := ite_t c_16 h
          refine lv_aload_n hx hb dX12_move_38 rfl (lv_at hv 0 rfl) ?_
          refine lv_iconst (v := (2 : Int32)) hx hb dX12_move_39 (by decide) ?_
          obtain ⟨⟨r_45, found_46⟩, hf_47, h⟩ := bd_ex h
          have sb := Sb.same hP hD hS hA
          refine calI (va_runV (As := [.int (2 : Int32)]) (rest := []) ⟨hx, hb, hml, hown, hts⟩ (c_X12_finds l G D cA ad _ d kept aside images found base at0 size fault opened isRub names code coded pile needs traced traceMany who bitsOf sizeOf number lifted (2 : Int32) r_45 found_46 hf_47) (cwV 1 hts gX12_move_X12_finds rfl rfl rfl (by decide +kernel) ⟨Nat.le_of_ble_eq_true rfl, Nat.le_of_ble_eq_true rfl⟩) (pvV hE hK hS sb (va_recv hK hP (ci := 12) (q0 := 0) rfl rfl)) rfl rfl hv.1 rfl (lv_room (Nat.le_of_ble_eq_true rfl)) dX12_move_40 ⟨Nat.le_of_ble_eq_true rfl, Nat.le_of_ble_eq_true rfl⟩) hS sb (Jn.same sb) (fun H locs hP hD hS => ?_)
          have hP : va_P D vwCl (wM cA ad d kept aside images found_46 base at0 size fault opened isRub names code coded pile needs traced traceMany who bitsOf sizeOf number lifted) H := hP
          have hD : va_D A (wM cA ad d kept aside images found_46 base at0 size fault opened isRub names code coded pile needs traced traceMany who bitsOf sizeOf number lifted) := hD
          have h := Option.some.inj h
          have ee0 : r_45 = rR := congrArg (fun q => q.1) h
          have ee1 : found_46 = foundR := congrArg (fun q => q.2.1) h
          have ee2 : number = numberR := congrArg (fun q => q.2.2.1) h
          have ee3 : lifted = liftedR := congrArg (fun q => q.2.2.2) h
          subst ee0
          subst ee1
          subst ee2
          subst ee3
          rw [← hQ]
          exact retI hx hb hr hlk hK hP hD hS dX12_move_43 ⟨Nat.le_of_ble_eq_true rfl, Nat.le_of_ble_eq_true rfl⟩
    · have h := ite_t c_9 h
      refine lv_aload_n hx hb dX12_move_14 rfl (lv_at hv 0 rfl) ?_
      refine lv_iconst (v := (1 : Int32)) hx hb dX12_move_15 (by decide) ?_
      obtain ⟨⟨r_48, found_49⟩, hf_50, h⟩ := bd_ex h
      have sb := Sb.same hP hD hS hA
      refine calI (va_runV (As := [.int (1 : Int32)]) (rest := []) ⟨hx, hb, hml, hown, hts⟩ (c_X12_finds l G D cA ad _ d kept aside images found base at0 size fault opened isRub names code coded pile needs traced traceMany who bitsOf sizeOf number lifted (1 : Int32) r_48 found_49 hf_50) (cwV 1 hts gX12_move_X12_finds rfl rfl rfl (by decide +kernel) ⟨Nat.le_of_ble_eq_true rfl, Nat.le_of_ble_eq_true rfl⟩) (pvV hE hK hS sb (va_recv hK hP (ci := 12) (q0 := 0) rfl rfl)) rfl rfl hv.1 rfl (lv_room (Nat.le_of_ble_eq_true rfl)) dX12_move_16 ⟨Nat.le_of_ble_eq_true rfl, Nat.le_of_ble_eq_true rfl⟩) hS sb (Jn.same sb) (fun H locs hP hD hS => ?_)
      have hP : va_P D vwCl (wM cA ad d kept aside images found_49 base at0 size fault opened isRub names code coded pile needs traced traceMany who bitsOf sizeOf number lifted) H := hP
      have hD : va_D A (wM cA ad d kept aside images found_49 base at0 size fault opened isRub names code coded pile needs traced traceMany who bitsOf sizeOf number lifted) := hD
      have h := Option.some.inj h
      have ee0 : r_48 = rR := congrArg (fun q => q.1) h
      have ee1 : found_49 = foundR := congrArg (fun q => q.2.1) h
      have ee2 : number = numberR := congrArg (fun q => q.2.2.1) h
      have ee3 : lifted = liftedR := congrArg (fun q => q.2.2.2) h
      subst ee0
      subst ee1
      subst ee2
      subst ee3
      rw [← hQ]
      exact retI hx hb hr hlk hK hP hD hS dX12_move_19 ⟨Nat.le_of_ble_eq_true rfl, Nat.le_of_ble_eq_true rfl⟩

def fX12_weights_30B (v1_30 : Int32) (found_30 : Nat → Int32) (bitsOf : Nat → Int32) (sizeOf : Nat → Int32) (number : Nat → Int32) (v2_30b : Int32) (d_30b : Nat → Int32) : Option ((Int32 × (Nat → Int32)) ⊕ (Int32 × (Nat → Int32))) :=
  ckI v1_30 4 ((if (sizeOf (v1_30).toNatClampNeg) ≤ v2_30b then some (.inr (v2_30b, d_30b)) else (if (12 : Int32) ≤ v2_30b then some (.inr (v2_30b, d_30b)) else ckI (((40 : Int32) * v1_30) + v2_30b) 160 (bd (fX12_in (((number ((((40 : Int32) * v1_30) + v2_30b)).toNatClampNeg)).toInt64) (0 : Int64) (9 : Int64)) fun r_10 => (if r_10 = 0 then some (.inr (v2_30b, d_30b)) else ckI (((40 : Int32) * v1_30) + v2_30b) 160 (bnd (number ((((40 : Int32) * v1_30) + v2_30b)).toNatClampNeg) fun y_14 => ckI ((6 : Int32) + v2_30b) 326 (bnd (upd d_30b (((6 : Int32) + v2_30b)).toNatClampNeg y_14) fun d_16 => bnd (v2_30b + (1 : Int32)) fun y_17 => some (.inl (y_17, d_16)))))))))
def fX12_weights_30 (v1_30 : Int32) (v2_30 : Int32) (d_30 : Nat → Int32) (found_30 : Nat → Int32) (bitsOf : Nat → Int32) (sizeOf : Nat → Int32) (number : Nat → Int32) : Option (Int32 × (Nat → Int32) × (Nat → Int32)) :=
  bd (lp (fun σ : Int32 × (Nat → Int32) => fX12_weights_30B v1_30 found_30 bitsOf sizeOf number (σ.1) (σ.2)) FU (v2_30, d_30)) fun ρ => match ρ with | (v2_30r, d_30r) => some (v2_30r, d_30r, found_30)
def fX12_weights (a : Int32) (d : Nat → Int32) (found : Nat → Int32) (bitsOf : Nat → Int32) (sizeOf : Nat → Int32) (number : Nat → Int32) : Option (Int32 × (Nat → Int32) × (Nat → Int32)) :=
  bd (fX12_isSheet a) fun r_1 => (if r_1 = 0 then bd (fX12_finds (1 : Int32) found) fun (r_21, found_22) => some (r_21, d, found_22) else ckI a 4 ((if (bitsOf (a).toNatClampNeg) = 0 then bd (fX12_finds (2 : Int32) found) fun (r_18, found_19) => some (r_18, d, found_19) else fX12_weights_30 a (0 : Int32) d found bitsOf sizeOf number)))
set_option maxHeartbeats 4000000 in
set_option maxRecDepth 100000 in
theorem c_X12_weights (l : Launch) (G : Nat → Nat) (D : va_G) (cA : Nat → ClassId) (ad : Nat → Nat) (sz : Nat) (d : Nat → Int32) (kept : Nat → Int32) (aside : Nat → Int32) (images : Int32) (found : Nat → Int32) (base : Int32) (at0 : Int32) (size : Int32) (fault : Int32) (opened : Int32) (isRub : Int32) (names : Nat → Int32) (code : Nat → Int32) (coded : Int32) (pile : Nat → Int32) (needs : Nat → Int32) (traced : Nat → Int32) (traceMany : Int32) (who : Int32) (bitsOf : Nat → Int32) (sizeOf : Nat → Int32) (number : Nat → Int32) (lifted : Nat → Int32) (a : Int32) (rR : Int32) (dR : Nat → Int32) (foundR : Nat → Int32) (h : fX12_weights a d found bitsOf sizeOf number = some (rR, dR, foundR)) : Met l yX12_weights wsX12_weights ({ frames := 2, cells := 0, slots := 0, locals := 45 } : Room) (PW G D (tyC cA) sz (wM cA ad d kept aside images found base at0 size fault opened isRub names code coded pile needs traced traceMany who bitsOf sizeOf number lifted) [.ref (ad 0), .int a]) (QI D (tyC cA) (va_A (wM cA ad d kept aside images found base at0 size fault opened isRub names code coded pile needs traced traceMany who bitsOf sizeOf number lifted) sz) rR (wM cA ad dR kept aside images foundR base at0 size fault opened isRub names code coded pile needs traced traceMany who bitsOf sizeOf number lifted)) 0 0 (va_A (wM cA ad d kept aside images found base at0 size fault opened isRub names code coded pile needs traced traceMany who bitsOf sizeOf number lifted) sz) := by
  refine ent (cc := cX12_weights) (maxL := 3) (ret := (some .int)) (fun A => QI D (tyC cA) A rR (wM cA ad dR kept aside images foundR base at0 size fault opened isRub names code coded pile needs traced traceMany who bitsOf sizeOf number lifted)) (by decide +kernel) rfl (Nat.le_of_ble_eq_true rfl) ?_
  intro p e s m args below meth c A ls H hx hb hml hr hlk hts hown hA hK hE hP hD hS hv hmm
  have hv : lv_has ls 3 [(0, .ref (ad 0)), (1, .int a)] := hv
  have in_12 : ∀ w ∈ u_ws RX12 TX12 23, w ∈ wsX12_weights := fun _ h => List.mem_cons_of_mem _ (List.mem_append_right _ h)
  have w_0 := hts (.fieldLink RX12 37 "SpoonsLastModel" "bitsOf" "[I") (List.mem_of_getElem? (i := 1) rfl)
  have w_1 := hts (.fieldLink RX12 40 "SpoonsLastModel" "sizeOf" "[I") (List.mem_of_getElem? (i := 2) rfl)
  have w_2 := hts (.fieldLink RX12 43 "SpoonsLastModel" "number" "[I") (List.mem_of_getElem? (i := 3) rfl)
  have w_3 := hts (.constantLong RX12 194 (9)) (List.mem_of_getElem? (i := 4) rfl)
  have w_4 := hts (.fieldLink RX12 7 "SpoonsLastModel" "d" "[I") (List.mem_of_getElem? (i := 5) rfl)
  generalize hQ : MQ below _ args s 0 0 A = Q
  have C_30 : ∀ (v1_30 : Int32) (v2_30 : Int32) (d_30 : Nat → Int32) (found_30 : Nat → Int32), fX12_weights_30 v1_30 v2_30 d_30 found_30 bitsOf sizeOf number = some (rR, dR, foundR) → WW p l e ({ frames := 2, cells := 0, slots := 0, locals := 45 } : Room) s m args below meth c D A 0 0 Q (wM cA ad d_30 kept aside images found_30 base at0 size fault opened isRub names code coded pile needs traced traceMany who bitsOf sizeOf number lifted) 3 [(0, .ref (ad 0)), (1, .int v1_30), (2, .int v2_30)] 30 [] := by
    intro v1_30 v2_30 d_30 found_30 h
    unfold fX12_weights_30 at h
    obtain ⟨⟨v2_30r, d_30r⟩, ho, h⟩ := bd_ex h
    have LE : WW p l e ({ frames := 2, cells := 0, slots := 0, locals := 45 } : Room) s m args below meth c D A 0 0 Q (wM cA ad d_30r kept aside images found_30 base at0 size fault opened isRub names code coded pile needs traced traceMany who bitsOf sizeOf number lifted) 3 [(2, .int v2_30r)] 94 [] := by
      intro H locs ls hP hD hS hv
      refine lv_iload_n hx hb dX12_weights_94 rfl (lv_at hv 0 rfl) ?_
      have h := Option.some.inj h
      have ee0 : v2_30r = rR := congrArg (fun q => q.1) h
      have ee1 : d_30r = dR := congrArg (fun q => q.2.1) h
      have ee2 : found_30 = foundR := congrArg (fun q => q.2.2) h
      subst ee0
      subst ee1
      subst ee2
      rw [← hQ]
      exact retI hx hb hr hlk hK hP hD hS dX12_weights_95 ⟨Nat.le_of_ble_eq_true rfl, Nat.le_of_ble_eq_true rfl⟩
    have LB : ∀ (nf : Nat) (v2_30b : Int32) (d_30b : Nat → Int32), lp (fun σ : Int32 × (Nat → Int32) => fX12_weights_30B v1_30 found_30 bitsOf sizeOf number (σ.1) (σ.2)) nf (v2_30b, d_30b) = some (v2_30r, d_30r) → WW p l e ({ frames := 2, cells := 0, slots := 0, locals := 45 } : Room) s m args below meth c D A 0 0 Q (wM cA ad d_30b kept aside images found_30 base at0 size fault opened isRub names code coded pile needs traced traceMany who bitsOf sizeOf number lifted) 3 [(0, .ref (ad 0)), (1, .int v1_30), (2, .int v2_30b)] 30 [] := by
      intro nf
      induction nf with
      | zero => intro v2_30b d_30b hl; cases hl
      | succ nf ih =>
        intro v2_30b d_30b hl
        obtain ⟨x, h, hl⟩ := lp_ex hl
        have h : fX12_weights_30B v1_30 found_30 bitsOf sizeOf number v2_30b d_30b = some x := h
        unfold fX12_weights_30B at h
        intro H locs ls hP hD hS hv
        refine lv_iload_n hx hb dX12_weights_30 rfl (lv_at hv 2 rfl) ?_
        refine lv_aload_n hx hb dX12_weights_31 rfl (lv_at hv 0 rfl) ?_
        refine va_get (D := D) (ci := 12) (v := .ref (ad 21)) (C := RX12) (T := TX12) (N := 23) hx hb hts in_12 hown hK hP 0 rfl rfl 20 (by decide) w_1 (fun _ h9 => h9) rfl dX12_weights_32 ?_
        refine lv_iload_n hx hb dX12_weights_35 rfl (lv_at hv 1 rfl) ?_
        obtain ⟨c_6, h⟩ := ckI_ex h
        refine va_iald (D := D) hx hb hK hP 11 0 rfl rfl c_6 dX12_weights_36 ?_
        refine lv_icmp_ge (tgt := 94) hx hb dX12_weights_37 (by decide) (fun c_7 => ?_) (fun c_7 => ?_)
        · have h := ite_t c_7 h
          cases h
          have hl : some (v2_30b, d_30b) = some (v2_30r, d_30r) := hl
          have hl := Option.some.inj hl
          have ee0 : v2_30b = v2_30r := congrArg (fun q => q.1) hl
          have ee1 : d_30b = d_30r := congrArg (fun q => q.2) hl
          subst ee0
          subst ee1
          exact LE _ _ _ hP hD hS (lv_sub hv [2] rfl)
        · have h := ite_f c_7 h
          refine lv_iload_n hx hb dX12_weights_40 rfl (lv_at hv 2 rfl) ?_
          refine lv_bipush (v := (12 : Int32)) hx hb dX12_weights_41 (by decide) ?_
          refine lv_icmp_ge (tgt := 94) hx hb dX12_weights_43 (by decide) (fun c_8 => ?_) (fun c_8 => ?_)
          · have h := ite_t c_8 h
            cases h
            have hl : some (v2_30b, d_30b) = some (v2_30r, d_30r) := hl
            have hl := Option.some.inj hl
            have ee0 : v2_30b = v2_30r := congrArg (fun q => q.1) hl
            have ee1 : d_30b = d_30r := congrArg (fun q => q.2) hl
            subst ee0
            subst ee1
            exact LE _ _ _ hP hD hS (lv_sub hv [2] rfl)
          · have h := ite_f c_8 h
            refine lv_aload_n hx hb dX12_weights_46 rfl (lv_at hv 0 rfl) ?_
            refine va_get (D := D) (ci := 12) (v := .ref (ad 22)) (C := RX12) (T := TX12) (N := 23) hx hb hts in_12 hown hK hP 0 rfl rfl 21 (by decide) w_2 (fun _ h9 => h9) rfl dX12_weights_47 ?_
            refine lv_bipush (v := (40 : Int32)) hx hb dX12_weights_50 (by decide) ?_
            refine lv_iload_n hx hb dX12_weights_52 rfl (lv_at hv 1 rfl) ?_
            refine lv_imul hx hb dX12_weights_53 ?_
            refine lv_iload_n hx hb dX12_weights_54 rfl (lv_at hv 2 rfl) ?_
            refine lv_iadd hx hb dX12_weights_55 ?_
            obtain ⟨c_9, h⟩ := ckI_ex h
            refine va_iald (D := D) hx hb hK hP 12 0 rfl rfl c_9 dX12_weights_56 ?_
            refine lv_i2l (v := ((number ((((40 : Int32) * v1_30) + v2_30b)).toNatClampNeg)).toInt64) hx hb dX12_weights_57 rfl ?_
            refine lv_lconst (v := (0 : Int64)) hx hb dX12_weights_58 (by decide) ?_
            refine lv_ldc2 (v := (9 : Int64)) hx hb hown w_3 dX12_weights_59 ?_
            obtain ⟨r_10, hf_11, h⟩ := bd_ex h
            have sb := Sb.nil hP hD hS hA
            refine calI (va_runS (As := [.long ((number ((((40 : Int32) * v1_30) + v2_30b)).toNatClampNeg)).toInt64, .long (0 : Int64), .long (9 : Int64)]) (rest := []) ⟨hx, hb, hml, hown, hts⟩ (c_X12_in l G D cA  _ (((number ((((40 : Int32) * v1_30) + v2_30b)).toNatClampNeg)).toInt64) (0 : Int64) (9 : Int64) r_10 hf_11) (va_cwS 3 hts gX12_weights_X12_in rfl rfl rfl (by decide +kernel) ⟨Nat.le_of_ble_eq_true rfl, Nat.le_of_ble_eq_true rfl⟩) (pvS hE hK hS sb) rfl rfl hv.1 rfl (lv_room (Nat.le_of_ble_eq_true rfl)) dX12_weights_62 ⟨Nat.le_of_ble_eq_true rfl, Nat.le_of_ble_eq_true rfl⟩) hS sb (Jn.nil hP hD) (fun H locs hP hD hS => ?_)
            have hP : va_P D vwCl (wM cA ad d_30b kept aside images found_30 base at0 size fault opened isRub names code coded pile needs traced traceMany who bitsOf sizeOf number lifted) H := hP
            have hD : va_D A (wM cA ad d_30b kept aside images found_30 base at0 size fault opened isRub names code coded pile needs traced traceMany who bitsOf sizeOf number lifted) := hD
            refine lv_if_eq (tgt := 94) hx hb dX12_weights_65 (by decide) (fun c_12 => ?_) (fun c_12 => ?_)
            · have h := ite_t c_12 h
              cases h
              have hl : some (v2_30b, d_30b) = some (v2_30r, d_30r) := hl
              have hl := Option.some.inj hl
              have ee0 : v2_30b = v2_30r := congrArg (fun q => q.1) hl
              have ee1 : d_30b = d_30r := congrArg (fun q => q.2) hl
              subst ee0
              subst ee1
              exact LE _ _ _ hP hD hS (lv_sub hv [2] rfl)
            · have h := ite_f c_12 h
              refine lv_aload_n hx hb dX12_weights_68 rfl (lv_at hv 0 rfl) ?_
              refine va_get (D := D) (ci := 12) (v := .ref (ad 1)) (C := RX12) (T := TX12) (N := 23) hx hb hts in_12 hown hK hP 0 rfl rfl 0 (by decide) w_4 (fun _ h9 => h9) rfl dX12_weights_69 ?_
              refine lv_bipush (v := (6 : Int32)) hx hb dX12_weights_72 (by decide) ?_
              refine lv_iload_n hx hb dX12_weights_74 rfl (lv_at hv 2 rfl) ?_
              refine lv_iadd hx hb dX12_weights_75 ?_
              refine lv_aload_n hx hb dX12_weights_76 rfl (lv_at hv 0 rfl) ?_
              refine va_get (D := D) (ci := 12) (v := .ref (ad 22)) (C := RX12) (T := TX12) (N := 23) hx hb hts in_12 hown hK hP 0 rfl rfl 21 (by decide) w_2 (fun _ h9 => h9) rfl dX12_weights_77 ?_
              refine lv_bipush (v := (40 : Int32)) hx hb dX12_weights_80 (by decide) ?_
              refine lv_iload_n hx hb dX12_weights_82 rfl (lv_at hv 1 rfl) ?_
              refine lv_imul hx hb dX12_weights_83 ?_
              refine lv_iload_n hx hb dX12_weights_84 rfl (lv_at hv 2 rfl) ?_
              refine lv_iadd hx hb dX12_weights_85 ?_
              obtain ⟨c_13, h⟩ := ckI_ex h
              refine va_iald (D := D) hx hb hK hP 12 0 rfl rfl c_13 dX12_weights_86 ?_
              obtain ⟨y_14, ey_14, h⟩ := bnd_ex h
              refine lv_nm ey_14 ?_
              obtain ⟨c_15, h⟩ := ckI_ex h
              obtain ⟨d_16, ed_16, h⟩ := bnd_ex h
              refine va_iast (D := D) hx hb hK hP hD hS 1 0 rfl rfl c_15 dX12_weights_87 (fun H locs hP hD hS => ?_)
              rw [← ed_16] at hP hD
              have hP : va_P D vwCl (wM cA ad d_16 kept aside images found_30 base at0 size fault opened isRub names code coded pile needs traced traceMany who bitsOf sizeOf number lifted) H := hP
              have hD : va_D A (wM cA ad d_16 kept aside images found_30 base at0 size fault opened isRub names code coded pile needs traced traceMany who bitsOf sizeOf number lifted) := hD
              obtain ⟨y_17, ey_17, h⟩ := bnd_ex h
              refine lv_iinc (v := y_17) (lv' := [(2, .int y_17), (0, .ref (ad 0)), (1, .int v1_30)]) hx hb dX12_weights_88 hv (k := 2) rfl (by rw [ey_17]; rfl) (by decide) rfl (fun ls hv => ?_)
              refine lv_goto (tgt := 30) hx hb dX12_weights_91 (by decide) ?_
              cases h
              exact ih y_17 d_16 hl _ _ _ hP hD hS (lv_sub hv [1, 2, 0] rfl)
    exact LB FU v2_30 d_30 ho
  have hP : va_P D vwCl (wM cA ad d kept aside images found base at0 size fault opened isRub names code coded pile needs traced traceMany who bitsOf sizeOf number lifted) H := hP
  unfold fX12_weights at h
  refine lv_iload_n hx hb dX12_weights_0 rfl (lv_at hv 1 rfl) ?_
  obtain ⟨r_1, hf_2, h⟩ := bd_ex h
  have sb := Sb.nil hP hD hS hA
  refine calI (va_runS (As := [.int a]) (rest := []) ⟨hx, hb, hml, hown, hts⟩ (c_X12_isSheet l G D cA  _ a r_1 hf_2) (va_cwS 1 hts gX12_weights_X12_isSheet rfl rfl rfl (by decide +kernel) ⟨Nat.le_of_ble_eq_true rfl, Nat.le_of_ble_eq_true rfl⟩) (pvS hE hK hS sb) rfl rfl hv.1 rfl (lv_room (Nat.le_of_ble_eq_true rfl)) dX12_weights_1 ⟨Nat.le_of_ble_eq_true rfl, Nat.le_of_ble_eq_true rfl⟩) hS sb (Jn.nil hP hD) (fun H locs hP hD hS => ?_)
  have hP : va_P D vwCl (wM cA ad d kept aside images found base at0 size fault opened isRub names code coded pile needs traced traceMany who bitsOf sizeOf number lifted) H := hP
  have hD : va_D A (wM cA ad d kept aside images found base at0 size fault opened isRub names code coded pile needs traced traceMany who bitsOf sizeOf number lifted) := hD
  refine lv_if_ne (tgt := 13) hx hb dX12_weights_4 (by decide) (fun c_3 => ?_) (fun c_3 => ?_)
  · have h := ite_f c_3 h
    refine lv_aload_n hx hb dX12_weights_13 rfl (lv_at hv 0 rfl) ?_
    refine va_get (D := D) (ci := 12) (v := .ref (ad 20)) (C := RX12) (T := TX12) (N := 23) hx hb hts in_12 hown hK hP 0 rfl rfl 19 (by decide) w_0 (fun _ h9 => h9) rfl dX12_weights_14 ?_
    refine lv_iload_n hx hb dX12_weights_17 rfl (lv_at hv 1 rfl) ?_
    obtain ⟨c_4, h⟩ := ckI_ex h
    refine va_iald (D := D) hx hb hK hP 10 0 rfl rfl c_4 dX12_weights_18 ?_
    refine lv_if_ne (tgt := 28) hx hb dX12_weights_19 (by decide) (fun c_5 => ?_) (fun c_5 => ?_)
    · have h := ite_f c_5 h
      refine lv_iconst (v := (0 : Int32)) hx hb dX12_weights_28 (by decide) ?_
      refine lv_istore_n (lv' := [(2, .int (0 : Int32)), (0, .ref (ad 0)), (1, .int a)]) hx hb dX12_weights_29 rfl hv (by decide) rfl (fun ls hv => ?_)
      exact C_30 a (0 : Int32) d found h _ _ _ hP hD hS (lv_sub hv [1, 2, 0] rfl)
    · have h := ite_t c_5 h
      refine lv_aload_n hx hb dX12_weights_22 rfl (lv_at hv 0 rfl) ?_
      refine lv_iconst (v := (2 : Int32)) hx hb dX12_weights_23 (by decide) ?_
      obtain ⟨⟨r_18, found_19⟩, hf_20, h⟩ := bd_ex h
      have sb := Sb.same hP hD hS hA
      refine calI (va_runV (As := [.int (2 : Int32)]) (rest := []) ⟨hx, hb, hml, hown, hts⟩ (c_X12_finds l G D cA ad _ d kept aside images found base at0 size fault opened isRub names code coded pile needs traced traceMany who bitsOf sizeOf number lifted (2 : Int32) r_18 found_19 hf_20) (cwV 1 hts gX12_weights_X12_finds rfl rfl rfl (by decide +kernel) ⟨Nat.le_of_ble_eq_true rfl, Nat.le_of_ble_eq_true rfl⟩) (pvV hE hK hS sb (va_recv hK hP (ci := 12) (q0 := 0) rfl rfl)) rfl rfl hv.1 rfl (lv_room (Nat.le_of_ble_eq_true rfl)) dX12_weights_24 ⟨Nat.le_of_ble_eq_true rfl, Nat.le_of_ble_eq_true rfl⟩) hS sb (Jn.same sb) (fun H locs hP hD hS => ?_)
      have hP : va_P D vwCl (wM cA ad d kept aside images found_19 base at0 size fault opened isRub names code coded pile needs traced traceMany who bitsOf sizeOf number lifted) H := hP
      have hD : va_D A (wM cA ad d kept aside images found_19 base at0 size fault opened isRub names code coded pile needs traced traceMany who bitsOf sizeOf number lifted) := hD
      have h := Option.some.inj h
      have ee0 : r_18 = rR := congrArg (fun q => q.1) h
      have ee1 : d = dR := congrArg (fun q => q.2.1) h
      have ee2 : found_19 = foundR := congrArg (fun q => q.2.2) h
      subst ee0
      subst ee1
      subst ee2
      rw [← hQ]
      exact retI hx hb hr hlk hK hP hD hS dX12_weights_27 ⟨Nat.le_of_ble_eq_true rfl, Nat.le_of_ble_eq_true rfl⟩
  · have h := ite_t c_3 h
    refine lv_aload_n hx hb dX12_weights_7 rfl (lv_at hv 0 rfl) ?_
    refine lv_iconst (v := (1 : Int32)) hx hb dX12_weights_8 (by decide) ?_
    obtain ⟨⟨r_21, found_22⟩, hf_23, h⟩ := bd_ex h
    have sb := Sb.same hP hD hS hA
    refine calI (va_runV (As := [.int (1 : Int32)]) (rest := []) ⟨hx, hb, hml, hown, hts⟩ (c_X12_finds l G D cA ad _ d kept aside images found base at0 size fault opened isRub names code coded pile needs traced traceMany who bitsOf sizeOf number lifted (1 : Int32) r_21 found_22 hf_23) (cwV 1 hts gX12_weights_X12_finds rfl rfl rfl (by decide +kernel) ⟨Nat.le_of_ble_eq_true rfl, Nat.le_of_ble_eq_true rfl⟩) (pvV hE hK hS sb (va_recv hK hP (ci := 12) (q0 := 0) rfl rfl)) rfl rfl hv.1 rfl (lv_room (Nat.le_of_ble_eq_true rfl)) dX12_weights_9 ⟨Nat.le_of_ble_eq_true rfl, Nat.le_of_ble_eq_true rfl⟩) hS sb (Jn.same sb) (fun H locs hP hD hS => ?_)
    have hP : va_P D vwCl (wM cA ad d kept aside images found_22 base at0 size fault opened isRub names code coded pile needs traced traceMany who bitsOf sizeOf number lifted) H := hP
    have hD : va_D A (wM cA ad d kept aside images found_22 base at0 size fault opened isRub names code coded pile needs traced traceMany who bitsOf sizeOf number lifted) := hD
    have h := Option.some.inj h
    have ee0 : r_21 = rR := congrArg (fun q => q.1) h
    have ee1 : d = dR := congrArg (fun q => q.2.1) h
    have ee2 : found_22 = foundR := congrArg (fun q => q.2.2) h
    subst ee0
    subst ee1
    subst ee2
    rw [← hQ]
    exact retI hx hb hr hlk hK hP hD hS dX12_weights_12 ⟨Nat.le_of_ble_eq_true rfl, Nat.le_of_ble_eq_true rfl⟩

def fX12_judge_76 (v1_76 : Int32) (v2_76 : Int32) (d : Nat → Int32) (found_76 : Nat → Int32) (bitsOf : Nat → Int32) (sizeOf : Nat → Int32) (number : Nat → Int32) : Option (Int32 × (Nat → Int32)) :=
  ckI v1_76 4 ((if v2_76 = (sizeOf (v1_76).toNatClampNeg) then ckI (0 : Int32) 326 ((if v2_76 = (d ((0 : Int32)).toNatClampNeg) then some ((-1 : Int32), found_76) else some (v2_76, found_76))) else some (v2_76, found_76)))
def fX12_judge_30B (v1_30 : Int32) (d : Nat → Int32) (found_30 : Nat → Int32) (bitsOf : Nat → Int32) (sizeOf : Nat → Int32) (number : Nat → Int32) (v2_30b : Int32) : Option ((Int32) ⊕ (Int32)) :=
  ckI v1_30 4 ((if (sizeOf (v1_30).toNatClampNeg) ≤ v2_30b then some (.inr v2_30b) else ckI (0 : Int32) 326 ((if (d ((0 : Int32)).toNatClampNeg) ≤ v2_30b then some (.inr v2_30b) else ckI (((40 : Int32) * v1_30) + v2_30b) 160 (bd (fX12_of v2_30b (2 : Int32) d) fun r_15 => (if (number ((((40 : Int32) * v1_30) + v2_30b)).toNatClampNeg) = r_15 then bnd (v2_30b + (1 : Int32)) fun y_18 => some (.inl y_18) else some (.inr v2_30b)))))))
def fX12_judge_30 (v1_30 : Int32) (v2_30 : Int32) (d : Nat → Int32) (found_30 : Nat → Int32) (bitsOf : Nat → Int32) (sizeOf : Nat → Int32) (number : Nat → Int32) : Option (Int32 × (Nat → Int32)) :=
  bd (lp (fun σ : Int32 => fX12_judge_30B v1_30 d found_30 bitsOf sizeOf number σ) FU v2_30) fun ρ => match ρ with | v2_30r => fX12_judge_76 v1_30 v2_30r d found_30 bitsOf sizeOf number
def fX12_judge (a : Int32) (d : Nat → Int32) (found : Nat → Int32) (bitsOf : Nat → Int32) (sizeOf : Nat → Int32) (number : Nat → Int32) : Option (Int32 × (Nat → Int32)) :=
  bd (fX12_isSheet a) fun r_1 => (if r_1 = 0 then bd (fX12_finds (1 : Int32) found) fun (r_22, found_23) => some (r_22, found_23) else ckI a 4 ((if (bitsOf (a).toNatClampNeg) = 0 then bd (fX12_finds (2 : Int32) found) fun (r_19, found_20) => some (r_19, found_20) else fX12_judge_30 a (0 : Int32) d found bitsOf sizeOf number)))
set_option maxHeartbeats 4000000 in
set_option maxRecDepth 100000 in
theorem c_X12_judge (l : Launch) (G : Nat → Nat) (D : va_G) (cA : Nat → ClassId) (ad : Nat → Nat) (sz : Nat) (d : Nat → Int32) (kept : Nat → Int32) (aside : Nat → Int32) (images : Int32) (found : Nat → Int32) (base : Int32) (at0 : Int32) (size : Int32) (fault : Int32) (opened : Int32) (isRub : Int32) (names : Nat → Int32) (code : Nat → Int32) (coded : Int32) (pile : Nat → Int32) (needs : Nat → Int32) (traced : Nat → Int32) (traceMany : Int32) (who : Int32) (bitsOf : Nat → Int32) (sizeOf : Nat → Int32) (number : Nat → Int32) (lifted : Nat → Int32) (a : Int32) (rR : Int32) (foundR : Nat → Int32) (h : fX12_judge a d found bitsOf sizeOf number = some (rR, foundR)) : Met l yX12_judge wsX12_judge ({ frames := 2, cells := 0, slots := 0, locals := 45 } : Room) (PW G D (tyC cA) sz (wM cA ad d kept aside images found base at0 size fault opened isRub names code coded pile needs traced traceMany who bitsOf sizeOf number lifted) [.ref (ad 0), .int a]) (QI D (tyC cA) (va_A (wM cA ad d kept aside images found base at0 size fault opened isRub names code coded pile needs traced traceMany who bitsOf sizeOf number lifted) sz) rR (wM cA ad d kept aside images foundR base at0 size fault opened isRub names code coded pile needs traced traceMany who bitsOf sizeOf number lifted)) 0 0 (va_A (wM cA ad d kept aside images found base at0 size fault opened isRub names code coded pile needs traced traceMany who bitsOf sizeOf number lifted) sz) := by
  refine ent (cc := cX12_judge) (maxL := 3) (ret := (some .int)) (fun A => QI D (tyC cA) A rR (wM cA ad d kept aside images foundR base at0 size fault opened isRub names code coded pile needs traced traceMany who bitsOf sizeOf number lifted)) (by decide +kernel) rfl (Nat.le_of_ble_eq_true rfl) ?_
  intro p e s m args below meth c A ls H hx hb hml hr hlk hts hown hA hK hE hP hD hS hv hmm
  have hv : lv_has ls 3 [(0, .ref (ad 0)), (1, .int a)] := hv
  have in_12 : ∀ w ∈ u_ws RX12 TX12 23, w ∈ wsX12_judge := fun _ h => List.mem_cons_of_mem _ (List.mem_append_right _ h)
  have w_0 := hts (.fieldLink RX12 37 "SpoonsLastModel" "bitsOf" "[I") (List.mem_of_getElem? (i := 1) rfl)
  have w_1 := hts (.fieldLink RX12 40 "SpoonsLastModel" "sizeOf" "[I") (List.mem_of_getElem? (i := 2) rfl)
  have w_2 := hts (.fieldLink RX12 7 "SpoonsLastModel" "d" "[I") (List.mem_of_getElem? (i := 3) rfl)
  have w_3 := hts (.fieldLink RX12 43 "SpoonsLastModel" "number" "[I") (List.mem_of_getElem? (i := 4) rfl)
  generalize hQ : MQ below _ args s 0 0 A = Q
  have C_76 : ∀ (v1_76 : Int32) (v2_76 : Int32) (found_76 : Nat → Int32), fX12_judge_76 v1_76 v2_76 d found_76 bitsOf sizeOf number = some (rR, foundR) → WW p l e ({ frames := 2, cells := 0, slots := 0, locals := 45 } : Room) s m args below meth c D A 0 0 Q (wM cA ad d kept aside images found_76 base at0 size fault opened isRub names code coded pile needs traced traceMany who bitsOf sizeOf number lifted) 3 [(0, .ref (ad 0)), (1, .int v1_76), (2, .int v2_76)] 76 [] := by
    intro v1_76 v2_76 found_76 h
    unfold fX12_judge_76 at h
    intro H locs ls hP hD hS hv
    refine lv_iload_n hx hb dX12_judge_76 rfl (lv_at hv 2 rfl) ?_
    refine lv_aload_n hx hb dX12_judge_77 rfl (lv_at hv 0 rfl) ?_
    refine va_get (D := D) (ci := 12) (v := .ref (ad 21)) (C := RX12) (T := TX12) (N := 23) hx hb hts in_12 hown hK hP 0 rfl rfl 20 (by decide) w_1 (fun _ h9 => h9) rfl dX12_judge_78 ?_
    refine lv_iload_n hx hb dX12_judge_81 rfl (lv_at hv 1 rfl) ?_
    obtain ⟨c_6, h⟩ := ckI_ex h
    refine va_iald (D := D) hx hb hK hP 11 0 rfl rfl c_6 dX12_judge_82 ?_
    refine lv_icmp_ne (tgt := 100) hx hb dX12_judge_83 (by decide) (fun c_7 => ?_) (fun c_7 => ?_)
    · have h := ite_f c_7 h
      refine lv_iload_n hx hb dX12_judge_100 rfl (lv_at hv 2 rfl) ?_
      have h := Option.some.inj h
      have ee0 : v2_76 = rR := congrArg (fun q => q.1) h
      have ee1 : found_76 = foundR := congrArg (fun q => q.2) h
      subst ee0
      subst ee1
      rw [← hQ]
      exact retI hx hb hr hlk hK hP hD hS dX12_judge_101 ⟨Nat.le_of_ble_eq_true rfl, Nat.le_of_ble_eq_true rfl⟩
    · have h := ite_t c_7 h
      refine lv_iload_n hx hb dX12_judge_86 rfl (lv_at hv 2 rfl) ?_
      refine lv_aload_n hx hb dX12_judge_87 rfl (lv_at hv 0 rfl) ?_
      refine va_get (D := D) (ci := 12) (v := .ref (ad 1)) (C := RX12) (T := TX12) (N := 23) hx hb hts in_12 hown hK hP 0 rfl rfl 0 (by decide) w_2 (fun _ h9 => h9) rfl dX12_judge_88 ?_
      refine lv_iconst (v := (0 : Int32)) hx hb dX12_judge_91 (by decide) ?_
      obtain ⟨c_8, h⟩ := ckI_ex h
      refine va_iald (D := D) hx hb hK hP 1 0 rfl rfl c_8 dX12_judge_92 ?_
      refine lv_icmp_ne (tgt := 100) hx hb dX12_judge_93 (by decide) (fun c_9 => ?_) (fun c_9 => ?_)
      · have h := ite_f c_9 h
        refine lv_iload_n hx hb dX12_judge_100 rfl (lv_at hv 2 rfl) ?_
        have h := Option.some.inj h
        have ee0 : v2_76 = rR := congrArg (fun q => q.1) h
        have ee1 : found_76 = foundR := congrArg (fun q => q.2) h
        subst ee0
        subst ee1
        rw [← hQ]
        exact retI hx hb hr hlk hK hP hD hS dX12_judge_101 ⟨Nat.le_of_ble_eq_true rfl, Nat.le_of_ble_eq_true rfl⟩
      · have h := ite_t c_9 h
        refine lv_iconst (v := (-1 : Int32)) hx hb dX12_judge_96 (by decide) ?_
        refine lv_goto (tgt := 101) hx hb dX12_judge_97 (by decide) ?_
        have h := Option.some.inj h
        have ee0 : (-1 : Int32) = rR := congrArg (fun q => q.1) h
        have ee1 : found_76 = foundR := congrArg (fun q => q.2) h
        subst ee0
        subst ee1
        rw [← hQ]
        exact retI hx hb hr hlk hK hP hD hS dX12_judge_101 ⟨Nat.le_of_ble_eq_true rfl, Nat.le_of_ble_eq_true rfl⟩
  have C_30 : ∀ (v1_30 : Int32) (v2_30 : Int32) (found_30 : Nat → Int32), fX12_judge_30 v1_30 v2_30 d found_30 bitsOf sizeOf number = some (rR, foundR) → WW p l e ({ frames := 2, cells := 0, slots := 0, locals := 45 } : Room) s m args below meth c D A 0 0 Q (wM cA ad d kept aside images found_30 base at0 size fault opened isRub names code coded pile needs traced traceMany who bitsOf sizeOf number lifted) 3 [(0, .ref (ad 0)), (1, .int v1_30), (2, .int v2_30)] 30 [] := by
    intro v1_30 v2_30 found_30 h
    unfold fX12_judge_30 at h
    obtain ⟨v2_30r, ho, h⟩ := bd_ex h
    have LE : WW p l e ({ frames := 2, cells := 0, slots := 0, locals := 45 } : Room) s m args below meth c D A 0 0 Q (wM cA ad d kept aside images found_30 base at0 size fault opened isRub names code coded pile needs traced traceMany who bitsOf sizeOf number lifted) 3 [(0, .ref (ad 0)), (1, .int v1_30), (2, .int v2_30r)] 76 [] := by
      intro H locs ls hP hD hS hv
      exact C_76 v1_30 v2_30r found_30 h _ _ _ hP hD hS (lv_sub hv [0, 1, 2] rfl)
    have LB : ∀ (nf : Nat) (v2_30b : Int32), lp (fun σ : Int32 => fX12_judge_30B v1_30 d found_30 bitsOf sizeOf number σ) nf v2_30b = some v2_30r → WW p l e ({ frames := 2, cells := 0, slots := 0, locals := 45 } : Room) s m args below meth c D A 0 0 Q (wM cA ad d kept aside images found_30 base at0 size fault opened isRub names code coded pile needs traced traceMany who bitsOf sizeOf number lifted) 3 [(0, .ref (ad 0)), (1, .int v1_30), (2, .int v2_30b)] 30 [] := by
      intro nf
      induction nf with
      | zero => intro v2_30b hl; cases hl
      | succ nf ih =>
        intro v2_30b hl
        obtain ⟨x, h, hl⟩ := lp_ex hl
        have h : fX12_judge_30B v1_30 d found_30 bitsOf sizeOf number v2_30b = some x := h
        unfold fX12_judge_30B at h
        intro H locs ls hP hD hS hv
        refine lv_iload_n hx hb dX12_judge_30 rfl (lv_at hv 2 rfl) ?_
        refine lv_aload_n hx hb dX12_judge_31 rfl (lv_at hv 0 rfl) ?_
        refine va_get (D := D) (ci := 12) (v := .ref (ad 21)) (C := RX12) (T := TX12) (N := 23) hx hb hts in_12 hown hK hP 0 rfl rfl 20 (by decide) w_1 (fun _ h9 => h9) rfl dX12_judge_32 ?_
        refine lv_iload_n hx hb dX12_judge_35 rfl (lv_at hv 1 rfl) ?_
        obtain ⟨c_10, h⟩ := ckI_ex h
        refine va_iald (D := D) hx hb hK hP 11 0 rfl rfl c_10 dX12_judge_36 ?_
        refine lv_icmp_ge (tgt := 76) hx hb dX12_judge_37 (by decide) (fun c_11 => ?_) (fun c_11 => ?_)
        · have h := ite_t c_11 h
          cases h
          have hl : some v2_30b = some v2_30r := hl
          have hl := Option.some.inj hl
          have ee0 : v2_30b = v2_30r := congrArg (fun q => q) hl
          subst ee0
          exact LE _ _ _ hP hD hS (lv_sub hv [0, 1, 2] rfl)
        · have h := ite_f c_11 h
          refine lv_iload_n hx hb dX12_judge_40 rfl (lv_at hv 2 rfl) ?_
          refine lv_aload_n hx hb dX12_judge_41 rfl (lv_at hv 0 rfl) ?_
          refine va_get (D := D) (ci := 12) (v := .ref (ad 1)) (C := RX12) (T := TX12) (N := 23) hx hb hts in_12 hown hK hP 0 rfl rfl 0 (by decide) w_2 (fun _ h9 => h9) rfl dX12_judge_42 ?_
          refine lv_iconst (v := (0 : Int32)) hx hb dX12_judge_45 (by decide) ?_
          obtain ⟨c_12, h⟩ := ckI_ex h
          refine va_iald (D := D) hx hb hK hP 1 0 rfl rfl c_12 dX12_judge_46 ?_
          refine lv_icmp_ge (tgt := 76) hx hb dX12_judge_47 (by decide) (fun c_13 => ?_) (fun c_13 => ?_)
          · have h := ite_t c_13 h
            cases h
            have hl : some v2_30b = some v2_30r := hl
            have hl := Option.some.inj hl
            have ee0 : v2_30b = v2_30r := congrArg (fun q => q) hl
            subst ee0
            exact LE _ _ _ hP hD hS (lv_sub hv [0, 1, 2] rfl)
          · have h := ite_f c_13 h
            refine lv_aload_n hx hb dX12_judge_50 rfl (lv_at hv 0 rfl) ?_
            refine va_get (D := D) (ci := 12) (v := .ref (ad 22)) (C := RX12) (T := TX12) (N := 23) hx hb hts in_12 hown hK hP 0 rfl rfl 21 (by decide) w_3 (fun _ h9 => h9) rfl dX12_judge_51 ?_
            refine lv_bipush (v := (40 : Int32)) hx hb dX12_judge_54 (by decide) ?_
            refine lv_iload_n hx hb dX12_judge_56 rfl (lv_at hv 1 rfl) ?_
            refine lv_imul hx hb dX12_judge_57 ?_
            refine lv_iload_n hx hb dX12_judge_58 rfl (lv_at hv 2 rfl) ?_
            refine lv_iadd hx hb dX12_judge_59 ?_
            obtain ⟨c_14, h⟩ := ckI_ex h
            refine va_iald (D := D) hx hb hK hP 12 0 rfl rfl c_14 dX12_judge_60 ?_
            refine lv_aload_n hx hb dX12_judge_61 rfl (lv_at hv 0 rfl) ?_
            refine lv_iload_n hx hb dX12_judge_62 rfl (lv_at hv 2 rfl) ?_
            refine lv_iconst (v := (2 : Int32)) hx hb dX12_judge_63 (by decide) ?_
            obtain ⟨r_15, hf_16, h⟩ := bd_ex h
            have sb := Sb.same hP hD hS hA
            refine calI (va_runV (As := [.int v2_30b, .int (2 : Int32)]) (rest := [.int (number ((((40 : Int32) * v1_30) + v2_30b)).toNatClampNeg)]) ⟨hx, hb, hml, hown, hts⟩ (c_X12_of l G D cA ad _ d kept aside images found_30 base at0 size fault opened isRub names code coded pile needs traced traceMany who bitsOf sizeOf number lifted v2_30b (2 : Int32) r_15 hf_16) (cwV 2 hts gX12_judge_X12_of rfl rfl rfl (by decide +kernel) ⟨Nat.le_of_ble_eq_true rfl, Nat.le_of_ble_eq_true rfl⟩) (pvV hE hK hS sb (va_recv hK hP (ci := 12) (q0 := 0) rfl rfl)) rfl rfl hv.1 rfl (lv_room (Nat.le_of_ble_eq_true rfl)) dX12_judge_64 ⟨Nat.le_of_ble_eq_true rfl, Nat.le_of_ble_eq_true rfl⟩) hS sb (Jn.same sb) (fun H locs hP hD hS => ?_)
            have hP : va_P D vwCl (wM cA ad d kept aside images found_30 base at0 size fault opened isRub names code coded pile needs traced traceMany who bitsOf sizeOf number lifted) H := hP
            have hD : va_D A (wM cA ad d kept aside images found_30 base at0 size fault opened isRub names code coded pile needs traced traceMany who bitsOf sizeOf number lifted) := hD
            refine lv_icmp_ne (tgt := 76) hx hb dX12_judge_67 (by decide) (fun c_17 => ?_) (fun c_17 => ?_)
            · have h := ite_f c_17 h
              cases h
              have hl : some v2_30b = some v2_30r := hl
              have hl := Option.some.inj hl
              have ee0 : v2_30b = v2_30r := congrArg (fun q => q) hl
              subst ee0
              exact LE _ _ _ hP hD hS (lv_sub hv [0, 1, 2] rfl)
            · have h := ite_t c_17 h
              obtain ⟨y_18, ey_18, h⟩ := bnd_ex h
              refine lv_iinc (v := y_18) (lv' := [(2, .int y_18), (0, .ref (ad 0)), (1, .int v1_30)]) hx hb dX12_judge_70 hv (k := 2) rfl (by rw [ey_18]; rfl) (by decide) rfl (fun ls hv => ?_)
              refine lv_goto (tgt := 30) hx hb dX12_judge_73 (by decide) ?_
              cases h
              exact ih y_18 hl _ _ _ hP hD hS (lv_sub hv [1, 2, 0] rfl)
    exact LB FU v2_30 ho
  have hP : va_P D vwCl (wM cA ad d kept aside images found base at0 size fault opened isRub names code coded pile needs traced traceMany who bitsOf sizeOf number lifted) H := hP
  unfold fX12_judge at h
  refine lv_iload_n hx hb dX12_judge_0 rfl (lv_at hv 1 rfl) ?_
  obtain ⟨r_1, hf_2, h⟩ := bd_ex h
  have sb := Sb.nil hP hD hS hA
  refine calI (va_runS (As := [.int a]) (rest := []) ⟨hx, hb, hml, hown, hts⟩ (c_X12_isSheet l G D cA  _ a r_1 hf_2) (va_cwS 1 hts gX12_judge_X12_isSheet rfl rfl rfl (by decide +kernel) ⟨Nat.le_of_ble_eq_true rfl, Nat.le_of_ble_eq_true rfl⟩) (pvS hE hK hS sb) rfl rfl hv.1 rfl (lv_room (Nat.le_of_ble_eq_true rfl)) dX12_judge_1 ⟨Nat.le_of_ble_eq_true rfl, Nat.le_of_ble_eq_true rfl⟩) hS sb (Jn.nil hP hD) (fun H locs hP hD hS => ?_)
  have hP : va_P D vwCl (wM cA ad d kept aside images found base at0 size fault opened isRub names code coded pile needs traced traceMany who bitsOf sizeOf number lifted) H := hP
  have hD : va_D A (wM cA ad d kept aside images found base at0 size fault opened isRub names code coded pile needs traced traceMany who bitsOf sizeOf number lifted) := hD
  refine lv_if_ne (tgt := 13) hx hb dX12_judge_4 (by decide) (fun c_3 => ?_) (fun c_3 => ?_)
  · have h := ite_f c_3 h
    refine lv_aload_n hx hb dX12_judge_13 rfl (lv_at hv 0 rfl) ?_
    refine va_get (D := D) (ci := 12) (v := .ref (ad 20)) (C := RX12) (T := TX12) (N := 23) hx hb hts in_12 hown hK hP 0 rfl rfl 19 (by decide) w_0 (fun _ h9 => h9) rfl dX12_judge_14 ?_
    refine lv_iload_n hx hb dX12_judge_17 rfl (lv_at hv 1 rfl) ?_
    obtain ⟨c_4, h⟩ := ckI_ex h
    refine va_iald (D := D) hx hb hK hP 10 0 rfl rfl c_4 dX12_judge_18 ?_
    refine lv_if_ne (tgt := 28) hx hb dX12_judge_19 (by decide) (fun c_5 => ?_) (fun c_5 => ?_)
    · have h := ite_f c_5 h
      refine lv_iconst (v := (0 : Int32)) hx hb dX12_judge_28 (by decide) ?_
      refine lv_istore_n (lv' := [(2, .int (0 : Int32)), (0, .ref (ad 0)), (1, .int a)]) hx hb dX12_judge_29 rfl hv (by decide) rfl (fun ls hv => ?_)
      exact C_30 a (0 : Int32) found h _ _ _ hP hD hS (lv_sub hv [1, 2, 0] rfl)
    · have h := ite_t c_5 h
      refine lv_aload_n hx hb dX12_judge_22 rfl (lv_at hv 0 rfl) ?_
      refine lv_iconst (v := (2 : Int32)) hx hb dX12_judge_23 (by decide) ?_
      obtain ⟨⟨r_19, found_20⟩, hf_21, h⟩ := bd_ex h
      have sb := Sb.same hP hD hS hA
      refine calI (va_runV (As := [.int (2 : Int32)]) (rest := []) ⟨hx, hb, hml, hown, hts⟩ (c_X12_finds l G D cA ad _ d kept aside images found base at0 size fault opened isRub names code coded pile needs traced traceMany who bitsOf sizeOf number lifted (2 : Int32) r_19 found_20 hf_21) (cwV 1 hts gX12_judge_X12_finds rfl rfl rfl (by decide +kernel) ⟨Nat.le_of_ble_eq_true rfl, Nat.le_of_ble_eq_true rfl⟩) (pvV hE hK hS sb (va_recv hK hP (ci := 12) (q0 := 0) rfl rfl)) rfl rfl hv.1 rfl (lv_room (Nat.le_of_ble_eq_true rfl)) dX12_judge_24 ⟨Nat.le_of_ble_eq_true rfl, Nat.le_of_ble_eq_true rfl⟩) hS sb (Jn.same sb) (fun H locs hP hD hS => ?_)
      have hP : va_P D vwCl (wM cA ad d kept aside images found_20 base at0 size fault opened isRub names code coded pile needs traced traceMany who bitsOf sizeOf number lifted) H := hP
      have hD : va_D A (wM cA ad d kept aside images found_20 base at0 size fault opened isRub names code coded pile needs traced traceMany who bitsOf sizeOf number lifted) := hD
      have h := Option.some.inj h
      have ee0 : r_19 = rR := congrArg (fun q => q.1) h
      have ee1 : found_20 = foundR := congrArg (fun q => q.2) h
      subst ee0
      subst ee1
      rw [← hQ]
      exact retI hx hb hr hlk hK hP hD hS dX12_judge_27 ⟨Nat.le_of_ble_eq_true rfl, Nat.le_of_ble_eq_true rfl⟩
  · have h := ite_t c_3 h
    refine lv_aload_n hx hb dX12_judge_7 rfl (lv_at hv 0 rfl) ?_
    refine lv_iconst (v := (1 : Int32)) hx hb dX12_judge_8 (by decide) ?_
    obtain ⟨⟨r_22, found_23⟩, hf_24, h⟩ := bd_ex h
    have sb := Sb.same hP hD hS hA
    refine calI (va_runV (As := [.int (1 : Int32)]) (rest := []) ⟨hx, hb, hml, hown, hts⟩ (c_X12_finds l G D cA ad _ d kept aside images found base at0 size fault opened isRub names code coded pile needs traced traceMany who bitsOf sizeOf number lifted (1 : Int32) r_22 found_23 hf_24) (cwV 1 hts gX12_judge_X12_finds rfl rfl rfl (by decide +kernel) ⟨Nat.le_of_ble_eq_true rfl, Nat.le_of_ble_eq_true rfl⟩) (pvV hE hK hS sb (va_recv hK hP (ci := 12) (q0 := 0) rfl rfl)) rfl rfl hv.1 rfl (lv_room (Nat.le_of_ble_eq_true rfl)) dX12_judge_9 ⟨Nat.le_of_ble_eq_true rfl, Nat.le_of_ble_eq_true rfl⟩) hS sb (Jn.same sb) (fun H locs hP hD hS => ?_)
    have hP : va_P D vwCl (wM cA ad d kept aside images found_23 base at0 size fault opened isRub names code coded pile needs traced traceMany who bitsOf sizeOf number lifted) H := hP
    have hD : va_D A (wM cA ad d kept aside images found_23 base at0 size fault opened isRub names code coded pile needs traced traceMany who bitsOf sizeOf number lifted) := hD
    have h := Option.some.inj h
    have ee0 : r_22 = rR := congrArg (fun q => q.1) h
    have ee1 : found_23 = foundR := congrArg (fun q => q.2) h
    subst ee0
    subst ee1
    rw [← hQ]
    exact retI hx hb hr hlk hK hP hD hS dX12_judge_12 ⟨Nat.le_of_ble_eq_true rfl, Nat.le_of_ble_eq_true rfl⟩

def fX12_image_2B (d : Nat → Int32) (images_2 : Int32) (v1_2b : Int32) (kept_2b : Nat → Int32) : Option ((Int32 × (Nat → Int32)) ⊕ (Int32 × (Nat → Int32))) :=
  (if (326 : Int32) ≤ v1_2b then some (.inr (v1_2b, kept_2b)) else ckI v1_2b 326 (bnd (d (v1_2b).toNatClampNeg) fun y_4 => ckI v1_2b 326 (bnd (upd kept_2b (v1_2b).toNatClampNeg y_4) fun kept_6 => bnd (v1_2b + (1 : Int32)) fun y_7 => some (.inl (y_7, kept_6)))))
def fX12_image_2 (v1_2 : Int32) (d : Nat → Int32) (kept_2 : Nat → Int32) (images_2 : Int32) : Option (Int32 × (Nat → Int32) × Int32) :=
  bd (lp (fun σ : Int32 × (Nat → Int32) => fX12_image_2B d images_2 (σ.1) (σ.2)) FU (v1_2, kept_2)) fun ρ => match ρ with | (v1_2r, kept_2r) => bnd (images_2 + (1 : Int32)) fun y_1 => some (y_1, kept_2r, y_1)
def fX12_image (d : Nat → Int32) (kept : Nat → Int32) (images : Int32) : Option (Int32 × (Nat → Int32) × Int32) :=
  fX12_image_2 (0 : Int32) d kept images
set_option maxHeartbeats 4000000 in
set_option maxRecDepth 100000 in
theorem c_X12_image (l : Launch) (G : Nat → Nat) (D : va_G) (cA : Nat → ClassId) (ad : Nat → Nat) (sz : Nat) (d : Nat → Int32) (kept : Nat → Int32) (aside : Nat → Int32) (images : Int32) (found : Nat → Int32) (base : Int32) (at0 : Int32) (size : Int32) (fault : Int32) (opened : Int32) (isRub : Int32) (names : Nat → Int32) (code : Nat → Int32) (coded : Int32) (pile : Nat → Int32) (needs : Nat → Int32) (traced : Nat → Int32) (traceMany : Int32) (who : Int32) (bitsOf : Nat → Int32) (sizeOf : Nat → Int32) (number : Nat → Int32) (lifted : Nat → Int32) (rR : Int32) (keptR : Nat → Int32) (imagesR : Int32) (h : fX12_image d kept images = some (rR, keptR, imagesR)) : Met l yX12_image wsX12_image ({ frames := 0, cells := 0, slots := 0, locals := 0 } : Room) (PW G D (tyC cA) sz (wM cA ad d kept aside images found base at0 size fault opened isRub names code coded pile needs traced traceMany who bitsOf sizeOf number lifted) [.ref (ad 0)]) (QI D (tyC cA) (va_A (wM cA ad d kept aside images found base at0 size fault opened isRub names code coded pile needs traced traceMany who bitsOf sizeOf number lifted) sz) rR (wM cA ad d keptR aside imagesR found base at0 size fault opened isRub names code coded pile needs traced traceMany who bitsOf sizeOf number lifted)) 0 0 (va_A (wM cA ad d kept aside images found base at0 size fault opened isRub names code coded pile needs traced traceMany who bitsOf sizeOf number lifted) sz) := by
  refine ent (cc := cX12_image) (maxL := 2) (ret := (some .int)) (fun A => QI D (tyC cA) A rR (wM cA ad d keptR aside imagesR found base at0 size fault opened isRub names code coded pile needs traced traceMany who bitsOf sizeOf number lifted)) (by decide +kernel) rfl (Nat.le_of_ble_eq_true rfl) ?_
  intro p e s m args below meth c A ls H hx hb hml hr hlk hts hown hA hK hE hP hD hS hv hmm
  have hv : lv_has ls 2 [(0, .ref (ad 0))] := hv
  have in_12 : ∀ w ∈ u_ws RX12 TX12 23, w ∈ wsX12_image := fun _ h => List.mem_cons_of_mem _ (List.mem_append_right _ h)
  have w_0 := hts (.fieldLink RX12 298 "SpoonsLastModel" "images" "I") (List.mem_of_getElem? (i := 3) rfl)
  have w_1 := hts (.fieldLink RX12 13 "SpoonsLastModel" "kept" "[I") (List.mem_of_getElem? (i := 1) rfl)
  have w_2 := hts (.fieldLink RX12 7 "SpoonsLastModel" "d" "[I") (List.mem_of_getElem? (i := 2) rfl)
  generalize hQ : MQ below _ args s 0 0 A = Q
  have C_2 : ∀ (v1_2 : Int32) (kept_2 : Nat → Int32) (images_2 : Int32), fX12_image_2 v1_2 d kept_2 images_2 = some (rR, keptR, imagesR) → WW p l e ({ frames := 0, cells := 0, slots := 0, locals := 0 } : Room) s m args below meth c D A 0 0 Q (wM cA ad d kept_2 aside images_2 found base at0 size fault opened isRub names code coded pile needs traced traceMany who bitsOf sizeOf number lifted) 2 [(0, .ref (ad 0)), (1, .int v1_2)] 2 [] := by
    intro v1_2 kept_2 images_2 h
    unfold fX12_image_2 at h
    obtain ⟨⟨v1_2r, kept_2r⟩, ho, h⟩ := bd_ex h
    have LE : WW p l e ({ frames := 0, cells := 0, slots := 0, locals := 0 } : Room) s m args below meth c D A 0 0 Q (wM cA ad d kept_2r aside images_2 found base at0 size fault opened isRub names code coded pile needs traced traceMany who bitsOf sizeOf number lifted) 2 [(0, .ref (ad 0))] 27 [] := by
      intro H locs ls hP hD hS hv
      refine lv_aload_n hx hb dX12_image_27 rfl (lv_at hv 0 rfl) ?_
      refine lv_dup hx hb dX12_image_28 rfl ?_
      refine va_get (D := D) (ci := 12) (v := .int images_2) (C := RX12) (T := TX12) (N := 23) hx hb hts in_12 hown hK hP 0 rfl rfl 3 (by decide) w_0 (fun _ h9 => h9) rfl dX12_image_29 ?_
      refine lv_iconst (v := (1 : Int32)) hx hb dX12_image_32 (by decide) ?_
      refine lv_iadd hx hb dX12_image_33 ?_
      obtain ⟨y_1, ey_1, h⟩ := bnd_ex h
      refine lv_nm ey_1 ?_
      refine va_put (D := D) (ci := 12) (v := .int y_1) (ty := .int) (C := RX12) (T := TX12) (N := 23) hx hb hts in_12 tyX12 tyX12_ok nmX12 hown hK hP hD hS 0 rfl rfl 3 (by decide) w_0 (fun _ h9 => h9) rfl (by decide +kernel) rfl rfl (Nat.le_of_ble_eq_true rfl) dX12_image_34 (fun H locs hP hD hS => ?_)
      have hP : va_P D vwCl (wM cA ad d kept_2r aside y_1 found base at0 size fault opened isRub names code coded pile needs traced traceMany who bitsOf sizeOf number lifted) H := hP
      have hD : va_D A (wM cA ad d kept_2r aside y_1 found base at0 size fault opened isRub names code coded pile needs traced traceMany who bitsOf sizeOf number lifted) := hD
      refine lv_aload_n hx hb dX12_image_37 rfl (lv_at hv 0 rfl) ?_
      refine va_get (D := D) (ci := 12) (v := .int y_1) (C := RX12) (T := TX12) (N := 23) hx hb hts in_12 hown hK hP 0 rfl rfl 3 (by decide) w_0 (fun _ h9 => h9) rfl dX12_image_38 ?_
      have h := Option.some.inj h
      have ee0 : y_1 = rR := congrArg (fun q => q.1) h
      have ee1 : kept_2r = keptR := congrArg (fun q => q.2.1) h
      have ee2 : y_1 = imagesR := congrArg (fun q => q.2.2) h
      subst ee0
      subst ee1
      subst ee2
      rw [← hQ]
      exact retI hx hb hr hlk hK hP hD hS dX12_image_41 ⟨Nat.le_of_ble_eq_true rfl, Nat.le_of_ble_eq_true rfl⟩
    have LB : ∀ (nf : Nat) (v1_2b : Int32) (kept_2b : Nat → Int32), lp (fun σ : Int32 × (Nat → Int32) => fX12_image_2B d images_2 (σ.1) (σ.2)) nf (v1_2b, kept_2b) = some (v1_2r, kept_2r) → WW p l e ({ frames := 0, cells := 0, slots := 0, locals := 0 } : Room) s m args below meth c D A 0 0 Q (wM cA ad d kept_2b aside images_2 found base at0 size fault opened isRub names code coded pile needs traced traceMany who bitsOf sizeOf number lifted) 2 [(0, .ref (ad 0)), (1, .int v1_2b)] 2 [] := by
      intro nf
      induction nf with
      | zero => intro v1_2b kept_2b hl; cases hl
      | succ nf ih =>
        intro v1_2b kept_2b hl
        obtain ⟨x, h, hl⟩ := lp_ex hl
        have h : fX12_image_2B d images_2 v1_2b kept_2b = some x := h
        unfold fX12_image_2B at h
        intro H locs ls hP hD hS hv
        refine lv_iload_n hx hb dX12_image_2 rfl (lv_at hv 1 rfl) ?_
        refine lv_sipush (v := (326 : Int32)) hx hb dX12_image_3 (by decide) ?_
        refine lv_icmp_ge (tgt := 27) hx hb dX12_image_6 (by decide) (fun c_2 => ?_) (fun c_2 => ?_)
        · have h := ite_t c_2 h
          cases h
          have hl : some (v1_2b, kept_2b) = some (v1_2r, kept_2r) := hl
          have hl := Option.some.inj hl
          have ee0 : v1_2b = v1_2r := congrArg (fun q => q.1) hl
          have ee1 : kept_2b = kept_2r := congrArg (fun q => q.2) hl
          subst ee0
          subst ee1
          exact LE _ _ _ hP hD hS (lv_sub hv [0] rfl)
        · have h := ite_f c_2 h
          refine lv_aload_n hx hb dX12_image_9 rfl (lv_at hv 0 rfl) ?_
          refine va_get (D := D) (ci := 12) (v := .ref (ad 2)) (C := RX12) (T := TX12) (N := 23) hx hb hts in_12 hown hK hP 0 rfl rfl 1 (by decide) w_1 (fun _ h9 => h9) rfl dX12_image_10 ?_
          refine lv_iload_n hx hb dX12_image_13 rfl (lv_at hv 1 rfl) ?_
          refine lv_aload_n hx hb dX12_image_14 rfl (lv_at hv 0 rfl) ?_
          refine va_get (D := D) (ci := 12) (v := .ref (ad 1)) (C := RX12) (T := TX12) (N := 23) hx hb hts in_12 hown hK hP 0 rfl rfl 0 (by decide) w_2 (fun _ h9 => h9) rfl dX12_image_15 ?_
          refine lv_iload_n hx hb dX12_image_18 rfl (lv_at hv 1 rfl) ?_
          obtain ⟨c_3, h⟩ := ckI_ex h
          refine va_iald (D := D) hx hb hK hP 1 0 rfl rfl c_3 dX12_image_19 ?_
          obtain ⟨y_4, ey_4, h⟩ := bnd_ex h
          refine lv_nm ey_4 ?_
          obtain ⟨c_5, h⟩ := ckI_ex h
          obtain ⟨kept_6, ekept_6, h⟩ := bnd_ex h
          refine va_iast (D := D) hx hb hK hP hD hS 2 0 rfl rfl c_5 dX12_image_20 (fun H locs hP hD hS => ?_)
          rw [← ekept_6] at hP hD
          have hP : va_P D vwCl (wM cA ad d kept_6 aside images_2 found base at0 size fault opened isRub names code coded pile needs traced traceMany who bitsOf sizeOf number lifted) H := hP
          have hD : va_D A (wM cA ad d kept_6 aside images_2 found base at0 size fault opened isRub names code coded pile needs traced traceMany who bitsOf sizeOf number lifted) := hD
          obtain ⟨y_7, ey_7, h⟩ := bnd_ex h
          refine lv_iinc (v := y_7) (lv' := [(1, .int y_7), (0, .ref (ad 0))]) hx hb dX12_image_21 hv (k := 1) rfl (by rw [ey_7]; rfl) (by decide) rfl (fun ls hv => ?_)
          refine lv_goto (tgt := 2) hx hb dX12_image_24 (by decide) ?_
          cases h
          exact ih y_7 kept_6 hl _ _ _ hP hD hS (lv_sub hv [1, 0] rfl)
    exact LB FU v1_2 kept_2 ho
  have hP : va_P D vwCl (wM cA ad d kept aside images found base at0 size fault opened isRub names code coded pile needs traced traceMany who bitsOf sizeOf number lifted) H := hP
  unfold fX12_image at h
  refine lv_iconst (v := (0 : Int32)) hx hb dX12_image_0 (by decide) ?_
  refine lv_istore_n (lv' := [(1, .int (0 : Int32)), (0, .ref (ad 0))]) hx hb dX12_image_1 rfl hv (by decide) rfl (fun ls hv => ?_)
  exact C_2 (0 : Int32) kept images h _ _ _ hP hD hS (lv_sub hv [1, 0] rfl)

def fX12_restore_15B (kept : Nat → Int32) (images : Int32) (found_15 : Nat → Int32) (v1_15b : Int32) (d_15b : Nat → Int32) : Option ((Int32 × (Nat → Int32)) ⊕ (Int32 × (Nat → Int32))) :=
  (if (326 : Int32) ≤ v1_15b then some (.inr (v1_15b, d_15b)) else ckI v1_15b 326 (bnd (kept (v1_15b).toNatClampNeg) fun y_5 => ckI v1_15b 326 (bnd (upd d_15b (v1_15b).toNatClampNeg y_5) fun d_7 => bnd (v1_15b + (1 : Int32)) fun y_8 => some (.inl (y_8, d_7)))))
def fX12_restore_15 (v1_15 : Int32) (d_15 : Nat → Int32) (kept : Nat → Int32) (images : Int32) (found_15 : Nat → Int32) : Option (Int32 × (Nat → Int32) × (Nat → Int32)) :=
  bd (lp (fun σ : Int32 × (Nat → Int32) => fX12_restore_15B kept images found_15 (σ.1) (σ.2)) FU (v1_15, d_15)) fun ρ => match ρ with | (v1_15r, d_15r) => ckI (1 : Int32) 326 (some ((d_15r ((1 : Int32)).toNatClampNeg), d_15r, found_15))
def fX12_restore (d : Nat → Int32) (kept : Nat → Int32) (images : Int32) (found : Nat → Int32) : Option (Int32 × (Nat → Int32) × (Nat → Int32)) :=
  (if images = 0 then bd (fX12_finds (2 : Int32) found) fun (r_9, found_10) => some (r_9, d, found_10) else fX12_restore_15 (0 : Int32) d kept images found)
set_option maxHeartbeats 4000000 in
set_option maxRecDepth 100000 in
theorem c_X12_restore (l : Launch) (G : Nat → Nat) (D : va_G) (cA : Nat → ClassId) (ad : Nat → Nat) (sz : Nat) (d : Nat → Int32) (kept : Nat → Int32) (aside : Nat → Int32) (images : Int32) (found : Nat → Int32) (base : Int32) (at0 : Int32) (size : Int32) (fault : Int32) (opened : Int32) (isRub : Int32) (names : Nat → Int32) (code : Nat → Int32) (coded : Int32) (pile : Nat → Int32) (needs : Nat → Int32) (traced : Nat → Int32) (traceMany : Int32) (who : Int32) (bitsOf : Nat → Int32) (sizeOf : Nat → Int32) (number : Nat → Int32) (lifted : Nat → Int32) (rR : Int32) (dR : Nat → Int32) (foundR : Nat → Int32) (h : fX12_restore d kept images found = some (rR, dR, foundR)) : Met l yX12_restore wsX12_restore ({ frames := 1, cells := 0, slots := 0, locals := 21 } : Room) (PW G D (tyC cA) sz (wM cA ad d kept aside images found base at0 size fault opened isRub names code coded pile needs traced traceMany who bitsOf sizeOf number lifted) [.ref (ad 0)]) (QI D (tyC cA) (va_A (wM cA ad d kept aside images found base at0 size fault opened isRub names code coded pile needs traced traceMany who bitsOf sizeOf number lifted) sz) rR (wM cA ad dR kept aside images foundR base at0 size fault opened isRub names code coded pile needs traced traceMany who bitsOf sizeOf number lifted)) 0 0 (va_A (wM cA ad d kept aside images found base at0 size fault opened isRub names code coded pile needs traced traceMany who bitsOf sizeOf number lifted) sz) := by
  refine ent (cc := cX12_restore) (maxL := 2) (ret := (some .int)) (fun A => QI D (tyC cA) A rR (wM cA ad dR kept aside images foundR base at0 size fault opened isRub names code coded pile needs traced traceMany who bitsOf sizeOf number lifted)) (by decide +kernel) rfl (Nat.le_of_ble_eq_true rfl) ?_
  intro p e s m args below meth c A ls H hx hb hml hr hlk hts hown hA hK hE hP hD hS hv hmm
  have hv : lv_has ls 2 [(0, .ref (ad 0))] := hv
  have in_12 : ∀ w ∈ u_ws RX12 TX12 23, w ∈ wsX12_restore := fun _ h => List.mem_cons_of_mem _ (List.mem_append_right _ h)
  have w_0 := hts (.fieldLink RX12 298 "SpoonsLastModel" "images" "I") (List.mem_of_getElem? (i := 1) rfl)
  have w_1 := hts (.fieldLink RX12 7 "SpoonsLastModel" "d" "[I") (List.mem_of_getElem? (i := 2) rfl)
  have w_2 := hts (.fieldLink RX12 13 "SpoonsLastModel" "kept" "[I") (List.mem_of_getElem? (i := 3) rfl)
  generalize hQ : MQ below _ args s 0 0 A = Q
  have C_15 : ∀ (v1_15 : Int32) (d_15 : Nat → Int32) (found_15 : Nat → Int32), fX12_restore_15 v1_15 d_15 kept images found_15 = some (rR, dR, foundR) → WW p l e ({ frames := 1, cells := 0, slots := 0, locals := 21 } : Room) s m args below meth c D A 0 0 Q (wM cA ad d_15 kept aside images found_15 base at0 size fault opened isRub names code coded pile needs traced traceMany who bitsOf sizeOf number lifted) 2 [(0, .ref (ad 0)), (1, .int v1_15)] 15 [] := by
    intro v1_15 d_15 found_15 h
    unfold fX12_restore_15 at h
    obtain ⟨⟨v1_15r, d_15r⟩, ho, h⟩ := bd_ex h
    have LE : WW p l e ({ frames := 1, cells := 0, slots := 0, locals := 21 } : Room) s m args below meth c D A 0 0 Q (wM cA ad d_15r kept aside images found_15 base at0 size fault opened isRub names code coded pile needs traced traceMany who bitsOf sizeOf number lifted) 2 [(0, .ref (ad 0))] 40 [] := by
      intro H locs ls hP hD hS hv
      refine lv_aload_n hx hb dX12_restore_40 rfl (lv_at hv 0 rfl) ?_
      refine va_get (D := D) (ci := 12) (v := .ref (ad 1)) (C := RX12) (T := TX12) (N := 23) hx hb hts in_12 hown hK hP 0 rfl rfl 0 (by decide) w_1 (fun _ h9 => h9) rfl dX12_restore_41 ?_
      refine lv_iconst (v := (1 : Int32)) hx hb dX12_restore_44 (by decide) ?_
      obtain ⟨c_2, h⟩ := ckI_ex h
      refine va_iald (D := D) hx hb hK hP 1 0 rfl rfl c_2 dX12_restore_45 ?_
      have h := Option.some.inj h
      have ee0 : (d_15r ((1 : Int32)).toNatClampNeg) = rR := congrArg (fun q => q.1) h
      have ee1 : d_15r = dR := congrArg (fun q => q.2.1) h
      have ee2 : found_15 = foundR := congrArg (fun q => q.2.2) h
      subst ee0
      subst ee1
      subst ee2
      rw [← hQ]
      exact retI hx hb hr hlk hK hP hD hS dX12_restore_46 ⟨Nat.le_of_ble_eq_true rfl, Nat.le_of_ble_eq_true rfl⟩
    have LB : ∀ (nf : Nat) (v1_15b : Int32) (d_15b : Nat → Int32), lp (fun σ : Int32 × (Nat → Int32) => fX12_restore_15B kept images found_15 (σ.1) (σ.2)) nf (v1_15b, d_15b) = some (v1_15r, d_15r) → WW p l e ({ frames := 1, cells := 0, slots := 0, locals := 21 } : Room) s m args below meth c D A 0 0 Q (wM cA ad d_15b kept aside images found_15 base at0 size fault opened isRub names code coded pile needs traced traceMany who bitsOf sizeOf number lifted) 2 [(0, .ref (ad 0)), (1, .int v1_15b)] 15 [] := by
      intro nf
      induction nf with
      | zero => intro v1_15b d_15b hl; cases hl
      | succ nf ih =>
        intro v1_15b d_15b hl
        obtain ⟨x, h, hl⟩ := lp_ex hl
        have h : fX12_restore_15B kept images found_15 v1_15b d_15b = some x := h
        unfold fX12_restore_15B at h
        intro H locs ls hP hD hS hv
        refine lv_iload_n hx hb dX12_restore_15 rfl (lv_at hv 1 rfl) ?_
        refine lv_sipush (v := (326 : Int32)) hx hb dX12_restore_16 (by decide) ?_
        refine lv_icmp_ge (tgt := 40) hx hb dX12_restore_19 (by decide) (fun c_3 => ?_) (fun c_3 => ?_)
        · have h := ite_t c_3 h
          cases h
          have hl : some (v1_15b, d_15b) = some (v1_15r, d_15r) := hl
          have hl := Option.some.inj hl
          have ee0 : v1_15b = v1_15r := congrArg (fun q => q.1) hl
          have ee1 : d_15b = d_15r := congrArg (fun q => q.2) hl
          subst ee0
          subst ee1
          exact LE _ _ _ hP hD hS (lv_sub hv [0] rfl)
        · have h := ite_f c_3 h
          refine lv_aload_n hx hb dX12_restore_22 rfl (lv_at hv 0 rfl) ?_
          refine va_get (D := D) (ci := 12) (v := .ref (ad 1)) (C := RX12) (T := TX12) (N := 23) hx hb hts in_12 hown hK hP 0 rfl rfl 0 (by decide) w_1 (fun _ h9 => h9) rfl dX12_restore_23 ?_
          refine lv_iload_n hx hb dX12_restore_26 rfl (lv_at hv 1 rfl) ?_
          refine lv_aload_n hx hb dX12_restore_27 rfl (lv_at hv 0 rfl) ?_
          refine va_get (D := D) (ci := 12) (v := .ref (ad 2)) (C := RX12) (T := TX12) (N := 23) hx hb hts in_12 hown hK hP 0 rfl rfl 1 (by decide) w_2 (fun _ h9 => h9) rfl dX12_restore_28 ?_
          refine lv_iload_n hx hb dX12_restore_31 rfl (lv_at hv 1 rfl) ?_
          obtain ⟨c_4, h⟩ := ckI_ex h
          refine va_iald (D := D) hx hb hK hP 2 0 rfl rfl c_4 dX12_restore_32 ?_
          obtain ⟨y_5, ey_5, h⟩ := bnd_ex h
          refine lv_nm ey_5 ?_
          obtain ⟨c_6, h⟩ := ckI_ex h
          obtain ⟨d_7, ed_7, h⟩ := bnd_ex h
          refine va_iast (D := D) hx hb hK hP hD hS 1 0 rfl rfl c_6 dX12_restore_33 (fun H locs hP hD hS => ?_)
          rw [← ed_7] at hP hD
          have hP : va_P D vwCl (wM cA ad d_7 kept aside images found_15 base at0 size fault opened isRub names code coded pile needs traced traceMany who bitsOf sizeOf number lifted) H := hP
          have hD : va_D A (wM cA ad d_7 kept aside images found_15 base at0 size fault opened isRub names code coded pile needs traced traceMany who bitsOf sizeOf number lifted) := hD
          obtain ⟨y_8, ey_8, h⟩ := bnd_ex h
          refine lv_iinc (v := y_8) (lv' := [(1, .int y_8), (0, .ref (ad 0))]) hx hb dX12_restore_34 hv (k := 1) rfl (by rw [ey_8]; rfl) (by decide) rfl (fun ls hv => ?_)
          refine lv_goto (tgt := 15) hx hb dX12_restore_37 (by decide) ?_
          cases h
          exact ih y_8 d_7 hl _ _ _ hP hD hS (lv_sub hv [1, 0] rfl)
    exact LB FU v1_15 d_15 ho
  have hP : va_P D vwCl (wM cA ad d kept aside images found base at0 size fault opened isRub names code coded pile needs traced traceMany who bitsOf sizeOf number lifted) H := hP
  unfold fX12_restore at h
  refine lv_aload_n hx hb dX12_restore_0 rfl (lv_at hv 0 rfl) ?_
  refine va_get (D := D) (ci := 12) (v := .int images) (C := RX12) (T := TX12) (N := 23) hx hb hts in_12 hown hK hP 0 rfl rfl 3 (by decide) w_0 (fun _ h9 => h9) rfl dX12_restore_1 ?_
  refine lv_if_ne (tgt := 13) hx hb dX12_restore_4 (by decide) (fun c_1 => ?_) (fun c_1 => ?_)
  · have h := ite_f c_1 h
    refine lv_iconst (v := (0 : Int32)) hx hb dX12_restore_13 (by decide) ?_
    refine lv_istore_n (lv' := [(1, .int (0 : Int32)), (0, .ref (ad 0))]) hx hb dX12_restore_14 rfl hv (by decide) rfl (fun ls hv => ?_)
    exact C_15 (0 : Int32) d found h _ _ _ hP hD hS (lv_sub hv [1, 0] rfl)
  · have h := ite_t c_1 h
    refine lv_aload_n hx hb dX12_restore_7 rfl (lv_at hv 0 rfl) ?_
    refine lv_iconst (v := (2 : Int32)) hx hb dX12_restore_8 (by decide) ?_
    obtain ⟨⟨r_9, found_10⟩, hf_11, h⟩ := bd_ex h
    have sb := Sb.same hP hD hS hA
    refine calI (va_runV (As := [.int (2 : Int32)]) (rest := []) ⟨hx, hb, hml, hown, hts⟩ (c_X12_finds l G D cA ad _ d kept aside images found base at0 size fault opened isRub names code coded pile needs traced traceMany who bitsOf sizeOf number lifted (2 : Int32) r_9 found_10 hf_11) (cwV 1 hts gX12_restore_X12_finds rfl rfl rfl (by decide +kernel) ⟨Nat.le_of_ble_eq_true rfl, Nat.le_of_ble_eq_true rfl⟩) (pvV hE hK hS sb (va_recv hK hP (ci := 12) (q0 := 0) rfl rfl)) rfl rfl hv.1 rfl (lv_room (Nat.le_of_ble_eq_true rfl)) dX12_restore_9 ⟨Nat.le_of_ble_eq_true rfl, Nat.le_of_ble_eq_true rfl⟩) hS sb (Jn.same sb) (fun H locs hP hD hS => ?_)
    have hP : va_P D vwCl (wM cA ad d kept aside images found_10 base at0 size fault opened isRub names code coded pile needs traced traceMany who bitsOf sizeOf number lifted) H := hP
    have hD : va_D A (wM cA ad d kept aside images found_10 base at0 size fault opened isRub names code coded pile needs traced traceMany who bitsOf sizeOf number lifted) := hD
    have h := Option.some.inj h
    have ee0 : r_9 = rR := congrArg (fun q => q.1) h
    have ee1 : d = dR := congrArg (fun q => q.2.1) h
    have ee2 : found_10 = foundR := congrArg (fun q => q.2.2) h
    subst ee0
    subst ee1
    subst ee2
    rw [← hQ]
    exact retI hx hb hr hlk hK hP hD hS dX12_restore_12 ⟨Nat.le_of_ble_eq_true rfl, Nat.le_of_ble_eq_true rfl⟩

def fX12_tell (v : Int32) (d : Nat → Int32) (found : Nat → Int32) : Option (Int32 × (Nat → Int32) × (Nat → Int32)) :=
  ckI (5 : Int32) 326 ((if (d ((5 : Int32)).toNatClampNeg) = (20 : Int32) then bd (fX12_finds (4 : Int32) found) fun (r_11, found_12) => some (r_11, d, found_12) else ckI (5 : Int32) 326 (ckI ((156 : Int32) + (d ((5 : Int32)).toNatClampNeg)) 326 (bnd (upd d (((156 : Int32) + (d ((5 : Int32)).toNatClampNeg))).toNatClampNeg v) fun d_5 => ckI (5 : Int32) 326 (bnd ((d_5 ((5 : Int32)).toNatClampNeg) + (1 : Int32)) fun y_7 => ckI (5 : Int32) 326 (bnd (upd d_5 ((5 : Int32)).toNatClampNeg y_7) fun d_9 => ckI (5 : Int32) 326 (some ((d_9 ((5 : Int32)).toNatClampNeg), d_9, found))))))))
set_option maxHeartbeats 4000000 in
set_option maxRecDepth 100000 in
theorem c_X12_tell (l : Launch) (G : Nat → Nat) (D : va_G) (cA : Nat → ClassId) (ad : Nat → Nat) (sz : Nat) (d : Nat → Int32) (kept : Nat → Int32) (aside : Nat → Int32) (images : Int32) (found : Nat → Int32) (base : Int32) (at0 : Int32) (size : Int32) (fault : Int32) (opened : Int32) (isRub : Int32) (names : Nat → Int32) (code : Nat → Int32) (coded : Int32) (pile : Nat → Int32) (needs : Nat → Int32) (traced : Nat → Int32) (traceMany : Int32) (who : Int32) (bitsOf : Nat → Int32) (sizeOf : Nat → Int32) (number : Nat → Int32) (lifted : Nat → Int32) (v : Int32) (rR : Int32) (dR : Nat → Int32) (foundR : Nat → Int32) (h : fX12_tell v d found = some (rR, dR, foundR)) : Met l yX12_tell wsX12_tell ({ frames := 1, cells := 0, slots := 0, locals := 21 } : Room) (PW G D (tyC cA) sz (wM cA ad d kept aside images found base at0 size fault opened isRub names code coded pile needs traced traceMany who bitsOf sizeOf number lifted) [.ref (ad 0), .int v]) (QI D (tyC cA) (va_A (wM cA ad d kept aside images found base at0 size fault opened isRub names code coded pile needs traced traceMany who bitsOf sizeOf number lifted) sz) rR (wM cA ad dR kept aside images foundR base at0 size fault opened isRub names code coded pile needs traced traceMany who bitsOf sizeOf number lifted)) 0 0 (va_A (wM cA ad d kept aside images found base at0 size fault opened isRub names code coded pile needs traced traceMany who bitsOf sizeOf number lifted) sz) := by
  refine ent (cc := cX12_tell) (maxL := 2) (ret := (some .int)) (fun A => QI D (tyC cA) A rR (wM cA ad dR kept aside images foundR base at0 size fault opened isRub names code coded pile needs traced traceMany who bitsOf sizeOf number lifted)) (by decide +kernel) rfl (Nat.le_of_ble_eq_true rfl) ?_
  intro p e s m args below meth c A ls H hx hb hml hr hlk hts hown hA hK hE hP hD hS hv hmm
  have hv : lv_has ls 2 [(0, .ref (ad 0)), (1, .int v)] := hv
  have in_12 : ∀ w ∈ u_ws RX12 TX12 23, w ∈ wsX12_tell := fun _ h => List.mem_cons_of_mem _ (List.mem_append_right _ h)
  have w_0 := hts (.fieldLink RX12 7 "SpoonsLastModel" "d" "[I") (List.mem_of_getElem? (i := 1) rfl)
  generalize hQ : MQ below _ args s 0 0 A = Q
  have hP : va_P D vwCl (wM cA ad d kept aside images found base at0 size fault opened isRub names code coded pile needs traced traceMany who bitsOf sizeOf number lifted) H := hP
  unfold fX12_tell at h
  refine lv_aload_n hx hb dX12_tell_0 rfl (lv_at hv 0 rfl) ?_
  refine va_get (D := D) (ci := 12) (v := .ref (ad 1)) (C := RX12) (T := TX12) (N := 23) hx hb hts in_12 hown hK hP 0 rfl rfl 0 (by decide) w_0 (fun _ h9 => h9) rfl dX12_tell_1 ?_
  refine lv_iconst (v := (5 : Int32)) hx hb dX12_tell_4 (by decide) ?_
  obtain ⟨c_1, h⟩ := ckI_ex h
  refine va_iald (D := D) hx hb hK hP 1 0 rfl rfl c_1 dX12_tell_5 ?_
  refine lv_bipush (v := (20 : Int32)) hx hb dX12_tell_6 (by decide) ?_
  refine lv_icmp_ne (tgt := 17) hx hb dX12_tell_8 (by decide) (fun c_2 => ?_) (fun c_2 => ?_)
  · have h := ite_f c_2 h
    refine lv_aload_n hx hb dX12_tell_17 rfl (lv_at hv 0 rfl) ?_
    refine va_get (D := D) (ci := 12) (v := .ref (ad 1)) (C := RX12) (T := TX12) (N := 23) hx hb hts in_12 hown hK hP 0 rfl rfl 0 (by decide) w_0 (fun _ h9 => h9) rfl dX12_tell_18 ?_
    refine lv_sipush (v := (156 : Int32)) hx hb dX12_tell_21 (by decide) ?_
    refine lv_aload_n hx hb dX12_tell_24 rfl (lv_at hv 0 rfl) ?_
    refine va_get (D := D) (ci := 12) (v := .ref (ad 1)) (C := RX12) (T := TX12) (N := 23) hx hb hts in_12 hown hK hP 0 rfl rfl 0 (by decide) w_0 (fun _ h9 => h9) rfl dX12_tell_25 ?_
    refine lv_iconst (v := (5 : Int32)) hx hb dX12_tell_28 (by decide) ?_
    obtain ⟨c_3, h⟩ := ckI_ex h
    refine va_iald (D := D) hx hb hK hP 1 0 rfl rfl c_3 dX12_tell_29 ?_
    refine lv_iadd hx hb dX12_tell_30 ?_
    refine lv_iload_n hx hb dX12_tell_31 rfl (lv_at hv 1 rfl) ?_
    obtain ⟨c_4, h⟩ := ckI_ex h
    obtain ⟨d_5, ed_5, h⟩ := bnd_ex h
    refine va_iast (D := D) hx hb hK hP hD hS 1 0 rfl rfl c_4 dX12_tell_32 (fun H locs hP hD hS => ?_)
    rw [← ed_5] at hP hD
    have hP : va_P D vwCl (wM cA ad d_5 kept aside images found base at0 size fault opened isRub names code coded pile needs traced traceMany who bitsOf sizeOf number lifted) H := hP
    have hD : va_D A (wM cA ad d_5 kept aside images found base at0 size fault opened isRub names code coded pile needs traced traceMany who bitsOf sizeOf number lifted) := hD
    refine lv_aload_n hx hb dX12_tell_33 rfl (lv_at hv 0 rfl) ?_
    refine va_get (D := D) (ci := 12) (v := .ref (ad 1)) (C := RX12) (T := TX12) (N := 23) hx hb hts in_12 hown hK hP 0 rfl rfl 0 (by decide) w_0 (fun _ h9 => h9) rfl dX12_tell_34 ?_
    refine lv_iconst (v := (5 : Int32)) hx hb dX12_tell_37 (by decide) ?_
    refine lv_dup2_11 hx hb dX12_tell_38 rfl rfl ?_
    obtain ⟨c_6, h⟩ := ckI_ex h
    refine va_iald (D := D) hx hb hK hP 1 0 rfl rfl c_6 dX12_tell_39 ?_
    refine lv_iconst (v := (1 : Int32)) hx hb dX12_tell_40 (by decide) ?_
    refine lv_iadd hx hb dX12_tell_41 ?_
    obtain ⟨y_7, ey_7, h⟩ := bnd_ex h
    refine lv_nm ey_7 ?_
    obtain ⟨c_8, h⟩ := ckI_ex h
    obtain ⟨d_9, ed_9, h⟩ := bnd_ex h
    refine va_iast (D := D) hx hb hK hP hD hS 1 0 rfl rfl c_8 dX12_tell_42 (fun H locs hP hD hS => ?_)
    rw [← ed_9] at hP hD
    have hP : va_P D vwCl (wM cA ad d_9 kept aside images found base at0 size fault opened isRub names code coded pile needs traced traceMany who bitsOf sizeOf number lifted) H := hP
    have hD : va_D A (wM cA ad d_9 kept aside images found base at0 size fault opened isRub names code coded pile needs traced traceMany who bitsOf sizeOf number lifted) := hD
    refine lv_aload_n hx hb dX12_tell_43 rfl (lv_at hv 0 rfl) ?_
    refine va_get (D := D) (ci := 12) (v := .ref (ad 1)) (C := RX12) (T := TX12) (N := 23) hx hb hts in_12 hown hK hP 0 rfl rfl 0 (by decide) w_0 (fun _ h9 => h9) rfl dX12_tell_44 ?_
    refine lv_iconst (v := (5 : Int32)) hx hb dX12_tell_47 (by decide) ?_
    obtain ⟨c_10, h⟩ := ckI_ex h
    refine va_iald (D := D) hx hb hK hP 1 0 rfl rfl c_10 dX12_tell_48 ?_
    have h := Option.some.inj h
    have ee0 : (d_9 ((5 : Int32)).toNatClampNeg) = rR := congrArg (fun q => q.1) h
    have ee1 : d_9 = dR := congrArg (fun q => q.2.1) h
    have ee2 : found = foundR := congrArg (fun q => q.2.2) h
    subst ee0
    subst ee1
    subst ee2
    rw [← hQ]
    exact retI hx hb hr hlk hK hP hD hS dX12_tell_49 ⟨Nat.le_of_ble_eq_true rfl, Nat.le_of_ble_eq_true rfl⟩
  · have h := ite_t c_2 h
    refine lv_aload_n hx hb dX12_tell_11 rfl (lv_at hv 0 rfl) ?_
    refine lv_iconst (v := (4 : Int32)) hx hb dX12_tell_12 (by decide) ?_
    obtain ⟨⟨r_11, found_12⟩, hf_13, h⟩ := bd_ex h
    have sb := Sb.same hP hD hS hA
    refine calI (va_runV (As := [.int (4 : Int32)]) (rest := []) ⟨hx, hb, hml, hown, hts⟩ (c_X12_finds l G D cA ad _ d kept aside images found base at0 size fault opened isRub names code coded pile needs traced traceMany who bitsOf sizeOf number lifted (4 : Int32) r_11 found_12 hf_13) (cwV 1 hts gX12_tell_X12_finds rfl rfl rfl (by decide +kernel) ⟨Nat.le_of_ble_eq_true rfl, Nat.le_of_ble_eq_true rfl⟩) (pvV hE hK hS sb (va_recv hK hP (ci := 12) (q0 := 0) rfl rfl)) rfl rfl hv.1 rfl (lv_room (Nat.le_of_ble_eq_true rfl)) dX12_tell_13 ⟨Nat.le_of_ble_eq_true rfl, Nat.le_of_ble_eq_true rfl⟩) hS sb (Jn.same sb) (fun H locs hP hD hS => ?_)
    have hP : va_P D vwCl (wM cA ad d kept aside images found_12 base at0 size fault opened isRub names code coded pile needs traced traceMany who bitsOf sizeOf number lifted) H := hP
    have hD : va_D A (wM cA ad d kept aside images found_12 base at0 size fault opened isRub names code coded pile needs traced traceMany who bitsOf sizeOf number lifted) := hD
    have h := Option.some.inj h
    have ee0 : r_11 = rR := congrArg (fun q => q.1) h
    have ee1 : d = dR := congrArg (fun q => q.2.1) h
    have ee2 : found_12 = foundR := congrArg (fun q => q.2.2) h
    subst ee0
    subst ee1
    subst ee2
    rw [← hQ]
    exact retI hx hb hr hlk hK hP hD hS dX12_tell_16 ⟨Nat.le_of_ble_eq_true rfl, Nat.le_of_ble_eq_true rfl⟩

def fX12_check_64 (v1_22 : Int32) (v3_64 : Int32) (k0_64 : Int32) (d_64 : Nat → Int32) (aside_22 : Nat → Int32) (names_64 : Nat → Int32) (pile_64 : Nat → Int32) : Option ((Int32 × Int32 × (Nat → Int32) × (Nat → Int32) × (Nat → Int32)) ⊕ (Int32 × Int32 × (Nat → Int32) × (Nat → Int32) × (Nat → Int32))) :=
  bnd (v3_64 + (1 : Int32)) fun y_20 => some (.inl (k0_64, y_20, d_64, names_64, pile_64))
def fX12_check_22B (v1_22 : Int32) (aside_22 : Nat → Int32) (v2_22b : Int32) (v3_22b : Int32) (d_22b : Nat → Int32) (names_22b : Nat → Int32) (pile_22b : Nat → Int32) : Option ((Int32 × Int32 × (Nat → Int32) × (Nat → Int32) × (Nat → Int32)) ⊕ (Int32 × Int32 × (Nat → Int32) × (Nat → Int32) × (Nat → Int32))) :=
  (if v1_22 ≤ v3_22b then some (.inr (v2_22b, v3_22b, d_22b, names_22b, pile_22b)) else (if v2_22b = 0 then bd (fX12_hourGoes d_22b names_22b pile_22b) fun (d_11, names_12, pile_13) => ckI ((156 : Int32) + v3_22b) 326 (ckI (2 : Int32) 326 (bd (fX12_ones (d_11 ((2 : Int32)).toNatClampNeg)) fun r_17 => (if (d_11 (((156 : Int32) + v3_22b)).toNatClampNeg) = r_17 then fX12_check_64 v1_22 v3_22b (0 : Int32) d_11 aside_22 names_12 pile_13 else fX12_check_64 v1_22 v3_22b ((1 : Int32) + v3_22b) d_11 aside_22 names_12 pile_13))) else some (.inr (v2_22b, v3_22b, d_22b, names_22b, pile_22b))))
def fX12_check_22 (v1_22 : Int32) (v2_22 : Int32) (v3_22 : Int32) (d_22 : Nat → Int32) (aside_22 : Nat → Int32) (names_22 : Nat → Int32) (pile_22 : Nat → Int32) : Option (Int32 × (Nat → Int32) × (Nat → Int32) × (Nat → Int32) × (Nat → Int32)) :=
  bd (lp (fun σ : Int32 × Int32 × (Nat → Int32) × (Nat → Int32) × (Nat → Int32) => fX12_check_22B v1_22 aside_22 (σ.1) (σ.2.1) (σ.2.2.1) (σ.2.2.2.1) (σ.2.2.2.2)) FU (v2_22, v3_22, d_22, names_22, pile_22)) fun ρ => match ρ with | (v2_22r, v3_22r, d_22r, names_22r, pile_22r) => bd (fX12_putBack d_22r aside_22) fun d_7 => some (v2_22r, d_7, aside_22, names_22r, pile_22r)
def fX12_check (d : Nat → Int32) (aside : Nat → Int32) (names : Nat → Int32) (pile : Nat → Int32) : Option (Int32 × (Nat → Int32) × (Nat → Int32) × (Nat → Int32) × (Nat → Int32)) :=
  ckI (5 : Int32) 326 (bnd (d ((5 : Int32)).toNatClampNeg) fun y_2 => ckI (5 : Int32) 326 (bnd (upd d ((5 : Int32)).toNatClampNeg (0 : Int32)) fun d_4 => bd (fX12_keepAside d_4 aside) fun aside_5 => fX12_check_22 y_2 (0 : Int32) (0 : Int32) d_4 aside_5 names pile))
set_option maxHeartbeats 4000000 in
set_option maxRecDepth 100000 in
theorem c_X12_check (l : Launch) (G : Nat → Nat) (D : va_G) (cA : Nat → ClassId) (ad : Nat → Nat) (sz : Nat) (d : Nat → Int32) (kept : Nat → Int32) (aside : Nat → Int32) (images : Int32) (found : Nat → Int32) (base : Int32) (at0 : Int32) (size : Int32) (fault : Int32) (opened : Int32) (isRub : Int32) (names : Nat → Int32) (code : Nat → Int32) (coded : Int32) (pile : Nat → Int32) (needs : Nat → Int32) (traced : Nat → Int32) (traceMany : Int32) (who : Int32) (bitsOf : Nat → Int32) (sizeOf : Nat → Int32) (number : Nat → Int32) (lifted : Nat → Int32) (rR : Int32) (dR : Nat → Int32) (asideR : Nat → Int32) (namesR : Nat → Int32) (pileR : Nat → Int32) (h : fX12_check d aside names pile = some (rR, dR, asideR, namesR, pileR)) : Met l yX12_check wsX12_check ({ frames := 6, cells := 0, slots := 0, locals := 142 } : Room) (PW G D (tyC cA) sz (wM cA ad d kept aside images found base at0 size fault opened isRub names code coded pile needs traced traceMany who bitsOf sizeOf number lifted) [.ref (ad 0)]) (QI D (tyC cA) (va_A (wM cA ad d kept aside images found base at0 size fault opened isRub names code coded pile needs traced traceMany who bitsOf sizeOf number lifted) sz) rR (wM cA ad dR kept asideR images found base at0 size fault opened isRub namesR code coded pileR needs traced traceMany who bitsOf sizeOf number lifted)) 0 0 (va_A (wM cA ad d kept aside images found base at0 size fault opened isRub names code coded pile needs traced traceMany who bitsOf sizeOf number lifted) sz) := by
  refine ent (cc := cX12_check) (maxL := 4) (ret := (some .int)) (fun A => QI D (tyC cA) A rR (wM cA ad dR kept asideR images found base at0 size fault opened isRub namesR code coded pileR needs traced traceMany who bitsOf sizeOf number lifted)) (by decide +kernel) rfl (Nat.le_of_ble_eq_true rfl) ?_
  intro p e s m args below meth c A ls H hx hb hml hr hlk hts hown hA hK hE hP hD hS hv hmm
  have hv : lv_has ls 4 [(0, .ref (ad 0))] := hv
  have in_12 : ∀ w ∈ u_ws RX12 TX12 23, w ∈ wsX12_check := fun _ h => List.mem_cons_of_mem _ (List.mem_append_right _ h)
  have w_0 := hts (.fieldLink RX12 7 "SpoonsLastModel" "d" "[I") (List.mem_of_getElem? (i := 1) rfl)
  generalize hQ : MQ below _ args s 0 0 A = Q
  have C_22 : ∀ (v1_22 : Int32) (v2_22 : Int32) (v3_22 : Int32) (d_22 : Nat → Int32) (aside_22 : Nat → Int32) (names_22 : Nat → Int32) (pile_22 : Nat → Int32), fX12_check_22 v1_22 v2_22 v3_22 d_22 aside_22 names_22 pile_22 = some (rR, dR, asideR, namesR, pileR) → WW p l e ({ frames := 6, cells := 0, slots := 0, locals := 142 } : Room) s m args below meth c D A 0 0 Q (wM cA ad d_22 kept aside_22 images found base at0 size fault opened isRub names_22 code coded pile_22 needs traced traceMany who bitsOf sizeOf number lifted) 4 [(0, .ref (ad 0)), (1, .int v1_22), (2, .int v2_22), (3, .int v3_22)] 22 [] := by
    intro v1_22 v2_22 v3_22 d_22 aside_22 names_22 pile_22 h
    unfold fX12_check_22 at h
    obtain ⟨⟨v2_22r, v3_22r, d_22r, names_22r, pile_22r⟩, ho, h⟩ := bd_ex h
    have LE : WW p l e ({ frames := 6, cells := 0, slots := 0, locals := 142 } : Room) s m args below meth c D A 0 0 Q (wM cA ad d_22r kept aside_22 images found base at0 size fault opened isRub names_22r code coded pile_22r needs traced traceMany who bitsOf sizeOf number lifted) 4 [(0, .ref (ad 0)), (2, .int v2_22r)] 71 [] := by
      intro H locs ls hP hD hS hv
      refine lv_aload_n hx hb dX12_check_71 rfl (lv_at hv 0 rfl) ?_
      obtain ⟨d_7, hf_8, h⟩ := bd_ex h
      have sb := Sb.same hP hD hS hA
      refine calV (va_runV (As := []) (rest := []) ⟨hx, hb, hml, hown, hts⟩ (c_X12_putBack l G D cA ad _ d_22r kept aside_22 images found base at0 size fault opened isRub names_22r code coded pile_22r needs traced traceMany who bitsOf sizeOf number lifted d_7 hf_8) (cwV 0 hts gX12_check_X12_putBack rfl rfl rfl (by decide +kernel) ⟨Nat.le_of_ble_eq_true rfl, Nat.le_of_ble_eq_true rfl⟩) (pvV hE hK hS sb (va_recv hK hP (ci := 12) (q0 := 0) rfl rfl)) rfl rfl hv.1 rfl (lv_room (Nat.le_of_ble_eq_true rfl)) dX12_check_72 ⟨Nat.le_of_ble_eq_true rfl, Nat.le_of_ble_eq_true rfl⟩) hS sb (Jn.same sb) (fun H locs hP hD hS => ?_)
      have hP : va_P D vwCl (wM cA ad d_7 kept aside_22 images found base at0 size fault opened isRub names_22r code coded pile_22r needs traced traceMany who bitsOf sizeOf number lifted) H := hP
      have hD : va_D A (wM cA ad d_7 kept aside_22 images found base at0 size fault opened isRub names_22r code coded pile_22r needs traced traceMany who bitsOf sizeOf number lifted) := hD
      refine lv_iload_n hx hb dX12_check_75 rfl (lv_at hv 1 rfl) ?_
      have h := Option.some.inj h
      have ee0 : v2_22r = rR := congrArg (fun q => q.1) h
      have ee1 : d_7 = dR := congrArg (fun q => q.2.1) h
      have ee2 : aside_22 = asideR := congrArg (fun q => q.2.2.1) h
      have ee3 : names_22r = namesR := congrArg (fun q => q.2.2.2.1) h
      have ee4 : pile_22r = pileR := congrArg (fun q => q.2.2.2.2) h
      subst ee0
      subst ee1
      subst ee2
      subst ee3
      subst ee4
      rw [← hQ]
      exact retI hx hb hr hlk hK hP hD hS dX12_check_76 ⟨Nat.le_of_ble_eq_true rfl, Nat.le_of_ble_eq_true rfl⟩
    have LB : ∀ (nf : Nat) (v2_22b : Int32) (v3_22b : Int32) (d_22b : Nat → Int32) (names_22b : Nat → Int32) (pile_22b : Nat → Int32), lp (fun σ : Int32 × Int32 × (Nat → Int32) × (Nat → Int32) × (Nat → Int32) => fX12_check_22B v1_22 aside_22 (σ.1) (σ.2.1) (σ.2.2.1) (σ.2.2.2.1) (σ.2.2.2.2)) nf (v2_22b, v3_22b, d_22b, names_22b, pile_22b) = some (v2_22r, v3_22r, d_22r, names_22r, pile_22r) → WW p l e ({ frames := 6, cells := 0, slots := 0, locals := 142 } : Room) s m args below meth c D A 0 0 Q (wM cA ad d_22b kept aside_22 images found base at0 size fault opened isRub names_22b code coded pile_22b needs traced traceMany who bitsOf sizeOf number lifted) 4 [(0, .ref (ad 0)), (1, .int v1_22), (2, .int v2_22b), (3, .int v3_22b)] 22 [] := by
      intro nf
      induction nf with
      | zero => intro v2_22b v3_22b d_22b names_22b pile_22b hl; cases hl
      | succ nf ih =>
        intro v2_22b v3_22b d_22b names_22b pile_22b hl
        obtain ⟨x, h, hl⟩ := lp_ex hl
        have h : fX12_check_22B v1_22 aside_22 v2_22b v3_22b d_22b names_22b pile_22b = some x := h
        unfold fX12_check_22B at h
        have C_64 : ∀ (v3_64 : Int32) (k0_64 : Int32) (d_64 : Nat → Int32) (names_64 : Nat → Int32) (pile_64 : Nat → Int32) (x : (Int32 × Int32 × (Nat → Int32) × (Nat → Int32) × (Nat → Int32)) ⊕ (Int32 × Int32 × (Nat → Int32) × (Nat → Int32) × (Nat → Int32))), fX12_check_64 v1_22 v3_64 k0_64 d_64 aside_22 names_64 pile_64 = some x → lpk (fun σ : Int32 × Int32 × (Nat → Int32) × (Nat → Int32) × (Nat → Int32) => fX12_check_22B v1_22 aside_22 (σ.1) (σ.2.1) (σ.2.2.1) (σ.2.2.2.1) (σ.2.2.2.2)) nf x = some (v2_22r, v3_22r, d_22r, names_22r, pile_22r) → WW p l e ({ frames := 6, cells := 0, slots := 0, locals := 142 } : Room) s m args below meth c D A 0 0 Q (wM cA ad d_64 kept aside_22 images found base at0 size fault opened isRub names_64 code coded pile_64 needs traced traceMany who bitsOf sizeOf number lifted) 4 [(0, .ref (ad 0)), (1, .int v1_22), (3, .int v3_64)] 64 [.int k0_64] := by
          intro v3_64 k0_64 d_64 names_64 pile_64 x h hl
          unfold fX12_check_64 at h
          intro H locs ls hP hD hS hv
          refine lv_istore_n (lv' := [(2, .int k0_64), (0, .ref (ad 0)), (1, .int v1_22), (3, .int v3_64)]) hx hb dX12_check_64 rfl hv (by decide) rfl (fun ls hv => ?_)
          obtain ⟨y_20, ey_20, h⟩ := bnd_ex h
          refine lv_iinc (v := y_20) (lv' := [(3, .int y_20), (2, .int k0_64), (0, .ref (ad 0)), (1, .int v1_22)]) hx hb dX12_check_65 hv (k := 3) rfl (by rw [ey_20]; rfl) (by decide) rfl (fun ls hv => ?_)
          refine lv_goto (tgt := 22) hx hb dX12_check_68 (by decide) ?_
          cases h
          exact ih k0_64 y_20 d_64 names_64 pile_64 hl _ _ _ hP hD hS (lv_sub hv [2, 3, 1, 0] rfl)
        intro H locs ls hP hD hS hv
        refine lv_iload_n hx hb dX12_check_22 rfl (lv_at hv 3 rfl) ?_
        refine lv_iload_n hx hb dX12_check_23 rfl (lv_at hv 1 rfl) ?_
        refine lv_icmp_ge (tgt := 71) hx hb dX12_check_24 (by decide) (fun c_9 => ?_) (fun c_9 => ?_)
        · have h := ite_t c_9 h
          cases h
          have hl : some (v2_22b, v3_22b, d_22b, names_22b, pile_22b) = some (v2_22r, v3_22r, d_22r, names_22r, pile_22r) := hl
          have hl := Option.some.inj hl
          have ee0 : v2_22b = v2_22r := congrArg (fun q => q.1) hl
          have ee1 : v3_22b = v3_22r := congrArg (fun q => q.2.1) hl
          have ee2 : d_22b = d_22r := congrArg (fun q => q.2.2.1) hl
          have ee3 : names_22b = names_22r := congrArg (fun q => q.2.2.2.1) hl
          have ee4 : pile_22b = pile_22r := congrArg (fun q => q.2.2.2.2) hl
          subst ee0
          subst ee1
          subst ee2
          subst ee3
          subst ee4
          exact LE _ _ _ hP hD hS (lv_sub hv [0, 2] rfl)
        · have h := ite_f c_9 h
          refine lv_iload_n hx hb dX12_check_27 rfl (lv_at hv 2 rfl) ?_
          refine lv_if_ne (tgt := 71) hx hb dX12_check_28 (by decide) (fun c_10 => ?_) (fun c_10 => ?_)
          · have h := ite_f c_10 h
            cases h
            have hl : some (v2_22b, v3_22b, d_22b, names_22b, pile_22b) = some (v2_22r, v3_22r, d_22r, names_22r, pile_22r) := hl
            have hl := Option.some.inj hl
            have ee0 : v2_22b = v2_22r := congrArg (fun q => q.1) hl
            have ee1 : v3_22b = v3_22r := congrArg (fun q => q.2.1) hl
            have ee2 : d_22b = d_22r := congrArg (fun q => q.2.2.1) hl
            have ee3 : names_22b = names_22r := congrArg (fun q => q.2.2.2.1) hl
            have ee4 : pile_22b = pile_22r := congrArg (fun q => q.2.2.2.2) hl
            subst ee0
            subst ee1
            subst ee2
            subst ee3
            subst ee4
            exact LE _ _ _ hP hD hS (lv_sub hv [0, 2] rfl)
          · have h := ite_t c_10 h
            refine lv_aload_n hx hb dX12_check_31 rfl (lv_at hv 0 rfl) ?_
            obtain ⟨⟨d_11, names_12, pile_13⟩, hf_14, h⟩ := bd_ex h
            have sb := Sb.same hP hD hS hA
            refine calV (va_runV (As := []) (rest := []) ⟨hx, hb, hml, hown, hts⟩ (c_X12_hourGoes l G D cA ad _ d_22b kept aside_22 images found base at0 size fault opened isRub names_22b code coded pile_22b needs traced traceMany who bitsOf sizeOf number lifted d_11 names_12 pile_13 hf_14) (cwV 0 hts gX12_check_X12_hourGoes rfl rfl rfl (by decide +kernel) ⟨Nat.le_of_ble_eq_true rfl, Nat.le_of_ble_eq_true rfl⟩) (pvV hE hK hS sb (va_recv hK hP (ci := 12) (q0 := 0) rfl rfl)) rfl rfl hv.1 rfl (lv_room (Nat.le_of_ble_eq_true rfl)) dX12_check_32 ⟨Nat.le_of_ble_eq_true rfl, Nat.le_of_ble_eq_true rfl⟩) hS sb (Jn.same sb) (fun H locs hP hD hS => ?_)
            have hP : va_P D vwCl (wM cA ad d_11 kept aside_22 images found base at0 size fault opened isRub names_12 code coded pile_13 needs traced traceMany who bitsOf sizeOf number lifted) H := hP
            have hD : va_D A (wM cA ad d_11 kept aside_22 images found base at0 size fault opened isRub names_12 code coded pile_13 needs traced traceMany who bitsOf sizeOf number lifted) := hD
            refine lv_aload_n hx hb dX12_check_35 rfl (lv_at hv 0 rfl) ?_
            refine va_get (D := D) (ci := 12) (v := .ref (ad 1)) (C := RX12) (T := TX12) (N := 23) hx hb hts in_12 hown hK hP 0 rfl rfl 0 (by decide) w_0 (fun _ h9 => h9) rfl dX12_check_36 ?_
            refine lv_sipush (v := (156 : Int32)) hx hb dX12_check_39 (by decide) ?_
            refine lv_iload_n hx hb dX12_check_42 rfl (lv_at hv 3 rfl) ?_
            refine lv_iadd hx hb dX12_check_43 ?_
            obtain ⟨c_15, h⟩ := ckI_ex h
            refine va_iald (D := D) hx hb hK hP 1 0 rfl rfl c_15 dX12_check_44 ?_
            refine lv_aload_n hx hb dX12_check_45 rfl (lv_at hv 0 rfl) ?_
            refine va_get (D := D) (ci := 12) (v := .ref (ad 1)) (C := RX12) (T := TX12) (N := 23) hx hb hts in_12 hown hK hP 0 rfl rfl 0 (by decide) w_0 (fun _ h9 => h9) rfl dX12_check_46 ?_
            refine lv_iconst (v := (2 : Int32)) hx hb dX12_check_49 (by decide) ?_
            obtain ⟨c_16, h⟩ := ckI_ex h
            refine va_iald (D := D) hx hb hK hP 1 0 rfl rfl c_16 dX12_check_50 ?_
            obtain ⟨r_17, hf_18, h⟩ := bd_ex h
            have sb := Sb.nil hP hD hS hA
            refine calI (va_runS (As := [.int (d_11 ((2 : Int32)).toNatClampNeg)]) (rest := [.int (d_11 (((156 : Int32) + v3_22b)).toNatClampNeg)]) ⟨hx, hb, hml, hown, hts⟩ (c_X12_ones l G D cA  _ (d_11 ((2 : Int32)).toNatClampNeg) r_17 hf_18) (va_cwS 1 hts gX12_check_X12_ones rfl rfl rfl (by decide +kernel) ⟨Nat.le_of_ble_eq_true rfl, Nat.le_of_ble_eq_true rfl⟩) (pvS hE hK hS sb) rfl rfl hv.1 rfl (lv_room (Nat.le_of_ble_eq_true rfl)) dX12_check_51 ⟨Nat.le_of_ble_eq_true rfl, Nat.le_of_ble_eq_true rfl⟩) hS sb (Jn.nil hP hD) (fun H locs hP hD hS => ?_)
            have hP : va_P D vwCl (wM cA ad d_11 kept aside_22 images found base at0 size fault opened isRub names_12 code coded pile_13 needs traced traceMany who bitsOf sizeOf number lifted) H := hP
            have hD : va_D A (wM cA ad d_11 kept aside_22 images found base at0 size fault opened isRub names_12 code coded pile_13 needs traced traceMany who bitsOf sizeOf number lifted) := hD
            refine lv_icmp_ne (tgt := 61) hx hb dX12_check_54 (by decide) (fun c_19 => ?_) (fun c_19 => ?_)
            · have h := ite_f c_19 h
              refine lv_iconst (v := (1 : Int32)) hx hb dX12_check_61 (by decide) ?_
              refine lv_iload_n hx hb dX12_check_62 rfl (lv_at hv 3 rfl) ?_
              refine lv_iadd hx hb dX12_check_63 ?_
              exact C_64 v3_22b ((1 : Int32) + v3_22b) d_11 names_12 pile_13 _ h hl _ _ _ hP hD hS (lv_sub hv [0, 1, 3] rfl)
            · have h := ite_t c_19 h
              refine lv_iconst (v := (0 : Int32)) hx hb dX12_check_57 (by decide) ?_
              refine lv_goto (tgt := 64) hx hb dX12_check_58 (by decide) ?_
              exact C_64 v3_22b (0 : Int32) d_11 names_12 pile_13 _ h hl _ _ _ hP hD hS (lv_sub hv [0, 1, 3] rfl)
    exact LB FU v2_22 v3_22 d_22 names_22 pile_22 ho
  have hP : va_P D vwCl (wM cA ad d kept aside images found base at0 size fault opened isRub names code coded pile needs traced traceMany who bitsOf sizeOf number lifted) H := hP
  unfold fX12_check at h
  refine lv_aload_n hx hb dX12_check_0 rfl (lv_at hv 0 rfl) ?_
  refine va_get (D := D) (ci := 12) (v := .ref (ad 1)) (C := RX12) (T := TX12) (N := 23) hx hb hts in_12 hown hK hP 0 rfl rfl 0 (by decide) w_0 (fun _ h9 => h9) rfl dX12_check_1 ?_
  refine lv_iconst (v := (5 : Int32)) hx hb dX12_check_4 (by decide) ?_
  obtain ⟨c_1, h⟩ := ckI_ex h
  refine va_iald (D := D) hx hb hK hP 1 0 rfl rfl c_1 dX12_check_5 ?_
  obtain ⟨y_2, ey_2, h⟩ := bnd_ex h
  refine lv_nm ey_2 ?_
  refine lv_istore_n (lv' := [(1, .int y_2), (0, .ref (ad 0))]) hx hb dX12_check_6 rfl hv (by decide) rfl (fun ls hv => ?_)
  refine lv_aload_n hx hb dX12_check_7 rfl (lv_at hv 1 rfl) ?_
  refine va_get (D := D) (ci := 12) (v := .ref (ad 1)) (C := RX12) (T := TX12) (N := 23) hx hb hts in_12 hown hK hP 0 rfl rfl 0 (by decide) w_0 (fun _ h9 => h9) rfl dX12_check_8 ?_
  refine lv_iconst (v := (5 : Int32)) hx hb dX12_check_11 (by decide) ?_
  refine lv_iconst (v := (0 : Int32)) hx hb dX12_check_12 (by decide) ?_
  obtain ⟨c_3, h⟩ := ckI_ex h
  obtain ⟨d_4, ed_4, h⟩ := bnd_ex h
  refine va_iast (D := D) hx hb hK hP hD hS 1 0 rfl rfl c_3 dX12_check_13 (fun H locs hP hD hS => ?_)
  rw [← ed_4] at hP hD
  have hP : va_P D vwCl (wM cA ad d_4 kept aside images found base at0 size fault opened isRub names code coded pile needs traced traceMany who bitsOf sizeOf number lifted) H := hP
  have hD : va_D A (wM cA ad d_4 kept aside images found base at0 size fault opened isRub names code coded pile needs traced traceMany who bitsOf sizeOf number lifted) := hD
  refine lv_aload_n hx hb dX12_check_14 rfl (lv_at hv 1 rfl) ?_
  obtain ⟨aside_5, hf_6, h⟩ := bd_ex h
  have sb := Sb.same hP hD hS hA
  refine calV (va_runV (As := []) (rest := []) ⟨hx, hb, hml, hown, hts⟩ (c_X12_keepAside l G D cA ad _ d_4 kept aside images found base at0 size fault opened isRub names code coded pile needs traced traceMany who bitsOf sizeOf number lifted aside_5 hf_6) (cwV 0 hts gX12_check_X12_keepAside rfl rfl rfl (by decide +kernel) ⟨Nat.le_of_ble_eq_true rfl, Nat.le_of_ble_eq_true rfl⟩) (pvV hE hK hS sb (va_recv hK hP (ci := 12) (q0 := 0) rfl rfl)) rfl rfl hv.1 rfl (lv_room (Nat.le_of_ble_eq_true rfl)) dX12_check_15 ⟨Nat.le_of_ble_eq_true rfl, Nat.le_of_ble_eq_true rfl⟩) hS sb (Jn.same sb) (fun H locs hP hD hS => ?_)
  have hP : va_P D vwCl (wM cA ad d_4 kept aside_5 images found base at0 size fault opened isRub names code coded pile needs traced traceMany who bitsOf sizeOf number lifted) H := hP
  have hD : va_D A (wM cA ad d_4 kept aside_5 images found base at0 size fault opened isRub names code coded pile needs traced traceMany who bitsOf sizeOf number lifted) := hD
  refine lv_iconst (v := (0 : Int32)) hx hb dX12_check_18 (by decide) ?_
  refine lv_istore_n (lv' := [(2, .int (0 : Int32)), (1, .int y_2), (0, .ref (ad 0))]) hx hb dX12_check_19 rfl hv (by decide) rfl (fun ls hv => ?_)
  refine lv_iconst (v := (0 : Int32)) hx hb dX12_check_20 (by decide) ?_
  refine lv_istore_n (lv' := [(3, .int (0 : Int32)), (2, .int (0 : Int32)), (1, .int y_2), (0, .ref (ad 0))]) hx hb dX12_check_21 rfl hv (by decide) rfl (fun ls hv => ?_)
  exact C_22 y_2 (0 : Int32) (0 : Int32) d_4 aside_5 names pile h _ _ _ hP hD hS (lv_sub hv [3, 2, 1, 0] rfl)

def fX12_sumOf_6B (v1_6 : Int32) (v2_6 : Int32) (v3_6 : Int32) (d : Nat → Int32) (v4_6b : Int32) (v5_6b : Int32) : Option ((Int32 × Int32) ⊕ (Int32 × Int32)) :=
  (if v2_6 ≤ v5_6b then some (.inr (v4_6b, v5_6b)) else ckI (v1_6 + (v3_6 * v5_6b)) 326 (bnd (v4_6b + (d ((v1_6 + (v3_6 * v5_6b))).toNatClampNeg)) fun y_3 => bnd (v5_6b + (1 : Int32)) fun y_4 => some (.inl (y_3, y_4))))
def fX12_sumOf_6 (v1_6 : Int32) (v2_6 : Int32) (v3_6 : Int32) (v4_6 : Int32) (v5_6 : Int32) (d : Nat → Int32) : Option (Int32) :=
  bd (lp (fun σ : Int32 × Int32 => fX12_sumOf_6B v1_6 v2_6 v3_6 d (σ.1) (σ.2)) FU (v4_6, v5_6)) fun ρ => match ρ with | (v4_6r, v5_6r) => some v4_6r
def fX12_sumOf (a : Int32) (b : Int32) (k : Int32) (d : Nat → Int32) : Option (Int32) :=
  fX12_sumOf_6 a b k (0 : Int32) (0 : Int32) d
set_option maxHeartbeats 4000000 in
set_option maxRecDepth 100000 in
theorem c_X12_sumOf (l : Launch) (G : Nat → Nat) (D : va_G) (cA : Nat → ClassId) (ad : Nat → Nat) (sz : Nat) (d : Nat → Int32) (kept : Nat → Int32) (aside : Nat → Int32) (images : Int32) (found : Nat → Int32) (base : Int32) (at0 : Int32) (size : Int32) (fault : Int32) (opened : Int32) (isRub : Int32) (names : Nat → Int32) (code : Nat → Int32) (coded : Int32) (pile : Nat → Int32) (needs : Nat → Int32) (traced : Nat → Int32) (traceMany : Int32) (who : Int32) (bitsOf : Nat → Int32) (sizeOf : Nat → Int32) (number : Nat → Int32) (lifted : Nat → Int32) (a : Int32) (b : Int32) (k : Int32) (rR : Int32) (h : fX12_sumOf a b k d = some rR) : Met l yX12_sumOf wsX12_sumOf ({ frames := 0, cells := 0, slots := 0, locals := 0 } : Room) (PW G D (tyC cA) sz (wM cA ad d kept aside images found base at0 size fault opened isRub names code coded pile needs traced traceMany who bitsOf sizeOf number lifted) [.ref (ad 0), .int a, .int b, .int k]) (QI D (tyC cA) (va_A (wM cA ad d kept aside images found base at0 size fault opened isRub names code coded pile needs traced traceMany who bitsOf sizeOf number lifted) sz) rR (wM cA ad d kept aside images found base at0 size fault opened isRub names code coded pile needs traced traceMany who bitsOf sizeOf number lifted)) 0 0 (va_A (wM cA ad d kept aside images found base at0 size fault opened isRub names code coded pile needs traced traceMany who bitsOf sizeOf number lifted) sz) := by
  refine ent (cc := cX12_sumOf) (maxL := 6) (ret := (some .int)) (fun A => QI D (tyC cA) A rR (wM cA ad d kept aside images found base at0 size fault opened isRub names code coded pile needs traced traceMany who bitsOf sizeOf number lifted)) (by decide +kernel) rfl (Nat.le_of_ble_eq_true rfl) ?_
  intro p e s m args below meth c A ls H hx hb hml hr hlk hts hown hA hK hE hP hD hS hv hmm
  have hv : lv_has ls 6 [(0, .ref (ad 0)), (1, .int a), (2, .int b), (3, .int k)] := hv
  have in_12 : ∀ w ∈ u_ws RX12 TX12 23, w ∈ wsX12_sumOf := fun _ h => List.mem_cons_of_mem _ (List.mem_append_right _ h)
  have w_0 := hts (.fieldLink RX12 7 "SpoonsLastModel" "d" "[I") (List.mem_of_getElem? (i := 1) rfl)
  generalize hQ : MQ below _ args s 0 0 A = Q
  have C_6 : ∀ (v1_6 : Int32) (v2_6 : Int32) (v3_6 : Int32) (v4_6 : Int32) (v5_6 : Int32), fX12_sumOf_6 v1_6 v2_6 v3_6 v4_6 v5_6 d = some rR → WW p l e ({ frames := 0, cells := 0, slots := 0, locals := 0 } : Room) s m args below meth c D A 0 0 Q (wM cA ad d kept aside images found base at0 size fault opened isRub names code coded pile needs traced traceMany who bitsOf sizeOf number lifted) 6 [(0, .ref (ad 0)), (1, .int v1_6), (2, .int v2_6), (3, .int v3_6), (4, .int v4_6), (5, .int v5_6)] 6 [] := by
    intro v1_6 v2_6 v3_6 v4_6 v5_6 h
    unfold fX12_sumOf_6 at h
    obtain ⟨⟨v4_6r, v5_6r⟩, ho, h⟩ := bd_ex h
    have LE : WW p l e ({ frames := 0, cells := 0, slots := 0, locals := 0 } : Room) s m args below meth c D A 0 0 Q (wM cA ad d kept aside images found base at0 size fault opened isRub names code coded pile needs traced traceMany who bitsOf sizeOf number lifted) 6 [(4, .int v4_6r)] 34 [] := by
      intro H locs ls hP hD hS hv
      refine lv_iload hx hb dX12_sumOf_34 (lv_at hv 0 rfl) ?_
      have h := Option.some.inj h
      have ee0 : v4_6r = rR := congrArg (fun q => q) h
      subst ee0
      rw [← hQ]
      exact retI hx hb hr hlk hK hP hD hS dX12_sumOf_36 ⟨Nat.le_of_ble_eq_true rfl, Nat.le_of_ble_eq_true rfl⟩
    have LB : ∀ (nf : Nat) (v4_6b : Int32) (v5_6b : Int32), lp (fun σ : Int32 × Int32 => fX12_sumOf_6B v1_6 v2_6 v3_6 d (σ.1) (σ.2)) nf (v4_6b, v5_6b) = some (v4_6r, v5_6r) → WW p l e ({ frames := 0, cells := 0, slots := 0, locals := 0 } : Room) s m args below meth c D A 0 0 Q (wM cA ad d kept aside images found base at0 size fault opened isRub names code coded pile needs traced traceMany who bitsOf sizeOf number lifted) 6 [(0, .ref (ad 0)), (1, .int v1_6), (2, .int v2_6), (3, .int v3_6), (4, .int v4_6b), (5, .int v5_6b)] 6 [] := by
      intro nf
      induction nf with
      | zero => intro v4_6b v5_6b hl; cases hl
      | succ nf ih =>
        intro v4_6b v5_6b hl
        obtain ⟨x, h, hl⟩ := lp_ex hl
        have h : fX12_sumOf_6B v1_6 v2_6 v3_6 d v4_6b v5_6b = some x := h
        unfold fX12_sumOf_6B at h
        intro H locs ls hP hD hS hv
        refine lv_iload hx hb dX12_sumOf_6 (lv_at hv 5 rfl) ?_
        refine lv_iload_n hx hb dX12_sumOf_8 rfl (lv_at hv 2 rfl) ?_
        refine lv_icmp_ge (tgt := 34) hx hb dX12_sumOf_9 (by decide) (fun c_1 => ?_) (fun c_1 => ?_)
        · have h := ite_t c_1 h
          cases h
          have hl : some (v4_6b, v5_6b) = some (v4_6r, v5_6r) := hl
          have hl := Option.some.inj hl
          have ee0 : v4_6b = v4_6r := congrArg (fun q => q.1) hl
          have ee1 : v5_6b = v5_6r := congrArg (fun q => q.2) hl
          subst ee0
          subst ee1
          exact LE _ _ _ hP hD hS (lv_sub hv [4] rfl)
        · have h := ite_f c_1 h
          refine lv_iload hx hb dX12_sumOf_12 (lv_at hv 4 rfl) ?_
          refine lv_aload_n hx hb dX12_sumOf_14 rfl (lv_at hv 0 rfl) ?_
          refine va_get (D := D) (ci := 12) (v := .ref (ad 1)) (C := RX12) (T := TX12) (N := 23) hx hb hts in_12 hown hK hP 0 rfl rfl 0 (by decide) w_0 (fun _ h9 => h9) rfl dX12_sumOf_15 ?_
          refine lv_iload_n hx hb dX12_sumOf_18 rfl (lv_at hv 1 rfl) ?_
          refine lv_iload_n hx hb dX12_sumOf_19 rfl (lv_at hv 3 rfl) ?_
          refine lv_iload hx hb dX12_sumOf_20 (lv_at hv 5 rfl) ?_
          refine lv_imul hx hb dX12_sumOf_22 ?_
          refine lv_iadd hx hb dX12_sumOf_23 ?_
          obtain ⟨c_2, h⟩ := ckI_ex h
          refine va_iald (D := D) hx hb hK hP 1 0 rfl rfl c_2 dX12_sumOf_24 ?_
          refine lv_iadd hx hb dX12_sumOf_25 ?_
          obtain ⟨y_3, ey_3, h⟩ := bnd_ex h
          refine lv_nm ey_3 ?_
          refine lv_istore (lv' := [(4, .int y_3), (0, .ref (ad 0)), (1, .int v1_6), (2, .int v2_6), (3, .int v3_6), (5, .int v5_6b)]) hx hb dX12_sumOf_26 hv (by decide) rfl (fun ls hv => ?_)
          obtain ⟨y_4, ey_4, h⟩ := bnd_ex h
          refine lv_iinc (v := y_4) (lv' := [(5, .int y_4), (4, .int y_3), (0, .ref (ad 0)), (1, .int v1_6), (2, .int v2_6), (3, .int v3_6)]) hx hb dX12_sumOf_28 hv (k := 5) rfl (by rw [ey_4]; rfl) (by decide) rfl (fun ls hv => ?_)
          refine lv_goto (tgt := 6) hx hb dX12_sumOf_31 (by decide) ?_
          cases h
          exact ih y_3 y_4 hl _ _ _ hP hD hS (lv_sub hv [2, 3, 4, 5, 1, 0] rfl)
    exact LB FU v4_6 v5_6 ho
  have hP : va_P D vwCl (wM cA ad d kept aside images found base at0 size fault opened isRub names code coded pile needs traced traceMany who bitsOf sizeOf number lifted) H := hP
  unfold fX12_sumOf at h
  refine lv_iconst (v := (0 : Int32)) hx hb dX12_sumOf_0 (by decide) ?_
  refine lv_istore (lv' := [(4, .int (0 : Int32)), (0, .ref (ad 0)), (1, .int a), (2, .int b), (3, .int k)]) hx hb dX12_sumOf_1 hv (by decide) rfl (fun ls hv => ?_)
  refine lv_iconst (v := (0 : Int32)) hx hb dX12_sumOf_3 (by decide) ?_
  refine lv_istore (lv' := [(5, .int (0 : Int32)), (4, .int (0 : Int32)), (0, .ref (ad 0)), (1, .int a), (2, .int b), (3, .int k)]) hx hb dX12_sumOf_4 hv (by decide) rfl (fun ls hv => ?_)
  exact C_6 a b k (0 : Int32) (0 : Int32) h _ _ _ hP hD hS (lv_sub hv [2, 3, 4, 5, 1, 0] rfl)

def fX12_onAny_4B (d : Nat → Int32) (v1_4b : Int32) (v2_4b : Int32) : Option ((Int32 × Int32) ⊕ (Int32 × Int32)) :=
  ckI (0 : Int32) 326 ((if (d ((0 : Int32)).toNatClampNeg) ≤ v2_4b then some (.inr (v1_4b, v2_4b)) else bd (fX12_on v2_4b d) fun r_3 => bnd (v1_4b ||| r_3) fun y_5 => bnd (v2_4b + (1 : Int32)) fun y_6 => some (.inl (y_5, y_6))))
def fX12_onAny_4 (v1_4 : Int32) (v2_4 : Int32) (d : Nat → Int32) : Option (Int32) :=
  bd (lp (fun σ : Int32 × Int32 => fX12_onAny_4B d (σ.1) (σ.2)) FU (v1_4, v2_4)) fun ρ => match ρ with | (v1_4r, v2_4r) => some v1_4r
def fX12_onAny (d : Nat → Int32) : Option (Int32) :=
  fX12_onAny_4 (0 : Int32) (0 : Int32) d
set_option maxHeartbeats 4000000 in
set_option maxRecDepth 100000 in
theorem c_X12_onAny (l : Launch) (G : Nat → Nat) (D : va_G) (cA : Nat → ClassId) (ad : Nat → Nat) (sz : Nat) (d : Nat → Int32) (kept : Nat → Int32) (aside : Nat → Int32) (images : Int32) (found : Nat → Int32) (base : Int32) (at0 : Int32) (size : Int32) (fault : Int32) (opened : Int32) (isRub : Int32) (names : Nat → Int32) (code : Nat → Int32) (coded : Int32) (pile : Nat → Int32) (needs : Nat → Int32) (traced : Nat → Int32) (traceMany : Int32) (who : Int32) (bitsOf : Nat → Int32) (sizeOf : Nat → Int32) (number : Nat → Int32) (lifted : Nat → Int32) (rR : Int32) (h : fX12_onAny d = some rR) : Met l yX12_onAny wsX12_onAny ({ frames := 2, cells := 0, slots := 0, locals := 45 } : Room) (PW G D (tyC cA) sz (wM cA ad d kept aside images found base at0 size fault opened isRub names code coded pile needs traced traceMany who bitsOf sizeOf number lifted) [.ref (ad 0)]) (QI D (tyC cA) (va_A (wM cA ad d kept aside images found base at0 size fault opened isRub names code coded pile needs traced traceMany who bitsOf sizeOf number lifted) sz) rR (wM cA ad d kept aside images found base at0 size fault opened isRub names code coded pile needs traced traceMany who bitsOf sizeOf number lifted)) 0 0 (va_A (wM cA ad d kept aside images found base at0 size fault opened isRub names code coded pile needs traced traceMany who bitsOf sizeOf number lifted) sz) := by
  refine ent (cc := cX12_onAny) (maxL := 3) (ret := (some .int)) (fun A => QI D (tyC cA) A rR (wM cA ad d kept aside images found base at0 size fault opened isRub names code coded pile needs traced traceMany who bitsOf sizeOf number lifted)) (by decide +kernel) rfl (Nat.le_of_ble_eq_true rfl) ?_
  intro p e s m args below meth c A ls H hx hb hml hr hlk hts hown hA hK hE hP hD hS hv hmm
  have hv : lv_has ls 3 [(0, .ref (ad 0))] := hv
  have in_12 : ∀ w ∈ u_ws RX12 TX12 23, w ∈ wsX12_onAny := fun _ h => List.mem_cons_of_mem _ (List.mem_append_right _ h)
  have w_0 := hts (.fieldLink RX12 7 "SpoonsLastModel" "d" "[I") (List.mem_of_getElem? (i := 1) rfl)
  generalize hQ : MQ below _ args s 0 0 A = Q
  have C_4 : ∀ (v1_4 : Int32) (v2_4 : Int32), fX12_onAny_4 v1_4 v2_4 d = some rR → WW p l e ({ frames := 2, cells := 0, slots := 0, locals := 45 } : Room) s m args below meth c D A 0 0 Q (wM cA ad d kept aside images found base at0 size fault opened isRub names code coded pile needs traced traceMany who bitsOf sizeOf number lifted) 3 [(0, .ref (ad 0)), (1, .int v1_4), (2, .int v2_4)] 4 [] := by
    intro v1_4 v2_4 h
    unfold fX12_onAny_4 at h
    obtain ⟨⟨v1_4r, v2_4r⟩, ho, h⟩ := bd_ex h
    have LE : WW p l e ({ frames := 2, cells := 0, slots := 0, locals := 45 } : Room) s m args below meth c D A 0 0 Q (wM cA ad d kept aside images found base at0 size fault opened isRub names code coded pile needs traced traceMany who bitsOf sizeOf number lifted) 3 [(1, .int v1_4r)] 28 [] := by
      intro H locs ls hP hD hS hv
      refine lv_iload_n hx hb dX12_onAny_28 rfl (lv_at hv 0 rfl) ?_
      have h := Option.some.inj h
      have ee0 : v1_4r = rR := congrArg (fun q => q) h
      subst ee0
      rw [← hQ]
      exact retI hx hb hr hlk hK hP hD hS dX12_onAny_29 ⟨Nat.le_of_ble_eq_true rfl, Nat.le_of_ble_eq_true rfl⟩
    have LB : ∀ (nf : Nat) (v1_4b : Int32) (v2_4b : Int32), lp (fun σ : Int32 × Int32 => fX12_onAny_4B d (σ.1) (σ.2)) nf (v1_4b, v2_4b) = some (v1_4r, v2_4r) → WW p l e ({ frames := 2, cells := 0, slots := 0, locals := 45 } : Room) s m args below meth c D A 0 0 Q (wM cA ad d kept aside images found base at0 size fault opened isRub names code coded pile needs traced traceMany who bitsOf sizeOf number lifted) 3 [(0, .ref (ad 0)), (1, .int v1_4b), (2, .int v2_4b)] 4 [] := by
      intro nf
      induction nf with
      | zero => intro v1_4b v2_4b hl; cases hl
      | succ nf ih =>
        intro v1_4b v2_4b hl
        obtain ⟨x, h, hl⟩ := lp_ex hl
        have h : fX12_onAny_4B d v1_4b v2_4b = some x := h
        unfold fX12_onAny_4B at h
        intro H locs ls hP hD hS hv
        refine lv_iload_n hx hb dX12_onAny_4 rfl (lv_at hv 2 rfl) ?_
        refine lv_aload_n hx hb dX12_onAny_5 rfl (lv_at hv 0 rfl) ?_
        refine va_get (D := D) (ci := 12) (v := .ref (ad 1)) (C := RX12) (T := TX12) (N := 23) hx hb hts in_12 hown hK hP 0 rfl rfl 0 (by decide) w_0 (fun _ h9 => h9) rfl dX12_onAny_6 ?_
        refine lv_iconst (v := (0 : Int32)) hx hb dX12_onAny_9 (by decide) ?_
        obtain ⟨c_1, h⟩ := ckI_ex h
        refine va_iald (D := D) hx hb hK hP 1 0 rfl rfl c_1 dX12_onAny_10 ?_
        refine lv_icmp_ge (tgt := 28) hx hb dX12_onAny_11 (by decide) (fun c_2 => ?_) (fun c_2 => ?_)
        · have h := ite_t c_2 h
          cases h
          have hl : some (v1_4b, v2_4b) = some (v1_4r, v2_4r) := hl
          have hl := Option.some.inj hl
          have ee0 : v1_4b = v1_4r := congrArg (fun q => q.1) hl
          have ee1 : v2_4b = v2_4r := congrArg (fun q => q.2) hl
          subst ee0
          subst ee1
          exact LE _ _ _ hP hD hS (lv_sub hv [1] rfl)
        · have h := ite_f c_2 h
          refine lv_iload_n hx hb dX12_onAny_14 rfl (lv_at hv 1 rfl) ?_
          refine lv_aload_n hx hb dX12_onAny_15 rfl (lv_at hv 0 rfl) ?_
          refine lv_iload_n hx hb dX12_onAny_16 rfl (lv_at hv 2 rfl) ?_
          obtain ⟨r_3, hf_4, h⟩ := bd_ex h
          have sb := Sb.same hP hD hS hA
          refine calI (va_runV (As := [.int v2_4b]) (rest := [.int v1_4b]) ⟨hx, hb, hml, hown, hts⟩ (c_X12_on l G D cA ad _ d kept aside images found base at0 size fault opened isRub names code coded pile needs traced traceMany who bitsOf sizeOf number lifted v2_4b r_3 hf_4) (cwV 1 hts gX12_onAny_X12_on rfl rfl rfl (by decide +kernel) ⟨Nat.le_of_ble_eq_true rfl, Nat.le_of_ble_eq_true rfl⟩) (pvV hE hK hS sb (va_recv hK hP (ci := 12) (q0 := 0) rfl rfl)) rfl rfl hv.1 rfl (lv_room (Nat.le_of_ble_eq_true rfl)) dX12_onAny_17 ⟨Nat.le_of_ble_eq_true rfl, Nat.le_of_ble_eq_true rfl⟩) hS sb (Jn.same sb) (fun H locs hP hD hS => ?_)
          have hP : va_P D vwCl (wM cA ad d kept aside images found base at0 size fault opened isRub names code coded pile needs traced traceMany who bitsOf sizeOf number lifted) H := hP
          have hD : va_D A (wM cA ad d kept aside images found base at0 size fault opened isRub names code coded pile needs traced traceMany who bitsOf sizeOf number lifted) := hD
          refine lv_ior hx hb dX12_onAny_20 ?_
          obtain ⟨y_5, ey_5, h⟩ := bnd_ex h
          refine lv_nm ey_5 ?_
          refine lv_istore_n (lv' := [(1, .int y_5), (0, .ref (ad 0)), (2, .int v2_4b)]) hx hb dX12_onAny_21 rfl hv (by decide) rfl (fun ls hv => ?_)
          obtain ⟨y_6, ey_6, h⟩ := bnd_ex h
          refine lv_iinc (v := y_6) (lv' := [(2, .int y_6), (1, .int y_5), (0, .ref (ad 0))]) hx hb dX12_onAny_22 hv (k := 2) rfl (by rw [ey_6]; rfl) (by decide) rfl (fun ls hv => ?_)
          refine lv_goto (tgt := 4) hx hb dX12_onAny_25 (by decide) ?_
          cases h
          exact ih y_5 y_6 hl _ _ _ hP hD hS (lv_sub hv [2, 1, 0] rfl)
    exact LB FU v1_4 v2_4 ho
  have hP : va_P D vwCl (wM cA ad d kept aside images found base at0 size fault opened isRub names code coded pile needs traced traceMany who bitsOf sizeOf number lifted) H := hP
  unfold fX12_onAny at h
  refine lv_iconst (v := (0 : Int32)) hx hb dX12_onAny_0 (by decide) ?_
  refine lv_istore_n (lv' := [(1, .int (0 : Int32)), (0, .ref (ad 0))]) hx hb dX12_onAny_1 rfl hv (by decide) rfl (fun ls hv => ?_)
  refine lv_iconst (v := (0 : Int32)) hx hb dX12_onAny_2 (by decide) ?_
  refine lv_istore_n (lv' := [(2, .int (0 : Int32)), (1, .int (0 : Int32)), (0, .ref (ad 0))]) hx hb dX12_onAny_3 rfl hv (by decide) rfl (fun ls hv => ?_)
  exact C_4 (0 : Int32) (0 : Int32) h _ _ _ hP hD hS (lv_sub hv [2, 1, 0] rfl)

def fX12_count (what : Int32) (d : Nat → Int32) (found : Nat → Int32) (traceMany : Int32) : Option (Int32 × (Nat → Int32)) :=
  (if what = (0 : Int32) then ckI what 326 (some ((d (what).toNatClampNeg), found)) else (if what = (1 : Int32) then ckI what 326 (some ((d (what).toNatClampNeg), found)) else (if what = (2 : Int32) then ckI (2 : Int32) 326 (bd (fX12_ones (d ((2 : Int32)).toNatClampNeg)) fun r_7 => some (r_7, found)) else (if what = (3 : Int32) then ckI (2 : Int32) 326 (some ((d ((2 : Int32)).toNatClampNeg), found)) else (if what = (4 : Int32) then ckI (0 : Int32) 326 (bd (fX12_sumOf (36 : Int32) (d ((0 : Int32)).toNatClampNeg) (15 : Int32) d) fun r_13 => some (r_13, found)) else (if what = (5 : Int32) then bd (fX12_sumOf (6 : Int32) (12 : Int32) (1 : Int32) d) fun r_16 => some (r_16, found) else (if what = (6 : Int32) then bd (fX12_onAny d) fun r_19 => some (r_19, found) else (if what = (7 : Int32) then ckI (4 : Int32) 326 (some ((d ((4 : Int32)).toNatClampNeg), found)) else (if what = (8 : Int32) then ckI (5 : Int32) 326 (some ((d ((5 : Int32)).toNatClampNeg), found)) else (if what = (9 : Int32) then some (traceMany, found) else (if what = (10 : Int32) then ckI (3 : Int32) 326 (some ((d ((3 : Int32)).toNatClampNeg), found)) else bd (fX12_finds (1 : Int32) found) fun (r_28, found_29) => some (r_28, found_29))))))))))))
set_option maxHeartbeats 4000000 in
set_option maxRecDepth 100000 in
theorem c_X12_count (l : Launch) (G : Nat → Nat) (D : va_G) (cA : Nat → ClassId) (ad : Nat → Nat) (sz : Nat) (d : Nat → Int32) (kept : Nat → Int32) (aside : Nat → Int32) (images : Int32) (found : Nat → Int32) (base : Int32) (at0 : Int32) (size : Int32) (fault : Int32) (opened : Int32) (isRub : Int32) (names : Nat → Int32) (code : Nat → Int32) (coded : Int32) (pile : Nat → Int32) (needs : Nat → Int32) (traced : Nat → Int32) (traceMany : Int32) (who : Int32) (bitsOf : Nat → Int32) (sizeOf : Nat → Int32) (number : Nat → Int32) (lifted : Nat → Int32) (what : Int32) (rR : Int32) (foundR : Nat → Int32) (h : fX12_count what d found traceMany = some (rR, foundR)) : Met l yX12_count wsX12_count ({ frames := 3, cells := 0, slots := 0, locals := 67 } : Room) (PW G D (tyC cA) sz (wM cA ad d kept aside images found base at0 size fault opened isRub names code coded pile needs traced traceMany who bitsOf sizeOf number lifted) [.ref (ad 0), .int what]) (QI D (tyC cA) (va_A (wM cA ad d kept aside images found base at0 size fault opened isRub names code coded pile needs traced traceMany who bitsOf sizeOf number lifted) sz) rR (wM cA ad d kept aside images foundR base at0 size fault opened isRub names code coded pile needs traced traceMany who bitsOf sizeOf number lifted)) 0 0 (va_A (wM cA ad d kept aside images found base at0 size fault opened isRub names code coded pile needs traced traceMany who bitsOf sizeOf number lifted) sz) := by
  refine ent (cc := cX12_count) (maxL := 2) (ret := (some .int)) (fun A => QI D (tyC cA) A rR (wM cA ad d kept aside images foundR base at0 size fault opened isRub names code coded pile needs traced traceMany who bitsOf sizeOf number lifted)) (by decide +kernel) rfl (Nat.le_of_ble_eq_true rfl) ?_
  intro p e s m args below meth c A ls H hx hb hml hr hlk hts hown hA hK hE hP hD hS hv hmm
  have hv : lv_has ls 2 [(0, .ref (ad 0)), (1, .int what)] := hv
  have in_12 : ∀ w ∈ u_ws RX12 TX12 23, w ∈ wsX12_count := fun _ h => List.mem_cons_of_mem _ (List.mem_append_right _ h)
  have w_0 := hts (.fieldLink RX12 7 "SpoonsLastModel" "d" "[I") (List.mem_of_getElem? (i := 1) rfl)
  have w_1 := hts (.fieldLink RX12 277 "SpoonsLastModel" "traceMany" "I") (List.mem_of_getElem? (i := 2) rfl)
  generalize hQ : MQ below _ args s 0 0 A = Q
  have hP : va_P D vwCl (wM cA ad d kept aside images found base at0 size fault opened isRub names code coded pile needs traced traceMany who bitsOf sizeOf number lifted) H := hP
  unfold fX12_count at h
  refine lv_iload_n hx hb dX12_count_0 rfl (lv_at hv 1 rfl) ?_
  by_cases c_1 : what = (0 : Int32)
  · refine lv_tableIn (tgt := 60) (off := 59) hx hb dX12_count_1 (by rw [c_1]; decide) (by rw [c_1]; decide) (by rw [c_1]; rfl) (by decide) ?_
    have h := ite_t c_1 h
    refine lv_aload_n hx hb dX12_count_60 rfl (lv_at hv 0 rfl) ?_
    refine va_get (D := D) (ci := 12) (v := .ref (ad 1)) (C := RX12) (T := TX12) (N := 23) hx hb hts in_12 hown hK hP 0 rfl rfl 0 (by decide) w_0 (fun _ h9 => h9) rfl dX12_count_61 ?_
    refine lv_iload_n hx hb dX12_count_64 rfl (lv_at hv 1 rfl) ?_
    obtain ⟨c_2, h⟩ := ckI_ex h
    refine va_iald (D := D) hx hb hK hP 1 0 rfl rfl c_2 dX12_count_65 ?_
    have h := Option.some.inj h
    have ee0 : (d (what).toNatClampNeg) = rR := congrArg (fun q => q.1) h
    have ee1 : found = foundR := congrArg (fun q => q.2) h
    subst ee0
    subst ee1
    rw [← hQ]
    exact retI hx hb hr hlk hK hP hD hS dX12_count_66 ⟨Nat.le_of_ble_eq_true rfl, Nat.le_of_ble_eq_true rfl⟩
  have h := ite_f c_1 h
  by_cases c_3 : what = (1 : Int32)
  · refine lv_tableIn (tgt := 60) (off := 59) hx hb dX12_count_1 (by rw [c_3]; decide) (by rw [c_3]; decide) (by rw [c_3]; rfl) (by decide) ?_
    have h := ite_t c_3 h
    refine lv_aload_n hx hb dX12_count_60 rfl (lv_at hv 0 rfl) ?_
    refine va_get (D := D) (ci := 12) (v := .ref (ad 1)) (C := RX12) (T := TX12) (N := 23) hx hb hts in_12 hown hK hP 0 rfl rfl 0 (by decide) w_0 (fun _ h9 => h9) rfl dX12_count_61 ?_
    refine lv_iload_n hx hb dX12_count_64 rfl (lv_at hv 1 rfl) ?_
    obtain ⟨c_4, h⟩ := ckI_ex h
    refine va_iald (D := D) hx hb hK hP 1 0 rfl rfl c_4 dX12_count_65 ?_
    have h := Option.some.inj h
    have ee0 : (d (what).toNatClampNeg) = rR := congrArg (fun q => q.1) h
    have ee1 : found = foundR := congrArg (fun q => q.2) h
    subst ee0
    subst ee1
    rw [← hQ]
    exact retI hx hb hr hlk hK hP hD hS dX12_count_66 ⟨Nat.le_of_ble_eq_true rfl, Nat.le_of_ble_eq_true rfl⟩
  have h := ite_f c_3 h
  by_cases c_5 : what = (2 : Int32)
  · refine lv_tableIn (tgt := 67) (off := 66) hx hb dX12_count_1 (by rw [c_5]; decide) (by rw [c_5]; decide) (by rw [c_5]; rfl) (by decide) ?_
    have h := ite_t c_5 h
    refine lv_aload_n hx hb dX12_count_67 rfl (lv_at hv 0 rfl) ?_
    refine va_get (D := D) (ci := 12) (v := .ref (ad 1)) (C := RX12) (T := TX12) (N := 23) hx hb hts in_12 hown hK hP 0 rfl rfl 0 (by decide) w_0 (fun _ h9 => h9) rfl dX12_count_68 ?_
    refine lv_iconst (v := (2 : Int32)) hx hb dX12_count_71 (by decide) ?_
    obtain ⟨c_6, h⟩ := ckI_ex h
    refine va_iald (D := D) hx hb hK hP 1 0 rfl rfl c_6 dX12_count_72 ?_
    obtain ⟨r_7, hf_8, h⟩ := bd_ex h
    have sb := Sb.nil hP hD hS hA
    refine calI (va_runS (As := [.int (d ((2 : Int32)).toNatClampNeg)]) (rest := []) ⟨hx, hb, hml, hown, hts⟩ (c_X12_ones l G D cA  _ (d ((2 : Int32)).toNatClampNeg) r_7 hf_8) (va_cwS 1 hts gX12_count_X12_ones rfl rfl rfl (by decide +kernel) ⟨Nat.le_of_ble_eq_true rfl, Nat.le_of_ble_eq_true rfl⟩) (pvS hE hK hS sb) rfl rfl hv.1 rfl (lv_room (Nat.le_of_ble_eq_true rfl)) dX12_count_73 ⟨Nat.le_of_ble_eq_true rfl, Nat.le_of_ble_eq_true rfl⟩) hS sb (Jn.nil hP hD) (fun H locs hP hD hS => ?_)
    have hP : va_P D vwCl (wM cA ad d kept aside images found base at0 size fault opened isRub names code coded pile needs traced traceMany who bitsOf sizeOf number lifted) H := hP
    have hD : va_D A (wM cA ad d kept aside images found base at0 size fault opened isRub names code coded pile needs traced traceMany who bitsOf sizeOf number lifted) := hD
    have h := Option.some.inj h
    have ee0 : r_7 = rR := congrArg (fun q => q.1) h
    have ee1 : found = foundR := congrArg (fun q => q.2) h
    subst ee0
    subst ee1
    rw [← hQ]
    exact retI hx hb hr hlk hK hP hD hS dX12_count_76 ⟨Nat.le_of_ble_eq_true rfl, Nat.le_of_ble_eq_true rfl⟩
  have h := ite_f c_5 h
  by_cases c_9 : what = (3 : Int32)
  · refine lv_tableIn (tgt := 77) (off := 76) hx hb dX12_count_1 (by rw [c_9]; decide) (by rw [c_9]; decide) (by rw [c_9]; rfl) (by decide) ?_
    have h := ite_t c_9 h
    refine lv_aload_n hx hb dX12_count_77 rfl (lv_at hv 0 rfl) ?_
    refine va_get (D := D) (ci := 12) (v := .ref (ad 1)) (C := RX12) (T := TX12) (N := 23) hx hb hts in_12 hown hK hP 0 rfl rfl 0 (by decide) w_0 (fun _ h9 => h9) rfl dX12_count_78 ?_
    refine lv_iconst (v := (2 : Int32)) hx hb dX12_count_81 (by decide) ?_
    obtain ⟨c_10, h⟩ := ckI_ex h
    refine va_iald (D := D) hx hb hK hP 1 0 rfl rfl c_10 dX12_count_82 ?_
    have h := Option.some.inj h
    have ee0 : (d ((2 : Int32)).toNatClampNeg) = rR := congrArg (fun q => q.1) h
    have ee1 : found = foundR := congrArg (fun q => q.2) h
    subst ee0
    subst ee1
    rw [← hQ]
    exact retI hx hb hr hlk hK hP hD hS dX12_count_83 ⟨Nat.le_of_ble_eq_true rfl, Nat.le_of_ble_eq_true rfl⟩
  have h := ite_f c_9 h
  by_cases c_11 : what = (4 : Int32)
  · refine lv_tableIn (tgt := 84) (off := 83) hx hb dX12_count_1 (by rw [c_11]; decide) (by rw [c_11]; decide) (by rw [c_11]; rfl) (by decide) ?_
    have h := ite_t c_11 h
    refine lv_aload_n hx hb dX12_count_84 rfl (lv_at hv 0 rfl) ?_
    refine lv_bipush (v := (36 : Int32)) hx hb dX12_count_85 (by decide) ?_
    refine lv_aload_n hx hb dX12_count_87 rfl (lv_at hv 0 rfl) ?_
    refine va_get (D := D) (ci := 12) (v := .ref (ad 1)) (C := RX12) (T := TX12) (N := 23) hx hb hts in_12 hown hK hP 0 rfl rfl 0 (by decide) w_0 (fun _ h9 => h9) rfl dX12_count_88 ?_
    refine lv_iconst (v := (0 : Int32)) hx hb dX12_count_91 (by decide) ?_
    obtain ⟨c_12, h⟩ := ckI_ex h
    refine va_iald (D := D) hx hb hK hP 1 0 rfl rfl c_12 dX12_count_92 ?_
    refine lv_bipush (v := (15 : Int32)) hx hb dX12_count_93 (by decide) ?_
    obtain ⟨r_13, hf_14, h⟩ := bd_ex h
    have sb := Sb.same hP hD hS hA
    refine calI (va_runV (As := [.int (36 : Int32), .int (d ((0 : Int32)).toNatClampNeg), .int (15 : Int32)]) (rest := []) ⟨hx, hb, hml, hown, hts⟩ (c_X12_sumOf l G D cA ad _ d kept aside images found base at0 size fault opened isRub names code coded pile needs traced traceMany who bitsOf sizeOf number lifted (36 : Int32) (d ((0 : Int32)).toNatClampNeg) (15 : Int32) r_13 hf_14) (cwV 3 hts gX12_count_X12_sumOf rfl rfl rfl (by decide +kernel) ⟨Nat.le_of_ble_eq_true rfl, Nat.le_of_ble_eq_true rfl⟩) (pvV hE hK hS sb (va_recv hK hP (ci := 12) (q0 := 0) rfl rfl)) rfl rfl hv.1 rfl (lv_room (Nat.le_of_ble_eq_true rfl)) dX12_count_95 ⟨Nat.le_of_ble_eq_true rfl, Nat.le_of_ble_eq_true rfl⟩) hS sb (Jn.same sb) (fun H locs hP hD hS => ?_)
    have hP : va_P D vwCl (wM cA ad d kept aside images found base at0 size fault opened isRub names code coded pile needs traced traceMany who bitsOf sizeOf number lifted) H := hP
    have hD : va_D A (wM cA ad d kept aside images found base at0 size fault opened isRub names code coded pile needs traced traceMany who bitsOf sizeOf number lifted) := hD
    have h := Option.some.inj h
    have ee0 : r_13 = rR := congrArg (fun q => q.1) h
    have ee1 : found = foundR := congrArg (fun q => q.2) h
    subst ee0
    subst ee1
    rw [← hQ]
    exact retI hx hb hr hlk hK hP hD hS dX12_count_98 ⟨Nat.le_of_ble_eq_true rfl, Nat.le_of_ble_eq_true rfl⟩
  have h := ite_f c_11 h
  by_cases c_15 : what = (5 : Int32)
  · refine lv_tableIn (tgt := 99) (off := 98) hx hb dX12_count_1 (by rw [c_15]; decide) (by rw [c_15]; decide) (by rw [c_15]; rfl) (by decide) ?_
    have h := ite_t c_15 h
    refine lv_aload_n hx hb dX12_count_99 rfl (lv_at hv 0 rfl) ?_
    refine lv_bipush (v := (6 : Int32)) hx hb dX12_count_100 (by decide) ?_
    refine lv_bipush (v := (12 : Int32)) hx hb dX12_count_102 (by decide) ?_
    refine lv_iconst (v := (1 : Int32)) hx hb dX12_count_104 (by decide) ?_
    obtain ⟨r_16, hf_17, h⟩ := bd_ex h
    have sb := Sb.same hP hD hS hA
    refine calI (va_runV (As := [.int (6 : Int32), .int (12 : Int32), .int (1 : Int32)]) (rest := []) ⟨hx, hb, hml, hown, hts⟩ (c_X12_sumOf l G D cA ad _ d kept aside images found base at0 size fault opened isRub names code coded pile needs traced traceMany who bitsOf sizeOf number lifted (6 : Int32) (12 : Int32) (1 : Int32) r_16 hf_17) (cwV 3 hts gX12_count_X12_sumOf rfl rfl rfl (by decide +kernel) ⟨Nat.le_of_ble_eq_true rfl, Nat.le_of_ble_eq_true rfl⟩) (pvV hE hK hS sb (va_recv hK hP (ci := 12) (q0 := 0) rfl rfl)) rfl rfl hv.1 rfl (lv_room (Nat.le_of_ble_eq_true rfl)) dX12_count_105 ⟨Nat.le_of_ble_eq_true rfl, Nat.le_of_ble_eq_true rfl⟩) hS sb (Jn.same sb) (fun H locs hP hD hS => ?_)
    have hP : va_P D vwCl (wM cA ad d kept aside images found base at0 size fault opened isRub names code coded pile needs traced traceMany who bitsOf sizeOf number lifted) H := hP
    have hD : va_D A (wM cA ad d kept aside images found base at0 size fault opened isRub names code coded pile needs traced traceMany who bitsOf sizeOf number lifted) := hD
    have h := Option.some.inj h
    have ee0 : r_16 = rR := congrArg (fun q => q.1) h
    have ee1 : found = foundR := congrArg (fun q => q.2) h
    subst ee0
    subst ee1
    rw [← hQ]
    exact retI hx hb hr hlk hK hP hD hS dX12_count_108 ⟨Nat.le_of_ble_eq_true rfl, Nat.le_of_ble_eq_true rfl⟩
  have h := ite_f c_15 h
  by_cases c_18 : what = (6 : Int32)
  · refine lv_tableIn (tgt := 109) (off := 108) hx hb dX12_count_1 (by rw [c_18]; decide) (by rw [c_18]; decide) (by rw [c_18]; rfl) (by decide) ?_
    have h := ite_t c_18 h
    refine lv_aload_n hx hb dX12_count_109 rfl (lv_at hv 0 rfl) ?_
    obtain ⟨r_19, hf_20, h⟩ := bd_ex h
    have sb := Sb.same hP hD hS hA
    refine calI (va_runV (As := []) (rest := []) ⟨hx, hb, hml, hown, hts⟩ (c_X12_onAny l G D cA ad _ d kept aside images found base at0 size fault opened isRub names code coded pile needs traced traceMany who bitsOf sizeOf number lifted r_19 hf_20) (cwV 0 hts gX12_count_X12_onAny rfl rfl rfl (by decide +kernel) ⟨Nat.le_of_ble_eq_true rfl, Nat.le_of_ble_eq_true rfl⟩) (pvV hE hK hS sb (va_recv hK hP (ci := 12) (q0 := 0) rfl rfl)) rfl rfl hv.1 rfl (lv_room (Nat.le_of_ble_eq_true rfl)) dX12_count_110 ⟨Nat.le_of_ble_eq_true rfl, Nat.le_of_ble_eq_true rfl⟩) hS sb (Jn.same sb) (fun H locs hP hD hS => ?_)
    have hP : va_P D vwCl (wM cA ad d kept aside images found base at0 size fault opened isRub names code coded pile needs traced traceMany who bitsOf sizeOf number lifted) H := hP
    have hD : va_D A (wM cA ad d kept aside images found base at0 size fault opened isRub names code coded pile needs traced traceMany who bitsOf sizeOf number lifted) := hD
    have h := Option.some.inj h
    have ee0 : r_19 = rR := congrArg (fun q => q.1) h
    have ee1 : found = foundR := congrArg (fun q => q.2) h
    subst ee0
    subst ee1
    rw [← hQ]
    exact retI hx hb hr hlk hK hP hD hS dX12_count_113 ⟨Nat.le_of_ble_eq_true rfl, Nat.le_of_ble_eq_true rfl⟩
  have h := ite_f c_18 h
  by_cases c_21 : what = (7 : Int32)
  · refine lv_tableIn (tgt := 114) (off := 113) hx hb dX12_count_1 (by rw [c_21]; decide) (by rw [c_21]; decide) (by rw [c_21]; rfl) (by decide) ?_
    have h := ite_t c_21 h
    refine lv_aload_n hx hb dX12_count_114 rfl (lv_at hv 0 rfl) ?_
    refine va_get (D := D) (ci := 12) (v := .ref (ad 1)) (C := RX12) (T := TX12) (N := 23) hx hb hts in_12 hown hK hP 0 rfl rfl 0 (by decide) w_0 (fun _ h9 => h9) rfl dX12_count_115 ?_
    refine lv_iconst (v := (4 : Int32)) hx hb dX12_count_118 (by decide) ?_
    obtain ⟨c_22, h⟩ := ckI_ex h
    refine va_iald (D := D) hx hb hK hP 1 0 rfl rfl c_22 dX12_count_119 ?_
    have h := Option.some.inj h
    have ee0 : (d ((4 : Int32)).toNatClampNeg) = rR := congrArg (fun q => q.1) h
    have ee1 : found = foundR := congrArg (fun q => q.2) h
    subst ee0
    subst ee1
    rw [← hQ]
    exact retI hx hb hr hlk hK hP hD hS dX12_count_120 ⟨Nat.le_of_ble_eq_true rfl, Nat.le_of_ble_eq_true rfl⟩
  have h := ite_f c_21 h
  by_cases c_23 : what = (8 : Int32)
  · refine lv_tableIn (tgt := 121) (off := 120) hx hb dX12_count_1 (by rw [c_23]; decide) (by rw [c_23]; decide) (by rw [c_23]; rfl) (by decide) ?_
    have h := ite_t c_23 h
    refine lv_aload_n hx hb dX12_count_121 rfl (lv_at hv 0 rfl) ?_
    refine va_get (D := D) (ci := 12) (v := .ref (ad 1)) (C := RX12) (T := TX12) (N := 23) hx hb hts in_12 hown hK hP 0 rfl rfl 0 (by decide) w_0 (fun _ h9 => h9) rfl dX12_count_122 ?_
    refine lv_iconst (v := (5 : Int32)) hx hb dX12_count_125 (by decide) ?_
    obtain ⟨c_24, h⟩ := ckI_ex h
    refine va_iald (D := D) hx hb hK hP 1 0 rfl rfl c_24 dX12_count_126 ?_
    have h := Option.some.inj h
    have ee0 : (d ((5 : Int32)).toNatClampNeg) = rR := congrArg (fun q => q.1) h
    have ee1 : found = foundR := congrArg (fun q => q.2) h
    subst ee0
    subst ee1
    rw [← hQ]
    exact retI hx hb hr hlk hK hP hD hS dX12_count_127 ⟨Nat.le_of_ble_eq_true rfl, Nat.le_of_ble_eq_true rfl⟩
  have h := ite_f c_23 h
  by_cases c_25 : what = (9 : Int32)
  · refine lv_tableIn (tgt := 128) (off := 127) hx hb dX12_count_1 (by rw [c_25]; decide) (by rw [c_25]; decide) (by rw [c_25]; rfl) (by decide) ?_
    have h := ite_t c_25 h
    refine lv_aload_n hx hb dX12_count_128 rfl (lv_at hv 0 rfl) ?_
    refine va_get (D := D) (ci := 12) (v := .int traceMany) (C := RX12) (T := TX12) (N := 23) hx hb hts in_12 hown hK hP 0 rfl rfl 17 (by decide) w_1 (fun _ h9 => h9) rfl dX12_count_129 ?_
    have h := Option.some.inj h
    have ee0 : traceMany = rR := congrArg (fun q => q.1) h
    have ee1 : found = foundR := congrArg (fun q => q.2) h
    subst ee0
    subst ee1
    rw [← hQ]
    exact retI hx hb hr hlk hK hP hD hS dX12_count_132 ⟨Nat.le_of_ble_eq_true rfl, Nat.le_of_ble_eq_true rfl⟩
  have h := ite_f c_25 h
  by_cases c_26 : what = (10 : Int32)
  · refine lv_tableIn (tgt := 133) (off := 132) hx hb dX12_count_1 (by rw [c_26]; decide) (by rw [c_26]; decide) (by rw [c_26]; rfl) (by decide) ?_
    have h := ite_t c_26 h
    refine lv_aload_n hx hb dX12_count_133 rfl (lv_at hv 0 rfl) ?_
    refine va_get (D := D) (ci := 12) (v := .ref (ad 1)) (C := RX12) (T := TX12) (N := 23) hx hb hts in_12 hown hK hP 0 rfl rfl 0 (by decide) w_0 (fun _ h9 => h9) rfl dX12_count_134 ?_
    refine lv_iconst (v := (3 : Int32)) hx hb dX12_count_137 (by decide) ?_
    obtain ⟨c_27, h⟩ := ckI_ex h
    refine va_iald (D := D) hx hb hK hP 1 0 rfl rfl c_27 dX12_count_138 ?_
    have h := Option.some.inj h
    have ee0 : (d ((3 : Int32)).toNatClampNeg) = rR := congrArg (fun q => q.1) h
    have ee1 : found = foundR := congrArg (fun q => q.2) h
    subst ee0
    subst ee1
    rw [← hQ]
    exact retI hx hb hr hlk hK hP hD hS dX12_count_139 ⟨Nat.le_of_ble_eq_true rfl, Nat.le_of_ble_eq_true rfl⟩
  have h := ite_f c_26 h
  have nc_1 := lv_neT c_1 (show ((0 : Int32)).toInt = 0 from rfl)
  have nc_3 := lv_neT c_3 (show ((1 : Int32)).toInt = 1 from rfl)
  have nc_5 := lv_neT c_5 (show ((2 : Int32)).toInt = 2 from rfl)
  have nc_9 := lv_neT c_9 (show ((3 : Int32)).toInt = 3 from rfl)
  have nc_11 := lv_neT c_11 (show ((4 : Int32)).toInt = 4 from rfl)
  have nc_15 := lv_neT c_15 (show ((5 : Int32)).toInt = 5 from rfl)
  have nc_18 := lv_neT c_18 (show ((6 : Int32)).toInt = 6 from rfl)
  have nc_21 := lv_neT c_21 (show ((7 : Int32)).toInt = 7 from rfl)
  have nc_23 := lv_neT c_23 (show ((8 : Int32)).toInt = 8 from rfl)
  have nc_25 := lv_neT c_25 (show ((9 : Int32)).toInt = 9 from rfl)
  have nc_26 := lv_neT c_26 (show ((10 : Int32)).toInt = 10 from rfl)
  refine lv_tableOut (tgt := 140) hx hb dX12_count_1 (by omega) (by decide) ?_
  refine lv_aload_n hx hb dX12_count_140 rfl (lv_at hv 0 rfl) ?_
  refine lv_iconst (v := (1 : Int32)) hx hb dX12_count_141 (by decide) ?_
  obtain ⟨⟨r_28, found_29⟩, hf_30, h⟩ := bd_ex h
  have sb := Sb.same hP hD hS hA
  refine calI (va_runV (As := [.int (1 : Int32)]) (rest := []) ⟨hx, hb, hml, hown, hts⟩ (c_X12_finds l G D cA ad _ d kept aside images found base at0 size fault opened isRub names code coded pile needs traced traceMany who bitsOf sizeOf number lifted (1 : Int32) r_28 found_29 hf_30) (cwV 1 hts gX12_count_X12_finds rfl rfl rfl (by decide +kernel) ⟨Nat.le_of_ble_eq_true rfl, Nat.le_of_ble_eq_true rfl⟩) (pvV hE hK hS sb (va_recv hK hP (ci := 12) (q0 := 0) rfl rfl)) rfl rfl hv.1 rfl (lv_room (Nat.le_of_ble_eq_true rfl)) dX12_count_142 ⟨Nat.le_of_ble_eq_true rfl, Nat.le_of_ble_eq_true rfl⟩) hS sb (Jn.same sb) (fun H locs hP hD hS => ?_)
  have hP : va_P D vwCl (wM cA ad d kept aside images found_29 base at0 size fault opened isRub names code coded pile needs traced traceMany who bitsOf sizeOf number lifted) H := hP
  have hD : va_D A (wM cA ad d kept aside images found_29 base at0 size fault opened isRub names code coded pile needs traced traceMany who bitsOf sizeOf number lifted) := hD
  have h := Option.some.inj h
  have ee0 : r_28 = rR := congrArg (fun q => q.1) h
  have ee1 : found_29 = foundR := congrArg (fun q => q.2) h
  subst ee0
  subst ee1
  rw [← hQ]
  exact retI hx hb hr hlk hK hP hD hS dX12_count_145 ⟨Nat.le_of_ble_eq_true rfl, Nat.le_of_ble_eq_true rfl⟩

def fX12_told (k : Int32) (found : Nat → Int32) : Option (Int32 × (Nat → Int32)) :=
  bd (fX12_in ((k).toInt64) (1 : Int64) (5 : Int64)) fun r_1 => (if r_1 = 0 then bd (fX12_finds (1 : Int32) found) fun (r_4, found_5) => some (r_4, found_5) else ckI k 6 (some ((found (k).toNatClampNeg), found)))
set_option maxHeartbeats 4000000 in
set_option maxRecDepth 100000 in
theorem c_X12_told (l : Launch) (G : Nat → Nat) (D : va_G) (cA : Nat → ClassId) (ad : Nat → Nat) (sz : Nat) (d : Nat → Int32) (kept : Nat → Int32) (aside : Nat → Int32) (images : Int32) (found : Nat → Int32) (base : Int32) (at0 : Int32) (size : Int32) (fault : Int32) (opened : Int32) (isRub : Int32) (names : Nat → Int32) (code : Nat → Int32) (coded : Int32) (pile : Nat → Int32) (needs : Nat → Int32) (traced : Nat → Int32) (traceMany : Int32) (who : Int32) (bitsOf : Nat → Int32) (sizeOf : Nat → Int32) (number : Nat → Int32) (lifted : Nat → Int32) (k : Int32) (rR : Int32) (foundR : Nat → Int32) (h : fX12_told k found = some (rR, foundR)) : Met l yX12_told wsX12_told ({ frames := 1, cells := 0, slots := 0, locals := 25 } : Room) (PW G D (tyC cA) sz (wM cA ad d kept aside images found base at0 size fault opened isRub names code coded pile needs traced traceMany who bitsOf sizeOf number lifted) [.ref (ad 0), .int k]) (QI D (tyC cA) (va_A (wM cA ad d kept aside images found base at0 size fault opened isRub names code coded pile needs traced traceMany who bitsOf sizeOf number lifted) sz) rR (wM cA ad d kept aside images foundR base at0 size fault opened isRub names code coded pile needs traced traceMany who bitsOf sizeOf number lifted)) 0 0 (va_A (wM cA ad d kept aside images found base at0 size fault opened isRub names code coded pile needs traced traceMany who bitsOf sizeOf number lifted) sz) := by
  refine ent (cc := cX12_told) (maxL := 2) (ret := (some .int)) (fun A => QI D (tyC cA) A rR (wM cA ad d kept aside images foundR base at0 size fault opened isRub names code coded pile needs traced traceMany who bitsOf sizeOf number lifted)) (by decide +kernel) rfl (Nat.le_of_ble_eq_true rfl) ?_
  intro p e s m args below meth c A ls H hx hb hml hr hlk hts hown hA hK hE hP hD hS hv hmm
  have hv : lv_has ls 2 [(0, .ref (ad 0)), (1, .int k)] := hv
  have in_12 : ∀ w ∈ u_ws RX12 TX12 23, w ∈ wsX12_told := fun _ h => List.mem_cons_of_mem _ (List.mem_append_right _ h)
  have w_0 := hts (.constantLong RX12 207 (5)) (List.mem_of_getElem? (i := 1) rfl)
  have w_1 := hts (.fieldLink RX12 19 "SpoonsLastModel" "found" "[I") (List.mem_of_getElem? (i := 2) rfl)
  generalize hQ : MQ below _ args s 0 0 A = Q
  have hP : va_P D vwCl (wM cA ad d kept aside images found base at0 size fault opened isRub names code coded pile needs traced traceMany who bitsOf sizeOf number lifted) H := hP
  unfold fX12_told at h
  refine lv_iload_n hx hb dX12_told_0 rfl (lv_at hv 1 rfl) ?_
  refine lv_i2l (v := (k).toInt64) hx hb dX12_told_1 rfl ?_
  refine lv_lconst (v := (1 : Int64)) hx hb dX12_told_2 (by decide) ?_
  refine lv_ldc2 (v := (5 : Int64)) hx hb hown w_0 dX12_told_3 ?_
  obtain ⟨r_1, hf_2, h⟩ := bd_ex h
  have sb := Sb.nil hP hD hS hA
  refine calI (va_runS (As := [.long (k).toInt64, .long (1 : Int64), .long (5 : Int64)]) (rest := []) ⟨hx, hb, hml, hown, hts⟩ (c_X12_in l G D cA  _ ((k).toInt64) (1 : Int64) (5 : Int64) r_1 hf_2) (va_cwS 3 hts gX12_told_X12_in rfl rfl rfl (by decide +kernel) ⟨Nat.le_of_ble_eq_true rfl, Nat.le_of_ble_eq_true rfl⟩) (pvS hE hK hS sb) rfl rfl hv.1 rfl (lv_room (Nat.le_of_ble_eq_true rfl)) dX12_told_6 ⟨Nat.le_of_ble_eq_true rfl, Nat.le_of_ble_eq_true rfl⟩) hS sb (Jn.nil hP hD) (fun H locs hP hD hS => ?_)
  have hP : va_P D vwCl (wM cA ad d kept aside images found base at0 size fault opened isRub names code coded pile needs traced traceMany who bitsOf sizeOf number lifted) H := hP
  have hD : va_D A (wM cA ad d kept aside images found base at0 size fault opened isRub names code coded pile needs traced traceMany who bitsOf sizeOf number lifted) := hD
  refine lv_if_eq (tgt := 21) hx hb dX12_told_9 (by decide) (fun c_3 => ?_) (fun c_3 => ?_)
  · have h := ite_t c_3 h
    refine lv_aload_n hx hb dX12_told_21 rfl (lv_at hv 0 rfl) ?_
    refine lv_iconst (v := (1 : Int32)) hx hb dX12_told_22 (by decide) ?_
    obtain ⟨⟨r_4, found_5⟩, hf_6, h⟩ := bd_ex h
    have sb := Sb.same hP hD hS hA
    refine calI (va_runV (As := [.int (1 : Int32)]) (rest := []) ⟨hx, hb, hml, hown, hts⟩ (c_X12_finds l G D cA ad _ d kept aside images found base at0 size fault opened isRub names code coded pile needs traced traceMany who bitsOf sizeOf number lifted (1 : Int32) r_4 found_5 hf_6) (cwV 1 hts gX12_told_X12_finds rfl rfl rfl (by decide +kernel) ⟨Nat.le_of_ble_eq_true rfl, Nat.le_of_ble_eq_true rfl⟩) (pvV hE hK hS sb (va_recv hK hP (ci := 12) (q0 := 0) rfl rfl)) rfl rfl hv.1 rfl (lv_room (Nat.le_of_ble_eq_true rfl)) dX12_told_23 ⟨Nat.le_of_ble_eq_true rfl, Nat.le_of_ble_eq_true rfl⟩) hS sb (Jn.same sb) (fun H locs hP hD hS => ?_)
    have hP : va_P D vwCl (wM cA ad d kept aside images found_5 base at0 size fault opened isRub names code coded pile needs traced traceMany who bitsOf sizeOf number lifted) H := hP
    have hD : va_D A (wM cA ad d kept aside images found_5 base at0 size fault opened isRub names code coded pile needs traced traceMany who bitsOf sizeOf number lifted) := hD
    have h := Option.some.inj h
    have ee0 : r_4 = rR := congrArg (fun q => q.1) h
    have ee1 : found_5 = foundR := congrArg (fun q => q.2) h
    subst ee0
    subst ee1
    rw [← hQ]
    exact retI hx hb hr hlk hK hP hD hS dX12_told_26 ⟨Nat.le_of_ble_eq_true rfl, Nat.le_of_ble_eq_true rfl⟩
  · have h := ite_f c_3 h
    refine lv_aload_n hx hb dX12_told_12 rfl (lv_at hv 0 rfl) ?_
    refine va_get (D := D) (ci := 12) (v := .ref (ad 5)) (C := RX12) (T := TX12) (N := 23) hx hb hts in_12 hown hK hP 0 rfl rfl 4 (by decide) w_1 (fun _ h9 => h9) rfl dX12_told_13 ?_
    refine lv_iload_n hx hb dX12_told_16 rfl (lv_at hv 1 rfl) ?_
    obtain ⟨c_7, h⟩ := ckI_ex h
    refine va_iald (D := D) hx hb hK hP 4 0 rfl rfl c_7 dX12_told_17 ?_
    refine lv_goto (tgt := 26) hx hb dX12_told_18 (by decide) ?_
    have h := Option.some.inj h
    have ee0 : (found (k).toNatClampNeg) = rR := congrArg (fun q => q.1) h
    have ee1 : found = foundR := congrArg (fun q => q.2) h
    subst ee0
    subst ee1
    rw [← hQ]
    exact retI hx hb hr hlk hK hP hD hS dX12_told_26 ⟨Nat.le_of_ble_eq_true rfl, Nat.le_of_ble_eq_true rfl⟩

