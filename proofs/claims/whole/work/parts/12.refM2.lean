def fX12_product_31 (ru : (Nat → Int32) → Int32 → Int32 → Int32 → Int32 → Int32 → Int32 → (Nat → Int32) → Int32 → Option (Int32 × Int32 × Int32 × (Nat → Int32) × Int32)) (d : Nat → Int32) (base : Int32) (at0_31 : Int32) (size : Int32) (fault_31 : Int32) (opened_31 : Int32) (isRub : Int32) (code_31 : Nat → Int32) (coded_31 : Int32) : Option ((Int32 × Int32 × Int32 × (Nat → Int32) × Int32) ⊕ (Int32 × Int32 × Int32 × (Nat → Int32) × Int32)) :=
  bd (fX12_here d base at0_31 size fault_31) fun r_10 => bnd (at0_31 + (1 : Int32)) fun y_12 => bd (ru d base y_12 size fault_31 opened_31 isRub code_31 coded_31) fun (at0_13, fault_14, opened_15, code_16, coded_17) => bd (fX12_lay ((20000 : Int32) + r_10) fault_14 code_16 coded_17) fun (code_19, coded_20) => some (.inl (at0_13, fault_14, opened_15, code_19, coded_20))
def fX12_product_4B (ru : (Nat → Int32) → Int32 → Int32 → Int32 → Int32 → Int32 → Int32 → (Nat → Int32) → Int32 → Option (Int32 × Int32 × Int32 × (Nat → Int32) × Int32)) (d : Nat → Int32) (base : Int32) (size : Int32) (isRub : Int32) (at0_4b : Int32) (fault_4b : Int32) (opened_4b : Int32) (code_4b : Nat → Int32) (coded_4b : Int32) : Option ((Int32 × Int32 × Int32 × (Nat → Int32) × Int32) ⊕ (Int32 × Int32 × Int32 × (Nat → Int32) × Int32)) :=
  bd (fX12_here d base at0_4b size fault_4b) fun r_7 => (if r_7 = (42 : Int32) then fX12_product_31 ru d base at0_4b size fault_4b opened_4b isRub code_4b coded_4b else bd (fX12_here d base at0_4b size fault_4b) fun r_22 => (if r_22 = (47 : Int32) then fX12_product_31 ru d base at0_4b size fault_4b opened_4b isRub code_4b coded_4b else bd (fX12_here d base at0_4b size fault_4b) fun r_25 => (if r_25 = (37 : Int32) then fX12_product_31 ru d base at0_4b size fault_4b opened_4b isRub code_4b coded_4b else some (.inr (at0_4b, fault_4b, opened_4b, code_4b, coded_4b)))))
def fX12_product_4 (ru : (Nat → Int32) → Int32 → Int32 → Int32 → Int32 → Int32 → Int32 → (Nat → Int32) → Int32 → Option (Int32 × Int32 × Int32 × (Nat → Int32) × Int32)) (d : Nat → Int32) (base : Int32) (at0_4 : Int32) (size : Int32) (fault_4 : Int32) (opened_4 : Int32) (isRub : Int32) (code_4 : Nat → Int32) (coded_4 : Int32) : Option (Int32 × Int32 × Int32 × (Nat → Int32) × Int32) :=
  bd (lp (fun σ : Int32 × Int32 × Int32 × (Nat → Int32) × Int32 => fX12_product_4B ru d base size isRub (σ.1) (σ.2.1) (σ.2.2.1) (σ.2.2.2.1) (σ.2.2.2.2)) FU (at0_4, fault_4, opened_4, code_4, coded_4)) fun ρ => match ρ with | (at0_4r, fault_4r, opened_4r, code_4r, coded_4r) => some (at0_4r, fault_4r, opened_4r, code_4r, coded_4r)
def fX12_product (ru : (Nat → Int32) → Int32 → Int32 → Int32 → Int32 → Int32 → Int32 → (Nat → Int32) → Int32 → Option (Int32 × Int32 × Int32 × (Nat → Int32) × Int32)) (d : Nat → Int32) (base : Int32) (at0 : Int32) (size : Int32) (fault : Int32) (opened : Int32) (isRub : Int32) (code : Nat → Int32) (coded : Int32) : Option (Int32 × Int32 × Int32 × (Nat → Int32) × Int32) :=
  bd (ru d base at0 size fault opened isRub code coded) fun (at0_1, fault_2, opened_3, code_4, coded_5) => fX12_product_4 ru d base at0_1 size fault_2 opened_3 isRub code_4 coded_5
set_option maxHeartbeats 4000000 in
set_option maxRecDepth 100000 in
theorem c_X12_product (l : Launch) (G : Nat → Nat) (D : va_G) (cA : Nat → ClassId) (ad : Nat → Nat) (sz : Nat) (d : Nat → Int32) (kept : Nat → Int32) (aside : Nat → Int32) (images : Int32) (found : Nat → Int32) (base : Int32) (at0 : Int32) (size : Int32) (fault : Int32) (opened : Int32) (isRub : Int32) (names : Nat → Int32) (code : Nat → Int32) (coded : Int32) (pile : Nat → Int32) (needs : Nat → Int32) (traced : Nat → Int32) (traceMany : Int32) (who : Int32) (bitsOf : Nat → Int32) (sizeOf : Nat → Int32) (number : Nat → Int32) (lifted : Nat → Int32) (ru : (Nat → Int32) → Int32 → Int32 → Int32 → Int32 → Int32 → Int32 → (Nat → Int32) → Int32 → Option (Int32 × Int32 × Int32 × (Nat → Int32) × Int32)) (a b : Nat) (hru : ∀ (sz : Nat) (d : Nat → Int32) (kept : Nat → Int32) (aside : Nat → Int32) (images : Int32) (found : Nat → Int32) (base : Int32) (at0 : Int32) (size : Int32) (fault : Int32) (opened : Int32) (isRub : Int32) (names : Nat → Int32) (code : Nat → Int32) (coded : Int32) (pile : Nat → Int32) (needs : Nat → Int32) (traced : Nat → Int32) (traceMany : Int32) (who : Int32) (bitsOf : Nat → Int32) (sizeOf : Nat → Int32) (number : Nat → Int32) (lifted : Nat → Int32) (at0R : Int32) (faultR : Int32) (openedR : Int32) (codeR : Nat → Int32) (codedR : Int32), ru d base at0 size fault opened isRub code coded = some (at0R, faultR, openedR, codeR, codedR) → Met l yX12_unit wsX12_unit ({ frames := a, cells := 0, slots := 0, locals := b } : Room) (PW G D (tyC cA) sz (wM cA ad d kept aside images found base at0 size fault opened isRub names code coded pile needs traced traceMany who bitsOf sizeOf number lifted) [.ref (ad 0)]) (QV D (tyC cA) (va_A (wM cA ad d kept aside images found base at0 size fault opened isRub names code coded pile needs traced traceMany who bitsOf sizeOf number lifted) sz) (wM cA ad d kept aside images found base at0R size faultR openedR isRub names codeR codedR pile needs traced traceMany who bitsOf sizeOf number lifted)) 0 0 (va_A (wM cA ad d kept aside images found base at0 size fault opened isRub names code coded pile needs traced traceMany who bitsOf sizeOf number lifted) sz))  (at0R : Int32) (faultR : Int32) (openedR : Int32) (codeR : Nat → Int32) (codedR : Int32) (h : fX12_product ru d base at0 size fault opened isRub code coded = some (at0R, faultR, openedR, codeR, codedR)) : Met l yX12_product wsX12_product ({ frames := a + 1, cells := 0, slots := 0, locals := b + 24 } : Room) (PW G D (tyC cA) sz (wM cA ad d kept aside images found base at0 size fault opened isRub names code coded pile needs traced traceMany who bitsOf sizeOf number lifted) [.ref (ad 0)]) (QV D (tyC cA) (va_A (wM cA ad d kept aside images found base at0 size fault opened isRub names code coded pile needs traced traceMany who bitsOf sizeOf number lifted) sz) (wM cA ad d kept aside images found base at0R size faultR openedR isRub names codeR codedR pile needs traced traceMany who bitsOf sizeOf number lifted)) 0 0 (va_A (wM cA ad d kept aside images found base at0 size fault opened isRub names code coded pile needs traced traceMany who bitsOf sizeOf number lifted) sz) := by
  refine ent (cc := cX12_product) (maxL := 2) (ret := none) (fun A => QV D (tyC cA) A (wM cA ad d kept aside images found base at0R size faultR openedR isRub names codeR codedR pile needs traced traceMany who bitsOf sizeOf number lifted)) (by decide +kernel) rfl (Nat.le_of_ble_eq_true rfl) ?_
  intro p e s m args below meth c A ls H hx hb hml hr hlk hts hown hA hK hE hP hD hS hv hmm
  have hv : lv_has ls 2 [(0, .ref (ad 0))] := hv
  have in_12 : ∀ w ∈ u_ws RX12 TX12 23, w ∈ wsX12_product := fun _ h => List.mem_cons_of_mem _ (List.mem_append_right _ h)
  have w_0 := hts (.fieldLink RX12 58 "SpoonsLastModel" "at" "I") (by decide +kernel)
  generalize hQ : MQ below _ args s 0 0 A = Q
  have C_4 : ∀ (at0_4 : Int32) (fault_4 : Int32) (opened_4 : Int32) (code_4 : Nat → Int32) (coded_4 : Int32), fX12_product_4 ru d base at0_4 size fault_4 opened_4 isRub code_4 coded_4 = some (at0R, faultR, openedR, codeR, codedR) → WW p l e ({ frames := a + 1, cells := 0, slots := 0, locals := b + 24 } : Room) s m args below meth c D A 0 0 Q (wM cA ad d kept aside images found base at0_4 size fault_4 opened_4 isRub names code_4 coded_4 pile needs traced traceMany who bitsOf sizeOf number lifted) 2 [(0, .ref (ad 0))] 4 [] := by
    intro at0_4 fault_4 opened_4 code_4 coded_4 h
    unfold fX12_product_4 at h
    obtain ⟨⟨at0_4r, fault_4r, opened_4r, code_4r, coded_4r⟩, ho, h⟩ := bd_ex h
    have LE : WW p l e ({ frames := a + 1, cells := 0, slots := 0, locals := b + 24 } : Room) s m args below meth c D A 0 0 Q (wM cA ad d kept aside images found base at0_4r size fault_4r opened_4r isRub names code_4r coded_4r pile needs traced traceMany who bitsOf sizeOf number lifted) 2 [] 62 [] := by
      intro H locs ls hP hD hS hv
      have h := Option.some.inj h
      have ee0 : at0_4r = at0R := congrArg (fun q => q.1) h
      have ee1 : fault_4r = faultR := congrArg (fun q => q.2.1) h
      have ee2 : opened_4r = openedR := congrArg (fun q => q.2.2.1) h
      have ee3 : code_4r = codeR := congrArg (fun q => q.2.2.2.1) h
      have ee4 : coded_4r = codedR := congrArg (fun q => q.2.2.2.2) h
      subst ee0
      subst ee1
      subst ee2
      subst ee3
      subst ee4
      rw [← hQ]
      exact retV hx hb hr hlk hK hP hD hS dX12_product_62 ⟨Nat.le_of_ble_eq_true rfl, Nat.le_of_ble_eq_true rfl⟩
    have LB : ∀ (nf : Nat) (at0_4b : Int32) (fault_4b : Int32) (opened_4b : Int32) (code_4b : Nat → Int32) (coded_4b : Int32), lp (fun σ : Int32 × Int32 × Int32 × (Nat → Int32) × Int32 => fX12_product_4B ru d base size isRub (σ.1) (σ.2.1) (σ.2.2.1) (σ.2.2.2.1) (σ.2.2.2.2)) nf (at0_4b, fault_4b, opened_4b, code_4b, coded_4b) = some (at0_4r, fault_4r, opened_4r, code_4r, coded_4r) → WW p l e ({ frames := a + 1, cells := 0, slots := 0, locals := b + 24 } : Room) s m args below meth c D A 0 0 Q (wM cA ad d kept aside images found base at0_4b size fault_4b opened_4b isRub names code_4b coded_4b pile needs traced traceMany who bitsOf sizeOf number lifted) 2 [(0, .ref (ad 0))] 4 [] := by
      intro nf
      induction nf with
      | zero => intro at0_4b fault_4b opened_4b code_4b coded_4b hl; cases hl
      | succ nf ih =>
        intro at0_4b fault_4b opened_4b code_4b coded_4b hl
        obtain ⟨x, h, hl⟩ := lp_ex hl
        have h : fX12_product_4B ru d base size isRub at0_4b fault_4b opened_4b code_4b coded_4b = some x := h
        unfold fX12_product_4B at h
        have C_31 : ∀ (at0_31 : Int32) (fault_31 : Int32) (opened_31 : Int32) (code_31 : Nat → Int32) (coded_31 : Int32) (x : (Int32 × Int32 × Int32 × (Nat → Int32) × Int32) ⊕ (Int32 × Int32 × Int32 × (Nat → Int32) × Int32)), fX12_product_31 ru d base at0_31 size fault_31 opened_31 isRub code_31 coded_31 = some x → lpk (fun σ : Int32 × Int32 × Int32 × (Nat → Int32) × Int32 => fX12_product_4B ru d base size isRub (σ.1) (σ.2.1) (σ.2.2.1) (σ.2.2.2.1) (σ.2.2.2.2)) nf x = some (at0_4r, fault_4r, opened_4r, code_4r, coded_4r) → WW p l e ({ frames := a + 1, cells := 0, slots := 0, locals := b + 24 } : Room) s m args below meth c D A 0 0 Q (wM cA ad d kept aside images found base at0_31 size fault_31 opened_31 isRub names code_31 coded_31 pile needs traced traceMany who bitsOf sizeOf number lifted) 2 [(0, .ref (ad 0))] 31 [] := by
          intro at0_31 fault_31 opened_31 code_31 coded_31 x h hl
          unfold fX12_product_31 at h
          intro H locs ls hP hD hS hv
          refine lv_aload_n hx hb dX12_product_31 rfl (lv_at hv 0 rfl) ?_
          obtain ⟨r_10, hf_11, h⟩ := bd_ex h
          have sb := Sb.same hP hD hS hA
          refine calI (va_runV (As := []) (rest := []) ⟨hx, hb, hml, hown, hts⟩ (c_X12_here l G D cA ad _ d kept aside images found base at0_31 size fault_31 opened_31 isRub names code_31 coded_31 pile needs traced traceMany who bitsOf sizeOf number lifted r_10 hf_11) (cwV 0 hts gX12_product_X12_here rfl rfl rfl (by decide +kernel) ⟨show 0 + 1 ≤ a + 1 by omega, show 8 + (1 + 11) + 0 ≤ b + 24 by omega⟩) (pvV hE hK hS sb (va_recv hK hP (ci := 12) (q0 := 0) rfl rfl)) rfl rfl hv.1 rfl (lv_room (Nat.le_of_ble_eq_true rfl)) dX12_product_32 ⟨Nat.le_of_ble_eq_true rfl, Nat.le_of_ble_eq_true rfl⟩) hS sb (Jn.same sb) (fun H locs hP hD hS => ?_)
          have hP : va_P D vwCl (wM cA ad d kept aside images found base at0_31 size fault_31 opened_31 isRub names code_31 coded_31 pile needs traced traceMany who bitsOf sizeOf number lifted) H := hP
          have hD : va_D A (wM cA ad d kept aside images found base at0_31 size fault_31 opened_31 isRub names code_31 coded_31 pile needs traced traceMany who bitsOf sizeOf number lifted) := hD
          refine lv_istore_n (lv' := [(1, .int r_10), (0, .ref (ad 0))]) hx hb dX12_product_35 rfl hv (by decide) rfl (fun ls hv => ?_)
          refine lv_aload_n hx hb dX12_product_36 rfl (lv_at hv 1 rfl) ?_
          refine lv_dup hx hb dX12_product_37 rfl ?_
          refine va_get (D := D) (ci := 12) (v := .int at0_31) (C := RX12) (T := TX12) (N := 23) hx hb hts in_12 hown hK hP 0 rfl rfl 6 (by decide) w_0 (fun _ h9 => h9) rfl dX12_product_38 ?_
          refine lv_iconst (v := (1 : Int32)) hx hb dX12_product_41 (by decide) ?_
          refine lv_iadd hx hb dX12_product_42 ?_
          obtain ⟨y_12, ey_12, h⟩ := bnd_ex h
          refine lv_nm ey_12 ?_
          refine va_put (D := D) (ci := 12) (v := .int y_12) (ty := .int) (C := RX12) (T := TX12) (N := 23) hx hb hts in_12 tyX12 tyX12_ok nmX12 hown hK hP hD hS 0 rfl rfl 6 (by decide) w_0 (fun _ h9 => h9) rfl (by decide +kernel) rfl rfl (Nat.le_of_ble_eq_true rfl) dX12_product_43 (fun H locs hP hD hS => ?_)
          have hP : va_P D vwCl (wM cA ad d kept aside images found base y_12 size fault_31 opened_31 isRub names code_31 coded_31 pile needs traced traceMany who bitsOf sizeOf number lifted) H := hP
          have hD : va_D A (wM cA ad d kept aside images found base y_12 size fault_31 opened_31 isRub names code_31 coded_31 pile needs traced traceMany who bitsOf sizeOf number lifted) := hD
          refine lv_aload_n hx hb dX12_product_46 rfl (lv_at hv 1 rfl) ?_
          obtain ⟨⟨at0_13, fault_14, opened_15, code_16, coded_17⟩, hf_18, h⟩ := bd_ex h
          have sb := Sb.same hP hD hS hA
          refine calV (va_runV (As := []) (rest := []) ⟨hx, hb, hml, hown, hts⟩ (hru _ d kept aside images found base y_12 size fault_31 opened_31 isRub names code_31 coded_31 pile needs traced traceMany who bitsOf sizeOf number lifted at0_13 fault_14 opened_15 code_16 coded_17 hf_18) (cwV 0 hts gX12_product_X12_unit rfl rfl rfl (by decide +kernel) ⟨show a + 1 ≤ a + 1 by omega, show 8 + (5 + 11) + b ≤ b + 24 by omega⟩) (pvV hE hK hS sb (va_recv hK hP (ci := 12) (q0 := 0) rfl rfl)) rfl rfl hv.1 rfl (lv_room (Nat.le_of_ble_eq_true rfl)) dX12_product_47 ⟨Nat.le_of_ble_eq_true rfl, Nat.le_of_ble_eq_true rfl⟩) hS sb (Jn.same sb) (fun H locs hP hD hS => ?_)
          have hP : va_P D vwCl (wM cA ad d kept aside images found base at0_13 size fault_14 opened_15 isRub names code_16 coded_17 pile needs traced traceMany who bitsOf sizeOf number lifted) H := hP
          have hD : va_D A (wM cA ad d kept aside images found base at0_13 size fault_14 opened_15 isRub names code_16 coded_17 pile needs traced traceMany who bitsOf sizeOf number lifted) := hD
          refine lv_aload_n hx hb dX12_product_50 rfl (lv_at hv 1 rfl) ?_
          refine lv_sipush (v := (20000 : Int32)) hx hb dX12_product_51 (by decide) ?_
          refine lv_iload_n hx hb dX12_product_54 rfl (lv_at hv 0 rfl) ?_
          refine lv_iadd hx hb dX12_product_55 ?_
          obtain ⟨⟨code_19, coded_20⟩, hf_21, h⟩ := bd_ex h
          have sb := Sb.same hP hD hS hA
          refine calV (va_runV (As := [.int ((20000 : Int32) + r_10)]) (rest := []) ⟨hx, hb, hml, hown, hts⟩ (c_X12_lay l G D cA ad _ d kept aside images found base at0_13 size fault_14 opened_15 isRub names code_16 coded_17 pile needs traced traceMany who bitsOf sizeOf number lifted ((20000 : Int32) + r_10) code_19 coded_20 hf_21) (cwV 1 hts gX12_product_X12_lay rfl rfl rfl (by decide +kernel) ⟨show 0 + 1 ≤ a + 1 by omega, show 8 + (2 + 11) + 0 ≤ b + 24 by omega⟩) (pvV hE hK hS sb (va_recv hK hP (ci := 12) (q0 := 0) rfl rfl)) rfl rfl hv.1 rfl (lv_room (Nat.le_of_ble_eq_true rfl)) dX12_product_56 ⟨Nat.le_of_ble_eq_true rfl, Nat.le_of_ble_eq_true rfl⟩) hS sb (Jn.same sb) (fun H locs hP hD hS => ?_)
          have hP : va_P D vwCl (wM cA ad d kept aside images found base at0_13 size fault_14 opened_15 isRub names code_19 coded_20 pile needs traced traceMany who bitsOf sizeOf number lifted) H := hP
          have hD : va_D A (wM cA ad d kept aside images found base at0_13 size fault_14 opened_15 isRub names code_19 coded_20 pile needs traced traceMany who bitsOf sizeOf number lifted) := hD
          refine lv_goto (tgt := 4) hx hb dX12_product_59 (by decide) ?_
          cases h
          exact ih at0_13 fault_14 opened_15 code_19 coded_20 hl _ _ _ hP hD hS (lv_sub hv [1] rfl)
        intro H locs ls hP hD hS hv
        refine lv_aload_n hx hb dX12_product_4 rfl (lv_at hv 0 rfl) ?_
        obtain ⟨r_7, hf_8, h⟩ := bd_ex h
        have sb := Sb.same hP hD hS hA
        refine calI (va_runV (As := []) (rest := []) ⟨hx, hb, hml, hown, hts⟩ (c_X12_here l G D cA ad _ d kept aside images found base at0_4b size fault_4b opened_4b isRub names code_4b coded_4b pile needs traced traceMany who bitsOf sizeOf number lifted r_7 hf_8) (cwV 0 hts gX12_product_X12_here rfl rfl rfl (by decide +kernel) ⟨show 0 + 1 ≤ a + 1 by omega, show 8 + (1 + 11) + 0 ≤ b + 24 by omega⟩) (pvV hE hK hS sb (va_recv hK hP (ci := 12) (q0 := 0) rfl rfl)) rfl rfl hv.1 rfl (lv_room (Nat.le_of_ble_eq_true rfl)) dX12_product_5 ⟨Nat.le_of_ble_eq_true rfl, Nat.le_of_ble_eq_true rfl⟩) hS sb (Jn.same sb) (fun H locs hP hD hS => ?_)
        have hP : va_P D vwCl (wM cA ad d kept aside images found base at0_4b size fault_4b opened_4b isRub names code_4b coded_4b pile needs traced traceMany who bitsOf sizeOf number lifted) H := hP
        have hD : va_D A (wM cA ad d kept aside images found base at0_4b size fault_4b opened_4b isRub names code_4b coded_4b pile needs traced traceMany who bitsOf sizeOf number lifted) := hD
        refine lv_bipush (v := (42 : Int32)) hx hb dX12_product_8 (by decide) ?_
        refine lv_icmp_eq (tgt := 31) hx hb dX12_product_10 (by decide) (fun c_9 => ?_) (fun c_9 => ?_)
        · have h := ite_t c_9 h
          exact C_31 at0_4b fault_4b opened_4b code_4b coded_4b _ h hl _ _ _ hP hD hS (lv_sub hv [0] rfl)
        · have h := ite_f c_9 h
          refine lv_aload_n hx hb dX12_product_13 rfl (lv_at hv 0 rfl) ?_
          obtain ⟨r_22, hf_23, h⟩ := bd_ex h
          have sb := Sb.same hP hD hS hA
          refine calI (va_runV (As := []) (rest := []) ⟨hx, hb, hml, hown, hts⟩ (c_X12_here l G D cA ad _ d kept aside images found base at0_4b size fault_4b opened_4b isRub names code_4b coded_4b pile needs traced traceMany who bitsOf sizeOf number lifted r_22 hf_23) (cwV 0 hts gX12_product_X12_here rfl rfl rfl (by decide +kernel) ⟨show 0 + 1 ≤ a + 1 by omega, show 8 + (1 + 11) + 0 ≤ b + 24 by omega⟩) (pvV hE hK hS sb (va_recv hK hP (ci := 12) (q0 := 0) rfl rfl)) rfl rfl hv.1 rfl (lv_room (Nat.le_of_ble_eq_true rfl)) dX12_product_14 ⟨Nat.le_of_ble_eq_true rfl, Nat.le_of_ble_eq_true rfl⟩) hS sb (Jn.same sb) (fun H locs hP hD hS => ?_)
          have hP : va_P D vwCl (wM cA ad d kept aside images found base at0_4b size fault_4b opened_4b isRub names code_4b coded_4b pile needs traced traceMany who bitsOf sizeOf number lifted) H := hP
          have hD : va_D A (wM cA ad d kept aside images found base at0_4b size fault_4b opened_4b isRub names code_4b coded_4b pile needs traced traceMany who bitsOf sizeOf number lifted) := hD
          refine lv_bipush (v := (47 : Int32)) hx hb dX12_product_17 (by decide) ?_
          refine lv_icmp_eq (tgt := 31) hx hb dX12_product_19 (by decide) (fun c_24 => ?_) (fun c_24 => ?_)
          · have h := ite_t c_24 h
            exact C_31 at0_4b fault_4b opened_4b code_4b coded_4b _ h hl _ _ _ hP hD hS (lv_sub hv [0] rfl)
          · have h := ite_f c_24 h
            refine lv_aload_n hx hb dX12_product_22 rfl (lv_at hv 0 rfl) ?_
            obtain ⟨r_25, hf_26, h⟩ := bd_ex h
            have sb := Sb.same hP hD hS hA
            refine calI (va_runV (As := []) (rest := []) ⟨hx, hb, hml, hown, hts⟩ (c_X12_here l G D cA ad _ d kept aside images found base at0_4b size fault_4b opened_4b isRub names code_4b coded_4b pile needs traced traceMany who bitsOf sizeOf number lifted r_25 hf_26) (cwV 0 hts gX12_product_X12_here rfl rfl rfl (by decide +kernel) ⟨show 0 + 1 ≤ a + 1 by omega, show 8 + (1 + 11) + 0 ≤ b + 24 by omega⟩) (pvV hE hK hS sb (va_recv hK hP (ci := 12) (q0 := 0) rfl rfl)) rfl rfl hv.1 rfl (lv_room (Nat.le_of_ble_eq_true rfl)) dX12_product_23 ⟨Nat.le_of_ble_eq_true rfl, Nat.le_of_ble_eq_true rfl⟩) hS sb (Jn.same sb) (fun H locs hP hD hS => ?_)
            have hP : va_P D vwCl (wM cA ad d kept aside images found base at0_4b size fault_4b opened_4b isRub names code_4b coded_4b pile needs traced traceMany who bitsOf sizeOf number lifted) H := hP
            have hD : va_D A (wM cA ad d kept aside images found base at0_4b size fault_4b opened_4b isRub names code_4b coded_4b pile needs traced traceMany who bitsOf sizeOf number lifted) := hD
            refine lv_bipush (v := (37 : Int32)) hx hb dX12_product_26 (by decide) ?_
            refine lv_icmp_ne (tgt := 62) hx hb dX12_product_28 (by decide) (fun c_27 => ?_) (fun c_27 => ?_)
            · have h := ite_f c_27 h
              cases h
              have hl : some (at0_4b, fault_4b, opened_4b, code_4b, coded_4b) = some (at0_4r, fault_4r, opened_4r, code_4r, coded_4r) := hl
              have hl := Option.some.inj hl
              have ee0 : at0_4b = at0_4r := congrArg (fun q => q.1) hl
              have ee1 : fault_4b = fault_4r := congrArg (fun q => q.2.1) hl
              have ee2 : opened_4b = opened_4r := congrArg (fun q => q.2.2.1) hl
              have ee3 : code_4b = code_4r := congrArg (fun q => q.2.2.2.1) hl
              have ee4 : coded_4b = coded_4r := congrArg (fun q => q.2.2.2.2) hl
              subst ee0
              subst ee1
              subst ee2
              subst ee3
              subst ee4
              exact LE _ _ _ hP hD hS (lv_sub hv [] rfl)
            · have h := ite_t c_27 h
              exact C_31 at0_4b fault_4b opened_4b code_4b coded_4b _ h hl _ _ _ hP hD hS (lv_sub hv [0] rfl)
    exact LB FU at0_4 fault_4 opened_4 code_4 coded_4 ho
  have hP : va_P D vwCl (wM cA ad d kept aside images found base at0 size fault opened isRub names code coded pile needs traced traceMany who bitsOf sizeOf number lifted) H := hP
  unfold fX12_product at h
  refine lv_aload_n hx hb dX12_product_0 rfl (lv_at hv 0 rfl) ?_
  obtain ⟨⟨at0_1, fault_2, opened_3, code_4, coded_5⟩, hf_6, h⟩ := bd_ex h
  have sb := Sb.same hP hD hS hA
  refine calV (va_runV (As := []) (rest := []) ⟨hx, hb, hml, hown, hts⟩ (hru _ d kept aside images found base at0 size fault opened isRub names code coded pile needs traced traceMany who bitsOf sizeOf number lifted at0_1 fault_2 opened_3 code_4 coded_5 hf_6) (cwV 0 hts gX12_product_X12_unit rfl rfl rfl (by decide +kernel) ⟨show a + 1 ≤ a + 1 by omega, show 8 + (5 + 11) + b ≤ b + 24 by omega⟩) (pvV hE hK hS sb (va_recv hK hP (ci := 12) (q0 := 0) rfl rfl)) rfl rfl hv.1 rfl (lv_room (Nat.le_of_ble_eq_true rfl)) dX12_product_1 ⟨Nat.le_of_ble_eq_true rfl, Nat.le_of_ble_eq_true rfl⟩) hS sb (Jn.same sb) (fun H locs hP hD hS => ?_)
  have hP : va_P D vwCl (wM cA ad d kept aside images found base at0_1 size fault_2 opened_3 isRub names code_4 coded_5 pile needs traced traceMany who bitsOf sizeOf number lifted) H := hP
  have hD : va_D A (wM cA ad d kept aside images found base at0_1 size fault_2 opened_3 isRub names code_4 coded_5 pile needs traced traceMany who bitsOf sizeOf number lifted) := hD
  exact C_4 at0_1 fault_2 opened_3 code_4 coded_5 h _ _ _ hP hD hS (lv_sub hv [0] rfl)

def fX12_sum_22 (ru : (Nat → Int32) → Int32 → Int32 → Int32 → Int32 → Int32 → Int32 → (Nat → Int32) → Int32 → Option (Int32 × Int32 × Int32 × (Nat → Int32) × Int32)) (d : Nat → Int32) (base : Int32) (at0_22 : Int32) (size : Int32) (fault_22 : Int32) (opened_22 : Int32) (isRub : Int32) (code_22 : Nat → Int32) (coded_22 : Int32) : Option ((Int32 × Int32 × Int32 × (Nat → Int32) × Int32) ⊕ (Int32 × Int32 × Int32 × (Nat → Int32) × Int32)) :=
  bd (fX12_here d base at0_22 size fault_22) fun r_10 => bnd (at0_22 + (1 : Int32)) fun y_12 => bd (fX12_product ru d base y_12 size fault_22 opened_22 isRub code_22 coded_22) fun (at0_13, fault_14, opened_15, code_16, coded_17) => bd (fX12_lay ((20000 : Int32) + r_10) fault_14 code_16 coded_17) fun (code_19, coded_20) => some (.inl (at0_13, fault_14, opened_15, code_19, coded_20))
def fX12_sum_4B (ru : (Nat → Int32) → Int32 → Int32 → Int32 → Int32 → Int32 → Int32 → (Nat → Int32) → Int32 → Option (Int32 × Int32 × Int32 × (Nat → Int32) × Int32)) (d : Nat → Int32) (base : Int32) (size : Int32) (isRub : Int32) (at0_4b : Int32) (fault_4b : Int32) (opened_4b : Int32) (code_4b : Nat → Int32) (coded_4b : Int32) : Option ((Int32 × Int32 × Int32 × (Nat → Int32) × Int32) ⊕ (Int32 × Int32 × Int32 × (Nat → Int32) × Int32)) :=
  bd (fX12_here d base at0_4b size fault_4b) fun r_7 => (if r_7 = (43 : Int32) then fX12_sum_22 ru d base at0_4b size fault_4b opened_4b isRub code_4b coded_4b else bd (fX12_here d base at0_4b size fault_4b) fun r_22 => (if r_22 = (45 : Int32) then fX12_sum_22 ru d base at0_4b size fault_4b opened_4b isRub code_4b coded_4b else some (.inr (at0_4b, fault_4b, opened_4b, code_4b, coded_4b))))
def fX12_sum_4 (ru : (Nat → Int32) → Int32 → Int32 → Int32 → Int32 → Int32 → Int32 → (Nat → Int32) → Int32 → Option (Int32 × Int32 × Int32 × (Nat → Int32) × Int32)) (d : Nat → Int32) (base : Int32) (at0_4 : Int32) (size : Int32) (fault_4 : Int32) (opened_4 : Int32) (isRub : Int32) (code_4 : Nat → Int32) (coded_4 : Int32) : Option (Int32 × Int32 × Int32 × (Nat → Int32) × Int32) :=
  bd (lp (fun σ : Int32 × Int32 × Int32 × (Nat → Int32) × Int32 => fX12_sum_4B ru d base size isRub (σ.1) (σ.2.1) (σ.2.2.1) (σ.2.2.2.1) (σ.2.2.2.2)) FU (at0_4, fault_4, opened_4, code_4, coded_4)) fun ρ => match ρ with | (at0_4r, fault_4r, opened_4r, code_4r, coded_4r) => some (at0_4r, fault_4r, opened_4r, code_4r, coded_4r)
def fX12_sum (ru : (Nat → Int32) → Int32 → Int32 → Int32 → Int32 → Int32 → Int32 → (Nat → Int32) → Int32 → Option (Int32 × Int32 × Int32 × (Nat → Int32) × Int32)) (d : Nat → Int32) (base : Int32) (at0 : Int32) (size : Int32) (fault : Int32) (opened : Int32) (isRub : Int32) (code : Nat → Int32) (coded : Int32) : Option (Int32 × Int32 × Int32 × (Nat → Int32) × Int32) :=
  bd (fX12_product ru d base at0 size fault opened isRub code coded) fun (at0_1, fault_2, opened_3, code_4, coded_5) => fX12_sum_4 ru d base at0_1 size fault_2 opened_3 isRub code_4 coded_5
set_option maxHeartbeats 4000000 in
set_option maxRecDepth 100000 in
theorem c_X12_sum (l : Launch) (G : Nat → Nat) (D : va_G) (cA : Nat → ClassId) (ad : Nat → Nat) (sz : Nat) (d : Nat → Int32) (kept : Nat → Int32) (aside : Nat → Int32) (images : Int32) (found : Nat → Int32) (base : Int32) (at0 : Int32) (size : Int32) (fault : Int32) (opened : Int32) (isRub : Int32) (names : Nat → Int32) (code : Nat → Int32) (coded : Int32) (pile : Nat → Int32) (needs : Nat → Int32) (traced : Nat → Int32) (traceMany : Int32) (who : Int32) (bitsOf : Nat → Int32) (sizeOf : Nat → Int32) (number : Nat → Int32) (lifted : Nat → Int32) (ru : (Nat → Int32) → Int32 → Int32 → Int32 → Int32 → Int32 → Int32 → (Nat → Int32) → Int32 → Option (Int32 × Int32 × Int32 × (Nat → Int32) × Int32)) (a b : Nat) (hru : ∀ (sz : Nat) (d : Nat → Int32) (kept : Nat → Int32) (aside : Nat → Int32) (images : Int32) (found : Nat → Int32) (base : Int32) (at0 : Int32) (size : Int32) (fault : Int32) (opened : Int32) (isRub : Int32) (names : Nat → Int32) (code : Nat → Int32) (coded : Int32) (pile : Nat → Int32) (needs : Nat → Int32) (traced : Nat → Int32) (traceMany : Int32) (who : Int32) (bitsOf : Nat → Int32) (sizeOf : Nat → Int32) (number : Nat → Int32) (lifted : Nat → Int32) (at0R : Int32) (faultR : Int32) (openedR : Int32) (codeR : Nat → Int32) (codedR : Int32), ru d base at0 size fault opened isRub code coded = some (at0R, faultR, openedR, codeR, codedR) → Met l yX12_unit wsX12_unit ({ frames := a, cells := 0, slots := 0, locals := b } : Room) (PW G D (tyC cA) sz (wM cA ad d kept aside images found base at0 size fault opened isRub names code coded pile needs traced traceMany who bitsOf sizeOf number lifted) [.ref (ad 0)]) (QV D (tyC cA) (va_A (wM cA ad d kept aside images found base at0 size fault opened isRub names code coded pile needs traced traceMany who bitsOf sizeOf number lifted) sz) (wM cA ad d kept aside images found base at0R size faultR openedR isRub names codeR codedR pile needs traced traceMany who bitsOf sizeOf number lifted)) 0 0 (va_A (wM cA ad d kept aside images found base at0 size fault opened isRub names code coded pile needs traced traceMany who bitsOf sizeOf number lifted) sz))  (at0R : Int32) (faultR : Int32) (openedR : Int32) (codeR : Nat → Int32) (codedR : Int32) (h : fX12_sum ru d base at0 size fault opened isRub code coded = some (at0R, faultR, openedR, codeR, codedR)) : Met l yX12_sum wsX12_sum ({ frames := a + 2, cells := 0, slots := 0, locals := b + 45 } : Room) (PW G D (tyC cA) sz (wM cA ad d kept aside images found base at0 size fault opened isRub names code coded pile needs traced traceMany who bitsOf sizeOf number lifted) [.ref (ad 0)]) (QV D (tyC cA) (va_A (wM cA ad d kept aside images found base at0 size fault opened isRub names code coded pile needs traced traceMany who bitsOf sizeOf number lifted) sz) (wM cA ad d kept aside images found base at0R size faultR openedR isRub names codeR codedR pile needs traced traceMany who bitsOf sizeOf number lifted)) 0 0 (va_A (wM cA ad d kept aside images found base at0 size fault opened isRub names code coded pile needs traced traceMany who bitsOf sizeOf number lifted) sz) := by
  refine ent (cc := cX12_sum) (maxL := 2) (ret := none) (fun A => QV D (tyC cA) A (wM cA ad d kept aside images found base at0R size faultR openedR isRub names codeR codedR pile needs traced traceMany who bitsOf sizeOf number lifted)) (by decide +kernel) rfl (Nat.le_of_ble_eq_true rfl) ?_
  intro p e s m args below meth c A ls H hx hb hml hr hlk hts hown hA hK hE hP hD hS hv hmm
  have hv : lv_has ls 2 [(0, .ref (ad 0))] := hv
  have in_12 : ∀ w ∈ u_ws RX12 TX12 23, w ∈ wsX12_sum := fun _ h => List.mem_cons_of_mem _ (List.mem_append_right _ h)
  have w_0 := hts (.fieldLink RX12 58 "SpoonsLastModel" "at" "I") (by decide +kernel)
  generalize hQ : MQ below _ args s 0 0 A = Q
  have C_4 : ∀ (at0_4 : Int32) (fault_4 : Int32) (opened_4 : Int32) (code_4 : Nat → Int32) (coded_4 : Int32), fX12_sum_4 ru d base at0_4 size fault_4 opened_4 isRub code_4 coded_4 = some (at0R, faultR, openedR, codeR, codedR) → WW p l e ({ frames := a + 2, cells := 0, slots := 0, locals := b + 45 } : Room) s m args below meth c D A 0 0 Q (wM cA ad d kept aside images found base at0_4 size fault_4 opened_4 isRub names code_4 coded_4 pile needs traced traceMany who bitsOf sizeOf number lifted) 2 [(0, .ref (ad 0))] 4 [] := by
    intro at0_4 fault_4 opened_4 code_4 coded_4 h
    unfold fX12_sum_4 at h
    obtain ⟨⟨at0_4r, fault_4r, opened_4r, code_4r, coded_4r⟩, ho, h⟩ := bd_ex h
    have LE : WW p l e ({ frames := a + 2, cells := 0, slots := 0, locals := b + 45 } : Room) s m args below meth c D A 0 0 Q (wM cA ad d kept aside images found base at0_4r size fault_4r opened_4r isRub names code_4r coded_4r pile needs traced traceMany who bitsOf sizeOf number lifted) 2 [] 53 [] := by
      intro H locs ls hP hD hS hv
      have h := Option.some.inj h
      have ee0 : at0_4r = at0R := congrArg (fun q => q.1) h
      have ee1 : fault_4r = faultR := congrArg (fun q => q.2.1) h
      have ee2 : opened_4r = openedR := congrArg (fun q => q.2.2.1) h
      have ee3 : code_4r = codeR := congrArg (fun q => q.2.2.2.1) h
      have ee4 : coded_4r = codedR := congrArg (fun q => q.2.2.2.2) h
      subst ee0
      subst ee1
      subst ee2
      subst ee3
      subst ee4
      rw [← hQ]
      exact retV hx hb hr hlk hK hP hD hS dX12_sum_53 ⟨Nat.le_of_ble_eq_true rfl, Nat.le_of_ble_eq_true rfl⟩
    have LB : ∀ (nf : Nat) (at0_4b : Int32) (fault_4b : Int32) (opened_4b : Int32) (code_4b : Nat → Int32) (coded_4b : Int32), lp (fun σ : Int32 × Int32 × Int32 × (Nat → Int32) × Int32 => fX12_sum_4B ru d base size isRub (σ.1) (σ.2.1) (σ.2.2.1) (σ.2.2.2.1) (σ.2.2.2.2)) nf (at0_4b, fault_4b, opened_4b, code_4b, coded_4b) = some (at0_4r, fault_4r, opened_4r, code_4r, coded_4r) → WW p l e ({ frames := a + 2, cells := 0, slots := 0, locals := b + 45 } : Room) s m args below meth c D A 0 0 Q (wM cA ad d kept aside images found base at0_4b size fault_4b opened_4b isRub names code_4b coded_4b pile needs traced traceMany who bitsOf sizeOf number lifted) 2 [(0, .ref (ad 0))] 4 [] := by
      intro nf
      induction nf with
      | zero => intro at0_4b fault_4b opened_4b code_4b coded_4b hl; cases hl
      | succ nf ih =>
        intro at0_4b fault_4b opened_4b code_4b coded_4b hl
        obtain ⟨x, h, hl⟩ := lp_ex hl
        have h : fX12_sum_4B ru d base size isRub at0_4b fault_4b opened_4b code_4b coded_4b = some x := h
        unfold fX12_sum_4B at h
        have C_22 : ∀ (at0_22 : Int32) (fault_22 : Int32) (opened_22 : Int32) (code_22 : Nat → Int32) (coded_22 : Int32) (x : (Int32 × Int32 × Int32 × (Nat → Int32) × Int32) ⊕ (Int32 × Int32 × Int32 × (Nat → Int32) × Int32)), fX12_sum_22 ru d base at0_22 size fault_22 opened_22 isRub code_22 coded_22 = some x → lpk (fun σ : Int32 × Int32 × Int32 × (Nat → Int32) × Int32 => fX12_sum_4B ru d base size isRub (σ.1) (σ.2.1) (σ.2.2.1) (σ.2.2.2.1) (σ.2.2.2.2)) nf x = some (at0_4r, fault_4r, opened_4r, code_4r, coded_4r) → WW p l e ({ frames := a + 2, cells := 0, slots := 0, locals := b + 45 } : Room) s m args below meth c D A 0 0 Q (wM cA ad d kept aside images found base at0_22 size fault_22 opened_22 isRub names code_22 coded_22 pile needs traced traceMany who bitsOf sizeOf number lifted) 2 [(0, .ref (ad 0))] 22 [] := by
          intro at0_22 fault_22 opened_22 code_22 coded_22 x h hl
          unfold fX12_sum_22 at h
          intro H locs ls hP hD hS hv
          refine lv_aload_n hx hb dX12_sum_22 rfl (lv_at hv 0 rfl) ?_
          obtain ⟨r_10, hf_11, h⟩ := bd_ex h
          have sb := Sb.same hP hD hS hA
          refine calI (va_runV (As := []) (rest := []) ⟨hx, hb, hml, hown, hts⟩ (c_X12_here l G D cA ad _ d kept aside images found base at0_22 size fault_22 opened_22 isRub names code_22 coded_22 pile needs traced traceMany who bitsOf sizeOf number lifted r_10 hf_11) (cwV 0 hts gX12_sum_X12_here rfl rfl rfl (by decide +kernel) ⟨show 0 + 1 ≤ a + 2 by omega, show 8 + (1 + 11) + 0 ≤ b + 45 by omega⟩) (pvV hE hK hS sb (va_recv hK hP (ci := 12) (q0 := 0) rfl rfl)) rfl rfl hv.1 rfl (lv_room (Nat.le_of_ble_eq_true rfl)) dX12_sum_23 ⟨Nat.le_of_ble_eq_true rfl, Nat.le_of_ble_eq_true rfl⟩) hS sb (Jn.same sb) (fun H locs hP hD hS => ?_)
          have hP : va_P D vwCl (wM cA ad d kept aside images found base at0_22 size fault_22 opened_22 isRub names code_22 coded_22 pile needs traced traceMany who bitsOf sizeOf number lifted) H := hP
          have hD : va_D A (wM cA ad d kept aside images found base at0_22 size fault_22 opened_22 isRub names code_22 coded_22 pile needs traced traceMany who bitsOf sizeOf number lifted) := hD
          refine lv_istore_n (lv' := [(1, .int r_10), (0, .ref (ad 0))]) hx hb dX12_sum_26 rfl hv (by decide) rfl (fun ls hv => ?_)
          refine lv_aload_n hx hb dX12_sum_27 rfl (lv_at hv 1 rfl) ?_
          refine lv_dup hx hb dX12_sum_28 rfl ?_
          refine va_get (D := D) (ci := 12) (v := .int at0_22) (C := RX12) (T := TX12) (N := 23) hx hb hts in_12 hown hK hP 0 rfl rfl 6 (by decide) w_0 (fun _ h9 => h9) rfl dX12_sum_29 ?_
          refine lv_iconst (v := (1 : Int32)) hx hb dX12_sum_32 (by decide) ?_
          refine lv_iadd hx hb dX12_sum_33 ?_
          obtain ⟨y_12, ey_12, h⟩ := bnd_ex h
          refine lv_nm ey_12 ?_
          refine va_put (D := D) (ci := 12) (v := .int y_12) (ty := .int) (C := RX12) (T := TX12) (N := 23) hx hb hts in_12 tyX12 tyX12_ok nmX12 hown hK hP hD hS 0 rfl rfl 6 (by decide) w_0 (fun _ h9 => h9) rfl (by decide +kernel) rfl rfl (Nat.le_of_ble_eq_true rfl) dX12_sum_34 (fun H locs hP hD hS => ?_)
          have hP : va_P D vwCl (wM cA ad d kept aside images found base y_12 size fault_22 opened_22 isRub names code_22 coded_22 pile needs traced traceMany who bitsOf sizeOf number lifted) H := hP
          have hD : va_D A (wM cA ad d kept aside images found base y_12 size fault_22 opened_22 isRub names code_22 coded_22 pile needs traced traceMany who bitsOf sizeOf number lifted) := hD
          refine lv_aload_n hx hb dX12_sum_37 rfl (lv_at hv 1 rfl) ?_
          obtain ⟨⟨at0_13, fault_14, opened_15, code_16, coded_17⟩, hf_18, h⟩ := bd_ex h
          have sb := Sb.same hP hD hS hA
          refine calV (va_runV (As := []) (rest := []) ⟨hx, hb, hml, hown, hts⟩ (c_X12_product l G D cA ad _ d kept aside images found base y_12 size fault_22 opened_22 isRub names code_22 coded_22 pile needs traced traceMany who bitsOf sizeOf number lifted ru a b hru at0_13 fault_14 opened_15 code_16 coded_17 hf_18) (cwV 0 hts gX12_sum_X12_product rfl rfl rfl (by decide +kernel) ⟨show a + 1 + 1 ≤ a + 2 by omega, show 8 + (2 + 11) + (b + 24) ≤ b + 45 by omega⟩) (pvV hE hK hS sb (va_recv hK hP (ci := 12) (q0 := 0) rfl rfl)) rfl rfl hv.1 rfl (lv_room (Nat.le_of_ble_eq_true rfl)) dX12_sum_38 ⟨Nat.le_of_ble_eq_true rfl, Nat.le_of_ble_eq_true rfl⟩) hS sb (Jn.same sb) (fun H locs hP hD hS => ?_)
          have hP : va_P D vwCl (wM cA ad d kept aside images found base at0_13 size fault_14 opened_15 isRub names code_16 coded_17 pile needs traced traceMany who bitsOf sizeOf number lifted) H := hP
          have hD : va_D A (wM cA ad d kept aside images found base at0_13 size fault_14 opened_15 isRub names code_16 coded_17 pile needs traced traceMany who bitsOf sizeOf number lifted) := hD
          refine lv_aload_n hx hb dX12_sum_41 rfl (lv_at hv 1 rfl) ?_
          refine lv_sipush (v := (20000 : Int32)) hx hb dX12_sum_42 (by decide) ?_
          refine lv_iload_n hx hb dX12_sum_45 rfl (lv_at hv 0 rfl) ?_
          refine lv_iadd hx hb dX12_sum_46 ?_
          obtain ⟨⟨code_19, coded_20⟩, hf_21, h⟩ := bd_ex h
          have sb := Sb.same hP hD hS hA
          refine calV (va_runV (As := [.int ((20000 : Int32) + r_10)]) (rest := []) ⟨hx, hb, hml, hown, hts⟩ (c_X12_lay l G D cA ad _ d kept aside images found base at0_13 size fault_14 opened_15 isRub names code_16 coded_17 pile needs traced traceMany who bitsOf sizeOf number lifted ((20000 : Int32) + r_10) code_19 coded_20 hf_21) (cwV 1 hts gX12_sum_X12_lay rfl rfl rfl (by decide +kernel) ⟨show 0 + 1 ≤ a + 2 by omega, show 8 + (2 + 11) + 0 ≤ b + 45 by omega⟩) (pvV hE hK hS sb (va_recv hK hP (ci := 12) (q0 := 0) rfl rfl)) rfl rfl hv.1 rfl (lv_room (Nat.le_of_ble_eq_true rfl)) dX12_sum_47 ⟨Nat.le_of_ble_eq_true rfl, Nat.le_of_ble_eq_true rfl⟩) hS sb (Jn.same sb) (fun H locs hP hD hS => ?_)
          have hP : va_P D vwCl (wM cA ad d kept aside images found base at0_13 size fault_14 opened_15 isRub names code_19 coded_20 pile needs traced traceMany who bitsOf sizeOf number lifted) H := hP
          have hD : va_D A (wM cA ad d kept aside images found base at0_13 size fault_14 opened_15 isRub names code_19 coded_20 pile needs traced traceMany who bitsOf sizeOf number lifted) := hD
          refine lv_goto (tgt := 4) hx hb dX12_sum_50 (by decide) ?_
          cases h
          exact ih at0_13 fault_14 opened_15 code_19 coded_20 hl _ _ _ hP hD hS (lv_sub hv [1] rfl)
        intro H locs ls hP hD hS hv
        refine lv_aload_n hx hb dX12_sum_4 rfl (lv_at hv 0 rfl) ?_
        obtain ⟨r_7, hf_8, h⟩ := bd_ex h
        have sb := Sb.same hP hD hS hA
        refine calI (va_runV (As := []) (rest := []) ⟨hx, hb, hml, hown, hts⟩ (c_X12_here l G D cA ad _ d kept aside images found base at0_4b size fault_4b opened_4b isRub names code_4b coded_4b pile needs traced traceMany who bitsOf sizeOf number lifted r_7 hf_8) (cwV 0 hts gX12_sum_X12_here rfl rfl rfl (by decide +kernel) ⟨show 0 + 1 ≤ a + 2 by omega, show 8 + (1 + 11) + 0 ≤ b + 45 by omega⟩) (pvV hE hK hS sb (va_recv hK hP (ci := 12) (q0 := 0) rfl rfl)) rfl rfl hv.1 rfl (lv_room (Nat.le_of_ble_eq_true rfl)) dX12_sum_5 ⟨Nat.le_of_ble_eq_true rfl, Nat.le_of_ble_eq_true rfl⟩) hS sb (Jn.same sb) (fun H locs hP hD hS => ?_)
        have hP : va_P D vwCl (wM cA ad d kept aside images found base at0_4b size fault_4b opened_4b isRub names code_4b coded_4b pile needs traced traceMany who bitsOf sizeOf number lifted) H := hP
        have hD : va_D A (wM cA ad d kept aside images found base at0_4b size fault_4b opened_4b isRub names code_4b coded_4b pile needs traced traceMany who bitsOf sizeOf number lifted) := hD
        refine lv_bipush (v := (43 : Int32)) hx hb dX12_sum_8 (by decide) ?_
        refine lv_icmp_eq (tgt := 22) hx hb dX12_sum_10 (by decide) (fun c_9 => ?_) (fun c_9 => ?_)
        · have h := ite_t c_9 h
          exact C_22 at0_4b fault_4b opened_4b code_4b coded_4b _ h hl _ _ _ hP hD hS (lv_sub hv [0] rfl)
        · have h := ite_f c_9 h
          refine lv_aload_n hx hb dX12_sum_13 rfl (lv_at hv 0 rfl) ?_
          obtain ⟨r_22, hf_23, h⟩ := bd_ex h
          have sb := Sb.same hP hD hS hA
          refine calI (va_runV (As := []) (rest := []) ⟨hx, hb, hml, hown, hts⟩ (c_X12_here l G D cA ad _ d kept aside images found base at0_4b size fault_4b opened_4b isRub names code_4b coded_4b pile needs traced traceMany who bitsOf sizeOf number lifted r_22 hf_23) (cwV 0 hts gX12_sum_X12_here rfl rfl rfl (by decide +kernel) ⟨show 0 + 1 ≤ a + 2 by omega, show 8 + (1 + 11) + 0 ≤ b + 45 by omega⟩) (pvV hE hK hS sb (va_recv hK hP (ci := 12) (q0 := 0) rfl rfl)) rfl rfl hv.1 rfl (lv_room (Nat.le_of_ble_eq_true rfl)) dX12_sum_14 ⟨Nat.le_of_ble_eq_true rfl, Nat.le_of_ble_eq_true rfl⟩) hS sb (Jn.same sb) (fun H locs hP hD hS => ?_)
          have hP : va_P D vwCl (wM cA ad d kept aside images found base at0_4b size fault_4b opened_4b isRub names code_4b coded_4b pile needs traced traceMany who bitsOf sizeOf number lifted) H := hP
          have hD : va_D A (wM cA ad d kept aside images found base at0_4b size fault_4b opened_4b isRub names code_4b coded_4b pile needs traced traceMany who bitsOf sizeOf number lifted) := hD
          refine lv_bipush (v := (45 : Int32)) hx hb dX12_sum_17 (by decide) ?_
          refine lv_icmp_ne (tgt := 53) hx hb dX12_sum_19 (by decide) (fun c_24 => ?_) (fun c_24 => ?_)
          · have h := ite_f c_24 h
            cases h
            have hl : some (at0_4b, fault_4b, opened_4b, code_4b, coded_4b) = some (at0_4r, fault_4r, opened_4r, code_4r, coded_4r) := hl
            have hl := Option.some.inj hl
            have ee0 : at0_4b = at0_4r := congrArg (fun q => q.1) hl
            have ee1 : fault_4b = fault_4r := congrArg (fun q => q.2.1) hl
            have ee2 : opened_4b = opened_4r := congrArg (fun q => q.2.2.1) hl
            have ee3 : code_4b = code_4r := congrArg (fun q => q.2.2.2.1) hl
            have ee4 : coded_4b = coded_4r := congrArg (fun q => q.2.2.2.2) hl
            subst ee0
            subst ee1
            subst ee2
            subst ee3
            subst ee4
            exact LE _ _ _ hP hD hS (lv_sub hv [] rfl)
          · have h := ite_t c_24 h
            exact C_22 at0_4b fault_4b opened_4b code_4b coded_4b _ h hl _ _ _ hP hD hS (lv_sub hv [0] rfl)
    exact LB FU at0_4 fault_4 opened_4 code_4 coded_4 ho
  have hP : va_P D vwCl (wM cA ad d kept aside images found base at0 size fault opened isRub names code coded pile needs traced traceMany who bitsOf sizeOf number lifted) H := hP
  unfold fX12_sum at h
  refine lv_aload_n hx hb dX12_sum_0 rfl (lv_at hv 0 rfl) ?_
  obtain ⟨⟨at0_1, fault_2, opened_3, code_4, coded_5⟩, hf_6, h⟩ := bd_ex h
  have sb := Sb.same hP hD hS hA
  refine calV (va_runV (As := []) (rest := []) ⟨hx, hb, hml, hown, hts⟩ (c_X12_product l G D cA ad _ d kept aside images found base at0 size fault opened isRub names code coded pile needs traced traceMany who bitsOf sizeOf number lifted ru a b hru at0_1 fault_2 opened_3 code_4 coded_5 hf_6) (cwV 0 hts gX12_sum_X12_product rfl rfl rfl (by decide +kernel) ⟨show a + 1 + 1 ≤ a + 2 by omega, show 8 + (2 + 11) + (b + 24) ≤ b + 45 by omega⟩) (pvV hE hK hS sb (va_recv hK hP (ci := 12) (q0 := 0) rfl rfl)) rfl rfl hv.1 rfl (lv_room (Nat.le_of_ble_eq_true rfl)) dX12_sum_1 ⟨Nat.le_of_ble_eq_true rfl, Nat.le_of_ble_eq_true rfl⟩) hS sb (Jn.same sb) (fun H locs hP hD hS => ?_)
  have hP : va_P D vwCl (wM cA ad d kept aside images found base at0_1 size fault_2 opened_3 isRub names code_4 coded_5 pile needs traced traceMany who bitsOf sizeOf number lifted) H := hP
  have hD : va_D A (wM cA ad d kept aside images found base at0_1 size fault_2 opened_3 isRub names code_4 coded_5 pile needs traced traceMany who bitsOf sizeOf number lifted) := hD
  exact C_4 at0_1 fault_2 opened_3 code_4 coded_5 h _ _ _ hP hD hS (lv_sub hv [0] rfl)

def fX12_compared_27 (ru : (Nat → Int32) → Int32 → Int32 → Int32 → Int32 → Int32 → Int32 → (Nat → Int32) → Int32 → Option (Int32 × Int32 × Int32 × (Nat → Int32) × Int32)) (v1_27 : Int32) (d : Nat → Int32) (base : Int32) (at0_27 : Int32) (size : Int32) (fault_27 : Int32) (opened_27 : Int32) (isRub : Int32) (code_27 : Nat → Int32) (coded_27 : Int32) : Option (Int32 × Int32 × Int32 × (Nat → Int32) × Int32) :=
  bnd (at0_27 + (1 : Int32)) fun y_10 => bd (fX12_sum ru d base y_10 size fault_27 opened_27 isRub code_27 coded_27) fun (at0_11, fault_12, opened_13, code_14, coded_15) => bd (fX12_lay ((20000 : Int32) + v1_27) fault_12 code_14 coded_15) fun (code_17, coded_18) => some (at0_11, fault_12, opened_13, code_17, coded_18)
def fX12_compared (ru : (Nat → Int32) → Int32 → Int32 → Int32 → Int32 → Int32 → Int32 → (Nat → Int32) → Int32 → Option (Int32 × Int32 × Int32 × (Nat → Int32) × Int32)) (d : Nat → Int32) (base : Int32) (at0 : Int32) (size : Int32) (fault : Int32) (opened : Int32) (isRub : Int32) (code : Nat → Int32) (coded : Int32) : Option (Int32 × Int32 × Int32 × (Nat → Int32) × Int32) :=
  bd (fX12_sum ru d base at0 size fault opened isRub code coded) fun (at0_1, fault_2, opened_3, code_4, coded_5) => bd (fX12_here d base at0_1 size fault_2) fun r_7 => (if r_7 = (60 : Int32) then fX12_compared_27 ru r_7 d base at0_1 size fault_2 opened_3 isRub code_4 coded_5 else (if r_7 = (61 : Int32) then fX12_compared_27 ru r_7 d base at0_1 size fault_2 opened_3 isRub code_4 coded_5 else (if r_7 = (62 : Int32) then fX12_compared_27 ru r_7 d base at0_1 size fault_2 opened_3 isRub code_4 coded_5 else some (at0_1, fault_2, opened_3, code_4, coded_5))))
set_option maxHeartbeats 4000000 in
set_option maxRecDepth 100000 in
theorem c_X12_compared (l : Launch) (G : Nat → Nat) (D : va_G) (cA : Nat → ClassId) (ad : Nat → Nat) (sz : Nat) (d : Nat → Int32) (kept : Nat → Int32) (aside : Nat → Int32) (images : Int32) (found : Nat → Int32) (base : Int32) (at0 : Int32) (size : Int32) (fault : Int32) (opened : Int32) (isRub : Int32) (names : Nat → Int32) (code : Nat → Int32) (coded : Int32) (pile : Nat → Int32) (needs : Nat → Int32) (traced : Nat → Int32) (traceMany : Int32) (who : Int32) (bitsOf : Nat → Int32) (sizeOf : Nat → Int32) (number : Nat → Int32) (lifted : Nat → Int32) (ru : (Nat → Int32) → Int32 → Int32 → Int32 → Int32 → Int32 → Int32 → (Nat → Int32) → Int32 → Option (Int32 × Int32 × Int32 × (Nat → Int32) × Int32)) (a b : Nat) (hru : ∀ (sz : Nat) (d : Nat → Int32) (kept : Nat → Int32) (aside : Nat → Int32) (images : Int32) (found : Nat → Int32) (base : Int32) (at0 : Int32) (size : Int32) (fault : Int32) (opened : Int32) (isRub : Int32) (names : Nat → Int32) (code : Nat → Int32) (coded : Int32) (pile : Nat → Int32) (needs : Nat → Int32) (traced : Nat → Int32) (traceMany : Int32) (who : Int32) (bitsOf : Nat → Int32) (sizeOf : Nat → Int32) (number : Nat → Int32) (lifted : Nat → Int32) (at0R : Int32) (faultR : Int32) (openedR : Int32) (codeR : Nat → Int32) (codedR : Int32), ru d base at0 size fault opened isRub code coded = some (at0R, faultR, openedR, codeR, codedR) → Met l yX12_unit wsX12_unit ({ frames := a, cells := 0, slots := 0, locals := b } : Room) (PW G D (tyC cA) sz (wM cA ad d kept aside images found base at0 size fault opened isRub names code coded pile needs traced traceMany who bitsOf sizeOf number lifted) [.ref (ad 0)]) (QV D (tyC cA) (va_A (wM cA ad d kept aside images found base at0 size fault opened isRub names code coded pile needs traced traceMany who bitsOf sizeOf number lifted) sz) (wM cA ad d kept aside images found base at0R size faultR openedR isRub names codeR codedR pile needs traced traceMany who bitsOf sizeOf number lifted)) 0 0 (va_A (wM cA ad d kept aside images found base at0 size fault opened isRub names code coded pile needs traced traceMany who bitsOf sizeOf number lifted) sz))  (at0R : Int32) (faultR : Int32) (openedR : Int32) (codeR : Nat → Int32) (codedR : Int32) (h : fX12_compared ru d base at0 size fault opened isRub code coded = some (at0R, faultR, openedR, codeR, codedR)) : Met l yX12_compared wsX12_compared ({ frames := a + 3, cells := 0, slots := 0, locals := b + 66 } : Room) (PW G D (tyC cA) sz (wM cA ad d kept aside images found base at0 size fault opened isRub names code coded pile needs traced traceMany who bitsOf sizeOf number lifted) [.ref (ad 0)]) (QV D (tyC cA) (va_A (wM cA ad d kept aside images found base at0 size fault opened isRub names code coded pile needs traced traceMany who bitsOf sizeOf number lifted) sz) (wM cA ad d kept aside images found base at0R size faultR openedR isRub names codeR codedR pile needs traced traceMany who bitsOf sizeOf number lifted)) 0 0 (va_A (wM cA ad d kept aside images found base at0 size fault opened isRub names code coded pile needs traced traceMany who bitsOf sizeOf number lifted) sz) := by
  refine ent (cc := cX12_compared) (maxL := 2) (ret := none) (fun A => QV D (tyC cA) A (wM cA ad d kept aside images found base at0R size faultR openedR isRub names codeR codedR pile needs traced traceMany who bitsOf sizeOf number lifted)) (by decide +kernel) rfl (Nat.le_of_ble_eq_true rfl) ?_
  intro p e s m args below meth c A ls H hx hb hml hr hlk hts hown hA hK hE hP hD hS hv hmm
  have hv : lv_has ls 2 [(0, .ref (ad 0))] := hv
  have in_12 : ∀ w ∈ u_ws RX12 TX12 23, w ∈ wsX12_compared := fun _ h => List.mem_cons_of_mem _ (List.mem_append_right _ h)
  have w_0 := hts (.fieldLink RX12 58 "SpoonsLastModel" "at" "I") (by decide +kernel)
  generalize hQ : MQ below _ args s 0 0 A = Q
  have C_27 : ∀ (v1_27 : Int32) (at0_27 : Int32) (fault_27 : Int32) (opened_27 : Int32) (code_27 : Nat → Int32) (coded_27 : Int32), fX12_compared_27 ru v1_27 d base at0_27 size fault_27 opened_27 isRub code_27 coded_27 = some (at0R, faultR, openedR, codeR, codedR) → WW p l e ({ frames := a + 3, cells := 0, slots := 0, locals := b + 66 } : Room) s m args below meth c D A 0 0 Q (wM cA ad d kept aside images found base at0_27 size fault_27 opened_27 isRub names code_27 coded_27 pile needs traced traceMany who bitsOf sizeOf number lifted) 2 [(0, .ref (ad 0)), (1, .int v1_27)] 27 [] := by
    intro v1_27 at0_27 fault_27 opened_27 code_27 coded_27 h
    unfold fX12_compared_27 at h
    intro H locs ls hP hD hS hv
    refine lv_aload_n hx hb dX12_compared_27 rfl (lv_at hv 0 rfl) ?_
    refine lv_dup hx hb dX12_compared_28 rfl ?_
    refine va_get (D := D) (ci := 12) (v := .int at0_27) (C := RX12) (T := TX12) (N := 23) hx hb hts in_12 hown hK hP 0 rfl rfl 6 (by decide) w_0 (fun _ h9 => h9) rfl dX12_compared_29 ?_
    refine lv_iconst (v := (1 : Int32)) hx hb dX12_compared_32 (by decide) ?_
    refine lv_iadd hx hb dX12_compared_33 ?_
    obtain ⟨y_10, ey_10, h⟩ := bnd_ex h
    refine lv_nm ey_10 ?_
    refine va_put (D := D) (ci := 12) (v := .int y_10) (ty := .int) (C := RX12) (T := TX12) (N := 23) hx hb hts in_12 tyX12 tyX12_ok nmX12 hown hK hP hD hS 0 rfl rfl 6 (by decide) w_0 (fun _ h9 => h9) rfl (by decide +kernel) rfl rfl (Nat.le_of_ble_eq_true rfl) dX12_compared_34 (fun H locs hP hD hS => ?_)
    have hP : va_P D vwCl (wM cA ad d kept aside images found base y_10 size fault_27 opened_27 isRub names code_27 coded_27 pile needs traced traceMany who bitsOf sizeOf number lifted) H := hP
    have hD : va_D A (wM cA ad d kept aside images found base y_10 size fault_27 opened_27 isRub names code_27 coded_27 pile needs traced traceMany who bitsOf sizeOf number lifted) := hD
    refine lv_aload_n hx hb dX12_compared_37 rfl (lv_at hv 0 rfl) ?_
    obtain ⟨⟨at0_11, fault_12, opened_13, code_14, coded_15⟩, hf_16, h⟩ := bd_ex h
    have sb := Sb.same hP hD hS hA
    refine calV (va_runV (As := []) (rest := []) ⟨hx, hb, hml, hown, hts⟩ (c_X12_sum l G D cA ad _ d kept aside images found base y_10 size fault_27 opened_27 isRub names code_27 coded_27 pile needs traced traceMany who bitsOf sizeOf number lifted ru a b hru at0_11 fault_12 opened_13 code_14 coded_15 hf_16) (cwV 0 hts gX12_compared_X12_sum rfl rfl rfl (by decide +kernel) ⟨show a + 2 + 1 ≤ a + 3 by omega, show 8 + (2 + 11) + (b + 45) ≤ b + 66 by omega⟩) (pvV hE hK hS sb (va_recv hK hP (ci := 12) (q0 := 0) rfl rfl)) rfl rfl hv.1 rfl (lv_room (Nat.le_of_ble_eq_true rfl)) dX12_compared_38 ⟨Nat.le_of_ble_eq_true rfl, Nat.le_of_ble_eq_true rfl⟩) hS sb (Jn.same sb) (fun H locs hP hD hS => ?_)
    have hP : va_P D vwCl (wM cA ad d kept aside images found base at0_11 size fault_12 opened_13 isRub names code_14 coded_15 pile needs traced traceMany who bitsOf sizeOf number lifted) H := hP
    have hD : va_D A (wM cA ad d kept aside images found base at0_11 size fault_12 opened_13 isRub names code_14 coded_15 pile needs traced traceMany who bitsOf sizeOf number lifted) := hD
    refine lv_aload_n hx hb dX12_compared_41 rfl (lv_at hv 0 rfl) ?_
    refine lv_sipush (v := (20000 : Int32)) hx hb dX12_compared_42 (by decide) ?_
    refine lv_iload_n hx hb dX12_compared_45 rfl (lv_at hv 1 rfl) ?_
    refine lv_iadd hx hb dX12_compared_46 ?_
    obtain ⟨⟨code_17, coded_18⟩, hf_19, h⟩ := bd_ex h
    have sb := Sb.same hP hD hS hA
    refine calV (va_runV (As := [.int ((20000 : Int32) + v1_27)]) (rest := []) ⟨hx, hb, hml, hown, hts⟩ (c_X12_lay l G D cA ad _ d kept aside images found base at0_11 size fault_12 opened_13 isRub names code_14 coded_15 pile needs traced traceMany who bitsOf sizeOf number lifted ((20000 : Int32) + v1_27) code_17 coded_18 hf_19) (cwV 1 hts gX12_compared_X12_lay rfl rfl rfl (by decide +kernel) ⟨show 0 + 1 ≤ a + 3 by omega, show 8 + (2 + 11) + 0 ≤ b + 66 by omega⟩) (pvV hE hK hS sb (va_recv hK hP (ci := 12) (q0 := 0) rfl rfl)) rfl rfl hv.1 rfl (lv_room (Nat.le_of_ble_eq_true rfl)) dX12_compared_47 ⟨Nat.le_of_ble_eq_true rfl, Nat.le_of_ble_eq_true rfl⟩) hS sb (Jn.same sb) (fun H locs hP hD hS => ?_)
    have hP : va_P D vwCl (wM cA ad d kept aside images found base at0_11 size fault_12 opened_13 isRub names code_17 coded_18 pile needs traced traceMany who bitsOf sizeOf number lifted) H := hP
    have hD : va_D A (wM cA ad d kept aside images found base at0_11 size fault_12 opened_13 isRub names code_17 coded_18 pile needs traced traceMany who bitsOf sizeOf number lifted) := hD
    have h := Option.some.inj h
    have ee0 : at0_11 = at0R := congrArg (fun q => q.1) h
    have ee1 : fault_12 = faultR := congrArg (fun q => q.2.1) h
    have ee2 : opened_13 = openedR := congrArg (fun q => q.2.2.1) h
    have ee3 : code_17 = codeR := congrArg (fun q => q.2.2.2.1) h
    have ee4 : coded_18 = codedR := congrArg (fun q => q.2.2.2.2) h
    subst ee0
    subst ee1
    subst ee2
    subst ee3
    subst ee4
    rw [← hQ]
    exact retV hx hb hr hlk hK hP hD hS dX12_compared_50 ⟨Nat.le_of_ble_eq_true rfl, Nat.le_of_ble_eq_true rfl⟩
  have hP : va_P D vwCl (wM cA ad d kept aside images found base at0 size fault opened isRub names code coded pile needs traced traceMany who bitsOf sizeOf number lifted) H := hP
  unfold fX12_compared at h
  refine lv_aload_n hx hb dX12_compared_0 rfl (lv_at hv 0 rfl) ?_
  obtain ⟨⟨at0_1, fault_2, opened_3, code_4, coded_5⟩, hf_6, h⟩ := bd_ex h
  have sb := Sb.same hP hD hS hA
  refine calV (va_runV (As := []) (rest := []) ⟨hx, hb, hml, hown, hts⟩ (c_X12_sum l G D cA ad _ d kept aside images found base at0 size fault opened isRub names code coded pile needs traced traceMany who bitsOf sizeOf number lifted ru a b hru at0_1 fault_2 opened_3 code_4 coded_5 hf_6) (cwV 0 hts gX12_compared_X12_sum rfl rfl rfl (by decide +kernel) ⟨show a + 2 + 1 ≤ a + 3 by omega, show 8 + (2 + 11) + (b + 45) ≤ b + 66 by omega⟩) (pvV hE hK hS sb (va_recv hK hP (ci := 12) (q0 := 0) rfl rfl)) rfl rfl hv.1 rfl (lv_room (Nat.le_of_ble_eq_true rfl)) dX12_compared_1 ⟨Nat.le_of_ble_eq_true rfl, Nat.le_of_ble_eq_true rfl⟩) hS sb (Jn.same sb) (fun H locs hP hD hS => ?_)
  have hP : va_P D vwCl (wM cA ad d kept aside images found base at0_1 size fault_2 opened_3 isRub names code_4 coded_5 pile needs traced traceMany who bitsOf sizeOf number lifted) H := hP
  have hD : va_D A (wM cA ad d kept aside images found base at0_1 size fault_2 opened_3 isRub names code_4 coded_5 pile needs traced traceMany who bitsOf sizeOf number lifted) := hD
  refine lv_aload_n hx hb dX12_compared_4 rfl (lv_at hv 0 rfl) ?_
  obtain ⟨r_7, hf_8, h⟩ := bd_ex h
  have sb := Sb.same hP hD hS hA
  refine calI (va_runV (As := []) (rest := []) ⟨hx, hb, hml, hown, hts⟩ (c_X12_here l G D cA ad _ d kept aside images found base at0_1 size fault_2 opened_3 isRub names code_4 coded_5 pile needs traced traceMany who bitsOf sizeOf number lifted r_7 hf_8) (cwV 0 hts gX12_compared_X12_here rfl rfl rfl (by decide +kernel) ⟨show 0 + 1 ≤ a + 3 by omega, show 8 + (1 + 11) + 0 ≤ b + 66 by omega⟩) (pvV hE hK hS sb (va_recv hK hP (ci := 12) (q0 := 0) rfl rfl)) rfl rfl hv.1 rfl (lv_room (Nat.le_of_ble_eq_true rfl)) dX12_compared_5 ⟨Nat.le_of_ble_eq_true rfl, Nat.le_of_ble_eq_true rfl⟩) hS sb (Jn.same sb) (fun H locs hP hD hS => ?_)
  have hP : va_P D vwCl (wM cA ad d kept aside images found base at0_1 size fault_2 opened_3 isRub names code_4 coded_5 pile needs traced traceMany who bitsOf sizeOf number lifted) H := hP
  have hD : va_D A (wM cA ad d kept aside images found base at0_1 size fault_2 opened_3 isRub names code_4 coded_5 pile needs traced traceMany who bitsOf sizeOf number lifted) := hD
  refine lv_istore_n (lv' := [(1, .int r_7), (0, .ref (ad 0))]) hx hb dX12_compared_8 rfl hv (by decide) rfl (fun ls hv => ?_)
  refine lv_iload_n hx hb dX12_compared_9 rfl (lv_at hv 0 rfl) ?_
  refine lv_bipush (v := (60 : Int32)) hx hb dX12_compared_10 (by decide) ?_
  refine lv_icmp_eq (tgt := 27) hx hb dX12_compared_12 (by decide) (fun c_9 => ?_) (fun c_9 => ?_)
  · have h := ite_t c_9 h
    exact C_27 r_7 at0_1 fault_2 opened_3 code_4 coded_5 h _ _ _ hP hD hS (lv_sub hv [1, 0] rfl)
  · have h := ite_f c_9 h
    refine lv_iload_n hx hb dX12_compared_15 rfl (lv_at hv 0 rfl) ?_
    refine lv_bipush (v := (61 : Int32)) hx hb dX12_compared_16 (by decide) ?_
    refine lv_icmp_eq (tgt := 27) hx hb dX12_compared_18 (by decide) (fun c_20 => ?_) (fun c_20 => ?_)
    · have h := ite_t c_20 h
      exact C_27 r_7 at0_1 fault_2 opened_3 code_4 coded_5 h _ _ _ hP hD hS (lv_sub hv [1, 0] rfl)
    · have h := ite_f c_20 h
      refine lv_iload_n hx hb dX12_compared_21 rfl (lv_at hv 0 rfl) ?_
      refine lv_bipush (v := (62 : Int32)) hx hb dX12_compared_22 (by decide) ?_
      refine lv_icmp_ne (tgt := 50) hx hb dX12_compared_24 (by decide) (fun c_21 => ?_) (fun c_21 => ?_)
      · have h := ite_f c_21 h
        have h := Option.some.inj h
        have ee0 : at0_1 = at0R := congrArg (fun q => q.1) h
        have ee1 : fault_2 = faultR := congrArg (fun q => q.2.1) h
        have ee2 : opened_3 = openedR := congrArg (fun q => q.2.2.1) h
        have ee3 : code_4 = codeR := congrArg (fun q => q.2.2.2.1) h
        have ee4 : coded_5 = codedR := congrArg (fun q => q.2.2.2.2) h
        subst ee0
        subst ee1
        subst ee2
        subst ee3
        subst ee4
        rw [← hQ]
        exact retV hx hb hr hlk hK hP hD hS dX12_compared_50 ⟨Nat.le_of_ble_eq_true rfl, Nat.le_of_ble_eq_true rfl⟩
      · have h := ite_t c_21 h
        exact C_27 r_7 at0_1 fault_2 opened_3 code_4 coded_5 h _ _ _ hP hD hS (lv_sub hv [1, 0] rfl)

def fX12_both_4B (ru : (Nat → Int32) → Int32 → Int32 → Int32 → Int32 → Int32 → Int32 → (Nat → Int32) → Int32 → Option (Int32 × Int32 × Int32 × (Nat → Int32) × Int32)) (d : Nat → Int32) (base : Int32) (size : Int32) (isRub : Int32) (at0_4b : Int32) (fault_4b : Int32) (opened_4b : Int32) (code_4b : Nat → Int32) (coded_4b : Int32) : Option ((Int32 × Int32 × Int32 × (Nat → Int32) × Int32) ⊕ (Int32 × Int32 × Int32 × (Nat → Int32) × Int32)) :=
  bd (fX12_takes (38 : Int32) d base at0_4b size fault_4b) fun (r_7, at0_8) => (if r_7 = 0 then some (.inr (at0_8, fault_4b, opened_4b, code_4b, coded_4b)) else bd (fX12_compared ru d base at0_8 size fault_4b opened_4b isRub code_4b coded_4b) fun (at0_11, fault_12, opened_13, code_14, coded_15) => bd (fX12_lay (20038 : Int32) fault_12 code_14 coded_15) fun (code_17, coded_18) => some (.inl (at0_11, fault_12, opened_13, code_17, coded_18)))
def fX12_both_4 (ru : (Nat → Int32) → Int32 → Int32 → Int32 → Int32 → Int32 → Int32 → (Nat → Int32) → Int32 → Option (Int32 × Int32 × Int32 × (Nat → Int32) × Int32)) (d : Nat → Int32) (base : Int32) (at0_4 : Int32) (size : Int32) (fault_4 : Int32) (opened_4 : Int32) (isRub : Int32) (code_4 : Nat → Int32) (coded_4 : Int32) : Option (Int32 × Int32 × Int32 × (Nat → Int32) × Int32) :=
  bd (lp (fun σ : Int32 × Int32 × Int32 × (Nat → Int32) × Int32 => fX12_both_4B ru d base size isRub (σ.1) (σ.2.1) (σ.2.2.1) (σ.2.2.2.1) (σ.2.2.2.2)) FU (at0_4, fault_4, opened_4, code_4, coded_4)) fun ρ => match ρ with | (at0_4r, fault_4r, opened_4r, code_4r, coded_4r) => some (at0_4r, fault_4r, opened_4r, code_4r, coded_4r)
def fX12_both (ru : (Nat → Int32) → Int32 → Int32 → Int32 → Int32 → Int32 → Int32 → (Nat → Int32) → Int32 → Option (Int32 × Int32 × Int32 × (Nat → Int32) × Int32)) (d : Nat → Int32) (base : Int32) (at0 : Int32) (size : Int32) (fault : Int32) (opened : Int32) (isRub : Int32) (code : Nat → Int32) (coded : Int32) : Option (Int32 × Int32 × Int32 × (Nat → Int32) × Int32) :=
  bd (fX12_compared ru d base at0 size fault opened isRub code coded) fun (at0_1, fault_2, opened_3, code_4, coded_5) => fX12_both_4 ru d base at0_1 size fault_2 opened_3 isRub code_4 coded_5
set_option maxHeartbeats 4000000 in
set_option maxRecDepth 100000 in
theorem c_X12_both (l : Launch) (G : Nat → Nat) (D : va_G) (cA : Nat → ClassId) (ad : Nat → Nat) (sz : Nat) (d : Nat → Int32) (kept : Nat → Int32) (aside : Nat → Int32) (images : Int32) (found : Nat → Int32) (base : Int32) (at0 : Int32) (size : Int32) (fault : Int32) (opened : Int32) (isRub : Int32) (names : Nat → Int32) (code : Nat → Int32) (coded : Int32) (pile : Nat → Int32) (needs : Nat → Int32) (traced : Nat → Int32) (traceMany : Int32) (who : Int32) (bitsOf : Nat → Int32) (sizeOf : Nat → Int32) (number : Nat → Int32) (lifted : Nat → Int32) (ru : (Nat → Int32) → Int32 → Int32 → Int32 → Int32 → Int32 → Int32 → (Nat → Int32) → Int32 → Option (Int32 × Int32 × Int32 × (Nat → Int32) × Int32)) (a b : Nat) (hru : ∀ (sz : Nat) (d : Nat → Int32) (kept : Nat → Int32) (aside : Nat → Int32) (images : Int32) (found : Nat → Int32) (base : Int32) (at0 : Int32) (size : Int32) (fault : Int32) (opened : Int32) (isRub : Int32) (names : Nat → Int32) (code : Nat → Int32) (coded : Int32) (pile : Nat → Int32) (needs : Nat → Int32) (traced : Nat → Int32) (traceMany : Int32) (who : Int32) (bitsOf : Nat → Int32) (sizeOf : Nat → Int32) (number : Nat → Int32) (lifted : Nat → Int32) (at0R : Int32) (faultR : Int32) (openedR : Int32) (codeR : Nat → Int32) (codedR : Int32), ru d base at0 size fault opened isRub code coded = some (at0R, faultR, openedR, codeR, codedR) → Met l yX12_unit wsX12_unit ({ frames := a, cells := 0, slots := 0, locals := b } : Room) (PW G D (tyC cA) sz (wM cA ad d kept aside images found base at0 size fault opened isRub names code coded pile needs traced traceMany who bitsOf sizeOf number lifted) [.ref (ad 0)]) (QV D (tyC cA) (va_A (wM cA ad d kept aside images found base at0 size fault opened isRub names code coded pile needs traced traceMany who bitsOf sizeOf number lifted) sz) (wM cA ad d kept aside images found base at0R size faultR openedR isRub names codeR codedR pile needs traced traceMany who bitsOf sizeOf number lifted)) 0 0 (va_A (wM cA ad d kept aside images found base at0 size fault opened isRub names code coded pile needs traced traceMany who bitsOf sizeOf number lifted) sz))  (at0R : Int32) (faultR : Int32) (openedR : Int32) (codeR : Nat → Int32) (codedR : Int32) (h : fX12_both ru d base at0 size fault opened isRub code coded = some (at0R, faultR, openedR, codeR, codedR)) : Met l yX12_both wsX12_both ({ frames := a + 4, cells := 0, slots := 0, locals := b + 87 } : Room) (PW G D (tyC cA) sz (wM cA ad d kept aside images found base at0 size fault opened isRub names code coded pile needs traced traceMany who bitsOf sizeOf number lifted) [.ref (ad 0)]) (QV D (tyC cA) (va_A (wM cA ad d kept aside images found base at0 size fault opened isRub names code coded pile needs traced traceMany who bitsOf sizeOf number lifted) sz) (wM cA ad d kept aside images found base at0R size faultR openedR isRub names codeR codedR pile needs traced traceMany who bitsOf sizeOf number lifted)) 0 0 (va_A (wM cA ad d kept aside images found base at0 size fault opened isRub names code coded pile needs traced traceMany who bitsOf sizeOf number lifted) sz) := by
  refine ent (cc := cX12_both) (maxL := 1) (ret := none) (fun A => QV D (tyC cA) A (wM cA ad d kept aside images found base at0R size faultR openedR isRub names codeR codedR pile needs traced traceMany who bitsOf sizeOf number lifted)) (by decide +kernel) rfl (Nat.le_of_ble_eq_true rfl) ?_
  intro p e s m args below meth c A ls H hx hb hml hr hlk hts hown hA hK hE hP hD hS hv hmm
  have hv : lv_has ls 1 [(0, .ref (ad 0))] := hv
  generalize hQ : MQ below _ args s 0 0 A = Q
  have C_4 : ∀ (at0_4 : Int32) (fault_4 : Int32) (opened_4 : Int32) (code_4 : Nat → Int32) (coded_4 : Int32), fX12_both_4 ru d base at0_4 size fault_4 opened_4 isRub code_4 coded_4 = some (at0R, faultR, openedR, codeR, codedR) → WW p l e ({ frames := a + 4, cells := 0, slots := 0, locals := b + 87 } : Room) s m args below meth c D A 0 0 Q (wM cA ad d kept aside images found base at0_4 size fault_4 opened_4 isRub names code_4 coded_4 pile needs traced traceMany who bitsOf sizeOf number lifted) 1 [(0, .ref (ad 0))] 4 [] := by
    intro at0_4 fault_4 opened_4 code_4 coded_4 h
    unfold fX12_both_4 at h
    obtain ⟨⟨at0_4r, fault_4r, opened_4r, code_4r, coded_4r⟩, ho, h⟩ := bd_ex h
    have LE : WW p l e ({ frames := a + 4, cells := 0, slots := 0, locals := b + 87 } : Room) s m args below meth c D A 0 0 Q (wM cA ad d kept aside images found base at0_4r size fault_4r opened_4r isRub names code_4r coded_4r pile needs traced traceMany who bitsOf sizeOf number lifted) 1 [] 27 [] := by
      intro H locs ls hP hD hS hv
      have h := Option.some.inj h
      have ee0 : at0_4r = at0R := congrArg (fun q => q.1) h
      have ee1 : fault_4r = faultR := congrArg (fun q => q.2.1) h
      have ee2 : opened_4r = openedR := congrArg (fun q => q.2.2.1) h
      have ee3 : code_4r = codeR := congrArg (fun q => q.2.2.2.1) h
      have ee4 : coded_4r = codedR := congrArg (fun q => q.2.2.2.2) h
      subst ee0
      subst ee1
      subst ee2
      subst ee3
      subst ee4
      rw [← hQ]
      exact retV hx hb hr hlk hK hP hD hS dX12_both_27 ⟨Nat.le_of_ble_eq_true rfl, Nat.le_of_ble_eq_true rfl⟩
    have LB : ∀ (nf : Nat) (at0_4b : Int32) (fault_4b : Int32) (opened_4b : Int32) (code_4b : Nat → Int32) (coded_4b : Int32), lp (fun σ : Int32 × Int32 × Int32 × (Nat → Int32) × Int32 => fX12_both_4B ru d base size isRub (σ.1) (σ.2.1) (σ.2.2.1) (σ.2.2.2.1) (σ.2.2.2.2)) nf (at0_4b, fault_4b, opened_4b, code_4b, coded_4b) = some (at0_4r, fault_4r, opened_4r, code_4r, coded_4r) → WW p l e ({ frames := a + 4, cells := 0, slots := 0, locals := b + 87 } : Room) s m args below meth c D A 0 0 Q (wM cA ad d kept aside images found base at0_4b size fault_4b opened_4b isRub names code_4b coded_4b pile needs traced traceMany who bitsOf sizeOf number lifted) 1 [(0, .ref (ad 0))] 4 [] := by
      intro nf
      induction nf with
      | zero => intro at0_4b fault_4b opened_4b code_4b coded_4b hl; cases hl
      | succ nf ih =>
        intro at0_4b fault_4b opened_4b code_4b coded_4b hl
        obtain ⟨x, h, hl⟩ := lp_ex hl
        have h : fX12_both_4B ru d base size isRub at0_4b fault_4b opened_4b code_4b coded_4b = some x := h
        unfold fX12_both_4B at h
        intro H locs ls hP hD hS hv
        refine lv_aload_n hx hb dX12_both_4 rfl (lv_at hv 0 rfl) ?_
        refine lv_bipush (v := (38 : Int32)) hx hb dX12_both_5 (by decide) ?_
        obtain ⟨⟨r_7, at0_8⟩, hf_9, h⟩ := bd_ex h
        have sb := Sb.same hP hD hS hA
        refine calI (va_runV (As := [.int (38 : Int32)]) (rest := []) ⟨hx, hb, hml, hown, hts⟩ (c_X12_takes l G D cA ad _ d kept aside images found base at0_4b size fault_4b opened_4b isRub names code_4b coded_4b pile needs traced traceMany who bitsOf sizeOf number lifted (38 : Int32) r_7 at0_8 hf_9) (cwV 1 hts gX12_both_X12_takes rfl rfl rfl (by decide +kernel) ⟨show 1 + 1 ≤ a + 4 by omega, show 8 + (2 + 11) + 20 ≤ b + 87 by omega⟩) (pvV hE hK hS sb (va_recv hK hP (ci := 12) (q0 := 0) rfl rfl)) rfl rfl hv.1 rfl (lv_room (Nat.le_of_ble_eq_true rfl)) dX12_both_7 ⟨Nat.le_of_ble_eq_true rfl, Nat.le_of_ble_eq_true rfl⟩) hS sb (Jn.same sb) (fun H locs hP hD hS => ?_)
        have hP : va_P D vwCl (wM cA ad d kept aside images found base at0_8 size fault_4b opened_4b isRub names code_4b coded_4b pile needs traced traceMany who bitsOf sizeOf number lifted) H := hP
        have hD : va_D A (wM cA ad d kept aside images found base at0_8 size fault_4b opened_4b isRub names code_4b coded_4b pile needs traced traceMany who bitsOf sizeOf number lifted) := hD
        refine lv_if_eq (tgt := 27) hx hb dX12_both_10 (by decide) (fun c_10 => ?_) (fun c_10 => ?_)
        · have h := ite_t c_10 h
          cases h
          have hl : some (at0_8, fault_4b, opened_4b, code_4b, coded_4b) = some (at0_4r, fault_4r, opened_4r, code_4r, coded_4r) := hl
          have hl := Option.some.inj hl
          have ee0 : at0_8 = at0_4r := congrArg (fun q => q.1) hl
          have ee1 : fault_4b = fault_4r := congrArg (fun q => q.2.1) hl
          have ee2 : opened_4b = opened_4r := congrArg (fun q => q.2.2.1) hl
          have ee3 : code_4b = code_4r := congrArg (fun q => q.2.2.2.1) hl
          have ee4 : coded_4b = coded_4r := congrArg (fun q => q.2.2.2.2) hl
          subst ee0
          subst ee1
          subst ee2
          subst ee3
          subst ee4
          exact LE _ _ _ hP hD hS (lv_sub hv [] rfl)
        · have h := ite_f c_10 h
          refine lv_aload_n hx hb dX12_both_13 rfl (lv_at hv 0 rfl) ?_
          obtain ⟨⟨at0_11, fault_12, opened_13, code_14, coded_15⟩, hf_16, h⟩ := bd_ex h
          have sb := Sb.same hP hD hS hA
          refine calV (va_runV (As := []) (rest := []) ⟨hx, hb, hml, hown, hts⟩ (c_X12_compared l G D cA ad _ d kept aside images found base at0_8 size fault_4b opened_4b isRub names code_4b coded_4b pile needs traced traceMany who bitsOf sizeOf number lifted ru a b hru at0_11 fault_12 opened_13 code_14 coded_15 hf_16) (cwV 0 hts gX12_both_X12_compared rfl rfl rfl (by decide +kernel) ⟨show a + 3 + 1 ≤ a + 4 by omega, show 8 + (2 + 11) + (b + 66) ≤ b + 87 by omega⟩) (pvV hE hK hS sb (va_recv hK hP (ci := 12) (q0 := 0) rfl rfl)) rfl rfl hv.1 rfl (lv_room (Nat.le_of_ble_eq_true rfl)) dX12_both_14 ⟨Nat.le_of_ble_eq_true rfl, Nat.le_of_ble_eq_true rfl⟩) hS sb (Jn.same sb) (fun H locs hP hD hS => ?_)
          have hP : va_P D vwCl (wM cA ad d kept aside images found base at0_11 size fault_12 opened_13 isRub names code_14 coded_15 pile needs traced traceMany who bitsOf sizeOf number lifted) H := hP
          have hD : va_D A (wM cA ad d kept aside images found base at0_11 size fault_12 opened_13 isRub names code_14 coded_15 pile needs traced traceMany who bitsOf sizeOf number lifted) := hD
          refine lv_aload_n hx hb dX12_both_17 rfl (lv_at hv 0 rfl) ?_
          refine lv_sipush (v := (20038 : Int32)) hx hb dX12_both_18 (by decide) ?_
          obtain ⟨⟨code_17, coded_18⟩, hf_19, h⟩ := bd_ex h
          have sb := Sb.same hP hD hS hA
          refine calV (va_runV (As := [.int (20038 : Int32)]) (rest := []) ⟨hx, hb, hml, hown, hts⟩ (c_X12_lay l G D cA ad _ d kept aside images found base at0_11 size fault_12 opened_13 isRub names code_14 coded_15 pile needs traced traceMany who bitsOf sizeOf number lifted (20038 : Int32) code_17 coded_18 hf_19) (cwV 1 hts gX12_both_X12_lay rfl rfl rfl (by decide +kernel) ⟨show 0 + 1 ≤ a + 4 by omega, show 8 + (2 + 11) + 0 ≤ b + 87 by omega⟩) (pvV hE hK hS sb (va_recv hK hP (ci := 12) (q0 := 0) rfl rfl)) rfl rfl hv.1 rfl (lv_room (Nat.le_of_ble_eq_true rfl)) dX12_both_21 ⟨Nat.le_of_ble_eq_true rfl, Nat.le_of_ble_eq_true rfl⟩) hS sb (Jn.same sb) (fun H locs hP hD hS => ?_)
          have hP : va_P D vwCl (wM cA ad d kept aside images found base at0_11 size fault_12 opened_13 isRub names code_17 coded_18 pile needs traced traceMany who bitsOf sizeOf number lifted) H := hP
          have hD : va_D A (wM cA ad d kept aside images found base at0_11 size fault_12 opened_13 isRub names code_17 coded_18 pile needs traced traceMany who bitsOf sizeOf number lifted) := hD
          refine lv_goto (tgt := 4) hx hb dX12_both_24 (by decide) ?_
          cases h
          exact ih at0_11 fault_12 opened_13 code_17 coded_18 hl _ _ _ hP hD hS (lv_sub hv [0] rfl)
    exact LB FU at0_4 fault_4 opened_4 code_4 coded_4 ho
  have hP : va_P D vwCl (wM cA ad d kept aside images found base at0 size fault opened isRub names code coded pile needs traced traceMany who bitsOf sizeOf number lifted) H := hP
  unfold fX12_both at h
  refine lv_aload_n hx hb dX12_both_0 rfl (lv_at hv 0 rfl) ?_
  obtain ⟨⟨at0_1, fault_2, opened_3, code_4, coded_5⟩, hf_6, h⟩ := bd_ex h
  have sb := Sb.same hP hD hS hA
  refine calV (va_runV (As := []) (rest := []) ⟨hx, hb, hml, hown, hts⟩ (c_X12_compared l G D cA ad _ d kept aside images found base at0 size fault opened isRub names code coded pile needs traced traceMany who bitsOf sizeOf number lifted ru a b hru at0_1 fault_2 opened_3 code_4 coded_5 hf_6) (cwV 0 hts gX12_both_X12_compared rfl rfl rfl (by decide +kernel) ⟨show a + 3 + 1 ≤ a + 4 by omega, show 8 + (2 + 11) + (b + 66) ≤ b + 87 by omega⟩) (pvV hE hK hS sb (va_recv hK hP (ci := 12) (q0 := 0) rfl rfl)) rfl rfl hv.1 rfl (lv_room (Nat.le_of_ble_eq_true rfl)) dX12_both_1 ⟨Nat.le_of_ble_eq_true rfl, Nat.le_of_ble_eq_true rfl⟩) hS sb (Jn.same sb) (fun H locs hP hD hS => ?_)
  have hP : va_P D vwCl (wM cA ad d kept aside images found base at0_1 size fault_2 opened_3 isRub names code_4 coded_5 pile needs traced traceMany who bitsOf sizeOf number lifted) H := hP
  have hD : va_D A (wM cA ad d kept aside images found base at0_1 size fault_2 opened_3 isRub names code_4 coded_5 pile needs traced traceMany who bitsOf sizeOf number lifted) := hD
  exact C_4 at0_1 fault_2 opened_3 code_4 coded_5 h _ _ _ hP hD hS (lv_sub hv [0] rfl)

def fX12_either_4B (ru : (Nat → Int32) → Int32 → Int32 → Int32 → Int32 → Int32 → Int32 → (Nat → Int32) → Int32 → Option (Int32 × Int32 × Int32 × (Nat → Int32) × Int32)) (d : Nat → Int32) (base : Int32) (size : Int32) (isRub : Int32) (at0_4b : Int32) (fault_4b : Int32) (opened_4b : Int32) (code_4b : Nat → Int32) (coded_4b : Int32) : Option ((Int32 × Int32 × Int32 × (Nat → Int32) × Int32) ⊕ (Int32 × Int32 × Int32 × (Nat → Int32) × Int32)) :=
  bd (fX12_takes (124 : Int32) d base at0_4b size fault_4b) fun (r_7, at0_8) => (if r_7 = 0 then some (.inr (at0_8, fault_4b, opened_4b, code_4b, coded_4b)) else bd (fX12_both ru d base at0_8 size fault_4b opened_4b isRub code_4b coded_4b) fun (at0_11, fault_12, opened_13, code_14, coded_15) => bd (fX12_lay (20124 : Int32) fault_12 code_14 coded_15) fun (code_17, coded_18) => some (.inl (at0_11, fault_12, opened_13, code_17, coded_18)))
def fX12_either_4 (ru : (Nat → Int32) → Int32 → Int32 → Int32 → Int32 → Int32 → Int32 → (Nat → Int32) → Int32 → Option (Int32 × Int32 × Int32 × (Nat → Int32) × Int32)) (d : Nat → Int32) (base : Int32) (at0_4 : Int32) (size : Int32) (fault_4 : Int32) (opened_4 : Int32) (isRub : Int32) (code_4 : Nat → Int32) (coded_4 : Int32) : Option (Int32 × Int32 × Int32 × (Nat → Int32) × Int32) :=
  bd (lp (fun σ : Int32 × Int32 × Int32 × (Nat → Int32) × Int32 => fX12_either_4B ru d base size isRub (σ.1) (σ.2.1) (σ.2.2.1) (σ.2.2.2.1) (σ.2.2.2.2)) FU (at0_4, fault_4, opened_4, code_4, coded_4)) fun ρ => match ρ with | (at0_4r, fault_4r, opened_4r, code_4r, coded_4r) => some (at0_4r, fault_4r, opened_4r, code_4r, coded_4r)
def fX12_either (ru : (Nat → Int32) → Int32 → Int32 → Int32 → Int32 → Int32 → Int32 → (Nat → Int32) → Int32 → Option (Int32 × Int32 × Int32 × (Nat → Int32) × Int32)) (d : Nat → Int32) (base : Int32) (at0 : Int32) (size : Int32) (fault : Int32) (opened : Int32) (isRub : Int32) (code : Nat → Int32) (coded : Int32) : Option (Int32 × Int32 × Int32 × (Nat → Int32) × Int32) :=
  bd (fX12_both ru d base at0 size fault opened isRub code coded) fun (at0_1, fault_2, opened_3, code_4, coded_5) => fX12_either_4 ru d base at0_1 size fault_2 opened_3 isRub code_4 coded_5
set_option maxHeartbeats 4000000 in
set_option maxRecDepth 100000 in
theorem c_X12_either (l : Launch) (G : Nat → Nat) (D : va_G) (cA : Nat → ClassId) (ad : Nat → Nat) (sz : Nat) (d : Nat → Int32) (kept : Nat → Int32) (aside : Nat → Int32) (images : Int32) (found : Nat → Int32) (base : Int32) (at0 : Int32) (size : Int32) (fault : Int32) (opened : Int32) (isRub : Int32) (names : Nat → Int32) (code : Nat → Int32) (coded : Int32) (pile : Nat → Int32) (needs : Nat → Int32) (traced : Nat → Int32) (traceMany : Int32) (who : Int32) (bitsOf : Nat → Int32) (sizeOf : Nat → Int32) (number : Nat → Int32) (lifted : Nat → Int32) (ru : (Nat → Int32) → Int32 → Int32 → Int32 → Int32 → Int32 → Int32 → (Nat → Int32) → Int32 → Option (Int32 × Int32 × Int32 × (Nat → Int32) × Int32)) (a b : Nat) (hru : ∀ (sz : Nat) (d : Nat → Int32) (kept : Nat → Int32) (aside : Nat → Int32) (images : Int32) (found : Nat → Int32) (base : Int32) (at0 : Int32) (size : Int32) (fault : Int32) (opened : Int32) (isRub : Int32) (names : Nat → Int32) (code : Nat → Int32) (coded : Int32) (pile : Nat → Int32) (needs : Nat → Int32) (traced : Nat → Int32) (traceMany : Int32) (who : Int32) (bitsOf : Nat → Int32) (sizeOf : Nat → Int32) (number : Nat → Int32) (lifted : Nat → Int32) (at0R : Int32) (faultR : Int32) (openedR : Int32) (codeR : Nat → Int32) (codedR : Int32), ru d base at0 size fault opened isRub code coded = some (at0R, faultR, openedR, codeR, codedR) → Met l yX12_unit wsX12_unit ({ frames := a, cells := 0, slots := 0, locals := b } : Room) (PW G D (tyC cA) sz (wM cA ad d kept aside images found base at0 size fault opened isRub names code coded pile needs traced traceMany who bitsOf sizeOf number lifted) [.ref (ad 0)]) (QV D (tyC cA) (va_A (wM cA ad d kept aside images found base at0 size fault opened isRub names code coded pile needs traced traceMany who bitsOf sizeOf number lifted) sz) (wM cA ad d kept aside images found base at0R size faultR openedR isRub names codeR codedR pile needs traced traceMany who bitsOf sizeOf number lifted)) 0 0 (va_A (wM cA ad d kept aside images found base at0 size fault opened isRub names code coded pile needs traced traceMany who bitsOf sizeOf number lifted) sz))  (at0R : Int32) (faultR : Int32) (openedR : Int32) (codeR : Nat → Int32) (codedR : Int32) (h : fX12_either ru d base at0 size fault opened isRub code coded = some (at0R, faultR, openedR, codeR, codedR)) : Met l yX12_either wsX12_either ({ frames := a + 5, cells := 0, slots := 0, locals := b + 107 } : Room) (PW G D (tyC cA) sz (wM cA ad d kept aside images found base at0 size fault opened isRub names code coded pile needs traced traceMany who bitsOf sizeOf number lifted) [.ref (ad 0)]) (QV D (tyC cA) (va_A (wM cA ad d kept aside images found base at0 size fault opened isRub names code coded pile needs traced traceMany who bitsOf sizeOf number lifted) sz) (wM cA ad d kept aside images found base at0R size faultR openedR isRub names codeR codedR pile needs traced traceMany who bitsOf sizeOf number lifted)) 0 0 (va_A (wM cA ad d kept aside images found base at0 size fault opened isRub names code coded pile needs traced traceMany who bitsOf sizeOf number lifted) sz) := by
  refine ent (cc := cX12_either) (maxL := 1) (ret := none) (fun A => QV D (tyC cA) A (wM cA ad d kept aside images found base at0R size faultR openedR isRub names codeR codedR pile needs traced traceMany who bitsOf sizeOf number lifted)) (by decide +kernel) rfl (Nat.le_of_ble_eq_true rfl) ?_
  intro p e s m args below meth c A ls H hx hb hml hr hlk hts hown hA hK hE hP hD hS hv hmm
  have hv : lv_has ls 1 [(0, .ref (ad 0))] := hv
  generalize hQ : MQ below _ args s 0 0 A = Q
  have C_4 : ∀ (at0_4 : Int32) (fault_4 : Int32) (opened_4 : Int32) (code_4 : Nat → Int32) (coded_4 : Int32), fX12_either_4 ru d base at0_4 size fault_4 opened_4 isRub code_4 coded_4 = some (at0R, faultR, openedR, codeR, codedR) → WW p l e ({ frames := a + 5, cells := 0, slots := 0, locals := b + 107 } : Room) s m args below meth c D A 0 0 Q (wM cA ad d kept aside images found base at0_4 size fault_4 opened_4 isRub names code_4 coded_4 pile needs traced traceMany who bitsOf sizeOf number lifted) 1 [(0, .ref (ad 0))] 4 [] := by
    intro at0_4 fault_4 opened_4 code_4 coded_4 h
    unfold fX12_either_4 at h
    obtain ⟨⟨at0_4r, fault_4r, opened_4r, code_4r, coded_4r⟩, ho, h⟩ := bd_ex h
    have LE : WW p l e ({ frames := a + 5, cells := 0, slots := 0, locals := b + 107 } : Room) s m args below meth c D A 0 0 Q (wM cA ad d kept aside images found base at0_4r size fault_4r opened_4r isRub names code_4r coded_4r pile needs traced traceMany who bitsOf sizeOf number lifted) 1 [] 27 [] := by
      intro H locs ls hP hD hS hv
      have h := Option.some.inj h
      have ee0 : at0_4r = at0R := congrArg (fun q => q.1) h
      have ee1 : fault_4r = faultR := congrArg (fun q => q.2.1) h
      have ee2 : opened_4r = openedR := congrArg (fun q => q.2.2.1) h
      have ee3 : code_4r = codeR := congrArg (fun q => q.2.2.2.1) h
      have ee4 : coded_4r = codedR := congrArg (fun q => q.2.2.2.2) h
      subst ee0
      subst ee1
      subst ee2
      subst ee3
      subst ee4
      rw [← hQ]
      exact retV hx hb hr hlk hK hP hD hS dX12_either_27 ⟨Nat.le_of_ble_eq_true rfl, Nat.le_of_ble_eq_true rfl⟩
    have LB : ∀ (nf : Nat) (at0_4b : Int32) (fault_4b : Int32) (opened_4b : Int32) (code_4b : Nat → Int32) (coded_4b : Int32), lp (fun σ : Int32 × Int32 × Int32 × (Nat → Int32) × Int32 => fX12_either_4B ru d base size isRub (σ.1) (σ.2.1) (σ.2.2.1) (σ.2.2.2.1) (σ.2.2.2.2)) nf (at0_4b, fault_4b, opened_4b, code_4b, coded_4b) = some (at0_4r, fault_4r, opened_4r, code_4r, coded_4r) → WW p l e ({ frames := a + 5, cells := 0, slots := 0, locals := b + 107 } : Room) s m args below meth c D A 0 0 Q (wM cA ad d kept aside images found base at0_4b size fault_4b opened_4b isRub names code_4b coded_4b pile needs traced traceMany who bitsOf sizeOf number lifted) 1 [(0, .ref (ad 0))] 4 [] := by
      intro nf
      induction nf with
      | zero => intro at0_4b fault_4b opened_4b code_4b coded_4b hl; cases hl
      | succ nf ih =>
        intro at0_4b fault_4b opened_4b code_4b coded_4b hl
        obtain ⟨x, h, hl⟩ := lp_ex hl
        have h : fX12_either_4B ru d base size isRub at0_4b fault_4b opened_4b code_4b coded_4b = some x := h
        unfold fX12_either_4B at h
        intro H locs ls hP hD hS hv
        refine lv_aload_n hx hb dX12_either_4 rfl (lv_at hv 0 rfl) ?_
        refine lv_bipush (v := (124 : Int32)) hx hb dX12_either_5 (by decide) ?_
        obtain ⟨⟨r_7, at0_8⟩, hf_9, h⟩ := bd_ex h
        have sb := Sb.same hP hD hS hA
        refine calI (va_runV (As := [.int (124 : Int32)]) (rest := []) ⟨hx, hb, hml, hown, hts⟩ (c_X12_takes l G D cA ad _ d kept aside images found base at0_4b size fault_4b opened_4b isRub names code_4b coded_4b pile needs traced traceMany who bitsOf sizeOf number lifted (124 : Int32) r_7 at0_8 hf_9) (cwV 1 hts gX12_either_X12_takes rfl rfl rfl (by decide +kernel) ⟨show 1 + 1 ≤ a + 5 by omega, show 8 + (2 + 11) + 20 ≤ b + 107 by omega⟩) (pvV hE hK hS sb (va_recv hK hP (ci := 12) (q0 := 0) rfl rfl)) rfl rfl hv.1 rfl (lv_room (Nat.le_of_ble_eq_true rfl)) dX12_either_7 ⟨Nat.le_of_ble_eq_true rfl, Nat.le_of_ble_eq_true rfl⟩) hS sb (Jn.same sb) (fun H locs hP hD hS => ?_)
        have hP : va_P D vwCl (wM cA ad d kept aside images found base at0_8 size fault_4b opened_4b isRub names code_4b coded_4b pile needs traced traceMany who bitsOf sizeOf number lifted) H := hP
        have hD : va_D A (wM cA ad d kept aside images found base at0_8 size fault_4b opened_4b isRub names code_4b coded_4b pile needs traced traceMany who bitsOf sizeOf number lifted) := hD
        refine lv_if_eq (tgt := 27) hx hb dX12_either_10 (by decide) (fun c_10 => ?_) (fun c_10 => ?_)
        · have h := ite_t c_10 h
          cases h
          have hl : some (at0_8, fault_4b, opened_4b, code_4b, coded_4b) = some (at0_4r, fault_4r, opened_4r, code_4r, coded_4r) := hl
          have hl := Option.some.inj hl
          have ee0 : at0_8 = at0_4r := congrArg (fun q => q.1) hl
          have ee1 : fault_4b = fault_4r := congrArg (fun q => q.2.1) hl
          have ee2 : opened_4b = opened_4r := congrArg (fun q => q.2.2.1) hl
          have ee3 : code_4b = code_4r := congrArg (fun q => q.2.2.2.1) hl
          have ee4 : coded_4b = coded_4r := congrArg (fun q => q.2.2.2.2) hl
          subst ee0
          subst ee1
          subst ee2
          subst ee3
          subst ee4
          exact LE _ _ _ hP hD hS (lv_sub hv [] rfl)
        · have h := ite_f c_10 h
          refine lv_aload_n hx hb dX12_either_13 rfl (lv_at hv 0 rfl) ?_
          obtain ⟨⟨at0_11, fault_12, opened_13, code_14, coded_15⟩, hf_16, h⟩ := bd_ex h
          have sb := Sb.same hP hD hS hA
          refine calV (va_runV (As := []) (rest := []) ⟨hx, hb, hml, hown, hts⟩ (c_X12_both l G D cA ad _ d kept aside images found base at0_8 size fault_4b opened_4b isRub names code_4b coded_4b pile needs traced traceMany who bitsOf sizeOf number lifted ru a b hru at0_11 fault_12 opened_13 code_14 coded_15 hf_16) (cwV 0 hts gX12_either_X12_both rfl rfl rfl (by decide +kernel) ⟨show a + 4 + 1 ≤ a + 5 by omega, show 8 + (1 + 11) + (b + 87) ≤ b + 107 by omega⟩) (pvV hE hK hS sb (va_recv hK hP (ci := 12) (q0 := 0) rfl rfl)) rfl rfl hv.1 rfl (lv_room (Nat.le_of_ble_eq_true rfl)) dX12_either_14 ⟨Nat.le_of_ble_eq_true rfl, Nat.le_of_ble_eq_true rfl⟩) hS sb (Jn.same sb) (fun H locs hP hD hS => ?_)
          have hP : va_P D vwCl (wM cA ad d kept aside images found base at0_11 size fault_12 opened_13 isRub names code_14 coded_15 pile needs traced traceMany who bitsOf sizeOf number lifted) H := hP
          have hD : va_D A (wM cA ad d kept aside images found base at0_11 size fault_12 opened_13 isRub names code_14 coded_15 pile needs traced traceMany who bitsOf sizeOf number lifted) := hD
          refine lv_aload_n hx hb dX12_either_17 rfl (lv_at hv 0 rfl) ?_
          refine lv_sipush (v := (20124 : Int32)) hx hb dX12_either_18 (by decide) ?_
          obtain ⟨⟨code_17, coded_18⟩, hf_19, h⟩ := bd_ex h
          have sb := Sb.same hP hD hS hA
          refine calV (va_runV (As := [.int (20124 : Int32)]) (rest := []) ⟨hx, hb, hml, hown, hts⟩ (c_X12_lay l G D cA ad _ d kept aside images found base at0_11 size fault_12 opened_13 isRub names code_14 coded_15 pile needs traced traceMany who bitsOf sizeOf number lifted (20124 : Int32) code_17 coded_18 hf_19) (cwV 1 hts gX12_either_X12_lay rfl rfl rfl (by decide +kernel) ⟨show 0 + 1 ≤ a + 5 by omega, show 8 + (2 + 11) + 0 ≤ b + 107 by omega⟩) (pvV hE hK hS sb (va_recv hK hP (ci := 12) (q0 := 0) rfl rfl)) rfl rfl hv.1 rfl (lv_room (Nat.le_of_ble_eq_true rfl)) dX12_either_21 ⟨Nat.le_of_ble_eq_true rfl, Nat.le_of_ble_eq_true rfl⟩) hS sb (Jn.same sb) (fun H locs hP hD hS => ?_)
          have hP : va_P D vwCl (wM cA ad d kept aside images found base at0_11 size fault_12 opened_13 isRub names code_17 coded_18 pile needs traced traceMany who bitsOf sizeOf number lifted) H := hP
          have hD : va_D A (wM cA ad d kept aside images found base at0_11 size fault_12 opened_13 isRub names code_17 coded_18 pile needs traced traceMany who bitsOf sizeOf number lifted) := hD
          refine lv_goto (tgt := 4) hx hb dX12_either_24 (by decide) ?_
          cases h
          exact ih at0_11 fault_12 opened_13 code_17 coded_18 hl _ _ _ hP hD hS (lv_sub hv [0] rfl)
    exact LB FU at0_4 fault_4 opened_4 code_4 coded_4 ho
  have hP : va_P D vwCl (wM cA ad d kept aside images found base at0 size fault opened isRub names code coded pile needs traced traceMany who bitsOf sizeOf number lifted) H := hP
  unfold fX12_either at h
  refine lv_aload_n hx hb dX12_either_0 rfl (lv_at hv 0 rfl) ?_
  obtain ⟨⟨at0_1, fault_2, opened_3, code_4, coded_5⟩, hf_6, h⟩ := bd_ex h
  have sb := Sb.same hP hD hS hA
  refine calV (va_runV (As := []) (rest := []) ⟨hx, hb, hml, hown, hts⟩ (c_X12_both l G D cA ad _ d kept aside images found base at0 size fault opened isRub names code coded pile needs traced traceMany who bitsOf sizeOf number lifted ru a b hru at0_1 fault_2 opened_3 code_4 coded_5 hf_6) (cwV 0 hts gX12_either_X12_both rfl rfl rfl (by decide +kernel) ⟨show a + 4 + 1 ≤ a + 5 by omega, show 8 + (1 + 11) + (b + 87) ≤ b + 107 by omega⟩) (pvV hE hK hS sb (va_recv hK hP (ci := 12) (q0 := 0) rfl rfl)) rfl rfl hv.1 rfl (lv_room (Nat.le_of_ble_eq_true rfl)) dX12_either_1 ⟨Nat.le_of_ble_eq_true rfl, Nat.le_of_ble_eq_true rfl⟩) hS sb (Jn.same sb) (fun H locs hP hD hS => ?_)
  have hP : va_P D vwCl (wM cA ad d kept aside images found base at0_1 size fault_2 opened_3 isRub names code_4 coded_5 pile needs traced traceMany who bitsOf sizeOf number lifted) H := hP
  have hD : va_D A (wM cA ad d kept aside images found base at0_1 size fault_2 opened_3 isRub names code_4 coded_5 pile needs traced traceMany who bitsOf sizeOf number lifted) := hD
  exact C_4 at0_1 fault_2 opened_3 code_4 coded_5 h _ _ _ hP hD hS (lv_sub hv [0] rfl)

def fX12_opens_70 (ru : (Nat → Int32) → Int32 → Int32 → Int32 → Int32 → Int32 → Int32 → (Nat → Int32) → Int32 → Option (Int32 × Int32 × Int32 × (Nat → Int32) × Int32)) (d : Nat → Int32) (base : Int32) (at0_70 : Int32) (size : Int32) (fault_70 : Int32) (opened_70 : Int32) (isRub : Int32) (code_70 : Nat → Int32) (coded_70 : Int32) : Option (Int32 × Int32 × Int32 × (Nat → Int32) × Int32) :=
  bnd (opened_70 - (1 : Int32)) fun y_15 => some (at0_70, fault_70, y_15, code_70, coded_70)
def fX12_opens (ru : (Nat → Int32) → Int32 → Int32 → Int32 → Int32 → Int32 → Int32 → (Nat → Int32) → Int32 → Option (Int32 × Int32 × Int32 × (Nat → Int32) × Int32)) (k : Int32) (d : Nat → Int32) (base : Int32) (at0 : Int32) (size : Int32) (fault : Int32) (opened : Int32) (isRub : Int32) (code : Nat → Int32) (coded : Int32) : Option (Int32 × Int32 × Int32 × (Nat → Int32) × Int32) :=
  (if opened = (5 : Int32) then bd (fX12_wrong at0 fault) fun fault_27 => some (at0, fault_27, opened, code, coded) else bnd (opened + (1 : Int32)) fun y_2 => bnd (at0 + (1 : Int32)) fun y_3 => (if k = (33 : Int32) then bd (ru d base y_3 size fault y_2 isRub code coded) fun (at0_18, fault_19, opened_20, code_21, coded_22) => bd (fX12_lay (20033 : Int32) fault_19 code_21 coded_22) fun (code_24, coded_25) => fX12_opens_70 ru d base at0_18 size fault_19 opened_20 isRub code_24 coded_25 else bd (fX12_either ru d base y_3 size fault y_2 isRub code coded) fun (at0_5, fault_6, opened_7, code_8, coded_9) => bd (fX12_takes (41 : Int32) d base at0_5 size fault_6) fun (r_11, at0_12) => (if r_11 = 0 then bd (fX12_wrong at0_12 fault_6) fun fault_16 => fX12_opens_70 ru d base at0_12 size fault_16 opened_7 isRub code_8 coded_9 else fX12_opens_70 ru d base at0_12 size fault_6 opened_7 isRub code_8 coded_9)))
set_option maxHeartbeats 4000000 in
set_option maxRecDepth 100000 in
theorem c_X12_opens (l : Launch) (G : Nat → Nat) (D : va_G) (cA : Nat → ClassId) (ad : Nat → Nat) (sz : Nat) (d : Nat → Int32) (kept : Nat → Int32) (aside : Nat → Int32) (images : Int32) (found : Nat → Int32) (base : Int32) (at0 : Int32) (size : Int32) (fault : Int32) (opened : Int32) (isRub : Int32) (names : Nat → Int32) (code : Nat → Int32) (coded : Int32) (pile : Nat → Int32) (needs : Nat → Int32) (traced : Nat → Int32) (traceMany : Int32) (who : Int32) (bitsOf : Nat → Int32) (sizeOf : Nat → Int32) (number : Nat → Int32) (lifted : Nat → Int32) (ru : (Nat → Int32) → Int32 → Int32 → Int32 → Int32 → Int32 → Int32 → (Nat → Int32) → Int32 → Option (Int32 × Int32 × Int32 × (Nat → Int32) × Int32)) (a b : Nat) (hru : ∀ (sz : Nat) (d : Nat → Int32) (kept : Nat → Int32) (aside : Nat → Int32) (images : Int32) (found : Nat → Int32) (base : Int32) (at0 : Int32) (size : Int32) (fault : Int32) (opened : Int32) (isRub : Int32) (names : Nat → Int32) (code : Nat → Int32) (coded : Int32) (pile : Nat → Int32) (needs : Nat → Int32) (traced : Nat → Int32) (traceMany : Int32) (who : Int32) (bitsOf : Nat → Int32) (sizeOf : Nat → Int32) (number : Nat → Int32) (lifted : Nat → Int32) (at0R : Int32) (faultR : Int32) (openedR : Int32) (codeR : Nat → Int32) (codedR : Int32), ru d base at0 size fault opened isRub code coded = some (at0R, faultR, openedR, codeR, codedR) → Met l yX12_unit wsX12_unit ({ frames := a, cells := 0, slots := 0, locals := b } : Room) (PW G D (tyC cA) sz (wM cA ad d kept aside images found base at0 size fault opened isRub names code coded pile needs traced traceMany who bitsOf sizeOf number lifted) [.ref (ad 0)]) (QV D (tyC cA) (va_A (wM cA ad d kept aside images found base at0 size fault opened isRub names code coded pile needs traced traceMany who bitsOf sizeOf number lifted) sz) (wM cA ad d kept aside images found base at0R size faultR openedR isRub names codeR codedR pile needs traced traceMany who bitsOf sizeOf number lifted)) 0 0 (va_A (wM cA ad d kept aside images found base at0 size fault opened isRub names code coded pile needs traced traceMany who bitsOf sizeOf number lifted) sz)) (k : Int32) (at0R : Int32) (faultR : Int32) (openedR : Int32) (codeR : Nat → Int32) (codedR : Int32) (h : fX12_opens ru k d base at0 size fault opened isRub code coded = some (at0R, faultR, openedR, codeR, codedR)) : Met l yX12_opens wsX12_opens ({ frames := a + 6, cells := 0, slots := 0, locals := b + 127 } : Room) (PW G D (tyC cA) sz (wM cA ad d kept aside images found base at0 size fault opened isRub names code coded pile needs traced traceMany who bitsOf sizeOf number lifted) [.ref (ad 0), .int k]) (QV D (tyC cA) (va_A (wM cA ad d kept aside images found base at0 size fault opened isRub names code coded pile needs traced traceMany who bitsOf sizeOf number lifted) sz) (wM cA ad d kept aside images found base at0R size faultR openedR isRub names codeR codedR pile needs traced traceMany who bitsOf sizeOf number lifted)) 0 0 (va_A (wM cA ad d kept aside images found base at0 size fault opened isRub names code coded pile needs traced traceMany who bitsOf sizeOf number lifted) sz) := by
  refine ent (cc := cX12_opens) (maxL := 2) (ret := none) (fun A => QV D (tyC cA) A (wM cA ad d kept aside images found base at0R size faultR openedR isRub names codeR codedR pile needs traced traceMany who bitsOf sizeOf number lifted)) (by decide +kernel) rfl (Nat.le_of_ble_eq_true rfl) ?_
  intro p e s m args below meth c A ls H hx hb hml hr hlk hts hown hA hK hE hP hD hS hv hmm
  have hv : lv_has ls 2 [(0, .ref (ad 0)), (1, .int k)] := hv
  have in_12 : ∀ w ∈ u_ws RX12 TX12 23, w ∈ wsX12_opens := fun _ h => List.mem_cons_of_mem _ (List.mem_append_right _ h)
  have w_0 := hts (.fieldLink RX12 105 "SpoonsLastModel" "opened" "I") (by decide +kernel)
  have w_1 := hts (.fieldLink RX12 58 "SpoonsLastModel" "at" "I") (by decide +kernel)
  generalize hQ : MQ below _ args s 0 0 A = Q
  have C_70 : ∀ (at0_70 : Int32) (fault_70 : Int32) (opened_70 : Int32) (code_70 : Nat → Int32) (coded_70 : Int32), fX12_opens_70 ru d base at0_70 size fault_70 opened_70 isRub code_70 coded_70 = some (at0R, faultR, openedR, codeR, codedR) → WW p l e ({ frames := a + 6, cells := 0, slots := 0, locals := b + 127 } : Room) s m args below meth c D A 0 0 Q (wM cA ad d kept aside images found base at0_70 size fault_70 opened_70 isRub names code_70 coded_70 pile needs traced traceMany who bitsOf sizeOf number lifted) 2 [(0, .ref (ad 0))] 70 [] := by
    intro at0_70 fault_70 opened_70 code_70 coded_70 h
    unfold fX12_opens_70 at h
    intro H locs ls hP hD hS hv
    refine lv_aload_n hx hb dX12_opens_70 rfl (lv_at hv 0 rfl) ?_
    refine lv_dup hx hb dX12_opens_71 rfl ?_
    refine va_get (D := D) (ci := 12) (v := .int opened_70) (C := RX12) (T := TX12) (N := 23) hx hb hts in_12 hown hK hP 0 rfl rfl 9 (by decide) w_0 (fun _ h9 => h9) rfl dX12_opens_72 ?_
    refine lv_iconst (v := (1 : Int32)) hx hb dX12_opens_75 (by decide) ?_
    refine lv_isub hx hb dX12_opens_76 ?_
    obtain ⟨y_15, ey_15, h⟩ := bnd_ex h
    refine lv_nm ey_15 ?_
    refine va_put (D := D) (ci := 12) (v := .int y_15) (ty := .int) (C := RX12) (T := TX12) (N := 23) hx hb hts in_12 tyX12 tyX12_ok nmX12 hown hK hP hD hS 0 rfl rfl 9 (by decide) w_0 (fun _ h9 => h9) rfl (by decide +kernel) rfl rfl (Nat.le_of_ble_eq_true rfl) dX12_opens_77 (fun H locs hP hD hS => ?_)
    have hP : va_P D vwCl (wM cA ad d kept aside images found base at0_70 size fault_70 y_15 isRub names code_70 coded_70 pile needs traced traceMany who bitsOf sizeOf number lifted) H := hP
    have hD : va_D A (wM cA ad d kept aside images found base at0_70 size fault_70 y_15 isRub names code_70 coded_70 pile needs traced traceMany who bitsOf sizeOf number lifted) := hD
    have h := Option.some.inj h
    have ee0 : at0_70 = at0R := congrArg (fun q => q.1) h
    have ee1 : fault_70 = faultR := congrArg (fun q => q.2.1) h
    have ee2 : y_15 = openedR := congrArg (fun q => q.2.2.1) h
    have ee3 : code_70 = codeR := congrArg (fun q => q.2.2.2.1) h
    have ee4 : coded_70 = codedR := congrArg (fun q => q.2.2.2.2) h
    subst ee0
    subst ee1
    subst ee2
    subst ee3
    subst ee4
    rw [← hQ]
    exact retV hx hb hr hlk hK hP hD hS dX12_opens_80 ⟨Nat.le_of_ble_eq_true rfl, Nat.le_of_ble_eq_true rfl⟩
  have hP : va_P D vwCl (wM cA ad d kept aside images found base at0 size fault opened isRub names code coded pile needs traced traceMany who bitsOf sizeOf number lifted) H := hP
  unfold fX12_opens at h
  refine lv_aload_n hx hb dX12_opens_0 rfl (lv_at hv 0 rfl) ?_
  refine va_get (D := D) (ci := 12) (v := .int opened) (C := RX12) (T := TX12) (N := 23) hx hb hts in_12 hown hK hP 0 rfl rfl 9 (by decide) w_0 (fun _ h9 => h9) rfl dX12_opens_1 ?_
  refine lv_iconst (v := (5 : Int32)) hx hb dX12_opens_4 (by decide) ?_
  refine lv_icmp_ne (tgt := 13) hx hb dX12_opens_5 (by decide) (fun c_1 => ?_) (fun c_1 => ?_)
  · have h := ite_f c_1 h
    refine lv_aload_n hx hb dX12_opens_13 rfl (lv_at hv 0 rfl) ?_
    refine lv_dup hx hb dX12_opens_14 rfl ?_
    refine va_get (D := D) (ci := 12) (v := .int opened) (C := RX12) (T := TX12) (N := 23) hx hb hts in_12 hown hK hP 0 rfl rfl 9 (by decide) w_0 (fun _ h9 => h9) rfl dX12_opens_15 ?_
    refine lv_iconst (v := (1 : Int32)) hx hb dX12_opens_18 (by decide) ?_
    refine lv_iadd hx hb dX12_opens_19 ?_
    obtain ⟨y_2, ey_2, h⟩ := bnd_ex h
    refine lv_nm ey_2 ?_
    refine va_put (D := D) (ci := 12) (v := .int y_2) (ty := .int) (C := RX12) (T := TX12) (N := 23) hx hb hts in_12 tyX12 tyX12_ok nmX12 hown hK hP hD hS 0 rfl rfl 9 (by decide) w_0 (fun _ h9 => h9) rfl (by decide +kernel) rfl rfl (Nat.le_of_ble_eq_true rfl) dX12_opens_20 (fun H locs hP hD hS => ?_)
    have hP : va_P D vwCl (wM cA ad d kept aside images found base at0 size fault y_2 isRub names code coded pile needs traced traceMany who bitsOf sizeOf number lifted) H := hP
    have hD : va_D A (wM cA ad d kept aside images found base at0 size fault y_2 isRub names code coded pile needs traced traceMany who bitsOf sizeOf number lifted) := hD
    refine lv_aload_n hx hb dX12_opens_23 rfl (lv_at hv 0 rfl) ?_
    refine lv_dup hx hb dX12_opens_24 rfl ?_
    refine va_get (D := D) (ci := 12) (v := .int at0) (C := RX12) (T := TX12) (N := 23) hx hb hts in_12 hown hK hP 0 rfl rfl 6 (by decide) w_1 (fun _ h9 => h9) rfl dX12_opens_25 ?_
    refine lv_iconst (v := (1 : Int32)) hx hb dX12_opens_28 (by decide) ?_
    refine lv_iadd hx hb dX12_opens_29 ?_
    obtain ⟨y_3, ey_3, h⟩ := bnd_ex h
    refine lv_nm ey_3 ?_
    refine va_put (D := D) (ci := 12) (v := .int y_3) (ty := .int) (C := RX12) (T := TX12) (N := 23) hx hb hts in_12 tyX12 tyX12_ok nmX12 hown hK hP hD hS 0 rfl rfl 6 (by decide) w_1 (fun _ h9 => h9) rfl (by decide +kernel) rfl rfl (Nat.le_of_ble_eq_true rfl) dX12_opens_30 (fun H locs hP hD hS => ?_)
    have hP : va_P D vwCl (wM cA ad d kept aside images found base y_3 size fault y_2 isRub names code coded pile needs traced traceMany who bitsOf sizeOf number lifted) H := hP
    have hD : va_D A (wM cA ad d kept aside images found base y_3 size fault y_2 isRub names code coded pile needs traced traceMany who bitsOf sizeOf number lifted) := hD
    refine lv_iload_n hx hb dX12_opens_33 rfl (lv_at hv 1 rfl) ?_
    refine lv_bipush (v := (33 : Int32)) hx hb dX12_opens_34 (by decide) ?_
    refine lv_icmp_ne (tgt := 53) hx hb dX12_opens_36 (by decide) (fun c_4 => ?_) (fun c_4 => ?_)
    · have h := ite_f c_4 h
      refine lv_aload_n hx hb dX12_opens_53 rfl (lv_at hv 0 rfl) ?_
      obtain ⟨⟨at0_5, fault_6, opened_7, code_8, coded_9⟩, hf_10, h⟩ := bd_ex h
      have sb := Sb.same hP hD hS hA
      refine calV (va_runV (As := []) (rest := []) ⟨hx, hb, hml, hown, hts⟩ (c_X12_either l G D cA ad _ d kept aside images found base y_3 size fault y_2 isRub names code coded pile needs traced traceMany who bitsOf sizeOf number lifted ru a b hru at0_5 fault_6 opened_7 code_8 coded_9 hf_10) (cwV 0 hts gX12_opens_X12_either rfl rfl rfl (by decide +kernel) ⟨show a + 5 + 1 ≤ a + 6 by omega, show 8 + (1 + 11) + (b + 107) ≤ b + 127 by omega⟩) (pvV hE hK hS sb (va_recv hK hP (ci := 12) (q0 := 0) rfl rfl)) rfl rfl hv.1 rfl (lv_room (Nat.le_of_ble_eq_true rfl)) dX12_opens_54 ⟨Nat.le_of_ble_eq_true rfl, Nat.le_of_ble_eq_true rfl⟩) hS sb (Jn.same sb) (fun H locs hP hD hS => ?_)
      have hP : va_P D vwCl (wM cA ad d kept aside images found base at0_5 size fault_6 opened_7 isRub names code_8 coded_9 pile needs traced traceMany who bitsOf sizeOf number lifted) H := hP
      have hD : va_D A (wM cA ad d kept aside images found base at0_5 size fault_6 opened_7 isRub names code_8 coded_9 pile needs traced traceMany who bitsOf sizeOf number lifted) := hD
      refine lv_aload_n hx hb dX12_opens_57 rfl (lv_at hv 0 rfl) ?_
      refine lv_bipush (v := (41 : Int32)) hx hb dX12_opens_58 (by decide) ?_
      obtain ⟨⟨r_11, at0_12⟩, hf_13, h⟩ := bd_ex h
      have sb := Sb.same hP hD hS hA
      refine calI (va_runV (As := [.int (41 : Int32)]) (rest := []) ⟨hx, hb, hml, hown, hts⟩ (c_X12_takes l G D cA ad _ d kept aside images found base at0_5 size fault_6 opened_7 isRub names code_8 coded_9 pile needs traced traceMany who bitsOf sizeOf number lifted (41 : Int32) r_11 at0_12 hf_13) (cwV 1 hts gX12_opens_X12_takes rfl rfl rfl (by decide +kernel) ⟨show 1 + 1 ≤ a + 6 by omega, show 8 + (2 + 11) + 20 ≤ b + 127 by omega⟩) (pvV hE hK hS sb (va_recv hK hP (ci := 12) (q0 := 0) rfl rfl)) rfl rfl hv.1 rfl (lv_room (Nat.le_of_ble_eq_true rfl)) dX12_opens_60 ⟨Nat.le_of_ble_eq_true rfl, Nat.le_of_ble_eq_true rfl⟩) hS sb (Jn.same sb) (fun H locs hP hD hS => ?_)
      have hP : va_P D vwCl (wM cA ad d kept aside images found base at0_12 size fault_6 opened_7 isRub names code_8 coded_9 pile needs traced traceMany who bitsOf sizeOf number lifted) H := hP
      have hD : va_D A (wM cA ad d kept aside images found base at0_12 size fault_6 opened_7 isRub names code_8 coded_9 pile needs traced traceMany who bitsOf sizeOf number lifted) := hD
      refine lv_if_ne (tgt := 70) hx hb dX12_opens_63 (by decide) (fun c_14 => ?_) (fun c_14 => ?_)
      · have h := ite_f c_14 h
        exact C_70 at0_12 fault_6 opened_7 code_8 coded_9 h _ _ _ hP hD hS (lv_sub hv [0] rfl)
      · have h := ite_t c_14 h
        refine lv_aload_n hx hb dX12_opens_66 rfl (lv_at hv 0 rfl) ?_
        obtain ⟨fault_16, hf_17, h⟩ := bd_ex h
        have sb := Sb.same hP hD hS hA
        refine calV (va_runV (As := []) (rest := []) ⟨hx, hb, hml, hown, hts⟩ (c_X12_wrong l G D cA ad _ d kept aside images found base at0_12 size fault_6 opened_7 isRub names code_8 coded_9 pile needs traced traceMany who bitsOf sizeOf number lifted fault_16 hf_17) (cwV 0 hts gX12_opens_X12_wrong rfl rfl rfl (by decide +kernel) ⟨show 0 + 1 ≤ a + 6 by omega, show 8 + (1 + 11) + 0 ≤ b + 127 by omega⟩) (pvV hE hK hS sb (va_recv hK hP (ci := 12) (q0 := 0) rfl rfl)) rfl rfl hv.1 rfl (lv_room (Nat.le_of_ble_eq_true rfl)) dX12_opens_67 ⟨Nat.le_of_ble_eq_true rfl, Nat.le_of_ble_eq_true rfl⟩) hS sb (Jn.same sb) (fun H locs hP hD hS => ?_)
        have hP : va_P D vwCl (wM cA ad d kept aside images found base at0_12 size fault_16 opened_7 isRub names code_8 coded_9 pile needs traced traceMany who bitsOf sizeOf number lifted) H := hP
        have hD : va_D A (wM cA ad d kept aside images found base at0_12 size fault_16 opened_7 isRub names code_8 coded_9 pile needs traced traceMany who bitsOf sizeOf number lifted) := hD
        exact C_70 at0_12 fault_16 opened_7 code_8 coded_9 h _ _ _ hP hD hS (lv_sub hv [0] rfl)
    · have h := ite_t c_4 h
      refine lv_aload_n hx hb dX12_opens_39 rfl (lv_at hv 0 rfl) ?_
      obtain ⟨⟨at0_18, fault_19, opened_20, code_21, coded_22⟩, hf_23, h⟩ := bd_ex h
      have sb := Sb.same hP hD hS hA
      refine calV (va_runV (As := []) (rest := []) ⟨hx, hb, hml, hown, hts⟩ (hru _ d kept aside images found base y_3 size fault y_2 isRub names code coded pile needs traced traceMany who bitsOf sizeOf number lifted at0_18 fault_19 opened_20 code_21 coded_22 hf_23) (cwV 0 hts gX12_opens_X12_unit rfl rfl rfl (by decide +kernel) ⟨show a + 1 ≤ a + 6 by omega, show 8 + (5 + 11) + b ≤ b + 127 by omega⟩) (pvV hE hK hS sb (va_recv hK hP (ci := 12) (q0 := 0) rfl rfl)) rfl rfl hv.1 rfl (lv_room (Nat.le_of_ble_eq_true rfl)) dX12_opens_40 ⟨Nat.le_of_ble_eq_true rfl, Nat.le_of_ble_eq_true rfl⟩) hS sb (Jn.same sb) (fun H locs hP hD hS => ?_)
      have hP : va_P D vwCl (wM cA ad d kept aside images found base at0_18 size fault_19 opened_20 isRub names code_21 coded_22 pile needs traced traceMany who bitsOf sizeOf number lifted) H := hP
      have hD : va_D A (wM cA ad d kept aside images found base at0_18 size fault_19 opened_20 isRub names code_21 coded_22 pile needs traced traceMany who bitsOf sizeOf number lifted) := hD
      refine lv_aload_n hx hb dX12_opens_43 rfl (lv_at hv 0 rfl) ?_
      refine lv_sipush (v := (20033 : Int32)) hx hb dX12_opens_44 (by decide) ?_
      obtain ⟨⟨code_24, coded_25⟩, hf_26, h⟩ := bd_ex h
      have sb := Sb.same hP hD hS hA
      refine calV (va_runV (As := [.int (20033 : Int32)]) (rest := []) ⟨hx, hb, hml, hown, hts⟩ (c_X12_lay l G D cA ad _ d kept aside images found base at0_18 size fault_19 opened_20 isRub names code_21 coded_22 pile needs traced traceMany who bitsOf sizeOf number lifted (20033 : Int32) code_24 coded_25 hf_26) (cwV 1 hts gX12_opens_X12_lay rfl rfl rfl (by decide +kernel) ⟨show 0 + 1 ≤ a + 6 by omega, show 8 + (2 + 11) + 0 ≤ b + 127 by omega⟩) (pvV hE hK hS sb (va_recv hK hP (ci := 12) (q0 := 0) rfl rfl)) rfl rfl hv.1 rfl (lv_room (Nat.le_of_ble_eq_true rfl)) dX12_opens_47 ⟨Nat.le_of_ble_eq_true rfl, Nat.le_of_ble_eq_true rfl⟩) hS sb (Jn.same sb) (fun H locs hP hD hS => ?_)
      have hP : va_P D vwCl (wM cA ad d kept aside images found base at0_18 size fault_19 opened_20 isRub names code_24 coded_25 pile needs traced traceMany who bitsOf sizeOf number lifted) H := hP
      have hD : va_D A (wM cA ad d kept aside images found base at0_18 size fault_19 opened_20 isRub names code_24 coded_25 pile needs traced traceMany who bitsOf sizeOf number lifted) := hD
      refine lv_goto (tgt := 70) hx hb dX12_opens_50 (by decide) ?_
      exact C_70 at0_18 fault_19 opened_20 code_24 coded_25 h _ _ _ hP hD hS (lv_sub hv [0] rfl)
  · have h := ite_t c_1 h
    refine lv_aload_n hx hb dX12_opens_8 rfl (lv_at hv 0 rfl) ?_
    obtain ⟨fault_27, hf_28, h⟩ := bd_ex h
    have sb := Sb.same hP hD hS hA
    refine calV (va_runV (As := []) (rest := []) ⟨hx, hb, hml, hown, hts⟩ (c_X12_wrong l G D cA ad _ d kept aside images found base at0 size fault opened isRub names code coded pile needs traced traceMany who bitsOf sizeOf number lifted fault_27 hf_28) (cwV 0 hts gX12_opens_X12_wrong rfl rfl rfl (by decide +kernel) ⟨show 0 + 1 ≤ a + 6 by omega, show 8 + (1 + 11) + 0 ≤ b + 127 by omega⟩) (pvV hE hK hS sb (va_recv hK hP (ci := 12) (q0 := 0) rfl rfl)) rfl rfl hv.1 rfl (lv_room (Nat.le_of_ble_eq_true rfl)) dX12_opens_9 ⟨Nat.le_of_ble_eq_true rfl, Nat.le_of_ble_eq_true rfl⟩) hS sb (Jn.same sb) (fun H locs hP hD hS => ?_)
    have hP : va_P D vwCl (wM cA ad d kept aside images found base at0 size fault_27 opened isRub names code coded pile needs traced traceMany who bitsOf sizeOf number lifted) H := hP
    have hD : va_D A (wM cA ad d kept aside images found base at0 size fault_27 opened isRub names code coded pile needs traced traceMany who bitsOf sizeOf number lifted) := hD
    have h := Option.some.inj h
    have ee0 : at0 = at0R := congrArg (fun q => q.1) h
    have ee1 : fault_27 = faultR := congrArg (fun q => q.2.1) h
    have ee2 : opened = openedR := congrArg (fun q => q.2.2.1) h
    have ee3 : code = codeR := congrArg (fun q => q.2.2.2.1) h
    have ee4 : coded = codedR := congrArg (fun q => q.2.2.2.2) h
    subst ee0
    subst ee1
    subst ee2
    subst ee3
    subst ee4
    rw [← hQ]
    exact retV hx hb hr hlk hK hP hD hS dX12_opens_12 ⟨Nat.le_of_ble_eq_true rfl, Nat.le_of_ble_eq_true rfl⟩

def fX12_unit_110 (ru : (Nat → Int32) → Int32 → Int32 → Int32 → Int32 → Int32 → Int32 → (Nat → Int32) → Int32 → Option (Int32 × Int32 × Int32 × (Nat → Int32) × Int32)) (v3_110 : Int32) (v4_110 : Int32) (d : Nat → Int32) (base : Int32) (at0_110 : Int32) (size : Int32) (fault_110 : Int32) (opened_110 : Int32) (isRub : Int32) (code_110 : Nat → Int32) (coded_110 : Int32) : Option (Int32 × Int32 × Int32 × (Nat → Int32) × Int32) :=
  (if v4_110 = 0 then bd (fX12_wrong at0_110 fault_110) fun fault_18 => bd (fX12_lay v3_110 fault_18 code_110 coded_110) fun (code_20, coded_21) => some (at0_110, fault_18, opened_110, code_20, coded_21) else bd (fX12_lay v3_110 fault_110 code_110 coded_110) fun (code_15, coded_16) => some (at0_110, fault_110, opened_110, code_15, coded_16))
def fX12_unit_58B (ru : (Nat → Int32) → Int32 → Int32 → Int32 → Int32 → Int32 → Int32 → (Nat → Int32) → Int32 → Option (Int32 × Int32 × Int32 × (Nat → Int32) × Int32)) (d : Nat → Int32) (base : Int32) (size : Int32) (fault_58 : Int32) (opened_58 : Int32) (isRub : Int32) (code_58 : Nat → Int32) (coded_58 : Int32) (v3_58b : Int32) (v4_58b : Int32) (at0_58b : Int32) : Option ((Int32 × Int32 × Int32) ⊕ (Int32 × Int32 × Int32)) :=
  (if (4 : Int32) ≤ v4_58b then some (.inr (v3_58b, v4_58b, at0_58b)) else bd (fX12_here d base at0_58b size fault_58) fun r_24 => bd (fX12_in ((r_24).toInt64) (48 : Int64) (57 : Int64)) fun r_26 => (if r_26 = 0 then some (.inr (v3_58b, v4_58b, at0_58b)) else bd (fX12_here d base at0_58b size fault_58) fun r_29 => bnd ((((10 : Int32) * v3_58b) + r_29) - (48 : Int32)) fun y_31 => bnd (at0_58b + (1 : Int32)) fun y_32 => bnd (v4_58b + (1 : Int32)) fun y_33 => some (.inl (y_31, y_33, y_32))))
def fX12_unit_58 (ru : (Nat → Int32) → Int32 → Int32 → Int32 → Int32 → Int32 → Int32 → (Nat → Int32) → Int32 → Option (Int32 × Int32 × Int32 × (Nat → Int32) × Int32)) (v3_58 : Int32) (v4_58 : Int32) (d : Nat → Int32) (base : Int32) (at0_58 : Int32) (size : Int32) (fault_58 : Int32) (opened_58 : Int32) (isRub : Int32) (code_58 : Nat → Int32) (coded_58 : Int32) : Option (Int32 × Int32 × Int32 × (Nat → Int32) × Int32) :=
  bd (lp (fun σ : Int32 × Int32 × Int32 => fX12_unit_58B ru d base size fault_58 opened_58 isRub code_58 coded_58 (σ.1) (σ.2.1) (σ.2.2)) FU (v3_58, v4_58, at0_58)) fun ρ => match ρ with | (v3_58r, v4_58r, at0_58r) => fX12_unit_110 ru v3_58r v4_58r d base at0_58r size fault_58 opened_58 isRub code_58 coded_58
def fbX12_unit (ru : (Nat → Int32) → Int32 → Int32 → Int32 → Int32 → Int32 → Int32 → (Nat → Int32) → Int32 → Option (Int32 × Int32 × Int32 × (Nat → Int32) × Int32)) (d : Nat → Int32) (base : Int32) (at0 : Int32) (size : Int32) (fault : Int32) (opened : Int32) (isRub : Int32) (code : Nat → Int32) (coded : Int32) : Option (Int32 × Int32 × Int32 × (Nat → Int32) × Int32) :=
  bd (fX12_here d base at0 size fault) fun r_1 => (if r_1 = (33 : Int32) then bd (fX12_opens ru r_1 d base at0 size fault opened isRub code coded) fun (at0_4, fault_5, opened_6, code_7, coded_8) => some (at0_4, fault_5, opened_6, code_7, coded_8) else (if r_1 = (40 : Int32) then bd (fX12_opens ru r_1 d base at0 size fault opened isRub code coded) fun (at0_38, fault_39, opened_40, code_41, coded_42) => some (at0_38, fault_39, opened_40, code_41, coded_42) else bd (fX12_nameOf r_1 isRub) fun r_11 => (if r_11 < 0 then fX12_unit_58 ru (0 : Int32) (0 : Int32) d base at0 size fault opened isRub code coded else bnd (at0 + (1 : Int32)) fun y_34 => bd (fX12_lay ((10000 : Int32) + r_11) fault code coded) fun (code_35, coded_36) => some (y_34, fault, opened, code_35, coded_36))))
set_option maxHeartbeats 4000000 in
set_option maxRecDepth 100000 in
theorem cb_X12_unit (l : Launch) (G : Nat → Nat) (D : va_G) (cA : Nat → ClassId) (ad : Nat → Nat) (sz : Nat) (d : Nat → Int32) (kept : Nat → Int32) (aside : Nat → Int32) (images : Int32) (found : Nat → Int32) (base : Int32) (at0 : Int32) (size : Int32) (fault : Int32) (opened : Int32) (isRub : Int32) (names : Nat → Int32) (code : Nat → Int32) (coded : Int32) (pile : Nat → Int32) (needs : Nat → Int32) (traced : Nat → Int32) (traceMany : Int32) (who : Int32) (bitsOf : Nat → Int32) (sizeOf : Nat → Int32) (number : Nat → Int32) (lifted : Nat → Int32) (ru : (Nat → Int32) → Int32 → Int32 → Int32 → Int32 → Int32 → Int32 → (Nat → Int32) → Int32 → Option (Int32 × Int32 × Int32 × (Nat → Int32) × Int32)) (a b : Nat) (hru : ∀ (sz : Nat) (d : Nat → Int32) (kept : Nat → Int32) (aside : Nat → Int32) (images : Int32) (found : Nat → Int32) (base : Int32) (at0 : Int32) (size : Int32) (fault : Int32) (opened : Int32) (isRub : Int32) (names : Nat → Int32) (code : Nat → Int32) (coded : Int32) (pile : Nat → Int32) (needs : Nat → Int32) (traced : Nat → Int32) (traceMany : Int32) (who : Int32) (bitsOf : Nat → Int32) (sizeOf : Nat → Int32) (number : Nat → Int32) (lifted : Nat → Int32) (at0R : Int32) (faultR : Int32) (openedR : Int32) (codeR : Nat → Int32) (codedR : Int32), ru d base at0 size fault opened isRub code coded = some (at0R, faultR, openedR, codeR, codedR) → Met l yX12_unit wsX12_unit ({ frames := a, cells := 0, slots := 0, locals := b } : Room) (PW G D (tyC cA) sz (wM cA ad d kept aside images found base at0 size fault opened isRub names code coded pile needs traced traceMany who bitsOf sizeOf number lifted) [.ref (ad 0)]) (QV D (tyC cA) (va_A (wM cA ad d kept aside images found base at0 size fault opened isRub names code coded pile needs traced traceMany who bitsOf sizeOf number lifted) sz) (wM cA ad d kept aside images found base at0R size faultR openedR isRub names codeR codedR pile needs traced traceMany who bitsOf sizeOf number lifted)) 0 0 (va_A (wM cA ad d kept aside images found base at0 size fault opened isRub names code coded pile needs traced traceMany who bitsOf sizeOf number lifted) sz))  (at0R : Int32) (faultR : Int32) (openedR : Int32) (codeR : Nat → Int32) (codedR : Int32) (h : fbX12_unit ru d base at0 size fault opened isRub code coded = some (at0R, faultR, openedR, codeR, codedR)) : Met l yX12_unit wsX12_unit ({ frames := a + 7, cells := 0, slots := 0, locals := b + 148 } : Room) (PW G D (tyC cA) sz (wM cA ad d kept aside images found base at0 size fault opened isRub names code coded pile needs traced traceMany who bitsOf sizeOf number lifted) [.ref (ad 0)]) (QV D (tyC cA) (va_A (wM cA ad d kept aside images found base at0 size fault opened isRub names code coded pile needs traced traceMany who bitsOf sizeOf number lifted) sz) (wM cA ad d kept aside images found base at0R size faultR openedR isRub names codeR codedR pile needs traced traceMany who bitsOf sizeOf number lifted)) 0 0 (va_A (wM cA ad d kept aside images found base at0 size fault opened isRub names code coded pile needs traced traceMany who bitsOf sizeOf number lifted) sz) := by
  refine ent (cc := cX12_unit) (maxL := 5) (ret := none) (fun A => QV D (tyC cA) A (wM cA ad d kept aside images found base at0R size faultR openedR isRub names codeR codedR pile needs traced traceMany who bitsOf sizeOf number lifted)) (by decide +kernel) rfl (Nat.le_of_ble_eq_true rfl) ?_
  intro p e s m args below meth c A ls H hx hb hml hr hlk hts hown hA hK hE hP hD hS hv hmm
  have hv : lv_has ls 5 [(0, .ref (ad 0))] := hv
  have in_12 : ∀ w ∈ u_ws RX12 TX12 23, w ∈ wsX12_unit := fun _ h => List.mem_cons_of_mem _ (List.mem_append_right _ h)
  have w_0 := hts (.constantLong RX12 121 (48)) (List.mem_of_getElem? (i := 2) rfl)
  have w_1 := hts (.constantLong RX12 123 (57)) (List.mem_of_getElem? (i := 3) rfl)
  have w_2 := hts (.fieldLink RX12 58 "SpoonsLastModel" "at" "I") (List.mem_of_getElem? (i := 1) rfl)
  generalize hQ : MQ below _ args s 0 0 A = Q
  have C_110 : ∀ (v3_110 : Int32) (v4_110 : Int32) (at0_110 : Int32) (fault_110 : Int32) (opened_110 : Int32) (code_110 : Nat → Int32) (coded_110 : Int32), fX12_unit_110 ru v3_110 v4_110 d base at0_110 size fault_110 opened_110 isRub code_110 coded_110 = some (at0R, faultR, openedR, codeR, codedR) → WW p l e ({ frames := a + 7, cells := 0, slots := 0, locals := b + 148 } : Room) s m args below meth c D A 0 0 Q (wM cA ad d kept aside images found base at0_110 size fault_110 opened_110 isRub names code_110 coded_110 pile needs traced traceMany who bitsOf sizeOf number lifted) 5 [(0, .ref (ad 0)), (3, .int v3_110), (4, .int v4_110)] 110 [] := by
    intro v3_110 v4_110 at0_110 fault_110 opened_110 code_110 coded_110 h
    unfold fX12_unit_110 at h
    intro H locs ls hP hD hS hv
    refine lv_iload hx hb dX12_unit_110 (lv_at hv 2 rfl) ?_
    refine lv_if_ne (tgt := 119) hx hb dX12_unit_112 (by decide) (fun c_14 => ?_) (fun c_14 => ?_)
    · have h := ite_f c_14 h
      refine lv_aload_n hx hb dX12_unit_119 rfl (lv_at hv 0 rfl) ?_
      refine lv_iload_n hx hb dX12_unit_120 rfl (lv_at hv 1 rfl) ?_
      obtain ⟨⟨code_15, coded_16⟩, hf_17, h⟩ := bd_ex h
      have sb := Sb.same hP hD hS hA
      refine calV (va_runV (As := [.int v3_110]) (rest := []) ⟨hx, hb, hml, hown, hts⟩ (c_X12_lay l G D cA ad _ d kept aside images found base at0_110 size fault_110 opened_110 isRub names code_110 coded_110 pile needs traced traceMany who bitsOf sizeOf number lifted v3_110 code_15 coded_16 hf_17) (cwV 1 hts gX12_unit_X12_lay rfl rfl rfl (by decide +kernel) ⟨show 0 + 1 ≤ a + 7 by omega, show 8 + (2 + 11) + 0 ≤ b + 148 by omega⟩) (pvV hE hK hS sb (va_recv hK hP (ci := 12) (q0 := 0) rfl rfl)) rfl rfl hv.1 rfl (lv_room (Nat.le_of_ble_eq_true rfl)) dX12_unit_121 ⟨Nat.le_of_ble_eq_true rfl, Nat.le_of_ble_eq_true rfl⟩) hS sb (Jn.same sb) (fun H locs hP hD hS => ?_)
      have hP : va_P D vwCl (wM cA ad d kept aside images found base at0_110 size fault_110 opened_110 isRub names code_15 coded_16 pile needs traced traceMany who bitsOf sizeOf number lifted) H := hP
      have hD : va_D A (wM cA ad d kept aside images found base at0_110 size fault_110 opened_110 isRub names code_15 coded_16 pile needs traced traceMany who bitsOf sizeOf number lifted) := hD
      have h := Option.some.inj h
      have ee0 : at0_110 = at0R := congrArg (fun q => q.1) h
      have ee1 : fault_110 = faultR := congrArg (fun q => q.2.1) h
      have ee2 : opened_110 = openedR := congrArg (fun q => q.2.2.1) h
      have ee3 : code_15 = codeR := congrArg (fun q => q.2.2.2.1) h
      have ee4 : coded_16 = codedR := congrArg (fun q => q.2.2.2.2) h
      subst ee0
      subst ee1
      subst ee2
      subst ee3
      subst ee4
      rw [← hQ]
      exact retV hx hb hr hlk hK hP hD hS dX12_unit_124 ⟨Nat.le_of_ble_eq_true rfl, Nat.le_of_ble_eq_true rfl⟩
    · have h := ite_t c_14 h
      refine lv_aload_n hx hb dX12_unit_115 rfl (lv_at hv 0 rfl) ?_
      obtain ⟨fault_18, hf_19, h⟩ := bd_ex h
      have sb := Sb.same hP hD hS hA
      refine calV (va_runV (As := []) (rest := []) ⟨hx, hb, hml, hown, hts⟩ (c_X12_wrong l G D cA ad _ d kept aside images found base at0_110 size fault_110 opened_110 isRub names code_110 coded_110 pile needs traced traceMany who bitsOf sizeOf number lifted fault_18 hf_19) (cwV 0 hts gX12_unit_X12_wrong rfl rfl rfl (by decide +kernel) ⟨show 0 + 1 ≤ a + 7 by omega, show 8 + (1 + 11) + 0 ≤ b + 148 by omega⟩) (pvV hE hK hS sb (va_recv hK hP (ci := 12) (q0 := 0) rfl rfl)) rfl rfl hv.1 rfl (lv_room (Nat.le_of_ble_eq_true rfl)) dX12_unit_116 ⟨Nat.le_of_ble_eq_true rfl, Nat.le_of_ble_eq_true rfl⟩) hS sb (Jn.same sb) (fun H locs hP hD hS => ?_)
      have hP : va_P D vwCl (wM cA ad d kept aside images found base at0_110 size fault_18 opened_110 isRub names code_110 coded_110 pile needs traced traceMany who bitsOf sizeOf number lifted) H := hP
      have hD : va_D A (wM cA ad d kept aside images found base at0_110 size fault_18 opened_110 isRub names code_110 coded_110 pile needs traced traceMany who bitsOf sizeOf number lifted) := hD
      refine lv_aload_n hx hb dX12_unit_119 rfl (lv_at hv 0 rfl) ?_
      refine lv_iload_n hx hb dX12_unit_120 rfl (lv_at hv 1 rfl) ?_
      obtain ⟨⟨code_20, coded_21⟩, hf_22, h⟩ := bd_ex h
      have sb := Sb.same hP hD hS hA
      refine calV (va_runV (As := [.int v3_110]) (rest := []) ⟨hx, hb, hml, hown, hts⟩ (c_X12_lay l G D cA ad _ d kept aside images found base at0_110 size fault_18 opened_110 isRub names code_110 coded_110 pile needs traced traceMany who bitsOf sizeOf number lifted v3_110 code_20 coded_21 hf_22) (cwV 1 hts gX12_unit_X12_lay rfl rfl rfl (by decide +kernel) ⟨show 0 + 1 ≤ a + 7 by omega, show 8 + (2 + 11) + 0 ≤ b + 148 by omega⟩) (pvV hE hK hS sb (va_recv hK hP (ci := 12) (q0 := 0) rfl rfl)) rfl rfl hv.1 rfl (lv_room (Nat.le_of_ble_eq_true rfl)) dX12_unit_121 ⟨Nat.le_of_ble_eq_true rfl, Nat.le_of_ble_eq_true rfl⟩) hS sb (Jn.same sb) (fun H locs hP hD hS => ?_)
      have hP : va_P D vwCl (wM cA ad d kept aside images found base at0_110 size fault_18 opened_110 isRub names code_20 coded_21 pile needs traced traceMany who bitsOf sizeOf number lifted) H := hP
      have hD : va_D A (wM cA ad d kept aside images found base at0_110 size fault_18 opened_110 isRub names code_20 coded_21 pile needs traced traceMany who bitsOf sizeOf number lifted) := hD
      have h := Option.some.inj h
      have ee0 : at0_110 = at0R := congrArg (fun q => q.1) h
      have ee1 : fault_18 = faultR := congrArg (fun q => q.2.1) h
      have ee2 : opened_110 = openedR := congrArg (fun q => q.2.2.1) h
      have ee3 : code_20 = codeR := congrArg (fun q => q.2.2.2.1) h
      have ee4 : coded_21 = codedR := congrArg (fun q => q.2.2.2.2) h
      subst ee0
      subst ee1
      subst ee2
      subst ee3
      subst ee4
      rw [← hQ]
      exact retV hx hb hr hlk hK hP hD hS dX12_unit_124 ⟨Nat.le_of_ble_eq_true rfl, Nat.le_of_ble_eq_true rfl⟩
  have C_58 : ∀ (v3_58 : Int32) (v4_58 : Int32) (at0_58 : Int32) (fault_58 : Int32) (opened_58 : Int32) (code_58 : Nat → Int32) (coded_58 : Int32), fX12_unit_58 ru v3_58 v4_58 d base at0_58 size fault_58 opened_58 isRub code_58 coded_58 = some (at0R, faultR, openedR, codeR, codedR) → WW p l e ({ frames := a + 7, cells := 0, slots := 0, locals := b + 148 } : Room) s m args below meth c D A 0 0 Q (wM cA ad d kept aside images found base at0_58 size fault_58 opened_58 isRub names code_58 coded_58 pile needs traced traceMany who bitsOf sizeOf number lifted) 5 [(0, .ref (ad 0)), (3, .int v3_58), (4, .int v4_58)] 58 [] := by
    intro v3_58 v4_58 at0_58 fault_58 opened_58 code_58 coded_58 h
    unfold fX12_unit_58 at h
    obtain ⟨⟨v3_58r, v4_58r, at0_58r⟩, ho, h⟩ := bd_ex h
    have LE : WW p l e ({ frames := a + 7, cells := 0, slots := 0, locals := b + 148 } : Room) s m args below meth c D A 0 0 Q (wM cA ad d kept aside images found base at0_58r size fault_58 opened_58 isRub names code_58 coded_58 pile needs traced traceMany who bitsOf sizeOf number lifted) 5 [(0, .ref (ad 0)), (3, .int v3_58r), (4, .int v4_58r)] 110 [] := by
      intro H locs ls hP hD hS hv
      exact C_110 v3_58r v4_58r at0_58r fault_58 opened_58 code_58 coded_58 h _ _ _ hP hD hS (lv_sub hv [0, 1, 2] rfl)
    have LB : ∀ (nf : Nat) (v3_58b : Int32) (v4_58b : Int32) (at0_58b : Int32), lp (fun σ : Int32 × Int32 × Int32 => fX12_unit_58B ru d base size fault_58 opened_58 isRub code_58 coded_58 (σ.1) (σ.2.1) (σ.2.2)) nf (v3_58b, v4_58b, at0_58b) = some (v3_58r, v4_58r, at0_58r) → WW p l e ({ frames := a + 7, cells := 0, slots := 0, locals := b + 148 } : Room) s m args below meth c D A 0 0 Q (wM cA ad d kept aside images found base at0_58b size fault_58 opened_58 isRub names code_58 coded_58 pile needs traced traceMany who bitsOf sizeOf number lifted) 5 [(0, .ref (ad 0)), (3, .int v3_58b), (4, .int v4_58b)] 58 [] := by
      intro nf
      induction nf with
      | zero => intro v3_58b v4_58b at0_58b hl; cases hl
      | succ nf ih =>
        intro v3_58b v4_58b at0_58b hl
        obtain ⟨x, h, hl⟩ := lp_ex hl
        have h : fX12_unit_58B ru d base size fault_58 opened_58 isRub code_58 coded_58 v3_58b v4_58b at0_58b = some x := h
        unfold fX12_unit_58B at h
        intro H locs ls hP hD hS hv
        refine lv_iload hx hb dX12_unit_58 (lv_at hv 2 rfl) ?_
        refine lv_iconst (v := (4 : Int32)) hx hb dX12_unit_60 (by decide) ?_
        refine lv_icmp_ge (tgt := 110) hx hb dX12_unit_61 (by decide) (fun c_23 => ?_) (fun c_23 => ?_)
        · have h := ite_t c_23 h
          cases h
          have hl : some (v3_58b, v4_58b, at0_58b) = some (v3_58r, v4_58r, at0_58r) := hl
          have hl := Option.some.inj hl
          have ee0 : v3_58b = v3_58r := congrArg (fun q => q.1) hl
          have ee1 : v4_58b = v4_58r := congrArg (fun q => q.2.1) hl
          have ee2 : at0_58b = at0_58r := congrArg (fun q => q.2.2) hl
          subst ee0
          subst ee1
          subst ee2
          exact LE _ _ _ hP hD hS (lv_sub hv [0, 1, 2] rfl)
        · have h := ite_f c_23 h
          refine lv_aload_n hx hb dX12_unit_64 rfl (lv_at hv 0 rfl) ?_
          obtain ⟨r_24, hf_25, h⟩ := bd_ex h
          have sb := Sb.same hP hD hS hA
          refine calI (va_runV (As := []) (rest := []) ⟨hx, hb, hml, hown, hts⟩ (c_X12_here l G D cA ad _ d kept aside images found base at0_58b size fault_58 opened_58 isRub names code_58 coded_58 pile needs traced traceMany who bitsOf sizeOf number lifted r_24 hf_25) (cwV 0 hts gX12_unit_X12_here rfl rfl rfl (by decide +kernel) ⟨show 0 + 1 ≤ a + 7 by omega, show 8 + (1 + 11) + 0 ≤ b + 148 by omega⟩) (pvV hE hK hS sb (va_recv hK hP (ci := 12) (q0 := 0) rfl rfl)) rfl rfl hv.1 rfl (lv_room (Nat.le_of_ble_eq_true rfl)) dX12_unit_65 ⟨Nat.le_of_ble_eq_true rfl, Nat.le_of_ble_eq_true rfl⟩) hS sb (Jn.same sb) (fun H locs hP hD hS => ?_)
          have hP : va_P D vwCl (wM cA ad d kept aside images found base at0_58b size fault_58 opened_58 isRub names code_58 coded_58 pile needs traced traceMany who bitsOf sizeOf number lifted) H := hP
          have hD : va_D A (wM cA ad d kept aside images found base at0_58b size fault_58 opened_58 isRub names code_58 coded_58 pile needs traced traceMany who bitsOf sizeOf number lifted) := hD
          refine lv_i2l (v := (r_24).toInt64) hx hb dX12_unit_68 rfl ?_
          refine lv_ldc2 (v := (48 : Int64)) hx hb hown w_0 dX12_unit_69 ?_
          refine lv_ldc2 (v := (57 : Int64)) hx hb hown w_1 dX12_unit_72 ?_
          obtain ⟨r_26, hf_27, h⟩ := bd_ex h
          have sb := Sb.nil hP hD hS hA
          refine calI (va_runS (As := [.long (r_24).toInt64, .long (48 : Int64), .long (57 : Int64)]) (rest := []) ⟨hx, hb, hml, hown, hts⟩ (c_X12_in l G D cA  _ ((r_24).toInt64) (48 : Int64) (57 : Int64) r_26 hf_27) (va_cwS 3 hts gX12_unit_X12_in rfl rfl rfl (by decide +kernel) ⟨show 0 + 1 ≤ a + 7 by omega, show 8 + (6 + 11) + 0 ≤ b + 148 by omega⟩) (pvS hE hK hS sb) rfl rfl hv.1 rfl (lv_room (Nat.le_of_ble_eq_true rfl)) dX12_unit_75 ⟨Nat.le_of_ble_eq_true rfl, Nat.le_of_ble_eq_true rfl⟩) hS sb (Jn.nil hP hD) (fun H locs hP hD hS => ?_)
          have hP : va_P D vwCl (wM cA ad d kept aside images found base at0_58b size fault_58 opened_58 isRub names code_58 coded_58 pile needs traced traceMany who bitsOf sizeOf number lifted) H := hP
          have hD : va_D A (wM cA ad d kept aside images found base at0_58b size fault_58 opened_58 isRub names code_58 coded_58 pile needs traced traceMany who bitsOf sizeOf number lifted) := hD
          refine lv_if_eq (tgt := 110) hx hb dX12_unit_78 (by decide) (fun c_28 => ?_) (fun c_28 => ?_)
          · have h := ite_t c_28 h
            cases h
            have hl : some (v3_58b, v4_58b, at0_58b) = some (v3_58r, v4_58r, at0_58r) := hl
            have hl := Option.some.inj hl
            have ee0 : v3_58b = v3_58r := congrArg (fun q => q.1) hl
            have ee1 : v4_58b = v4_58r := congrArg (fun q => q.2.1) hl
            have ee2 : at0_58b = at0_58r := congrArg (fun q => q.2.2) hl
            subst ee0
            subst ee1
            subst ee2
            exact LE _ _ _ hP hD hS (lv_sub hv [0, 1, 2] rfl)
          · have h := ite_f c_28 h
            refine lv_bipush (v := (10 : Int32)) hx hb dX12_unit_81 (by decide) ?_
            refine lv_iload_n hx hb dX12_unit_83 rfl (lv_at hv 1 rfl) ?_
            refine lv_imul hx hb dX12_unit_84 ?_
            refine lv_aload_n hx hb dX12_unit_85 rfl (lv_at hv 0 rfl) ?_
            obtain ⟨r_29, hf_30, h⟩ := bd_ex h
            have sb := Sb.same hP hD hS hA
            refine calI (va_runV (As := []) (rest := [.int ((10 : Int32) * v3_58b)]) ⟨hx, hb, hml, hown, hts⟩ (c_X12_here l G D cA ad _ d kept aside images found base at0_58b size fault_58 opened_58 isRub names code_58 coded_58 pile needs traced traceMany who bitsOf sizeOf number lifted r_29 hf_30) (cwV 0 hts gX12_unit_X12_here rfl rfl rfl (by decide +kernel) ⟨show 0 + 1 ≤ a + 7 by omega, show 8 + (1 + 11) + 0 ≤ b + 148 by omega⟩) (pvV hE hK hS sb (va_recv hK hP (ci := 12) (q0 := 0) rfl rfl)) rfl rfl hv.1 rfl (lv_room (Nat.le_of_ble_eq_true rfl)) dX12_unit_86 ⟨Nat.le_of_ble_eq_true rfl, Nat.le_of_ble_eq_true rfl⟩) hS sb (Jn.same sb) (fun H locs hP hD hS => ?_)
            have hP : va_P D vwCl (wM cA ad d kept aside images found base at0_58b size fault_58 opened_58 isRub names code_58 coded_58 pile needs traced traceMany who bitsOf sizeOf number lifted) H := hP
            have hD : va_D A (wM cA ad d kept aside images found base at0_58b size fault_58 opened_58 isRub names code_58 coded_58 pile needs traced traceMany who bitsOf sizeOf number lifted) := hD
            refine lv_iadd hx hb dX12_unit_89 ?_
            refine lv_bipush (v := (48 : Int32)) hx hb dX12_unit_90 (by decide) ?_
            refine lv_isub hx hb dX12_unit_92 ?_
            obtain ⟨y_31, ey_31, h⟩ := bnd_ex h
            refine lv_nm ey_31 ?_
            refine lv_istore_n (lv' := [(3, .int y_31), (0, .ref (ad 0)), (4, .int v4_58b)]) hx hb dX12_unit_93 rfl hv (by decide) rfl (fun ls hv => ?_)
            refine lv_aload_n hx hb dX12_unit_94 rfl (lv_at hv 1 rfl) ?_
            refine lv_dup hx hb dX12_unit_95 rfl ?_
            refine va_get (D := D) (ci := 12) (v := .int at0_58b) (C := RX12) (T := TX12) (N := 23) hx hb hts in_12 hown hK hP 0 rfl rfl 6 (by decide) w_2 (fun _ h9 => h9) rfl dX12_unit_96 ?_
            refine lv_iconst (v := (1 : Int32)) hx hb dX12_unit_99 (by decide) ?_
            refine lv_iadd hx hb dX12_unit_100 ?_
            obtain ⟨y_32, ey_32, h⟩ := bnd_ex h
            refine lv_nm ey_32 ?_
            refine va_put (D := D) (ci := 12) (v := .int y_32) (ty := .int) (C := RX12) (T := TX12) (N := 23) hx hb hts in_12 tyX12 tyX12_ok nmX12 hown hK hP hD hS 0 rfl rfl 6 (by decide) w_2 (fun _ h9 => h9) rfl (by decide +kernel) rfl rfl (Nat.le_of_ble_eq_true rfl) dX12_unit_101 (fun H locs hP hD hS => ?_)
            have hP : va_P D vwCl (wM cA ad d kept aside images found base y_32 size fault_58 opened_58 isRub names code_58 coded_58 pile needs traced traceMany who bitsOf sizeOf number lifted) H := hP
            have hD : va_D A (wM cA ad d kept aside images found base y_32 size fault_58 opened_58 isRub names code_58 coded_58 pile needs traced traceMany who bitsOf sizeOf number lifted) := hD
            obtain ⟨y_33, ey_33, h⟩ := bnd_ex h
            refine lv_iinc (v := y_33) (lv' := [(4, .int y_33), (3, .int y_31), (0, .ref (ad 0))]) hx hb dX12_unit_104 hv (k := 2) rfl (by rw [ey_33]; rfl) (by decide) rfl (fun ls hv => ?_)
            refine lv_goto (tgt := 58) hx hb dX12_unit_107 (by decide) ?_
            cases h
            exact ih y_31 y_33 y_32 hl _ _ _ hP hD hS (lv_sub hv [2, 1, 0] rfl)
    exact LB FU v3_58 v4_58 at0_58 ho
  have hP : va_P D vwCl (wM cA ad d kept aside images found base at0 size fault opened isRub names code coded pile needs traced traceMany who bitsOf sizeOf number lifted) H := hP
  unfold fbX12_unit at h
  refine lv_aload_n hx hb dX12_unit_0 rfl (lv_at hv 0 rfl) ?_
  obtain ⟨r_1, hf_2, h⟩ := bd_ex h
  have sb := Sb.same hP hD hS hA
  refine calI (va_runV (As := []) (rest := []) ⟨hx, hb, hml, hown, hts⟩ (c_X12_here l G D cA ad _ d kept aside images found base at0 size fault opened isRub names code coded pile needs traced traceMany who bitsOf sizeOf number lifted r_1 hf_2) (cwV 0 hts gX12_unit_X12_here rfl rfl rfl (by decide +kernel) ⟨show 0 + 1 ≤ a + 7 by omega, show 8 + (1 + 11) + 0 ≤ b + 148 by omega⟩) (pvV hE hK hS sb (va_recv hK hP (ci := 12) (q0 := 0) rfl rfl)) rfl rfl hv.1 rfl (lv_room (Nat.le_of_ble_eq_true rfl)) dX12_unit_1 ⟨Nat.le_of_ble_eq_true rfl, Nat.le_of_ble_eq_true rfl⟩) hS sb (Jn.same sb) (fun H locs hP hD hS => ?_)
  have hP : va_P D vwCl (wM cA ad d kept aside images found base at0 size fault opened isRub names code coded pile needs traced traceMany who bitsOf sizeOf number lifted) H := hP
  have hD : va_D A (wM cA ad d kept aside images found base at0 size fault opened isRub names code coded pile needs traced traceMany who bitsOf sizeOf number lifted) := hD
  refine lv_istore_n (lv' := [(1, .int r_1), (0, .ref (ad 0))]) hx hb dX12_unit_4 rfl hv (by decide) rfl (fun ls hv => ?_)
  refine lv_iload_n hx hb dX12_unit_5 rfl (lv_at hv 0 rfl) ?_
  refine lv_bipush (v := (33 : Int32)) hx hb dX12_unit_6 (by decide) ?_
  refine lv_icmp_eq (tgt := 17) hx hb dX12_unit_8 (by decide) (fun c_3 => ?_) (fun c_3 => ?_)
  · have h := ite_t c_3 h
    refine lv_aload_n hx hb dX12_unit_17 rfl (lv_at hv 1 rfl) ?_
    refine lv_iload_n hx hb dX12_unit_18 rfl (lv_at hv 0 rfl) ?_
    obtain ⟨⟨at0_4, fault_5, opened_6, code_7, coded_8⟩, hf_9, h⟩ := bd_ex h
    have sb := Sb.same hP hD hS hA
    refine calV (va_runV (As := [.int r_1]) (rest := []) ⟨hx, hb, hml, hown, hts⟩ (c_X12_opens l G D cA ad _ d kept aside images found base at0 size fault opened isRub names code coded pile needs traced traceMany who bitsOf sizeOf number lifted ru a b hru r_1 at0_4 fault_5 opened_6 code_7 coded_8 hf_9) (cwV 1 hts gX12_unit_X12_opens rfl rfl rfl (by decide +kernel) ⟨show a + 6 + 1 ≤ a + 7 by omega, show 8 + (2 + 11) + (b + 127) ≤ b + 148 by omega⟩) (pvV hE hK hS sb (va_recv hK hP (ci := 12) (q0 := 0) rfl rfl)) rfl rfl hv.1 rfl (lv_room (Nat.le_of_ble_eq_true rfl)) dX12_unit_19 ⟨Nat.le_of_ble_eq_true rfl, Nat.le_of_ble_eq_true rfl⟩) hS sb (Jn.same sb) (fun H locs hP hD hS => ?_)
    have hP : va_P D vwCl (wM cA ad d kept aside images found base at0_4 size fault_5 opened_6 isRub names code_7 coded_8 pile needs traced traceMany who bitsOf sizeOf number lifted) H := hP
    have hD : va_D A (wM cA ad d kept aside images found base at0_4 size fault_5 opened_6 isRub names code_7 coded_8 pile needs traced traceMany who bitsOf sizeOf number lifted) := hD
    have h := Option.some.inj h
    have ee0 : at0_4 = at0R := congrArg (fun q => q.1) h
    have ee1 : fault_5 = faultR := congrArg (fun q => q.2.1) h
    have ee2 : opened_6 = openedR := congrArg (fun q => q.2.2.1) h
    have ee3 : code_7 = codeR := congrArg (fun q => q.2.2.2.1) h
    have ee4 : coded_8 = codedR := congrArg (fun q => q.2.2.2.2) h
    subst ee0
    subst ee1
    subst ee2
    subst ee3
    subst ee4
    rw [← hQ]
    exact retV hx hb hr hlk hK hP hD hS dX12_unit_22 ⟨Nat.le_of_ble_eq_true rfl, Nat.le_of_ble_eq_true rfl⟩
  · have h := ite_f c_3 h
    refine lv_iload_n hx hb dX12_unit_11 rfl (lv_at hv 0 rfl) ?_
    refine lv_bipush (v := (40 : Int32)) hx hb dX12_unit_12 (by decide) ?_
    refine lv_icmp_ne (tgt := 23) hx hb dX12_unit_14 (by decide) (fun c_10 => ?_) (fun c_10 => ?_)
    · have h := ite_f c_10 h
      refine lv_aload_n hx hb dX12_unit_23 rfl (lv_at hv 1 rfl) ?_
      refine lv_iload_n hx hb dX12_unit_24 rfl (lv_at hv 0 rfl) ?_
      obtain ⟨r_11, hf_12, h⟩ := bd_ex h
      have sb := Sb.same hP hD hS hA
      refine calI (va_runV (As := [.int r_1]) (rest := []) ⟨hx, hb, hml, hown, hts⟩ (c_X12_nameOf l G D cA ad _ d kept aside images found base at0 size fault opened isRub names code coded pile needs traced traceMany who bitsOf sizeOf number lifted r_1 r_11 hf_12) (cwV 1 hts gX12_unit_X12_nameOf rfl rfl rfl (by decide +kernel) ⟨show 0 + 1 ≤ a + 7 by omega, show 8 + (2 + 11) + 0 ≤ b + 148 by omega⟩) (pvV hE hK hS sb (va_recv hK hP (ci := 12) (q0 := 0) rfl rfl)) rfl rfl hv.1 rfl (lv_room (Nat.le_of_ble_eq_true rfl)) dX12_unit_25 ⟨Nat.le_of_ble_eq_true rfl, Nat.le_of_ble_eq_true rfl⟩) hS sb (Jn.same sb) (fun H locs hP hD hS => ?_)
      have hP : va_P D vwCl (wM cA ad d kept aside images found base at0 size fault opened isRub names code coded pile needs traced traceMany who bitsOf sizeOf number lifted) H := hP
      have hD : va_D A (wM cA ad d kept aside images found base at0 size fault opened isRub names code coded pile needs traced traceMany who bitsOf sizeOf number lifted) := hD
      refine lv_istore_n (lv' := [(2, .int r_11), (1, .int r_1), (0, .ref (ad 0))]) hx hb dX12_unit_28 rfl hv (by decide) rfl (fun ls hv => ?_)
      refine lv_iload_n hx hb dX12_unit_29 rfl (lv_at hv 0 rfl) ?_
      refine lv_if_lt (tgt := 53) hx hb dX12_unit_30 (by decide) (fun c_13 => ?_) (fun c_13 => ?_)
      · have h := ite_t c_13 h
        refine lv_iconst (v := (0 : Int32)) hx hb dX12_unit_53 (by decide) ?_
        refine lv_istore_n (lv' := [(3, .int (0 : Int32)), (2, .int r_11), (1, .int r_1), (0, .ref (ad 0))]) hx hb dX12_unit_54 rfl hv (by decide) rfl (fun ls hv => ?_)
        refine lv_iconst (v := (0 : Int32)) hx hb dX12_unit_55 (by decide) ?_
        refine lv_istore (lv' := [(4, .int (0 : Int32)), (3, .int (0 : Int32)), (2, .int r_11), (1, .int r_1), (0, .ref (ad 0))]) hx hb dX12_unit_56 hv (by decide) rfl (fun ls hv => ?_)
        exact C_58 (0 : Int32) (0 : Int32) at0 fault opened code coded h _ _ _ hP hD hS (lv_sub hv [4, 1, 0] rfl)
      · have h := ite_f c_13 h
        refine lv_aload_n hx hb dX12_unit_33 rfl (lv_at hv 2 rfl) ?_
        refine lv_dup hx hb dX12_unit_34 rfl ?_
        refine va_get (D := D) (ci := 12) (v := .int at0) (C := RX12) (T := TX12) (N := 23) hx hb hts in_12 hown hK hP 0 rfl rfl 6 (by decide) w_2 (fun _ h9 => h9) rfl dX12_unit_35 ?_
        refine lv_iconst (v := (1 : Int32)) hx hb dX12_unit_38 (by decide) ?_
        refine lv_iadd hx hb dX12_unit_39 ?_
        obtain ⟨y_34, ey_34, h⟩ := bnd_ex h
        refine lv_nm ey_34 ?_
        refine va_put (D := D) (ci := 12) (v := .int y_34) (ty := .int) (C := RX12) (T := TX12) (N := 23) hx hb hts in_12 tyX12 tyX12_ok nmX12 hown hK hP hD hS 0 rfl rfl 6 (by decide) w_2 (fun _ h9 => h9) rfl (by decide +kernel) rfl rfl (Nat.le_of_ble_eq_true rfl) dX12_unit_40 (fun H locs hP hD hS => ?_)
        have hP : va_P D vwCl (wM cA ad d kept aside images found base y_34 size fault opened isRub names code coded pile needs traced traceMany who bitsOf sizeOf number lifted) H := hP
        have hD : va_D A (wM cA ad d kept aside images found base y_34 size fault opened isRub names code coded pile needs traced traceMany who bitsOf sizeOf number lifted) := hD
        refine lv_aload_n hx hb dX12_unit_43 rfl (lv_at hv 2 rfl) ?_
        refine lv_sipush (v := (10000 : Int32)) hx hb dX12_unit_44 (by decide) ?_
        refine lv_iload_n hx hb dX12_unit_47 rfl (lv_at hv 0 rfl) ?_
        refine lv_iadd hx hb dX12_unit_48 ?_
        obtain ⟨⟨code_35, coded_36⟩, hf_37, h⟩ := bd_ex h
        have sb := Sb.same hP hD hS hA
        refine calV (va_runV (As := [.int ((10000 : Int32) + r_11)]) (rest := []) ⟨hx, hb, hml, hown, hts⟩ (c_X12_lay l G D cA ad _ d kept aside images found base y_34 size fault opened isRub names code coded pile needs traced traceMany who bitsOf sizeOf number lifted ((10000 : Int32) + r_11) code_35 coded_36 hf_37) (cwV 1 hts gX12_unit_X12_lay rfl rfl rfl (by decide +kernel) ⟨show 0 + 1 ≤ a + 7 by omega, show 8 + (2 + 11) + 0 ≤ b + 148 by omega⟩) (pvV hE hK hS sb (va_recv hK hP (ci := 12) (q0 := 0) rfl rfl)) rfl rfl hv.1 rfl (lv_room (Nat.le_of_ble_eq_true rfl)) dX12_unit_49 ⟨Nat.le_of_ble_eq_true rfl, Nat.le_of_ble_eq_true rfl⟩) hS sb (Jn.same sb) (fun H locs hP hD hS => ?_)
        have hP : va_P D vwCl (wM cA ad d kept aside images found base y_34 size fault opened isRub names code_35 coded_36 pile needs traced traceMany who bitsOf sizeOf number lifted) H := hP
        have hD : va_D A (wM cA ad d kept aside images found base y_34 size fault opened isRub names code_35 coded_36 pile needs traced traceMany who bitsOf sizeOf number lifted) := hD
        have h := Option.some.inj h
        have ee0 : y_34 = at0R := congrArg (fun q => q.1) h
        have ee1 : fault = faultR := congrArg (fun q => q.2.1) h
        have ee2 : opened = openedR := congrArg (fun q => q.2.2.1) h
        have ee3 : code_35 = codeR := congrArg (fun q => q.2.2.2.1) h
        have ee4 : coded_36 = codedR := congrArg (fun q => q.2.2.2.2) h
        subst ee0
        subst ee1
        subst ee2
        subst ee3
        subst ee4
        rw [← hQ]
        exact retV hx hb hr hlk hK hP hD hS dX12_unit_52 ⟨Nat.le_of_ble_eq_true rfl, Nat.le_of_ble_eq_true rfl⟩
    · have h := ite_t c_10 h
      refine lv_aload_n hx hb dX12_unit_17 rfl (lv_at hv 1 rfl) ?_
      refine lv_iload_n hx hb dX12_unit_18 rfl (lv_at hv 0 rfl) ?_
      obtain ⟨⟨at0_38, fault_39, opened_40, code_41, coded_42⟩, hf_43, h⟩ := bd_ex h
      have sb := Sb.same hP hD hS hA
      refine calV (va_runV (As := [.int r_1]) (rest := []) ⟨hx, hb, hml, hown, hts⟩ (c_X12_opens l G D cA ad _ d kept aside images found base at0 size fault opened isRub names code coded pile needs traced traceMany who bitsOf sizeOf number lifted ru a b hru r_1 at0_38 fault_39 opened_40 code_41 coded_42 hf_43) (cwV 1 hts gX12_unit_X12_opens rfl rfl rfl (by decide +kernel) ⟨show a + 6 + 1 ≤ a + 7 by omega, show 8 + (2 + 11) + (b + 127) ≤ b + 148 by omega⟩) (pvV hE hK hS sb (va_recv hK hP (ci := 12) (q0 := 0) rfl rfl)) rfl rfl hv.1 rfl (lv_room (Nat.le_of_ble_eq_true rfl)) dX12_unit_19 ⟨Nat.le_of_ble_eq_true rfl, Nat.le_of_ble_eq_true rfl⟩) hS sb (Jn.same sb) (fun H locs hP hD hS => ?_)
      have hP : va_P D vwCl (wM cA ad d kept aside images found base at0_38 size fault_39 opened_40 isRub names code_41 coded_42 pile needs traced traceMany who bitsOf sizeOf number lifted) H := hP
      have hD : va_D A (wM cA ad d kept aside images found base at0_38 size fault_39 opened_40 isRub names code_41 coded_42 pile needs traced traceMany who bitsOf sizeOf number lifted) := hD
      have h := Option.some.inj h
      have ee0 : at0_38 = at0R := congrArg (fun q => q.1) h
      have ee1 : fault_39 = faultR := congrArg (fun q => q.2.1) h
      have ee2 : opened_40 = openedR := congrArg (fun q => q.2.2.1) h
      have ee3 : code_41 = codeR := congrArg (fun q => q.2.2.2.1) h
      have ee4 : coded_42 = codedR := congrArg (fun q => q.2.2.2.2) h
      subst ee0
      subst ee1
      subst ee2
      subst ee3
      subst ee4
      rw [← hQ]
      exact retV hx hb hr hlk hK hP hD hS dX12_unit_22 ⟨Nat.le_of_ble_eq_true rfl, Nat.le_of_ble_eq_true rfl⟩
def fX12_unit  : Nat → (Nat → Int32) → Int32 → Int32 → Int32 → Int32 → Int32 → Int32 → (Nat → Int32) → Int32 → Option (Int32 × Int32 × Int32 × (Nat → Int32) × Int32)
  | 0, _, _, _, _, _, _, _, _, _ => none
  | n + 1, d, base, at0, size, fault, opened, isRub, code, coded => fbX12_unit (fX12_unit n) d base at0 size fault opened isRub code coded
theorem c_X12_unit_n (n : Nat) (l : Launch) (G : Nat → Nat) (D : va_G) (cA : Nat → ClassId) (ad : Nat → Nat) (sz : Nat) (d : Nat → Int32) (kept : Nat → Int32) (aside : Nat → Int32) (images : Int32) (found : Nat → Int32) (base : Int32) (at0 : Int32) (size : Int32) (fault : Int32) (opened : Int32) (isRub : Int32) (names : Nat → Int32) (code : Nat → Int32) (coded : Int32) (pile : Nat → Int32) (needs : Nat → Int32) (traced : Nat → Int32) (traceMany : Int32) (who : Int32) (bitsOf : Nat → Int32) (sizeOf : Nat → Int32) (number : Nat → Int32) (lifted : Nat → Int32) (at0R : Int32) (faultR : Int32) (openedR : Int32) (codeR : Nat → Int32) (codedR : Int32) (h : fX12_unit n d base at0 size fault opened isRub code coded = some (at0R, faultR, openedR, codeR, codedR)) : Met l yX12_unit wsX12_unit ({ frames := 7 * n, cells := 0, slots := 0, locals := 148 * n } : Room) (PW G D (tyC cA) sz (wM cA ad d kept aside images found base at0 size fault opened isRub names code coded pile needs traced traceMany who bitsOf sizeOf number lifted) [.ref (ad 0)]) (QV D (tyC cA) (va_A (wM cA ad d kept aside images found base at0 size fault opened isRub names code coded pile needs traced traceMany who bitsOf sizeOf number lifted) sz) (wM cA ad d kept aside images found base at0R size faultR openedR isRub names codeR codedR pile needs traced traceMany who bitsOf sizeOf number lifted)) 0 0 (va_A (wM cA ad d kept aside images found base at0 size fault opened isRub names code coded pile needs traced traceMany who bitsOf sizeOf number lifted) sz) := by
  induction n generalizing sz d kept aside images found base at0 size fault opened isRub names code coded pile needs traced traceMany who bitsOf sizeOf number lifted at0R faultR openedR codeR codedR with
  | zero => cases h
  | succ n ih => exact cb_X12_unit l G D cA ad sz d kept aside images found base at0 size fault opened isRub names code coded pile needs traced traceMany who bitsOf sizeOf number lifted (fX12_unit n) (7 * n) (148 * n) ih at0R faultR openedR codeR codedR h

def fX12_reads_41 (k0_41 : Int32) (d : Nat → Int32) (base_41 : Int32) (at0_41 : Int32) (size_41 : Int32) (fault_41 : Int32) (opened_41 : Int32) (isRub_41 : Int32) (code_41 : Nat → Int32) (coded_41 : Int32) : Option (Int32 × Int32 × Int32 × Int32 × Int32 × Int32 × (Nat → Int32) × Int32) :=
  ck (isZ k0_41 = true) (bd (fX12_either (fX12_unit 8) d base_41 at0_41 size_41 fault_41 opened_41 k0_41 code_41 coded_41) fun (at0_3, fault_4, opened_5, code_6, coded_7) => (if 0 ≤ fault_4 then some (base_41, at0_3, size_41, fault_4, opened_5, k0_41, code_6, coded_7) else (if size_41 ≤ at0_3 then some (base_41, at0_3, size_41, fault_4, opened_5, k0_41, code_6, coded_7) else bd (fX12_wrong at0_3 fault_4) fun fault_11 => some (base_41, at0_3, size_41, fault_11, opened_5, k0_41, code_6, coded_7))))
def fX12_reads (a : Int32) (n : Int32) (use : Int32) (d : Nat → Int32) (base : Int32) (at0 : Int32) (size : Int32) (fault : Int32) (opened : Int32) (isRub : Int32) (code : Nat → Int32) (coded : Int32) : Option (Int32 × Int32 × Int32 × Int32 × Int32 × Int32 × (Nat → Int32) × Int32) :=
  (if use = (1 : Int32) then fX12_reads_41 (1 : Int32) d a (0 : Int32) n (-1 : Int32) (0 : Int32) isRub code (0 : Int32) else fX12_reads_41 (0 : Int32) d a (0 : Int32) n (-1 : Int32) (0 : Int32) isRub code (0 : Int32))
set_option maxHeartbeats 4000000 in
set_option maxRecDepth 100000 in
theorem c_X12_reads (l : Launch) (G : Nat → Nat) (D : va_G) (cA : Nat → ClassId) (ad : Nat → Nat) (sz : Nat) (d : Nat → Int32) (kept : Nat → Int32) (aside : Nat → Int32) (images : Int32) (found : Nat → Int32) (base : Int32) (at0 : Int32) (size : Int32) (fault : Int32) (opened : Int32) (isRub : Int32) (names : Nat → Int32) (code : Nat → Int32) (coded : Int32) (pile : Nat → Int32) (needs : Nat → Int32) (traced : Nat → Int32) (traceMany : Int32) (who : Int32) (bitsOf : Nat → Int32) (sizeOf : Nat → Int32) (number : Nat → Int32) (lifted : Nat → Int32) (a : Int32) (n : Int32) (use : Int32) (baseR : Int32) (at0R : Int32) (sizeR : Int32) (faultR : Int32) (openedR : Int32) (isRubR : Int32) (codeR : Nat → Int32) (codedR : Int32) (h : fX12_reads a n use d base at0 size fault opened isRub code coded = some (baseR, at0R, sizeR, faultR, openedR, isRubR, codeR, codedR)) : Met l yX12_reads wsX12_reads ({ frames := 62, cells := 0, slots := 0, locals := 1311 } : Room) (PW G D (tyC cA) sz (wM cA ad d kept aside images found base at0 size fault opened isRub names code coded pile needs traced traceMany who bitsOf sizeOf number lifted) [.ref (ad 0), .int a, .int n, .int use]) (QV D (tyC cA) (va_A (wM cA ad d kept aside images found base at0 size fault opened isRub names code coded pile needs traced traceMany who bitsOf sizeOf number lifted) sz) (wM cA ad d kept aside images found baseR at0R sizeR faultR openedR isRubR names codeR codedR pile needs traced traceMany who bitsOf sizeOf number lifted)) 0 0 (va_A (wM cA ad d kept aside images found base at0 size fault opened isRub names code coded pile needs traced traceMany who bitsOf sizeOf number lifted) sz) := by
  refine ent (cc := cX12_reads) (maxL := 4) (ret := none) (fun A => QV D (tyC cA) A (wM cA ad d kept aside images found baseR at0R sizeR faultR openedR isRubR names codeR codedR pile needs traced traceMany who bitsOf sizeOf number lifted)) (by decide +kernel) rfl (Nat.le_of_ble_eq_true rfl) ?_
  intro p e s m args below meth c A ls H hx hb hml hr hlk hts hown hA hK hE hP hD hS hv hmm
  have hv : lv_has ls 4 [(0, .ref (ad 0)), (1, .int a), (2, .int n), (3, .int use)] := hv
  have in_12 : ∀ w ∈ u_ws RX12 TX12 23, w ∈ wsX12_reads := fun _ h => List.mem_cons_of_mem _ (List.mem_append_right _ h)
  have w_0 := hts (.fieldLink RX12 68 "SpoonsLastModel" "base" "I") (List.mem_of_getElem? (i := 1) rfl)
  have w_1 := hts (.fieldLink RX12 58 "SpoonsLastModel" "at" "I") (List.mem_of_getElem? (i := 2) rfl)
  have w_2 := hts (.fieldLink RX12 62 "SpoonsLastModel" "size" "I") (List.mem_of_getElem? (i := 3) rfl)
  have w_3 := hts (.fieldLink RX12 65 "SpoonsLastModel" "fault" "I") (List.mem_of_getElem? (i := 4) rfl)
  have w_4 := hts (.fieldLink RX12 105 "SpoonsLastModel" "opened" "I") (List.mem_of_getElem? (i := 5) rfl)
  have w_5 := hts (.fieldLink RX12 79 "SpoonsLastModel" "coded" "I") (List.mem_of_getElem? (i := 6) rfl)
  have w_6 := hts (.fieldLink RX12 75 "SpoonsLastModel" "isRub" "Z") (List.mem_of_getElem? (i := 7) rfl)
  generalize hQ : MQ below _ args s 0 0 A = Q
  have C_41 : ∀ (k0_41 : Int32) (base_41 : Int32) (at0_41 : Int32) (size_41 : Int32) (fault_41 : Int32) (opened_41 : Int32) (isRub_41 : Int32) (code_41 : Nat → Int32) (coded_41 : Int32), fX12_reads_41 k0_41 d base_41 at0_41 size_41 fault_41 opened_41 isRub_41 code_41 coded_41 = some (baseR, at0R, sizeR, faultR, openedR, isRubR, codeR, codedR) → WW p l e ({ frames := 62, cells := 0, slots := 0, locals := 1311 } : Room) s m args below meth c D A 0 0 Q (wM cA ad d kept aside images found base_41 at0_41 size_41 fault_41 opened_41 isRub_41 names code_41 coded_41 pile needs traced traceMany who bitsOf sizeOf number lifted) 4 [(0, .ref (ad 0))] 41 [.int k0_41, .ref (ad 0)] := by
    intro k0_41 base_41 at0_41 size_41 fault_41 opened_41 isRub_41 code_41 coded_41 h
    unfold fX12_reads_41 at h
    intro H locs ls hP hD hS hv
    obtain ⟨hbz_2, h⟩ := ck_ex h
    refine va_put (D := D) (ci := 12) (v := .int k0_41) (ty := .boolean) (C := RX12) (T := TX12) (N := 23) hx hb hts in_12 tyX12 tyX12_ok nmX12 hown hK hP hD hS 0 rfl rfl 10 (by decide) w_6 (fun _ h9 => h9) rfl (by decide +kernel) (isZ_n hbz_2) (isZ_f hbz_2) (Nat.le_of_ble_eq_true rfl) dX12_reads_41 (fun H locs hP hD hS => ?_)
    have hP : va_P D vwCl (wM cA ad d kept aside images found base_41 at0_41 size_41 fault_41 opened_41 k0_41 names code_41 coded_41 pile needs traced traceMany who bitsOf sizeOf number lifted) H := hP
    have hD : va_D A (wM cA ad d kept aside images found base_41 at0_41 size_41 fault_41 opened_41 k0_41 names code_41 coded_41 pile needs traced traceMany who bitsOf sizeOf number lifted) := hD
    refine lv_aload_n hx hb dX12_reads_44 rfl (lv_at hv 0 rfl) ?_
    obtain ⟨⟨at0_3, fault_4, opened_5, code_6, coded_7⟩, hf_8, h⟩ := bd_ex h
    have sb := Sb.same hP hD hS hA
    refine calV (va_runV (As := []) (rest := []) ⟨hx, hb, hml, hown, hts⟩ (c_X12_either l G D cA ad _ d kept aside images found base_41 at0_41 size_41 fault_41 opened_41 k0_41 names code_41 coded_41 pile needs traced traceMany who bitsOf sizeOf number lifted (fX12_unit 8) 56 1184 (c_X12_unit_n 8 l G D cA ad) at0_3 fault_4 opened_5 code_6 coded_7 hf_8) (cwV 0 hts gX12_reads_X12_either rfl rfl rfl (by decide +kernel) ⟨Nat.le_of_ble_eq_true rfl, Nat.le_of_ble_eq_true rfl⟩) (pvV hE hK hS sb (va_recv hK hP (ci := 12) (q0 := 0) rfl rfl)) rfl rfl hv.1 rfl (lv_room (Nat.le_of_ble_eq_true rfl)) dX12_reads_45 ⟨Nat.le_of_ble_eq_true rfl, Nat.le_of_ble_eq_true rfl⟩) hS sb (Jn.same sb) (fun H locs hP hD hS => ?_)
    have hP : va_P D vwCl (wM cA ad d kept aside images found base_41 at0_3 size_41 fault_4 opened_5 k0_41 names code_6 coded_7 pile needs traced traceMany who bitsOf sizeOf number lifted) H := hP
    have hD : va_D A (wM cA ad d kept aside images found base_41 at0_3 size_41 fault_4 opened_5 k0_41 names code_6 coded_7 pile needs traced traceMany who bitsOf sizeOf number lifted) := hD
    refine lv_aload_n hx hb dX12_reads_48 rfl (lv_at hv 0 rfl) ?_
    refine va_get (D := D) (ci := 12) (v := .int fault_4) (C := RX12) (T := TX12) (N := 23) hx hb hts in_12 hown hK hP 0 rfl rfl 8 (by decide) w_3 (fun _ h9 => h9) rfl dX12_reads_49 ?_
    refine lv_if_ge (tgt := 70) hx hb dX12_reads_52 (by decide) (fun c_9 => ?_) (fun c_9 => ?_)
    · have h := ite_t c_9 h
      have h := Option.some.inj h
      have ee0 : base_41 = baseR := congrArg (fun q => q.1) h
      have ee1 : at0_3 = at0R := congrArg (fun q => q.2.1) h
      have ee2 : size_41 = sizeR := congrArg (fun q => q.2.2.1) h
      have ee3 : fault_4 = faultR := congrArg (fun q => q.2.2.2.1) h
      have ee4 : opened_5 = openedR := congrArg (fun q => q.2.2.2.2.1) h
      have ee5 : k0_41 = isRubR := congrArg (fun q => q.2.2.2.2.2.1) h
      have ee6 : code_6 = codeR := congrArg (fun q => q.2.2.2.2.2.2.1) h
      have ee7 : coded_7 = codedR := congrArg (fun q => q.2.2.2.2.2.2.2) h
      subst ee0
      subst ee1
      subst ee2
      subst ee3
      subst ee4
      subst ee5
      subst ee6
      subst ee7
      rw [← hQ]
      exact retV hx hb hr hlk hK hP hD hS dX12_reads_70 ⟨Nat.le_of_ble_eq_true rfl, Nat.le_of_ble_eq_true rfl⟩
    · have h := ite_f c_9 h
      refine lv_aload_n hx hb dX12_reads_55 rfl (lv_at hv 0 rfl) ?_
      refine va_get (D := D) (ci := 12) (v := .int at0_3) (C := RX12) (T := TX12) (N := 23) hx hb hts in_12 hown hK hP 0 rfl rfl 6 (by decide) w_1 (fun _ h9 => h9) rfl dX12_reads_56 ?_
      refine lv_aload_n hx hb dX12_reads_59 rfl (lv_at hv 0 rfl) ?_
      refine va_get (D := D) (ci := 12) (v := .int size_41) (C := RX12) (T := TX12) (N := 23) hx hb hts in_12 hown hK hP 0 rfl rfl 7 (by decide) w_2 (fun _ h9 => h9) rfl dX12_reads_60 ?_
      refine lv_icmp_ge (tgt := 70) hx hb dX12_reads_63 (by decide) (fun c_10 => ?_) (fun c_10 => ?_)
      · have h := ite_t c_10 h
        have h := Option.some.inj h
        have ee0 : base_41 = baseR := congrArg (fun q => q.1) h
        have ee1 : at0_3 = at0R := congrArg (fun q => q.2.1) h
        have ee2 : size_41 = sizeR := congrArg (fun q => q.2.2.1) h
        have ee3 : fault_4 = faultR := congrArg (fun q => q.2.2.2.1) h
        have ee4 : opened_5 = openedR := congrArg (fun q => q.2.2.2.2.1) h
        have ee5 : k0_41 = isRubR := congrArg (fun q => q.2.2.2.2.2.1) h
        have ee6 : code_6 = codeR := congrArg (fun q => q.2.2.2.2.2.2.1) h
        have ee7 : coded_7 = codedR := congrArg (fun q => q.2.2.2.2.2.2.2) h
        subst ee0
        subst ee1
        subst ee2
        subst ee3
        subst ee4
        subst ee5
        subst ee6
        subst ee7
        rw [← hQ]
        exact retV hx hb hr hlk hK hP hD hS dX12_reads_70 ⟨Nat.le_of_ble_eq_true rfl, Nat.le_of_ble_eq_true rfl⟩
      · have h := ite_f c_10 h
        refine lv_aload_n hx hb dX12_reads_66 rfl (lv_at hv 0 rfl) ?_
        obtain ⟨fault_11, hf_12, h⟩ := bd_ex h
        have sb := Sb.same hP hD hS hA
        refine calV (va_runV (As := []) (rest := []) ⟨hx, hb, hml, hown, hts⟩ (c_X12_wrong l G D cA ad _ d kept aside images found base_41 at0_3 size_41 fault_4 opened_5 k0_41 names code_6 coded_7 pile needs traced traceMany who bitsOf sizeOf number lifted fault_11 hf_12) (cwV 0 hts gX12_reads_X12_wrong rfl rfl rfl (by decide +kernel) ⟨Nat.le_of_ble_eq_true rfl, Nat.le_of_ble_eq_true rfl⟩) (pvV hE hK hS sb (va_recv hK hP (ci := 12) (q0 := 0) rfl rfl)) rfl rfl hv.1 rfl (lv_room (Nat.le_of_ble_eq_true rfl)) dX12_reads_67 ⟨Nat.le_of_ble_eq_true rfl, Nat.le_of_ble_eq_true rfl⟩) hS sb (Jn.same sb) (fun H locs hP hD hS => ?_)
        have hP : va_P D vwCl (wM cA ad d kept aside images found base_41 at0_3 size_41 fault_11 opened_5 k0_41 names code_6 coded_7 pile needs traced traceMany who bitsOf sizeOf number lifted) H := hP
        have hD : va_D A (wM cA ad d kept aside images found base_41 at0_3 size_41 fault_11 opened_5 k0_41 names code_6 coded_7 pile needs traced traceMany who bitsOf sizeOf number lifted) := hD
        have h := Option.some.inj h
        have ee0 : base_41 = baseR := congrArg (fun q => q.1) h
        have ee1 : at0_3 = at0R := congrArg (fun q => q.2.1) h
        have ee2 : size_41 = sizeR := congrArg (fun q => q.2.2.1) h
        have ee3 : fault_11 = faultR := congrArg (fun q => q.2.2.2.1) h
        have ee4 : opened_5 = openedR := congrArg (fun q => q.2.2.2.2.1) h
        have ee5 : k0_41 = isRubR := congrArg (fun q => q.2.2.2.2.2.1) h
        have ee6 : code_6 = codeR := congrArg (fun q => q.2.2.2.2.2.2.1) h
        have ee7 : coded_7 = codedR := congrArg (fun q => q.2.2.2.2.2.2.2) h
        subst ee0
        subst ee1
        subst ee2
        subst ee3
        subst ee4
        subst ee5
        subst ee6
        subst ee7
        rw [← hQ]
        exact retV hx hb hr hlk hK hP hD hS dX12_reads_70 ⟨Nat.le_of_ble_eq_true rfl, Nat.le_of_ble_eq_true rfl⟩
  have hP : va_P D vwCl (wM cA ad d kept aside images found base at0 size fault opened isRub names code coded pile needs traced traceMany who bitsOf sizeOf number lifted) H := hP
  unfold fX12_reads at h
  refine lv_aload_n hx hb dX12_reads_0 rfl (lv_at hv 0 rfl) ?_
  refine lv_iload_n hx hb dX12_reads_1 rfl (lv_at hv 1 rfl) ?_
  refine va_put (D := D) (ci := 12) (v := .int a) (ty := .int) (C := RX12) (T := TX12) (N := 23) hx hb hts in_12 tyX12 tyX12_ok nmX12 hown hK hP hD hS 0 rfl rfl 5 (by decide) w_0 (fun _ h9 => h9) rfl (by decide +kernel) rfl rfl (Nat.le_of_ble_eq_true rfl) dX12_reads_2 (fun H locs hP hD hS => ?_)
  have hP : va_P D vwCl (wM cA ad d kept aside images found a at0 size fault opened isRub names code coded pile needs traced traceMany who bitsOf sizeOf number lifted) H := hP
  have hD : va_D A (wM cA ad d kept aside images found a at0 size fault opened isRub names code coded pile needs traced traceMany who bitsOf sizeOf number lifted) := hD
  refine lv_aload_n hx hb dX12_reads_5 rfl (lv_at hv 0 rfl) ?_
  refine lv_iconst (v := (0 : Int32)) hx hb dX12_reads_6 (by decide) ?_
  refine va_put (D := D) (ci := 12) (v := .int (0 : Int32)) (ty := .int) (C := RX12) (T := TX12) (N := 23) hx hb hts in_12 tyX12 tyX12_ok nmX12 hown hK hP hD hS 0 rfl rfl 6 (by decide) w_1 (fun _ h9 => h9) rfl (by decide +kernel) rfl rfl (Nat.le_of_ble_eq_true rfl) dX12_reads_7 (fun H locs hP hD hS => ?_)
  have hP : va_P D vwCl (wM cA ad d kept aside images found a (0 : Int32) size fault opened isRub names code coded pile needs traced traceMany who bitsOf sizeOf number lifted) H := hP
  have hD : va_D A (wM cA ad d kept aside images found a (0 : Int32) size fault opened isRub names code coded pile needs traced traceMany who bitsOf sizeOf number lifted) := hD
  refine lv_aload_n hx hb dX12_reads_10 rfl (lv_at hv 0 rfl) ?_
  refine lv_iload_n hx hb dX12_reads_11 rfl (lv_at hv 2 rfl) ?_
  refine va_put (D := D) (ci := 12) (v := .int n) (ty := .int) (C := RX12) (T := TX12) (N := 23) hx hb hts in_12 tyX12 tyX12_ok nmX12 hown hK hP hD hS 0 rfl rfl 7 (by decide) w_2 (fun _ h9 => h9) rfl (by decide +kernel) rfl rfl (Nat.le_of_ble_eq_true rfl) dX12_reads_12 (fun H locs hP hD hS => ?_)
  have hP : va_P D vwCl (wM cA ad d kept aside images found a (0 : Int32) n fault opened isRub names code coded pile needs traced traceMany who bitsOf sizeOf number lifted) H := hP
  have hD : va_D A (wM cA ad d kept aside images found a (0 : Int32) n fault opened isRub names code coded pile needs traced traceMany who bitsOf sizeOf number lifted) := hD
  refine lv_aload_n hx hb dX12_reads_15 rfl (lv_at hv 0 rfl) ?_
  refine lv_iconst (v := (-1 : Int32)) hx hb dX12_reads_16 (by decide) ?_
  refine va_put (D := D) (ci := 12) (v := .int (-1 : Int32)) (ty := .int) (C := RX12) (T := TX12) (N := 23) hx hb hts in_12 tyX12 tyX12_ok nmX12 hown hK hP hD hS 0 rfl rfl 8 (by decide) w_3 (fun _ h9 => h9) rfl (by decide +kernel) rfl rfl (Nat.le_of_ble_eq_true rfl) dX12_reads_17 (fun H locs hP hD hS => ?_)
  have hP : va_P D vwCl (wM cA ad d kept aside images found a (0 : Int32) n (-1 : Int32) opened isRub names code coded pile needs traced traceMany who bitsOf sizeOf number lifted) H := hP
  have hD : va_D A (wM cA ad d kept aside images found a (0 : Int32) n (-1 : Int32) opened isRub names code coded pile needs traced traceMany who bitsOf sizeOf number lifted) := hD
  refine lv_aload_n hx hb dX12_reads_20 rfl (lv_at hv 0 rfl) ?_
  refine lv_iconst (v := (0 : Int32)) hx hb dX12_reads_21 (by decide) ?_
  refine va_put (D := D) (ci := 12) (v := .int (0 : Int32)) (ty := .int) (C := RX12) (T := TX12) (N := 23) hx hb hts in_12 tyX12 tyX12_ok nmX12 hown hK hP hD hS 0 rfl rfl 9 (by decide) w_4 (fun _ h9 => h9) rfl (by decide +kernel) rfl rfl (Nat.le_of_ble_eq_true rfl) dX12_reads_22 (fun H locs hP hD hS => ?_)
  have hP : va_P D vwCl (wM cA ad d kept aside images found a (0 : Int32) n (-1 : Int32) (0 : Int32) isRub names code coded pile needs traced traceMany who bitsOf sizeOf number lifted) H := hP
  have hD : va_D A (wM cA ad d kept aside images found a (0 : Int32) n (-1 : Int32) (0 : Int32) isRub names code coded pile needs traced traceMany who bitsOf sizeOf number lifted) := hD
  refine lv_aload_n hx hb dX12_reads_25 rfl (lv_at hv 0 rfl) ?_
  refine lv_iconst (v := (0 : Int32)) hx hb dX12_reads_26 (by decide) ?_
  refine va_put (D := D) (ci := 12) (v := .int (0 : Int32)) (ty := .int) (C := RX12) (T := TX12) (N := 23) hx hb hts in_12 tyX12 tyX12_ok nmX12 hown hK hP hD hS 0 rfl rfl 13 (by decide) w_5 (fun _ h9 => h9) rfl (by decide +kernel) rfl rfl (Nat.le_of_ble_eq_true rfl) dX12_reads_27 (fun H locs hP hD hS => ?_)
  have hP : va_P D vwCl (wM cA ad d kept aside images found a (0 : Int32) n (-1 : Int32) (0 : Int32) isRub names code (0 : Int32) pile needs traced traceMany who bitsOf sizeOf number lifted) H := hP
  have hD : va_D A (wM cA ad d kept aside images found a (0 : Int32) n (-1 : Int32) (0 : Int32) isRub names code (0 : Int32) pile needs traced traceMany who bitsOf sizeOf number lifted) := hD
  refine lv_aload_n hx hb dX12_reads_30 rfl (lv_at hv 0 rfl) ?_
  refine lv_iload_n hx hb dX12_reads_31 rfl (lv_at hv 3 rfl) ?_
  refine lv_iconst (v := (1 : Int32)) hx hb dX12_reads_32 (by decide) ?_
  refine lv_icmp_ne (tgt := 40) hx hb dX12_reads_33 (by decide) (fun c_1 => ?_) (fun c_1 => ?_)
  · have h := ite_f c_1 h
    refine lv_iconst (v := (0 : Int32)) hx hb dX12_reads_40 (by decide) ?_
    exact C_41 (0 : Int32) a (0 : Int32) n (-1 : Int32) (0 : Int32) isRub code (0 : Int32) h _ _ _ hP hD hS (lv_sub hv [0] rfl)
  · have h := ite_t c_1 h
    refine lv_iconst (v := (1 : Int32)) hx hb dX12_reads_36 (by decide) ?_
    refine lv_goto (tgt := 41) hx hb dX12_reads_37 (by decide) ?_
    exact C_41 (1 : Int32) a (0 : Int32) n (-1 : Int32) (0 : Int32) isRub code (0 : Int32) h _ _ _ hP hD hS (lv_sub hv [0] rfl)

