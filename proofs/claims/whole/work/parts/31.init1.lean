def fX12_init_170B (v1_170b : Int32) (d_170b : Nat → Int32) : Option ((Int32 × (Nat → Int32)) ⊕ (Int32 × (Nat → Int32))) :=
  (if (4 : Int32) ≤ v1_170b then some (.inr (v1_170b, d_170b)) else ckI ((30 : Int32) + v1_170b) 326 (bnd (upd d_170b (((30 : Int32) + v1_170b)).toNatClampNeg (-1 : Int32)) fun d_5 => bnd (v1_170b + (1 : Int32)) fun y_6 => some (.inl (y_6, d_5))))
def fX12_init_170 (v1_170 : Int32) (d_170 : Nat → Int32) : Option ((Nat → Int32)) :=
  bd (lp (fun σ : Int32 × (Nat → Int32) => fX12_init_170B (σ.1) (σ.2)) FU (v1_170, d_170)) fun ρ => match ρ with | (v1_170r, d_170r) => some d_170r
def fX12_init_146B (v1_146b : Int32) (d_146b : Nat → Int32) : Option ((Int32 × (Nat → Int32)) ⊕ (Int32 × (Nat → Int32))) :=
  (if (6 : Int32) ≤ v1_146b then some (.inr (v1_146b, d_146b)) else ckI ((18 : Int32) + v1_146b) 326 (bnd (upd d_146b (((18 : Int32) + v1_146b)).toNatClampNeg (-1 : Int32)) fun d_9 => bnd (v1_146b + (1 : Int32)) fun y_10 => some (.inl (y_10, d_9))))
def fX12_init_146 (v1_146 : Int32) (d_146 : Nat → Int32) : Option ((Nat → Int32)) :=
  bd (lp (fun σ : Int32 × (Nat → Int32) => fX12_init_146B (σ.1) (σ.2)) FU (v1_146, d_146)) fun ρ => match ρ with | (v1_146r, d_146r) => fX12_init_170 (0 : Int32) d_146r
def fX12_init_119B (v1_119b : Int32) (d_119b : Nat → Int32) : Option ((Int32 × (Nat → Int32)) ⊕ (Int32 × (Nat → Int32))) :=
  (if (12 : Int32) ≤ v1_119b then some (.inr (v1_119b, d_119b)) else bnd (v1_119b - v1_119b / (10 : Int32) * (10 : Int32)) fun y_12 => ckI ((6 : Int32) + v1_119b) 326 (bnd (upd d_119b (((6 : Int32) + v1_119b)).toNatClampNeg y_12) fun d_14 => bnd (v1_119b + (1 : Int32)) fun y_15 => some (.inl (y_15, d_14))))
def fX12_init_119 (v1_119 : Int32) (d_119 : Nat → Int32) : Option ((Nat → Int32)) :=
  bd (lp (fun σ : Int32 × (Nat → Int32) => fX12_init_119B (σ.1) (σ.2)) FU (v1_119, d_119)) fun ρ => match ρ with | (v1_119r, d_119r) => fX12_init_146 (0 : Int32) d_119r
def fX12_init : Option ((Nat → Int32)) :=
  ckI (3 : Int32) 326 (bnd (upd (fun _ => (0 : Int32)) ((3 : Int32)).toNatClampNeg (1 : Int32)) fun d_2 => fX12_init_119 (0 : Int32) d_2)
set_option maxHeartbeats 4000000 in
set_option maxRecDepth 100000 in
theorem c_X12_init (l : Launch) (G : Nat → Nat) (D : va_G) (cA : Nat → ClassId) (sz o : Nat) (dR : Nat → Int32) (h : fX12_init = some dR) : Met l yX12_init wsX12_init ({ frames := 1, cells := 13, slots := 1439, locals := 12 } : Room) (PW G D (tyC cA) sz [(o, .inr (12, [.null, .null, .null, .int 0, .null, .int 0, .int 0, .int 0, .int 0, .int 0, .int 0, .null, .null, .int 0, .null, .null, .null, .int 0, .int 0, .null, .null, .null, .null]))] [.ref o]) (QX D (tyC cA) (va_A [(o, .inr (12, [.null, .null, .null, .int 0, .null, .int 0, .int 0, .int 0, .int 0, .int 0, .int 0, .null, .null, .int 0, .null, .null, .null, .int 0, .int 0, .null, .null, .null, .null]))] sz) (fun w => ∃ ad : Nat → Nat, ad 0 = o ∧ w = (wM cA ad dR (fun _ => (0 : Int32)) (fun _ => (0 : Int32)) (0 : Int32) (fun _ => (0 : Int32)) (0 : Int32) (0 : Int32) (0 : Int32) (0 : Int32) (0 : Int32) (0 : Int32) (fun _ => (0 : Int32)) (fun _ => (0 : Int32)) (0 : Int32) (fun _ => (0 : Int32)) (fun _ => (0 : Int32)) (fun _ => (0 : Int32)) (0 : Int32) (0 : Int32) (fun _ => (0 : Int32)) (fun _ => (0 : Int32)) (fun _ => (0 : Int32)) (fun _ => (0 : Int32))))) 13 1439 (va_A [(o, .inr (12, [.null, .null, .null, .int 0, .null, .int 0, .int 0, .int 0, .int 0, .int 0, .int 0, .null, .null, .int 0, .null, .null, .null, .int 0, .int 0, .null, .null, .null, .null]))] sz) := by
  refine ent (cc := cX12_init) (maxL := 2) (ret := none) (fun A => QX D (tyC cA) A (fun w => ∃ ad : Nat → Nat, ad 0 = o ∧ w = (wM cA ad dR (fun _ => (0 : Int32)) (fun _ => (0 : Int32)) (0 : Int32) (fun _ => (0 : Int32)) (0 : Int32) (0 : Int32) (0 : Int32) (0 : Int32) (0 : Int32) (0 : Int32) (fun _ => (0 : Int32)) (fun _ => (0 : Int32)) (0 : Int32) (fun _ => (0 : Int32)) (fun _ => (0 : Int32)) (fun _ => (0 : Int32)) (0 : Int32) (0 : Int32) (fun _ => (0 : Int32)) (fun _ => (0 : Int32)) (fun _ => (0 : Int32)) (fun _ => (0 : Int32))))) (by decide +kernel) rfl (Nat.le_of_ble_eq_true rfl) ?_
  intro p e s m args below meth c A ls H hx hb hml hr hlk hts hown hA hK hE hP hD hS hv hmm
  have hv : lv_has ls 2 [(0, .ref o)] := hv
  have hinit : meth.name = "<init>" := (name_of_methodNamed hmm.1 hmm.2).1
  have in_12 : ∀ w ∈ u_ws RX12 TX12 23, w ∈ wsX12_init := fun _ h => List.mem_cons_of_mem _ (List.mem_append_right _ h)
  have w_0 := hts (.methodLink RX12 1 objectInit) (List.mem_of_getElem? (i := 1) rfl)
  have w_1 := hts (.instanceMethod objectInit) (List.mem_of_getElem? (i := 2) rfl)
  have w_2 := hts (.code objectInit ⟨#[0xb1]⟩ 1 none) (List.mem_of_getElem? (i := 3) rfl)
  have w_3 := hts (.arrayClass .int) (List.mem_of_getElem? (i := 4) rfl)
  have w_4 := hts (.fieldLink RX12 7 "SpoonsLastModel" "d" "[I") (List.mem_of_getElem? (i := 5) rfl)
  have w_5 := hts (.fieldLink RX12 13 "SpoonsLastModel" "kept" "[I") (List.mem_of_getElem? (i := 6) rfl)
  have w_6 := hts (.fieldLink RX12 16 "SpoonsLastModel" "aside" "[I") (List.mem_of_getElem? (i := 7) rfl)
  have w_7 := hts (.fieldLink RX12 19 "SpoonsLastModel" "found" "[I") (List.mem_of_getElem? (i := 8) rfl)
  have w_8 := hts (.fieldLink RX12 22 "SpoonsLastModel" "names" "[I") (List.mem_of_getElem? (i := 9) rfl)
  have w_9 := hts (.fieldLink RX12 25 "SpoonsLastModel" "code" "[I") (List.mem_of_getElem? (i := 10) rfl)
  have w_10 := hts (.fieldLink RX12 28 "SpoonsLastModel" "pile" "[I") (List.mem_of_getElem? (i := 11) rfl)
  have w_11 := hts (.fieldLink RX12 31 "SpoonsLastModel" "needs" "[I") (List.mem_of_getElem? (i := 12) rfl)
  have w_12 := hts (.fieldLink RX12 34 "SpoonsLastModel" "traced" "[I") (List.mem_of_getElem? (i := 13) rfl)
  have w_13 := hts (.fieldLink RX12 37 "SpoonsLastModel" "bitsOf" "[I") (List.mem_of_getElem? (i := 14) rfl)
  have w_14 := hts (.fieldLink RX12 40 "SpoonsLastModel" "sizeOf" "[I") (List.mem_of_getElem? (i := 15) rfl)
  have w_15 := hts (.fieldLink RX12 43 "SpoonsLastModel" "number" "[I") (List.mem_of_getElem? (i := 16) rfl)
  have w_16 := hts (.fieldLink RX12 46 "SpoonsLastModel" "lifted" "[I") (List.mem_of_getElem? (i := 17) rfl)
  generalize hQ : MQ below _ args s 13 1439 A = Q
  have hP : va_P D vwCl [(o, .inr (12, [.null, .null, .null, .int 0, .null, .int 0, .int 0, .int 0, .int 0, .int 0, .int 0, .null, .null, .int 0, .null, .null, .null, .int 0, .int 0, .null, .null, .null, .null]))] H := hP
  have hD : va_D A [(o, .inr (12, [.null, .null, .null, .int 0, .null, .int 0, .int 0, .int 0, .int 0, .int 0, .int 0, .null, .null, .int 0, .null, .null, .null, .int 0, .int 0, .null, .null, .null, .null]))] := hD
  refine lv_aload_n hx hb dX12_init_0 rfl (lv_at hv 0 rfl) ?_
  refine W.objInit hx hb hown w_0 w_1 w_2 rfl (hv.1.trans hml.symm) rfl dX12_init_1 (Nat.le_of_ble_eq_true rfl) (Nat.le_of_ble_eq_true rfl) ?_
  refine W.eq (g2 := F0 m 4 ls []) rfl ?_
  refine lv_aload_n hx hb dX12_init_4 rfl (lv_at hv 0 rfl) ?_
  refine lv_sipush (v := (326 : Int32)) hx hb dX12_init_5 (by decide) ?_
  refine nwI hx hb hA w_3 rfl hK hP hD hS (n := (326 : Int32)) (N' := 326) (by decide) (by decide) (Nat.le_of_ble_eq_true rfl) (Nat.le_of_ble_eq_true rfl) (Nat.le_of_ble_eq_true rfl) dX12_init_8 ?_
  intro q1 H hP hD hS
  have hP : va_P D vwCl [(o, .inr (12, [.null, .null, .null, .int 0, .null, .int 0, .int 0, .int 0, .int 0, .int 0, .int 0, .null, .null, .int 0, .null, .null, .null, .int 0, .int 0, .null, .null, .null, .null])), (q1, .inl (cA 0, 326, .inl (fun _ => 0)))] H := hP
  have hD : va_D A [(o, .inr (12, [.null, .null, .null, .int 0, .null, .int 0, .int 0, .int 0, .int 0, .int 0, .int 0, .null, .null, .int 0, .null, .null, .null, .int 0, .int 0, .null, .null, .null, .null])), (q1, .inl (cA 0, 326, .inl (fun _ => 0)))] := hD
  refine va_putF (D := D) (ci := 12) (v := .ref q1) (ty := .array .int) (C := RX12) (T := TX12) (N := 23) hx hb hts in_12 tyX12 tyX12_ok nmX12 hown hK hP hD hS 0 rfl rfl 0 (by decide) w_4 (fun _ h9 => h9) rfl hinit rfl (by decide +kernel) rfl rfl (Nat.le_of_ble_eq_true rfl) dX12_init_10 (fun H locs hP hD hS => ?_)
  have hP : va_P D vwCl [(o, .inr (12, [.ref q1, .null, .null, .int 0, .null, .int 0, .int 0, .int 0, .int 0, .int 0, .int 0, .null, .null, .int 0, .null, .null, .null, .int 0, .int 0, .null, .null, .null, .null])), (q1, .inl (cA 0, 326, .inl (fun _ => 0)))] H := hP
  have hD : va_D A [(o, .inr (12, [.ref q1, .null, .null, .int 0, .null, .int 0, .int 0, .int 0, .int 0, .int 0, .int 0, .null, .null, .int 0, .null, .null, .null, .int 0, .int 0, .null, .null, .null, .null])), (q1, .inl (cA 0, 326, .inl (fun _ => 0)))] := hD
  refine lv_aload_n hx hb dX12_init_13 rfl (lv_at hv 0 rfl) ?_
  refine lv_sipush (v := (326 : Int32)) hx hb dX12_init_14 (by decide) ?_
  refine nwI hx hb hA w_3 rfl hK hP hD hS (n := (326 : Int32)) (N' := 326) (by decide) (by decide) (Nat.le_of_ble_eq_true rfl) (Nat.le_of_ble_eq_true rfl) (Nat.le_of_ble_eq_true rfl) dX12_init_17 ?_
  intro q2 H hP hD hS
  have hP : va_P D vwCl [(o, .inr (12, [.ref q1, .null, .null, .int 0, .null, .int 0, .int 0, .int 0, .int 0, .int 0, .int 0, .null, .null, .int 0, .null, .null, .null, .int 0, .int 0, .null, .null, .null, .null])), (q1, .inl (cA 0, 326, .inl (fun _ => 0))), (q2, .inl (cA 0, 326, .inl (fun _ => 0)))] H := hP
  have hD : va_D A [(o, .inr (12, [.ref q1, .null, .null, .int 0, .null, .int 0, .int 0, .int 0, .int 0, .int 0, .int 0, .null, .null, .int 0, .null, .null, .null, .int 0, .int 0, .null, .null, .null, .null])), (q1, .inl (cA 0, 326, .inl (fun _ => 0))), (q2, .inl (cA 0, 326, .inl (fun _ => 0)))] := hD
  refine va_putF (D := D) (ci := 12) (v := .ref q2) (ty := .array .int) (C := RX12) (T := TX12) (N := 23) hx hb hts in_12 tyX12 tyX12_ok nmX12 hown hK hP hD hS 0 rfl rfl 1 (by decide) w_5 (fun _ h9 => h9) rfl hinit rfl (by decide +kernel) rfl rfl (Nat.le_of_ble_eq_true rfl) dX12_init_19 (fun H locs hP hD hS => ?_)
  have hP : va_P D vwCl [(o, .inr (12, [.ref q1, .ref q2, .null, .int 0, .null, .int 0, .int 0, .int 0, .int 0, .int 0, .int 0, .null, .null, .int 0, .null, .null, .null, .int 0, .int 0, .null, .null, .null, .null])), (q1, .inl (cA 0, 326, .inl (fun _ => 0))), (q2, .inl (cA 0, 326, .inl (fun _ => 0)))] H := hP
  have hD : va_D A [(o, .inr (12, [.ref q1, .ref q2, .null, .int 0, .null, .int 0, .int 0, .int 0, .int 0, .int 0, .int 0, .null, .null, .int 0, .null, .null, .null, .int 0, .int 0, .null, .null, .null, .null])), (q1, .inl (cA 0, 326, .inl (fun _ => 0))), (q2, .inl (cA 0, 326, .inl (fun _ => 0)))] := hD
  refine lv_aload_n hx hb dX12_init_22 rfl (lv_at hv 0 rfl) ?_
  refine lv_sipush (v := (154 : Int32)) hx hb dX12_init_23 (by decide) ?_
  refine nwI hx hb hA w_3 rfl hK hP hD hS (n := (154 : Int32)) (N' := 154) (by decide) (by decide) (Nat.le_of_ble_eq_true rfl) (Nat.le_of_ble_eq_true rfl) (Nat.le_of_ble_eq_true rfl) dX12_init_26 ?_
  intro q3 H hP hD hS
  have hP : va_P D vwCl [(o, .inr (12, [.ref q1, .ref q2, .null, .int 0, .null, .int 0, .int 0, .int 0, .int 0, .int 0, .int 0, .null, .null, .int 0, .null, .null, .null, .int 0, .int 0, .null, .null, .null, .null])), (q1, .inl (cA 0, 326, .inl (fun _ => 0))), (q2, .inl (cA 0, 326, .inl (fun _ => 0))), (q3, .inl (cA 0, 154, .inl (fun _ => 0)))] H := hP
  have hD : va_D A [(o, .inr (12, [.ref q1, .ref q2, .null, .int 0, .null, .int 0, .int 0, .int 0, .int 0, .int 0, .int 0, .null, .null, .int 0, .null, .null, .null, .int 0, .int 0, .null, .null, .null, .null])), (q1, .inl (cA 0, 326, .inl (fun _ => 0))), (q2, .inl (cA 0, 326, .inl (fun _ => 0))), (q3, .inl (cA 0, 154, .inl (fun _ => 0)))] := hD
  refine va_putF (D := D) (ci := 12) (v := .ref q3) (ty := .array .int) (C := RX12) (T := TX12) (N := 23) hx hb hts in_12 tyX12 tyX12_ok nmX12 hown hK hP hD hS 0 rfl rfl 2 (by decide) w_6 (fun _ h9 => h9) rfl hinit rfl (by decide +kernel) rfl rfl (Nat.le_of_ble_eq_true rfl) dX12_init_28 (fun H locs hP hD hS => ?_)
  have hP : va_P D vwCl [(o, .inr (12, [.ref q1, .ref q2, .ref q3, .int 0, .null, .int 0, .int 0, .int 0, .int 0, .int 0, .int 0, .null, .null, .int 0, .null, .null, .null, .int 0, .int 0, .null, .null, .null, .null])), (q1, .inl (cA 0, 326, .inl (fun _ => 0))), (q2, .inl (cA 0, 326, .inl (fun _ => 0))), (q3, .inl (cA 0, 154, .inl (fun _ => 0)))] H := hP
  have hD : va_D A [(o, .inr (12, [.ref q1, .ref q2, .ref q3, .int 0, .null, .int 0, .int 0, .int 0, .int 0, .int 0, .int 0, .null, .null, .int 0, .null, .null, .null, .int 0, .int 0, .null, .null, .null, .null])), (q1, .inl (cA 0, 326, .inl (fun _ => 0))), (q2, .inl (cA 0, 326, .inl (fun _ => 0))), (q3, .inl (cA 0, 154, .inl (fun _ => 0)))] := hD
  refine lv_aload_n hx hb dX12_init_31 rfl (lv_at hv 0 rfl) ?_
  refine lv_bipush (v := (6 : Int32)) hx hb dX12_init_32 (by decide) ?_
  refine nwI hx hb hA w_3 rfl hK hP hD hS (n := (6 : Int32)) (N' := 6) (by decide) (by decide) (Nat.le_of_ble_eq_true rfl) (Nat.le_of_ble_eq_true rfl) (Nat.le_of_ble_eq_true rfl) dX12_init_34 ?_
  intro q4 H hP hD hS
  have hP : va_P D vwCl [(o, .inr (12, [.ref q1, .ref q2, .ref q3, .int 0, .null, .int 0, .int 0, .int 0, .int 0, .int 0, .int 0, .null, .null, .int 0, .null, .null, .null, .int 0, .int 0, .null, .null, .null, .null])), (q1, .inl (cA 0, 326, .inl (fun _ => 0))), (q2, .inl (cA 0, 326, .inl (fun _ => 0))), (q3, .inl (cA 0, 154, .inl (fun _ => 0))), (q4, .inl (cA 0, 6, .inl (fun _ => 0)))] H := hP
  have hD : va_D A [(o, .inr (12, [.ref q1, .ref q2, .ref q3, .int 0, .null, .int 0, .int 0, .int 0, .int 0, .int 0, .int 0, .null, .null, .int 0, .null, .null, .null, .int 0, .int 0, .null, .null, .null, .null])), (q1, .inl (cA 0, 326, .inl (fun _ => 0))), (q2, .inl (cA 0, 326, .inl (fun _ => 0))), (q3, .inl (cA 0, 154, .inl (fun _ => 0))), (q4, .inl (cA 0, 6, .inl (fun _ => 0)))] := hD
  refine va_putF (D := D) (ci := 12) (v := .ref q4) (ty := .array .int) (C := RX12) (T := TX12) (N := 23) hx hb hts in_12 tyX12 tyX12_ok nmX12 hown hK hP hD hS 0 rfl rfl 4 (by decide) w_7 (fun _ h9 => h9) rfl hinit rfl (by decide +kernel) rfl rfl (Nat.le_of_ble_eq_true rfl) dX12_init_36 (fun H locs hP hD hS => ?_)
  have hP : va_P D vwCl [(o, .inr (12, [.ref q1, .ref q2, .ref q3, .int 0, .ref q4, .int 0, .int 0, .int 0, .int 0, .int 0, .int 0, .null, .null, .int 0, .null, .null, .null, .int 0, .int 0, .null, .null, .null, .null])), (q1, .inl (cA 0, 326, .inl (fun _ => 0))), (q2, .inl (cA 0, 326, .inl (fun _ => 0))), (q3, .inl (cA 0, 154, .inl (fun _ => 0))), (q4, .inl (cA 0, 6, .inl (fun _ => 0)))] H := hP
  have hD : va_D A [(o, .inr (12, [.ref q1, .ref q2, .ref q3, .int 0, .ref q4, .int 0, .int 0, .int 0, .int 0, .int 0, .int 0, .null, .null, .int 0, .null, .null, .null, .int 0, .int 0, .null, .null, .null, .null])), (q1, .inl (cA 0, 326, .inl (fun _ => 0))), (q2, .inl (cA 0, 326, .inl (fun _ => 0))), (q3, .inl (cA 0, 154, .inl (fun _ => 0))), (q4, .inl (cA 0, 6, .inl (fun _ => 0)))] := hD
  refine lv_aload_n hx hb dX12_init_39 rfl (lv_at hv 0 rfl) ?_
  refine lv_iconst (v := (3 : Int32)) hx hb dX12_init_40 (by decide) ?_
  refine nwI hx hb hA w_3 rfl hK hP hD hS (n := (3 : Int32)) (N' := 3) (by decide) (by decide) (Nat.le_of_ble_eq_true rfl) (Nat.le_of_ble_eq_true rfl) (Nat.le_of_ble_eq_true rfl) dX12_init_41 ?_
  intro q5 H hP hD hS
  have hP : va_P D vwCl [(o, .inr (12, [.ref q1, .ref q2, .ref q3, .int 0, .ref q4, .int 0, .int 0, .int 0, .int 0, .int 0, .int 0, .null, .null, .int 0, .null, .null, .null, .int 0, .int 0, .null, .null, .null, .null])), (q1, .inl (cA 0, 326, .inl (fun _ => 0))), (q2, .inl (cA 0, 326, .inl (fun _ => 0))), (q3, .inl (cA 0, 154, .inl (fun _ => 0))), (q4, .inl (cA 0, 6, .inl (fun _ => 0))), (q5, .inl (cA 0, 3, .inl (fun _ => 0)))] H := hP
  have hD : va_D A [(o, .inr (12, [.ref q1, .ref q2, .ref q3, .int 0, .ref q4, .int 0, .int 0, .int 0, .int 0, .int 0, .int 0, .null, .null, .int 0, .null, .null, .null, .int 0, .int 0, .null, .null, .null, .null])), (q1, .inl (cA 0, 326, .inl (fun _ => 0))), (q2, .inl (cA 0, 326, .inl (fun _ => 0))), (q3, .inl (cA 0, 154, .inl (fun _ => 0))), (q4, .inl (cA 0, 6, .inl (fun _ => 0))), (q5, .inl (cA 0, 3, .inl (fun _ => 0)))] := hD
  refine va_putF (D := D) (ci := 12) (v := .ref q5) (ty := .array .int) (C := RX12) (T := TX12) (N := 23) hx hb hts in_12 tyX12 tyX12_ok nmX12 hown hK hP hD hS 0 rfl rfl 11 (by decide) w_8 (fun _ h9 => h9) rfl hinit rfl (by decide +kernel) rfl rfl (Nat.le_of_ble_eq_true rfl) dX12_init_43 (fun H locs hP hD hS => ?_)
  have hP : va_P D vwCl [(o, .inr (12, [.ref q1, .ref q2, .ref q3, .int 0, .ref q4, .int 0, .int 0, .int 0, .int 0, .int 0, .int 0, .ref q5, .null, .int 0, .null, .null, .null, .int 0, .int 0, .null, .null, .null, .null])), (q1, .inl (cA 0, 326, .inl (fun _ => 0))), (q2, .inl (cA 0, 326, .inl (fun _ => 0))), (q3, .inl (cA 0, 154, .inl (fun _ => 0))), (q4, .inl (cA 0, 6, .inl (fun _ => 0))), (q5, .inl (cA 0, 3, .inl (fun _ => 0)))] H := hP
  have hD : va_D A [(o, .inr (12, [.ref q1, .ref q2, .ref q3, .int 0, .ref q4, .int 0, .int 0, .int 0, .int 0, .int 0, .int 0, .ref q5, .null, .int 0, .null, .null, .null, .int 0, .int 0, .null, .null, .null, .null])), (q1, .inl (cA 0, 326, .inl (fun _ => 0))), (q2, .inl (cA 0, 326, .inl (fun _ => 0))), (q3, .inl (cA 0, 154, .inl (fun _ => 0))), (q4, .inl (cA 0, 6, .inl (fun _ => 0))), (q5, .inl (cA 0, 3, .inl (fun _ => 0)))] := hD
  refine lv_aload_n hx hb dX12_init_46 rfl (lv_at hv 0 rfl) ?_
  refine lv_bipush (v := (60 : Int32)) hx hb dX12_init_47 (by decide) ?_
  refine nwI hx hb hA w_3 rfl hK hP hD hS (n := (60 : Int32)) (N' := 60) (by decide) (by decide) (Nat.le_of_ble_eq_true rfl) (Nat.le_of_ble_eq_true rfl) (Nat.le_of_ble_eq_true rfl) dX12_init_49 ?_
  intro q6 H hP hD hS
  have hP : va_P D vwCl [(o, .inr (12, [.ref q1, .ref q2, .ref q3, .int 0, .ref q4, .int 0, .int 0, .int 0, .int 0, .int 0, .int 0, .ref q5, .null, .int 0, .null, .null, .null, .int 0, .int 0, .null, .null, .null, .null])), (q1, .inl (cA 0, 326, .inl (fun _ => 0))), (q2, .inl (cA 0, 326, .inl (fun _ => 0))), (q3, .inl (cA 0, 154, .inl (fun _ => 0))), (q4, .inl (cA 0, 6, .inl (fun _ => 0))), (q5, .inl (cA 0, 3, .inl (fun _ => 0))), (q6, .inl (cA 0, 60, .inl (fun _ => 0)))] H := hP
  have hD : va_D A [(o, .inr (12, [.ref q1, .ref q2, .ref q3, .int 0, .ref q4, .int 0, .int 0, .int 0, .int 0, .int 0, .int 0, .ref q5, .null, .int 0, .null, .null, .null, .int 0, .int 0, .null, .null, .null, .null])), (q1, .inl (cA 0, 326, .inl (fun _ => 0))), (q2, .inl (cA 0, 326, .inl (fun _ => 0))), (q3, .inl (cA 0, 154, .inl (fun _ => 0))), (q4, .inl (cA 0, 6, .inl (fun _ => 0))), (q5, .inl (cA 0, 3, .inl (fun _ => 0))), (q6, .inl (cA 0, 60, .inl (fun _ => 0)))] := hD
  refine va_putF (D := D) (ci := 12) (v := .ref q6) (ty := .array .int) (C := RX12) (T := TX12) (N := 23) hx hb hts in_12 tyX12 tyX12_ok nmX12 hown hK hP hD hS 0 rfl rfl 12 (by decide) w_9 (fun _ h9 => h9) rfl hinit rfl (by decide +kernel) rfl rfl (Nat.le_of_ble_eq_true rfl) dX12_init_51 (fun H locs hP hD hS => ?_)
  have hP : va_P D vwCl [(o, .inr (12, [.ref q1, .ref q2, .ref q3, .int 0, .ref q4, .int 0, .int 0, .int 0, .int 0, .int 0, .int 0, .ref q5, .ref q6, .int 0, .null, .null, .null, .int 0, .int 0, .null, .null, .null, .null])), (q1, .inl (cA 0, 326, .inl (fun _ => 0))), (q2, .inl (cA 0, 326, .inl (fun _ => 0))), (q3, .inl (cA 0, 154, .inl (fun _ => 0))), (q4, .inl (cA 0, 6, .inl (fun _ => 0))), (q5, .inl (cA 0, 3, .inl (fun _ => 0))), (q6, .inl (cA 0, 60, .inl (fun _ => 0)))] H := hP
  have hD : va_D A [(o, .inr (12, [.ref q1, .ref q2, .ref q3, .int 0, .ref q4, .int 0, .int 0, .int 0, .int 0, .int 0, .int 0, .ref q5, .ref q6, .int 0, .null, .null, .null, .int 0, .int 0, .null, .null, .null, .null])), (q1, .inl (cA 0, 326, .inl (fun _ => 0))), (q2, .inl (cA 0, 326, .inl (fun _ => 0))), (q3, .inl (cA 0, 154, .inl (fun _ => 0))), (q4, .inl (cA 0, 6, .inl (fun _ => 0))), (q5, .inl (cA 0, 3, .inl (fun _ => 0))), (q6, .inl (cA 0, 60, .inl (fun _ => 0)))] := hD
  refine lv_aload_n hx hb dX12_init_54 rfl (lv_at hv 0 rfl) ?_
  refine lv_bipush (v := (60 : Int32)) hx hb dX12_init_55 (by decide) ?_
  refine nwI hx hb hA w_3 rfl hK hP hD hS (n := (60 : Int32)) (N' := 60) (by decide) (by decide) (Nat.le_of_ble_eq_true rfl) (Nat.le_of_ble_eq_true rfl) (Nat.le_of_ble_eq_true rfl) dX12_init_57 ?_
  intro q7 H hP hD hS
  have hP : va_P D vwCl [(o, .inr (12, [.ref q1, .ref q2, .ref q3, .int 0, .ref q4, .int 0, .int 0, .int 0, .int 0, .int 0, .int 0, .ref q5, .ref q6, .int 0, .null, .null, .null, .int 0, .int 0, .null, .null, .null, .null])), (q1, .inl (cA 0, 326, .inl (fun _ => 0))), (q2, .inl (cA 0, 326, .inl (fun _ => 0))), (q3, .inl (cA 0, 154, .inl (fun _ => 0))), (q4, .inl (cA 0, 6, .inl (fun _ => 0))), (q5, .inl (cA 0, 3, .inl (fun _ => 0))), (q6, .inl (cA 0, 60, .inl (fun _ => 0))), (q7, .inl (cA 0, 60, .inl (fun _ => 0)))] H := hP
  have hD : va_D A [(o, .inr (12, [.ref q1, .ref q2, .ref q3, .int 0, .ref q4, .int 0, .int 0, .int 0, .int 0, .int 0, .int 0, .ref q5, .ref q6, .int 0, .null, .null, .null, .int 0, .int 0, .null, .null, .null, .null])), (q1, .inl (cA 0, 326, .inl (fun _ => 0))), (q2, .inl (cA 0, 326, .inl (fun _ => 0))), (q3, .inl (cA 0, 154, .inl (fun _ => 0))), (q4, .inl (cA 0, 6, .inl (fun _ => 0))), (q5, .inl (cA 0, 3, .inl (fun _ => 0))), (q6, .inl (cA 0, 60, .inl (fun _ => 0))), (q7, .inl (cA 0, 60, .inl (fun _ => 0)))] := hD
  refine va_putF (D := D) (ci := 12) (v := .ref q7) (ty := .array .int) (C := RX12) (T := TX12) (N := 23) hx hb hts in_12 tyX12 tyX12_ok nmX12 hown hK hP hD hS 0 rfl rfl 14 (by decide) w_10 (fun _ h9 => h9) rfl hinit rfl (by decide +kernel) rfl rfl (Nat.le_of_ble_eq_true rfl) dX12_init_59 (fun H locs hP hD hS => ?_)
  have hP : va_P D vwCl [(o, .inr (12, [.ref q1, .ref q2, .ref q3, .int 0, .ref q4, .int 0, .int 0, .int 0, .int 0, .int 0, .int 0, .ref q5, .ref q6, .int 0, .ref q7, .null, .null, .int 0, .int 0, .null, .null, .null, .null])), (q1, .inl (cA 0, 326, .inl (fun _ => 0))), (q2, .inl (cA 0, 326, .inl (fun _ => 0))), (q3, .inl (cA 0, 154, .inl (fun _ => 0))), (q4, .inl (cA 0, 6, .inl (fun _ => 0))), (q5, .inl (cA 0, 3, .inl (fun _ => 0))), (q6, .inl (cA 0, 60, .inl (fun _ => 0))), (q7, .inl (cA 0, 60, .inl (fun _ => 0)))] H := hP
  have hD : va_D A [(o, .inr (12, [.ref q1, .ref q2, .ref q3, .int 0, .ref q4, .int 0, .int 0, .int 0, .int 0, .int 0, .int 0, .ref q5, .ref q6, .int 0, .ref q7, .null, .null, .int 0, .int 0, .null, .null, .null, .null])), (q1, .inl (cA 0, 326, .inl (fun _ => 0))), (q2, .inl (cA 0, 326, .inl (fun _ => 0))), (q3, .inl (cA 0, 154, .inl (fun _ => 0))), (q4, .inl (cA 0, 6, .inl (fun _ => 0))), (q5, .inl (cA 0, 3, .inl (fun _ => 0))), (q6, .inl (cA 0, 60, .inl (fun _ => 0))), (q7, .inl (cA 0, 60, .inl (fun _ => 0)))] := hD
  refine lv_aload_n hx hb dX12_init_62 rfl (lv_at hv 0 rfl) ?_
  refine lv_sipush (v := (256 : Int32)) hx hb dX12_init_63 (by decide) ?_
  refine nwI hx hb hA w_3 rfl hK hP hD hS (n := (256 : Int32)) (N' := 256) (by decide) (by decide) (Nat.le_of_ble_eq_true rfl) (Nat.le_of_ble_eq_true rfl) (Nat.le_of_ble_eq_true rfl) dX12_init_66 ?_
  intro q8 H hP hD hS
  have hP : va_P D vwCl [(o, .inr (12, [.ref q1, .ref q2, .ref q3, .int 0, .ref q4, .int 0, .int 0, .int 0, .int 0, .int 0, .int 0, .ref q5, .ref q6, .int 0, .ref q7, .null, .null, .int 0, .int 0, .null, .null, .null, .null])), (q1, .inl (cA 0, 326, .inl (fun _ => 0))), (q2, .inl (cA 0, 326, .inl (fun _ => 0))), (q3, .inl (cA 0, 154, .inl (fun _ => 0))), (q4, .inl (cA 0, 6, .inl (fun _ => 0))), (q5, .inl (cA 0, 3, .inl (fun _ => 0))), (q6, .inl (cA 0, 60, .inl (fun _ => 0))), (q7, .inl (cA 0, 60, .inl (fun _ => 0))), (q8, .inl (cA 0, 256, .inl (fun _ => 0)))] H := hP
  have hD : va_D A [(o, .inr (12, [.ref q1, .ref q2, .ref q3, .int 0, .ref q4, .int 0, .int 0, .int 0, .int 0, .int 0, .int 0, .ref q5, .ref q6, .int 0, .ref q7, .null, .null, .int 0, .int 0, .null, .null, .null, .null])), (q1, .inl (cA 0, 326, .inl (fun _ => 0))), (q2, .inl (cA 0, 326, .inl (fun _ => 0))), (q3, .inl (cA 0, 154, .inl (fun _ => 0))), (q4, .inl (cA 0, 6, .inl (fun _ => 0))), (q5, .inl (cA 0, 3, .inl (fun _ => 0))), (q6, .inl (cA 0, 60, .inl (fun _ => 0))), (q7, .inl (cA 0, 60, .inl (fun _ => 0))), (q8, .inl (cA 0, 256, .inl (fun _ => 0)))] := hD
  refine va_putF (D := D) (ci := 12) (v := .ref q8) (ty := .array .int) (C := RX12) (T := TX12) (N := 23) hx hb hts in_12 tyX12 tyX12_ok nmX12 hown hK hP hD hS 0 rfl rfl 15 (by decide) w_11 (fun _ h9 => h9) rfl hinit rfl (by decide +kernel) rfl rfl (Nat.le_of_ble_eq_true rfl) dX12_init_68 (fun H locs hP hD hS => ?_)
  have hP : va_P D vwCl [(o, .inr (12, [.ref q1, .ref q2, .ref q3, .int 0, .ref q4, .int 0, .int 0, .int 0, .int 0, .int 0, .int 0, .ref q5, .ref q6, .int 0, .ref q7, .ref q8, .null, .int 0, .int 0, .null, .null, .null, .null])), (q1, .inl (cA 0, 326, .inl (fun _ => 0))), (q2, .inl (cA 0, 326, .inl (fun _ => 0))), (q3, .inl (cA 0, 154, .inl (fun _ => 0))), (q4, .inl (cA 0, 6, .inl (fun _ => 0))), (q5, .inl (cA 0, 3, .inl (fun _ => 0))), (q6, .inl (cA 0, 60, .inl (fun _ => 0))), (q7, .inl (cA 0, 60, .inl (fun _ => 0))), (q8, .inl (cA 0, 256, .inl (fun _ => 0)))] H := hP
  have hD : va_D A [(o, .inr (12, [.ref q1, .ref q2, .ref q3, .int 0, .ref q4, .int 0, .int 0, .int 0, .int 0, .int 0, .int 0, .ref q5, .ref q6, .int 0, .ref q7, .ref q8, .null, .int 0, .int 0, .null, .null, .null, .null])), (q1, .inl (cA 0, 326, .inl (fun _ => 0))), (q2, .inl (cA 0, 326, .inl (fun _ => 0))), (q3, .inl (cA 0, 154, .inl (fun _ => 0))), (q4, .inl (cA 0, 6, .inl (fun _ => 0))), (q5, .inl (cA 0, 3, .inl (fun _ => 0))), (q6, .inl (cA 0, 60, .inl (fun _ => 0))), (q7, .inl (cA 0, 60, .inl (fun _ => 0))), (q8, .inl (cA 0, 256, .inl (fun _ => 0)))] := hD
  refine lv_aload_n hx hb dX12_init_71 rfl (lv_at hv 0 rfl) ?_
  refine lv_bipush (v := (40 : Int32)) hx hb dX12_init_72 (by decide) ?_
  refine nwI hx hb hA w_3 rfl hK hP hD hS (n := (40 : Int32)) (N' := 40) (by decide) (by decide) (Nat.le_of_ble_eq_true rfl) (Nat.le_of_ble_eq_true rfl) (Nat.le_of_ble_eq_true rfl) dX12_init_74 ?_
  intro q9 H hP hD hS
  have hP : va_P D vwCl [(o, .inr (12, [.ref q1, .ref q2, .ref q3, .int 0, .ref q4, .int 0, .int 0, .int 0, .int 0, .int 0, .int 0, .ref q5, .ref q6, .int 0, .ref q7, .ref q8, .null, .int 0, .int 0, .null, .null, .null, .null])), (q1, .inl (cA 0, 326, .inl (fun _ => 0))), (q2, .inl (cA 0, 326, .inl (fun _ => 0))), (q3, .inl (cA 0, 154, .inl (fun _ => 0))), (q4, .inl (cA 0, 6, .inl (fun _ => 0))), (q5, .inl (cA 0, 3, .inl (fun _ => 0))), (q6, .inl (cA 0, 60, .inl (fun _ => 0))), (q7, .inl (cA 0, 60, .inl (fun _ => 0))), (q8, .inl (cA 0, 256, .inl (fun _ => 0))), (q9, .inl (cA 0, 40, .inl (fun _ => 0)))] H := hP
  have hD : va_D A [(o, .inr (12, [.ref q1, .ref q2, .ref q3, .int 0, .ref q4, .int 0, .int 0, .int 0, .int 0, .int 0, .int 0, .ref q5, .ref q6, .int 0, .ref q7, .ref q8, .null, .int 0, .int 0, .null, .null, .null, .null])), (q1, .inl (cA 0, 326, .inl (fun _ => 0))), (q2, .inl (cA 0, 326, .inl (fun _ => 0))), (q3, .inl (cA 0, 154, .inl (fun _ => 0))), (q4, .inl (cA 0, 6, .inl (fun _ => 0))), (q5, .inl (cA 0, 3, .inl (fun _ => 0))), (q6, .inl (cA 0, 60, .inl (fun _ => 0))), (q7, .inl (cA 0, 60, .inl (fun _ => 0))), (q8, .inl (cA 0, 256, .inl (fun _ => 0))), (q9, .inl (cA 0, 40, .inl (fun _ => 0)))] := hD
  refine va_putF (D := D) (ci := 12) (v := .ref q9) (ty := .array .int) (C := RX12) (T := TX12) (N := 23) hx hb hts in_12 tyX12 tyX12_ok nmX12 hown hK hP hD hS 0 rfl rfl 16 (by decide) w_12 (fun _ h9 => h9) rfl hinit rfl (by decide +kernel) rfl rfl (Nat.le_of_ble_eq_true rfl) dX12_init_76 (fun H locs hP hD hS => ?_)
  have hP : va_P D vwCl [(o, .inr (12, [.ref q1, .ref q2, .ref q3, .int 0, .ref q4, .int 0, .int 0, .int 0, .int 0, .int 0, .int 0, .ref q5, .ref q6, .int 0, .ref q7, .ref q8, .ref q9, .int 0, .int 0, .null, .null, .null, .null])), (q1, .inl (cA 0, 326, .inl (fun _ => 0))), (q2, .inl (cA 0, 326, .inl (fun _ => 0))), (q3, .inl (cA 0, 154, .inl (fun _ => 0))), (q4, .inl (cA 0, 6, .inl (fun _ => 0))), (q5, .inl (cA 0, 3, .inl (fun _ => 0))), (q6, .inl (cA 0, 60, .inl (fun _ => 0))), (q7, .inl (cA 0, 60, .inl (fun _ => 0))), (q8, .inl (cA 0, 256, .inl (fun _ => 0))), (q9, .inl (cA 0, 40, .inl (fun _ => 0)))] H := hP
  have hD : va_D A [(o, .inr (12, [.ref q1, .ref q2, .ref q3, .int 0, .ref q4, .int 0, .int 0, .int 0, .int 0, .int 0, .int 0, .ref q5, .ref q6, .int 0, .ref q7, .ref q8, .ref q9, .int 0, .int 0, .null, .null, .null, .null])), (q1, .inl (cA 0, 326, .inl (fun _ => 0))), (q2, .inl (cA 0, 326, .inl (fun _ => 0))), (q3, .inl (cA 0, 154, .inl (fun _ => 0))), (q4, .inl (cA 0, 6, .inl (fun _ => 0))), (q5, .inl (cA 0, 3, .inl (fun _ => 0))), (q6, .inl (cA 0, 60, .inl (fun _ => 0))), (q7, .inl (cA 0, 60, .inl (fun _ => 0))), (q8, .inl (cA 0, 256, .inl (fun _ => 0))), (q9, .inl (cA 0, 40, .inl (fun _ => 0)))] := hD
  refine lv_aload_n hx hb dX12_init_79 rfl (lv_at hv 0 rfl) ?_
  refine lv_iconst (v := (4 : Int32)) hx hb dX12_init_80 (by decide) ?_
  refine nwI hx hb hA w_3 rfl hK hP hD hS (n := (4 : Int32)) (N' := 4) (by decide) (by decide) (Nat.le_of_ble_eq_true rfl) (Nat.le_of_ble_eq_true rfl) (Nat.le_of_ble_eq_true rfl) dX12_init_81 ?_
  intro q10 H hP hD hS
  have hP : va_P D vwCl [(o, .inr (12, [.ref q1, .ref q2, .ref q3, .int 0, .ref q4, .int 0, .int 0, .int 0, .int 0, .int 0, .int 0, .ref q5, .ref q6, .int 0, .ref q7, .ref q8, .ref q9, .int 0, .int 0, .null, .null, .null, .null])), (q1, .inl (cA 0, 326, .inl (fun _ => 0))), (q2, .inl (cA 0, 326, .inl (fun _ => 0))), (q3, .inl (cA 0, 154, .inl (fun _ => 0))), (q4, .inl (cA 0, 6, .inl (fun _ => 0))), (q5, .inl (cA 0, 3, .inl (fun _ => 0))), (q6, .inl (cA 0, 60, .inl (fun _ => 0))), (q7, .inl (cA 0, 60, .inl (fun _ => 0))), (q8, .inl (cA 0, 256, .inl (fun _ => 0))), (q9, .inl (cA 0, 40, .inl (fun _ => 0))), (q10, .inl (cA 0, 4, .inl (fun _ => 0)))] H := hP
  have hD : va_D A [(o, .inr (12, [.ref q1, .ref q2, .ref q3, .int 0, .ref q4, .int 0, .int 0, .int 0, .int 0, .int 0, .int 0, .ref q5, .ref q6, .int 0, .ref q7, .ref q8, .ref q9, .int 0, .int 0, .null, .null, .null, .null])), (q1, .inl (cA 0, 326, .inl (fun _ => 0))), (q2, .inl (cA 0, 326, .inl (fun _ => 0))), (q3, .inl (cA 0, 154, .inl (fun _ => 0))), (q4, .inl (cA 0, 6, .inl (fun _ => 0))), (q5, .inl (cA 0, 3, .inl (fun _ => 0))), (q6, .inl (cA 0, 60, .inl (fun _ => 0))), (q7, .inl (cA 0, 60, .inl (fun _ => 0))), (q8, .inl (cA 0, 256, .inl (fun _ => 0))), (q9, .inl (cA 0, 40, .inl (fun _ => 0))), (q10, .inl (cA 0, 4, .inl (fun _ => 0)))] := hD
  refine va_putF (D := D) (ci := 12) (v := .ref q10) (ty := .array .int) (C := RX12) (T := TX12) (N := 23) hx hb hts in_12 tyX12 tyX12_ok nmX12 hown hK hP hD hS 0 rfl rfl 19 (by decide) w_13 (fun _ h9 => h9) rfl hinit rfl (by decide +kernel) rfl rfl (Nat.le_of_ble_eq_true rfl) dX12_init_83 (fun H locs hP hD hS => ?_)
  have hP : va_P D vwCl [(o, .inr (12, [.ref q1, .ref q2, .ref q3, .int 0, .ref q4, .int 0, .int 0, .int 0, .int 0, .int 0, .int 0, .ref q5, .ref q6, .int 0, .ref q7, .ref q8, .ref q9, .int 0, .int 0, .ref q10, .null, .null, .null])), (q1, .inl (cA 0, 326, .inl (fun _ => 0))), (q2, .inl (cA 0, 326, .inl (fun _ => 0))), (q3, .inl (cA 0, 154, .inl (fun _ => 0))), (q4, .inl (cA 0, 6, .inl (fun _ => 0))), (q5, .inl (cA 0, 3, .inl (fun _ => 0))), (q6, .inl (cA 0, 60, .inl (fun _ => 0))), (q7, .inl (cA 0, 60, .inl (fun _ => 0))), (q8, .inl (cA 0, 256, .inl (fun _ => 0))), (q9, .inl (cA 0, 40, .inl (fun _ => 0))), (q10, .inl (cA 0, 4, .inl (fun _ => 0)))] H := hP
  have hD : va_D A [(o, .inr (12, [.ref q1, .ref q2, .ref q3, .int 0, .ref q4, .int 0, .int 0, .int 0, .int 0, .int 0, .int 0, .ref q5, .ref q6, .int 0, .ref q7, .ref q8, .ref q9, .int 0, .int 0, .ref q10, .null, .null, .null])), (q1, .inl (cA 0, 326, .inl (fun _ => 0))), (q2, .inl (cA 0, 326, .inl (fun _ => 0))), (q3, .inl (cA 0, 154, .inl (fun _ => 0))), (q4, .inl (cA 0, 6, .inl (fun _ => 0))), (q5, .inl (cA 0, 3, .inl (fun _ => 0))), (q6, .inl (cA 0, 60, .inl (fun _ => 0))), (q7, .inl (cA 0, 60, .inl (fun _ => 0))), (q8, .inl (cA 0, 256, .inl (fun _ => 0))), (q9, .inl (cA 0, 40, .inl (fun _ => 0))), (q10, .inl (cA 0, 4, .inl (fun _ => 0)))] := hD
  refine lv_aload_n hx hb dX12_init_86 rfl (lv_at hv 0 rfl) ?_
  refine lv_iconst (v := (4 : Int32)) hx hb dX12_init_87 (by decide) ?_
  refine nwI hx hb hA w_3 rfl hK hP hD hS (n := (4 : Int32)) (N' := 4) (by decide) (by decide) (Nat.le_of_ble_eq_true rfl) (Nat.le_of_ble_eq_true rfl) (Nat.le_of_ble_eq_true rfl) dX12_init_88 ?_
  intro q11 H hP hD hS
  have hP : va_P D vwCl [(o, .inr (12, [.ref q1, .ref q2, .ref q3, .int 0, .ref q4, .int 0, .int 0, .int 0, .int 0, .int 0, .int 0, .ref q5, .ref q6, .int 0, .ref q7, .ref q8, .ref q9, .int 0, .int 0, .ref q10, .null, .null, .null])), (q1, .inl (cA 0, 326, .inl (fun _ => 0))), (q2, .inl (cA 0, 326, .inl (fun _ => 0))), (q3, .inl (cA 0, 154, .inl (fun _ => 0))), (q4, .inl (cA 0, 6, .inl (fun _ => 0))), (q5, .inl (cA 0, 3, .inl (fun _ => 0))), (q6, .inl (cA 0, 60, .inl (fun _ => 0))), (q7, .inl (cA 0, 60, .inl (fun _ => 0))), (q8, .inl (cA 0, 256, .inl (fun _ => 0))), (q9, .inl (cA 0, 40, .inl (fun _ => 0))), (q10, .inl (cA 0, 4, .inl (fun _ => 0))), (q11, .inl (cA 0, 4, .inl (fun _ => 0)))] H := hP
  have hD : va_D A [(o, .inr (12, [.ref q1, .ref q2, .ref q3, .int 0, .ref q4, .int 0, .int 0, .int 0, .int 0, .int 0, .int 0, .ref q5, .ref q6, .int 0, .ref q7, .ref q8, .ref q9, .int 0, .int 0, .ref q10, .null, .null, .null])), (q1, .inl (cA 0, 326, .inl (fun _ => 0))), (q2, .inl (cA 0, 326, .inl (fun _ => 0))), (q3, .inl (cA 0, 154, .inl (fun _ => 0))), (q4, .inl (cA 0, 6, .inl (fun _ => 0))), (q5, .inl (cA 0, 3, .inl (fun _ => 0))), (q6, .inl (cA 0, 60, .inl (fun _ => 0))), (q7, .inl (cA 0, 60, .inl (fun _ => 0))), (q8, .inl (cA 0, 256, .inl (fun _ => 0))), (q9, .inl (cA 0, 40, .inl (fun _ => 0))), (q10, .inl (cA 0, 4, .inl (fun _ => 0))), (q11, .inl (cA 0, 4, .inl (fun _ => 0)))] := hD
  refine va_putF (D := D) (ci := 12) (v := .ref q11) (ty := .array .int) (C := RX12) (T := TX12) (N := 23) hx hb hts in_12 tyX12 tyX12_ok nmX12 hown hK hP hD hS 0 rfl rfl 20 (by decide) w_14 (fun _ h9 => h9) rfl hinit rfl (by decide +kernel) rfl rfl (Nat.le_of_ble_eq_true rfl) dX12_init_90 (fun H locs hP hD hS => ?_)
  have hP : va_P D vwCl [(o, .inr (12, [.ref q1, .ref q2, .ref q3, .int 0, .ref q4, .int 0, .int 0, .int 0, .int 0, .int 0, .int 0, .ref q5, .ref q6, .int 0, .ref q7, .ref q8, .ref q9, .int 0, .int 0, .ref q10, .ref q11, .null, .null])), (q1, .inl (cA 0, 326, .inl (fun _ => 0))), (q2, .inl (cA 0, 326, .inl (fun _ => 0))), (q3, .inl (cA 0, 154, .inl (fun _ => 0))), (q4, .inl (cA 0, 6, .inl (fun _ => 0))), (q5, .inl (cA 0, 3, .inl (fun _ => 0))), (q6, .inl (cA 0, 60, .inl (fun _ => 0))), (q7, .inl (cA 0, 60, .inl (fun _ => 0))), (q8, .inl (cA 0, 256, .inl (fun _ => 0))), (q9, .inl (cA 0, 40, .inl (fun _ => 0))), (q10, .inl (cA 0, 4, .inl (fun _ => 0))), (q11, .inl (cA 0, 4, .inl (fun _ => 0)))] H := hP
  have hD : va_D A [(o, .inr (12, [.ref q1, .ref q2, .ref q3, .int 0, .ref q4, .int 0, .int 0, .int 0, .int 0, .int 0, .int 0, .ref q5, .ref q6, .int 0, .ref q7, .ref q8, .ref q9, .int 0, .int 0, .ref q10, .ref q11, .null, .null])), (q1, .inl (cA 0, 326, .inl (fun _ => 0))), (q2, .inl (cA 0, 326, .inl (fun _ => 0))), (q3, .inl (cA 0, 154, .inl (fun _ => 0))), (q4, .inl (cA 0, 6, .inl (fun _ => 0))), (q5, .inl (cA 0, 3, .inl (fun _ => 0))), (q6, .inl (cA 0, 60, .inl (fun _ => 0))), (q7, .inl (cA 0, 60, .inl (fun _ => 0))), (q8, .inl (cA 0, 256, .inl (fun _ => 0))), (q9, .inl (cA 0, 40, .inl (fun _ => 0))), (q10, .inl (cA 0, 4, .inl (fun _ => 0))), (q11, .inl (cA 0, 4, .inl (fun _ => 0)))] := hD
  refine lv_aload_n hx hb dX12_init_93 rfl (lv_at hv 0 rfl) ?_
  refine lv_sipush (v := (160 : Int32)) hx hb dX12_init_94 (by decide) ?_
  refine nwI hx hb hA w_3 rfl hK hP hD hS (n := (160 : Int32)) (N' := 160) (by decide) (by decide) (Nat.le_of_ble_eq_true rfl) (Nat.le_of_ble_eq_true rfl) (Nat.le_of_ble_eq_true rfl) dX12_init_97 ?_
  intro q12 H hP hD hS
  have hP : va_P D vwCl [(o, .inr (12, [.ref q1, .ref q2, .ref q3, .int 0, .ref q4, .int 0, .int 0, .int 0, .int 0, .int 0, .int 0, .ref q5, .ref q6, .int 0, .ref q7, .ref q8, .ref q9, .int 0, .int 0, .ref q10, .ref q11, .null, .null])), (q1, .inl (cA 0, 326, .inl (fun _ => 0))), (q2, .inl (cA 0, 326, .inl (fun _ => 0))), (q3, .inl (cA 0, 154, .inl (fun _ => 0))), (q4, .inl (cA 0, 6, .inl (fun _ => 0))), (q5, .inl (cA 0, 3, .inl (fun _ => 0))), (q6, .inl (cA 0, 60, .inl (fun _ => 0))), (q7, .inl (cA 0, 60, .inl (fun _ => 0))), (q8, .inl (cA 0, 256, .inl (fun _ => 0))), (q9, .inl (cA 0, 40, .inl (fun _ => 0))), (q10, .inl (cA 0, 4, .inl (fun _ => 0))), (q11, .inl (cA 0, 4, .inl (fun _ => 0))), (q12, .inl (cA 0, 160, .inl (fun _ => 0)))] H := hP
  have hD : va_D A [(o, .inr (12, [.ref q1, .ref q2, .ref q3, .int 0, .ref q4, .int 0, .int 0, .int 0, .int 0, .int 0, .int 0, .ref q5, .ref q6, .int 0, .ref q7, .ref q8, .ref q9, .int 0, .int 0, .ref q10, .ref q11, .null, .null])), (q1, .inl (cA 0, 326, .inl (fun _ => 0))), (q2, .inl (cA 0, 326, .inl (fun _ => 0))), (q3, .inl (cA 0, 154, .inl (fun _ => 0))), (q4, .inl (cA 0, 6, .inl (fun _ => 0))), (q5, .inl (cA 0, 3, .inl (fun _ => 0))), (q6, .inl (cA 0, 60, .inl (fun _ => 0))), (q7, .inl (cA 0, 60, .inl (fun _ => 0))), (q8, .inl (cA 0, 256, .inl (fun _ => 0))), (q9, .inl (cA 0, 40, .inl (fun _ => 0))), (q10, .inl (cA 0, 4, .inl (fun _ => 0))), (q11, .inl (cA 0, 4, .inl (fun _ => 0))), (q12, .inl (cA 0, 160, .inl (fun _ => 0)))] := hD
  refine va_putF (D := D) (ci := 12) (v := .ref q12) (ty := .array .int) (C := RX12) (T := TX12) (N := 23) hx hb hts in_12 tyX12 tyX12_ok nmX12 hown hK hP hD hS 0 rfl rfl 21 (by decide) w_15 (fun _ h9 => h9) rfl hinit rfl (by decide +kernel) rfl rfl (Nat.le_of_ble_eq_true rfl) dX12_init_99 (fun H locs hP hD hS => ?_)
  have hP : va_P D vwCl [(o, .inr (12, [.ref q1, .ref q2, .ref q3, .int 0, .ref q4, .int 0, .int 0, .int 0, .int 0, .int 0, .int 0, .ref q5, .ref q6, .int 0, .ref q7, .ref q8, .ref q9, .int 0, .int 0, .ref q10, .ref q11, .ref q12, .null])), (q1, .inl (cA 0, 326, .inl (fun _ => 0))), (q2, .inl (cA 0, 326, .inl (fun _ => 0))), (q3, .inl (cA 0, 154, .inl (fun _ => 0))), (q4, .inl (cA 0, 6, .inl (fun _ => 0))), (q5, .inl (cA 0, 3, .inl (fun _ => 0))), (q6, .inl (cA 0, 60, .inl (fun _ => 0))), (q7, .inl (cA 0, 60, .inl (fun _ => 0))), (q8, .inl (cA 0, 256, .inl (fun _ => 0))), (q9, .inl (cA 0, 40, .inl (fun _ => 0))), (q10, .inl (cA 0, 4, .inl (fun _ => 0))), (q11, .inl (cA 0, 4, .inl (fun _ => 0))), (q12, .inl (cA 0, 160, .inl (fun _ => 0)))] H := hP
  have hD : va_D A [(o, .inr (12, [.ref q1, .ref q2, .ref q3, .int 0, .ref q4, .int 0, .int 0, .int 0, .int 0, .int 0, .int 0, .ref q5, .ref q6, .int 0, .ref q7, .ref q8, .ref q9, .int 0, .int 0, .ref q10, .ref q11, .ref q12, .null])), (q1, .inl (cA 0, 326, .inl (fun _ => 0))), (q2, .inl (cA 0, 326, .inl (fun _ => 0))), (q3, .inl (cA 0, 154, .inl (fun _ => 0))), (q4, .inl (cA 0, 6, .inl (fun _ => 0))), (q5, .inl (cA 0, 3, .inl (fun _ => 0))), (q6, .inl (cA 0, 60, .inl (fun _ => 0))), (q7, .inl (cA 0, 60, .inl (fun _ => 0))), (q8, .inl (cA 0, 256, .inl (fun _ => 0))), (q9, .inl (cA 0, 40, .inl (fun _ => 0))), (q10, .inl (cA 0, 4, .inl (fun _ => 0))), (q11, .inl (cA 0, 4, .inl (fun _ => 0))), (q12, .inl (cA 0, 160, .inl (fun _ => 0)))] := hD
  refine lv_aload_n hx hb dX12_init_102 rfl (lv_at hv 0 rfl) ?_
  refine lv_bipush (v := (40 : Int32)) hx hb dX12_init_103 (by decide) ?_
  refine nwI hx hb hA w_3 rfl hK hP hD hS (n := (40 : Int32)) (N' := 40) (by decide) (by decide) (Nat.le_of_ble_eq_true rfl) (Nat.le_of_ble_eq_true rfl) (Nat.le_of_ble_eq_true rfl) dX12_init_105 ?_
  intro q13 H hP hD hS
  have hP : va_P D vwCl [(o, .inr (12, [.ref q1, .ref q2, .ref q3, .int 0, .ref q4, .int 0, .int 0, .int 0, .int 0, .int 0, .int 0, .ref q5, .ref q6, .int 0, .ref q7, .ref q8, .ref q9, .int 0, .int 0, .ref q10, .ref q11, .ref q12, .null])), (q1, .inl (cA 0, 326, .inl (fun _ => 0))), (q2, .inl (cA 0, 326, .inl (fun _ => 0))), (q3, .inl (cA 0, 154, .inl (fun _ => 0))), (q4, .inl (cA 0, 6, .inl (fun _ => 0))), (q5, .inl (cA 0, 3, .inl (fun _ => 0))), (q6, .inl (cA 0, 60, .inl (fun _ => 0))), (q7, .inl (cA 0, 60, .inl (fun _ => 0))), (q8, .inl (cA 0, 256, .inl (fun _ => 0))), (q9, .inl (cA 0, 40, .inl (fun _ => 0))), (q10, .inl (cA 0, 4, .inl (fun _ => 0))), (q11, .inl (cA 0, 4, .inl (fun _ => 0))), (q12, .inl (cA 0, 160, .inl (fun _ => 0))), (q13, .inl (cA 0, 40, .inl (fun _ => 0)))] H := hP
  have hD : va_D A [(o, .inr (12, [.ref q1, .ref q2, .ref q3, .int 0, .ref q4, .int 0, .int 0, .int 0, .int 0, .int 0, .int 0, .ref q5, .ref q6, .int 0, .ref q7, .ref q8, .ref q9, .int 0, .int 0, .ref q10, .ref q11, .ref q12, .null])), (q1, .inl (cA 0, 326, .inl (fun _ => 0))), (q2, .inl (cA 0, 326, .inl (fun _ => 0))), (q3, .inl (cA 0, 154, .inl (fun _ => 0))), (q4, .inl (cA 0, 6, .inl (fun _ => 0))), (q5, .inl (cA 0, 3, .inl (fun _ => 0))), (q6, .inl (cA 0, 60, .inl (fun _ => 0))), (q7, .inl (cA 0, 60, .inl (fun _ => 0))), (q8, .inl (cA 0, 256, .inl (fun _ => 0))), (q9, .inl (cA 0, 40, .inl (fun _ => 0))), (q10, .inl (cA 0, 4, .inl (fun _ => 0))), (q11, .inl (cA 0, 4, .inl (fun _ => 0))), (q12, .inl (cA 0, 160, .inl (fun _ => 0))), (q13, .inl (cA 0, 40, .inl (fun _ => 0)))] := hD
  refine va_putF (D := D) (ci := 12) (v := .ref q13) (ty := .array .int) (C := RX12) (T := TX12) (N := 23) hx hb hts in_12 tyX12 tyX12_ok nmX12 hown hK hP hD hS 0 rfl rfl 22 (by decide) w_16 (fun _ h9 => h9) rfl hinit rfl (by decide +kernel) rfl rfl (Nat.le_of_ble_eq_true rfl) dX12_init_107 (fun H locs hP hD hS => ?_)
  have hP : va_P D vwCl [(o, .inr (12, [.ref q1, .ref q2, .ref q3, .int 0, .ref q4, .int 0, .int 0, .int 0, .int 0, .int 0, .int 0, .ref q5, .ref q6, .int 0, .ref q7, .ref q8, .ref q9, .int 0, .int 0, .ref q10, .ref q11, .ref q12, .ref q13])), (q1, .inl (cA 0, 326, .inl (fun _ => 0))), (q2, .inl (cA 0, 326, .inl (fun _ => 0))), (q3, .inl (cA 0, 154, .inl (fun _ => 0))), (q4, .inl (cA 0, 6, .inl (fun _ => 0))), (q5, .inl (cA 0, 3, .inl (fun _ => 0))), (q6, .inl (cA 0, 60, .inl (fun _ => 0))), (q7, .inl (cA 0, 60, .inl (fun _ => 0))), (q8, .inl (cA 0, 256, .inl (fun _ => 0))), (q9, .inl (cA 0, 40, .inl (fun _ => 0))), (q10, .inl (cA 0, 4, .inl (fun _ => 0))), (q11, .inl (cA 0, 4, .inl (fun _ => 0))), (q12, .inl (cA 0, 160, .inl (fun _ => 0))), (q13, .inl (cA 0, 40, .inl (fun _ => 0)))] H := hP
  have hD : va_D A [(o, .inr (12, [.ref q1, .ref q2, .ref q3, .int 0, .ref q4, .int 0, .int 0, .int 0, .int 0, .int 0, .int 0, .ref q5, .ref q6, .int 0, .ref q7, .ref q8, .ref q9, .int 0, .int 0, .ref q10, .ref q11, .ref q12, .ref q13])), (q1, .inl (cA 0, 326, .inl (fun _ => 0))), (q2, .inl (cA 0, 326, .inl (fun _ => 0))), (q3, .inl (cA 0, 154, .inl (fun _ => 0))), (q4, .inl (cA 0, 6, .inl (fun _ => 0))), (q5, .inl (cA 0, 3, .inl (fun _ => 0))), (q6, .inl (cA 0, 60, .inl (fun _ => 0))), (q7, .inl (cA 0, 60, .inl (fun _ => 0))), (q8, .inl (cA 0, 256, .inl (fun _ => 0))), (q9, .inl (cA 0, 40, .inl (fun _ => 0))), (q10, .inl (cA 0, 4, .inl (fun _ => 0))), (q11, .inl (cA 0, 4, .inl (fun _ => 0))), (q12, .inl (cA 0, 160, .inl (fun _ => 0))), (q13, .inl (cA 0, 40, .inl (fun _ => 0)))] := hD
  obtain ⟨ad, ead⟩ : ∃ ad : Nat → Nat, ad = fun k => [o, q1, q2, q3, 0, q4, 0, 0, 0, 0, 0, 0, q5, q6, 0, q7, q8, q9, 0, 0, q10, q11, q12, q13].getD k 0 := ⟨_, rfl⟩
  have hP : va_P D vwCl (wM cA ad (fun _ => (0 : Int32)) (fun _ => (0 : Int32)) (fun _ => (0 : Int32)) (0 : Int32) (fun _ => (0 : Int32)) (0 : Int32) (0 : Int32) (0 : Int32) (0 : Int32) (0 : Int32) (0 : Int32) (fun _ => (0 : Int32)) (fun _ => (0 : Int32)) (0 : Int32) (fun _ => (0 : Int32)) (fun _ => (0 : Int32)) (fun _ => (0 : Int32)) (0 : Int32) (0 : Int32) (fun _ => (0 : Int32)) (fun _ => (0 : Int32)) (fun _ => (0 : Int32)) (fun _ => (0 : Int32))) H := by rw [ead]; exact hP
  have hD : va_D A (wM cA ad (fun _ => (0 : Int32)) (fun _ => (0 : Int32)) (fun _ => (0 : Int32)) (0 : Int32) (fun _ => (0 : Int32)) (0 : Int32) (0 : Int32) (0 : Int32) (0 : Int32) (0 : Int32) (0 : Int32) (fun _ => (0 : Int32)) (fun _ => (0 : Int32)) (0 : Int32) (fun _ => (0 : Int32)) (fun _ => (0 : Int32)) (fun _ => (0 : Int32)) (0 : Int32) (0 : Int32) (fun _ => (0 : Int32)) (fun _ => (0 : Int32)) (fun _ => (0 : Int32)) (fun _ => (0 : Int32))) := by rw [ead]; exact hD
  have hv : lv_has ls 2 [(0, .ref (ad 0))] := by rw [ead]; exact hv
  have hw0 : ad 0 = o := by rw [ead]; rfl
  have C_170 : ∀ (v1_170 : Int32) (d_170 : Nat → Int32), fX12_init_170 v1_170 d_170 = some dR → WW p l e ({ frames := 1, cells := 13, slots := 1439, locals := 12 } : Room) s m args below meth c D A 13 1439 Q (wM cA ad d_170 (fun _ => (0 : Int32)) (fun _ => (0 : Int32)) (0 : Int32) (fun _ => (0 : Int32)) (0 : Int32) (0 : Int32) (0 : Int32) (0 : Int32) (0 : Int32) (0 : Int32) (fun _ => (0 : Int32)) (fun _ => (0 : Int32)) (0 : Int32) (fun _ => (0 : Int32)) (fun _ => (0 : Int32)) (fun _ => (0 : Int32)) (0 : Int32) (0 : Int32) (fun _ => (0 : Int32)) (fun _ => (0 : Int32)) (fun _ => (0 : Int32)) (fun _ => (0 : Int32))) 2 [(0, .ref (ad 0)), (1, .int v1_170)] 170 [] := by
    intro v1_170 d_170 h
    unfold fX12_init_170 at h
    obtain ⟨⟨v1_170r, d_170r⟩, ho, h⟩ := bd_ex h
    have LE : WW p l e ({ frames := 1, cells := 13, slots := 1439, locals := 12 } : Room) s m args below meth c D A 13 1439 Q (wM cA ad d_170r (fun _ => (0 : Int32)) (fun _ => (0 : Int32)) (0 : Int32) (fun _ => (0 : Int32)) (0 : Int32) (0 : Int32) (0 : Int32) (0 : Int32) (0 : Int32) (0 : Int32) (fun _ => (0 : Int32)) (fun _ => (0 : Int32)) (0 : Int32) (fun _ => (0 : Int32)) (fun _ => (0 : Int32)) (fun _ => (0 : Int32)) (0 : Int32) (0 : Int32) (fun _ => (0 : Int32)) (fun _ => (0 : Int32)) (fun _ => (0 : Int32)) (fun _ => (0 : Int32))) 2 [] 191 [] := by
      intro H locs ls hP hD hS hv
      have h := Option.some.inj h
      have ee0 : d_170r = dR := congrArg (fun q => q) h
      subst ee0
      rw [← hQ]
      exact retX ⟨ad, hw0, rfl⟩ hx hb hr hlk hK hP hD hS dX12_init_191 ⟨Nat.le_of_ble_eq_true rfl, Nat.le_of_ble_eq_true rfl⟩
    have LB : ∀ (nf : Nat) (v1_170b : Int32) (d_170b : Nat → Int32), lp (fun σ : Int32 × (Nat → Int32) => fX12_init_170B (σ.1) (σ.2)) nf (v1_170b, d_170b) = some (v1_170r, d_170r) → WW p l e ({ frames := 1, cells := 13, slots := 1439, locals := 12 } : Room) s m args below meth c D A 13 1439 Q (wM cA ad d_170b (fun _ => (0 : Int32)) (fun _ => (0 : Int32)) (0 : Int32) (fun _ => (0 : Int32)) (0 : Int32) (0 : Int32) (0 : Int32) (0 : Int32) (0 : Int32) (0 : Int32) (fun _ => (0 : Int32)) (fun _ => (0 : Int32)) (0 : Int32) (fun _ => (0 : Int32)) (fun _ => (0 : Int32)) (fun _ => (0 : Int32)) (0 : Int32) (0 : Int32) (fun _ => (0 : Int32)) (fun _ => (0 : Int32)) (fun _ => (0 : Int32)) (fun _ => (0 : Int32))) 2 [(0, .ref (ad 0)), (1, .int v1_170b)] 170 [] := by
      intro nf
      induction nf with
      | zero => intro v1_170b d_170b hl; cases hl
      | succ nf ih =>
        intro v1_170b d_170b hl
        obtain ⟨x, h, hl⟩ := lp_ex hl
        have h : fX12_init_170B v1_170b d_170b = some x := h
        unfold fX12_init_170B at h
        intro H locs ls hP hD hS hv
        refine lv_iload_n hx hb dX12_init_170 rfl (lv_at hv 1 rfl) ?_
        refine lv_iconst (v := (4 : Int32)) hx hb dX12_init_171 (by decide) ?_
        refine lv_icmp_ge (tgt := 191) hx hb dX12_init_172 (by decide) (fun c_3 => ?_) (fun c_3 => ?_)
        · have h := ite_t c_3 h
          cases h
          have hl : some (v1_170b, d_170b) = some (v1_170r, d_170r) := hl
          have hl := Option.some.inj hl
          have ee0 : v1_170b = v1_170r := congrArg (fun q => q.1) hl
          have ee1 : d_170b = d_170r := congrArg (fun q => q.2) hl
          subst ee0
          subst ee1
          exact LE _ _ _ hP hD hS (lv_sub hv [] rfl)
        · have h := ite_f c_3 h
          refine lv_aload_n hx hb dX12_init_175 rfl (lv_at hv 0 rfl) ?_
          refine va_get (D := D) (ci := 12) (v := .ref (ad 1)) (C := RX12) (T := TX12) (N := 23) hx hb hts in_12 hown hK hP 0 rfl rfl 0 (by decide) w_4 (fun _ h9 => h9) rfl dX12_init_176 ?_
          refine lv_bipush (v := (30 : Int32)) hx hb dX12_init_179 (by decide) ?_
          refine lv_iload_n hx hb dX12_init_181 rfl (lv_at hv 1 rfl) ?_
          refine lv_iadd hx hb dX12_init_182 ?_
          refine lv_iconst (v := (-1 : Int32)) hx hb dX12_init_183 (by decide) ?_
          obtain ⟨c_4, h⟩ := ckI_ex h
          obtain ⟨d_5, ed_5, h⟩ := bnd_ex h
          refine va_iast (D := D) hx hb hK hP hD hS 1 0 rfl rfl c_4 dX12_init_184 (fun H locs hP hD hS => ?_)
          rw [← ed_5] at hP hD
          have hP : va_P D vwCl (wM cA ad d_5 (fun _ => (0 : Int32)) (fun _ => (0 : Int32)) (0 : Int32) (fun _ => (0 : Int32)) (0 : Int32) (0 : Int32) (0 : Int32) (0 : Int32) (0 : Int32) (0 : Int32) (fun _ => (0 : Int32)) (fun _ => (0 : Int32)) (0 : Int32) (fun _ => (0 : Int32)) (fun _ => (0 : Int32)) (fun _ => (0 : Int32)) (0 : Int32) (0 : Int32) (fun _ => (0 : Int32)) (fun _ => (0 : Int32)) (fun _ => (0 : Int32)) (fun _ => (0 : Int32))) H := hP
          have hD : va_D A (wM cA ad d_5 (fun _ => (0 : Int32)) (fun _ => (0 : Int32)) (0 : Int32) (fun _ => (0 : Int32)) (0 : Int32) (0 : Int32) (0 : Int32) (0 : Int32) (0 : Int32) (0 : Int32) (fun _ => (0 : Int32)) (fun _ => (0 : Int32)) (0 : Int32) (fun _ => (0 : Int32)) (fun _ => (0 : Int32)) (fun _ => (0 : Int32)) (0 : Int32) (0 : Int32) (fun _ => (0 : Int32)) (fun _ => (0 : Int32)) (fun _ => (0 : Int32)) (fun _ => (0 : Int32))) := hD
          obtain ⟨y_6, ey_6, h⟩ := bnd_ex h
          refine lv_iinc (v := y_6) (lv' := [(1, .int y_6), (0, .ref (ad 0))]) hx hb dX12_init_185 hv (k := 1) rfl (by rw [ey_6]; rfl) (by decide) rfl (fun ls hv => ?_)
          refine lv_goto (tgt := 170) hx hb dX12_init_188 (by decide) ?_
          cases h
          exact ih y_6 d_5 hl _ _ _ hP hD hS (lv_sub hv [1, 0] rfl)
    exact LB FU v1_170 d_170 ho
  have C_146 : ∀ (v1_146 : Int32) (d_146 : Nat → Int32), fX12_init_146 v1_146 d_146 = some dR → WW p l e ({ frames := 1, cells := 13, slots := 1439, locals := 12 } : Room) s m args below meth c D A 13 1439 Q (wM cA ad d_146 (fun _ => (0 : Int32)) (fun _ => (0 : Int32)) (0 : Int32) (fun _ => (0 : Int32)) (0 : Int32) (0 : Int32) (0 : Int32) (0 : Int32) (0 : Int32) (0 : Int32) (fun _ => (0 : Int32)) (fun _ => (0 : Int32)) (0 : Int32) (fun _ => (0 : Int32)) (fun _ => (0 : Int32)) (fun _ => (0 : Int32)) (0 : Int32) (0 : Int32) (fun _ => (0 : Int32)) (fun _ => (0 : Int32)) (fun _ => (0 : Int32)) (fun _ => (0 : Int32))) 2 [(0, .ref (ad 0)), (1, .int v1_146)] 146 [] := by
    intro v1_146 d_146 h
    unfold fX12_init_146 at h
    obtain ⟨⟨v1_146r, d_146r⟩, ho, h⟩ := bd_ex h
    have LE : WW p l e ({ frames := 1, cells := 13, slots := 1439, locals := 12 } : Room) s m args below meth c D A 13 1439 Q (wM cA ad d_146r (fun _ => (0 : Int32)) (fun _ => (0 : Int32)) (0 : Int32) (fun _ => (0 : Int32)) (0 : Int32) (0 : Int32) (0 : Int32) (0 : Int32) (0 : Int32) (0 : Int32) (fun _ => (0 : Int32)) (fun _ => (0 : Int32)) (0 : Int32) (fun _ => (0 : Int32)) (fun _ => (0 : Int32)) (fun _ => (0 : Int32)) (0 : Int32) (0 : Int32) (fun _ => (0 : Int32)) (fun _ => (0 : Int32)) (fun _ => (0 : Int32)) (fun _ => (0 : Int32))) 2 [(0, .ref (ad 0))] 168 [] := by
      intro H locs ls hP hD hS hv
      refine lv_iconst (v := (0 : Int32)) hx hb dX12_init_168 (by decide) ?_
      refine lv_istore_n (lv' := [(1, .int (0 : Int32)), (0, .ref (ad 0))]) hx hb dX12_init_169 rfl hv (by decide) rfl (fun ls hv => ?_)
      exact C_170 (0 : Int32) d_146r h _ _ _ hP hD hS (lv_sub hv [1, 0] rfl)
    have LB : ∀ (nf : Nat) (v1_146b : Int32) (d_146b : Nat → Int32), lp (fun σ : Int32 × (Nat → Int32) => fX12_init_146B (σ.1) (σ.2)) nf (v1_146b, d_146b) = some (v1_146r, d_146r) → WW p l e ({ frames := 1, cells := 13, slots := 1439, locals := 12 } : Room) s m args below meth c D A 13 1439 Q (wM cA ad d_146b (fun _ => (0 : Int32)) (fun _ => (0 : Int32)) (0 : Int32) (fun _ => (0 : Int32)) (0 : Int32) (0 : Int32) (0 : Int32) (0 : Int32) (0 : Int32) (0 : Int32) (fun _ => (0 : Int32)) (fun _ => (0 : Int32)) (0 : Int32) (fun _ => (0 : Int32)) (fun _ => (0 : Int32)) (fun _ => (0 : Int32)) (0 : Int32) (0 : Int32) (fun _ => (0 : Int32)) (fun _ => (0 : Int32)) (fun _ => (0 : Int32)) (fun _ => (0 : Int32))) 2 [(0, .ref (ad 0)), (1, .int v1_146b)] 146 [] := by
      intro nf
      induction nf with
      | zero => intro v1_146b d_146b hl; cases hl
      | succ nf ih =>
        intro v1_146b d_146b hl
        obtain ⟨x, h, hl⟩ := lp_ex hl
        have h : fX12_init_146B v1_146b d_146b = some x := h
        unfold fX12_init_146B at h
        intro H locs ls hP hD hS hv
        refine lv_iload_n hx hb dX12_init_146 rfl (lv_at hv 1 rfl) ?_
        refine lv_bipush (v := (6 : Int32)) hx hb dX12_init_147 (by decide) ?_
        refine lv_icmp_ge (tgt := 168) hx hb dX12_init_149 (by decide) (fun c_7 => ?_) (fun c_7 => ?_)
        · have h := ite_t c_7 h
          cases h
          have hl : some (v1_146b, d_146b) = some (v1_146r, d_146r) := hl
          have hl := Option.some.inj hl
          have ee0 : v1_146b = v1_146r := congrArg (fun q => q.1) hl
          have ee1 : d_146b = d_146r := congrArg (fun q => q.2) hl
          subst ee0
          subst ee1
          exact LE _ _ _ hP hD hS (lv_sub hv [0] rfl)
        · have h := ite_f c_7 h
          refine lv_aload_n hx hb dX12_init_152 rfl (lv_at hv 0 rfl) ?_
          refine va_get (D := D) (ci := 12) (v := .ref (ad 1)) (C := RX12) (T := TX12) (N := 23) hx hb hts in_12 hown hK hP 0 rfl rfl 0 (by decide) w_4 (fun _ h9 => h9) rfl dX12_init_153 ?_
          refine lv_bipush (v := (18 : Int32)) hx hb dX12_init_156 (by decide) ?_
          refine lv_iload_n hx hb dX12_init_158 rfl (lv_at hv 1 rfl) ?_
          refine lv_iadd hx hb dX12_init_159 ?_
          refine lv_iconst (v := (-1 : Int32)) hx hb dX12_init_160 (by decide) ?_
          obtain ⟨c_8, h⟩ := ckI_ex h
          obtain ⟨d_9, ed_9, h⟩ := bnd_ex h
          refine va_iast (D := D) hx hb hK hP hD hS 1 0 rfl rfl c_8 dX12_init_161 (fun H locs hP hD hS => ?_)
          rw [← ed_9] at hP hD
          have hP : va_P D vwCl (wM cA ad d_9 (fun _ => (0 : Int32)) (fun _ => (0 : Int32)) (0 : Int32) (fun _ => (0 : Int32)) (0 : Int32) (0 : Int32) (0 : Int32) (0 : Int32) (0 : Int32) (0 : Int32) (fun _ => (0 : Int32)) (fun _ => (0 : Int32)) (0 : Int32) (fun _ => (0 : Int32)) (fun _ => (0 : Int32)) (fun _ => (0 : Int32)) (0 : Int32) (0 : Int32) (fun _ => (0 : Int32)) (fun _ => (0 : Int32)) (fun _ => (0 : Int32)) (fun _ => (0 : Int32))) H := hP
          have hD : va_D A (wM cA ad d_9 (fun _ => (0 : Int32)) (fun _ => (0 : Int32)) (0 : Int32) (fun _ => (0 : Int32)) (0 : Int32) (0 : Int32) (0 : Int32) (0 : Int32) (0 : Int32) (0 : Int32) (fun _ => (0 : Int32)) (fun _ => (0 : Int32)) (0 : Int32) (fun _ => (0 : Int32)) (fun _ => (0 : Int32)) (fun _ => (0 : Int32)) (0 : Int32) (0 : Int32) (fun _ => (0 : Int32)) (fun _ => (0 : Int32)) (fun _ => (0 : Int32)) (fun _ => (0 : Int32))) := hD
          obtain ⟨y_10, ey_10, h⟩ := bnd_ex h
          refine lv_iinc (v := y_10) (lv' := [(1, .int y_10), (0, .ref (ad 0))]) hx hb dX12_init_162 hv (k := 1) rfl (by rw [ey_10]; rfl) (by decide) rfl (fun ls hv => ?_)
          refine lv_goto (tgt := 146) hx hb dX12_init_165 (by decide) ?_
          cases h
          exact ih y_10 d_9 hl _ _ _ hP hD hS (lv_sub hv [1, 0] rfl)
    exact LB FU v1_146 d_146 ho
  have C_119 : ∀ (v1_119 : Int32) (d_119 : Nat → Int32), fX12_init_119 v1_119 d_119 = some dR → WW p l e ({ frames := 1, cells := 13, slots := 1439, locals := 12 } : Room) s m args below meth c D A 13 1439 Q (wM cA ad d_119 (fun _ => (0 : Int32)) (fun _ => (0 : Int32)) (0 : Int32) (fun _ => (0 : Int32)) (0 : Int32) (0 : Int32) (0 : Int32) (0 : Int32) (0 : Int32) (0 : Int32) (fun _ => (0 : Int32)) (fun _ => (0 : Int32)) (0 : Int32) (fun _ => (0 : Int32)) (fun _ => (0 : Int32)) (fun _ => (0 : Int32)) (0 : Int32) (0 : Int32) (fun _ => (0 : Int32)) (fun _ => (0 : Int32)) (fun _ => (0 : Int32)) (fun _ => (0 : Int32))) 2 [(0, .ref (ad 0)), (1, .int v1_119)] 119 [] := by
    intro v1_119 d_119 h
    unfold fX12_init_119 at h
    obtain ⟨⟨v1_119r, d_119r⟩, ho, h⟩ := bd_ex h
    have LE : WW p l e ({ frames := 1, cells := 13, slots := 1439, locals := 12 } : Room) s m args below meth c D A 13 1439 Q (wM cA ad d_119r (fun _ => (0 : Int32)) (fun _ => (0 : Int32)) (0 : Int32) (fun _ => (0 : Int32)) (0 : Int32) (0 : Int32) (0 : Int32) (0 : Int32) (0 : Int32) (0 : Int32) (fun _ => (0 : Int32)) (fun _ => (0 : Int32)) (0 : Int32) (fun _ => (0 : Int32)) (fun _ => (0 : Int32)) (fun _ => (0 : Int32)) (0 : Int32) (0 : Int32) (fun _ => (0 : Int32)) (fun _ => (0 : Int32)) (fun _ => (0 : Int32)) (fun _ => (0 : Int32))) 2 [(0, .ref (ad 0))] 144 [] := by
      intro H locs ls hP hD hS hv
      refine lv_iconst (v := (0 : Int32)) hx hb dX12_init_144 (by decide) ?_
      refine lv_istore_n (lv' := [(1, .int (0 : Int32)), (0, .ref (ad 0))]) hx hb dX12_init_145 rfl hv (by decide) rfl (fun ls hv => ?_)
      exact C_146 (0 : Int32) d_119r h _ _ _ hP hD hS (lv_sub hv [1, 0] rfl)
    have LB : ∀ (nf : Nat) (v1_119b : Int32) (d_119b : Nat → Int32), lp (fun σ : Int32 × (Nat → Int32) => fX12_init_119B (σ.1) (σ.2)) nf (v1_119b, d_119b) = some (v1_119r, d_119r) → WW p l e ({ frames := 1, cells := 13, slots := 1439, locals := 12 } : Room) s m args below meth c D A 13 1439 Q (wM cA ad d_119b (fun _ => (0 : Int32)) (fun _ => (0 : Int32)) (0 : Int32) (fun _ => (0 : Int32)) (0 : Int32) (0 : Int32) (0 : Int32) (0 : Int32) (0 : Int32) (0 : Int32) (fun _ => (0 : Int32)) (fun _ => (0 : Int32)) (0 : Int32) (fun _ => (0 : Int32)) (fun _ => (0 : Int32)) (fun _ => (0 : Int32)) (0 : Int32) (0 : Int32) (fun _ => (0 : Int32)) (fun _ => (0 : Int32)) (fun _ => (0 : Int32)) (fun _ => (0 : Int32))) 2 [(0, .ref (ad 0)), (1, .int v1_119b)] 119 [] := by
      intro nf
      induction nf with
      | zero => intro v1_119b d_119b hl; cases hl
      | succ nf ih =>
        intro v1_119b d_119b hl
        obtain ⟨x, h, hl⟩ := lp_ex hl
        have h : fX12_init_119B v1_119b d_119b = some x := h
        unfold fX12_init_119B at h
        intro H locs ls hP hD hS hv
        refine lv_iload_n hx hb dX12_init_119 rfl (lv_at hv 1 rfl) ?_
        refine lv_bipush (v := (12 : Int32)) hx hb dX12_init_120 (by decide) ?_
        refine lv_icmp_ge (tgt := 144) hx hb dX12_init_122 (by decide) (fun c_11 => ?_) (fun c_11 => ?_)
        · have h := ite_t c_11 h
          cases h
          have hl : some (v1_119b, d_119b) = some (v1_119r, d_119r) := hl
          have hl := Option.some.inj hl
          have ee0 : v1_119b = v1_119r := congrArg (fun q => q.1) hl
          have ee1 : d_119b = d_119r := congrArg (fun q => q.2) hl
          subst ee0
          subst ee1
          exact LE _ _ _ hP hD hS (lv_sub hv [0] rfl)
        · have h := ite_f c_11 h
          refine lv_aload_n hx hb dX12_init_125 rfl (lv_at hv 0 rfl) ?_
          refine va_get (D := D) (ci := 12) (v := .ref (ad 1)) (C := RX12) (T := TX12) (N := 23) hx hb hts in_12 hown hK hP 0 rfl rfl 0 (by decide) w_4 (fun _ h9 => h9) rfl dX12_init_126 ?_
          refine lv_bipush (v := (6 : Int32)) hx hb dX12_init_129 (by decide) ?_
          refine lv_iload_n hx hb dX12_init_131 rfl (lv_at hv 1 rfl) ?_
          refine lv_iadd hx hb dX12_init_132 ?_
          refine lv_iload_n hx hb dX12_init_133 rfl (lv_at hv 1 rfl) ?_
          refine lv_bipush (v := (10 : Int32)) hx hb dX12_init_134 (by decide) ?_
          refine lv_irem hx hb dX12_init_136 (by decide) ?_
          obtain ⟨y_12, ey_12, h⟩ := bnd_ex h
          refine lv_nm ey_12 ?_
          obtain ⟨c_13, h⟩ := ckI_ex h
          obtain ⟨d_14, ed_14, h⟩ := bnd_ex h
          refine va_iast (D := D) hx hb hK hP hD hS 1 0 rfl rfl c_13 dX12_init_137 (fun H locs hP hD hS => ?_)
          rw [← ed_14] at hP hD
          have hP : va_P D vwCl (wM cA ad d_14 (fun _ => (0 : Int32)) (fun _ => (0 : Int32)) (0 : Int32) (fun _ => (0 : Int32)) (0 : Int32) (0 : Int32) (0 : Int32) (0 : Int32) (0 : Int32) (0 : Int32) (fun _ => (0 : Int32)) (fun _ => (0 : Int32)) (0 : Int32) (fun _ => (0 : Int32)) (fun _ => (0 : Int32)) (fun _ => (0 : Int32)) (0 : Int32) (0 : Int32) (fun _ => (0 : Int32)) (fun _ => (0 : Int32)) (fun _ => (0 : Int32)) (fun _ => (0 : Int32))) H := hP
          have hD : va_D A (wM cA ad d_14 (fun _ => (0 : Int32)) (fun _ => (0 : Int32)) (0 : Int32) (fun _ => (0 : Int32)) (0 : Int32) (0 : Int32) (0 : Int32) (0 : Int32) (0 : Int32) (0 : Int32) (fun _ => (0 : Int32)) (fun _ => (0 : Int32)) (0 : Int32) (fun _ => (0 : Int32)) (fun _ => (0 : Int32)) (fun _ => (0 : Int32)) (0 : Int32) (0 : Int32) (fun _ => (0 : Int32)) (fun _ => (0 : Int32)) (fun _ => (0 : Int32)) (fun _ => (0 : Int32))) := hD
          obtain ⟨y_15, ey_15, h⟩ := bnd_ex h
          refine lv_iinc (v := y_15) (lv' := [(1, .int y_15), (0, .ref (ad 0))]) hx hb dX12_init_138 hv (k := 1) rfl (by rw [ey_15]; rfl) (by decide) rfl (fun ls hv => ?_)
          refine lv_goto (tgt := 119) hx hb dX12_init_141 (by decide) ?_
          cases h
          exact ih y_15 d_14 hl _ _ _ hP hD hS (lv_sub hv [1, 0] rfl)
    exact LB FU v1_119 d_119 ho
  unfold fX12_init at h
  refine lv_aload_n hx hb dX12_init_110 rfl (lv_at hv 0 rfl) ?_
  refine va_get (D := D) (ci := 12) (v := .ref (ad 1)) (C := RX12) (T := TX12) (N := 23) hx hb hts in_12 hown hK hP 0 rfl rfl 0 (by decide) w_4 (fun _ h9 => h9) rfl dX12_init_111 ?_
  refine lv_iconst (v := (3 : Int32)) hx hb dX12_init_114 (by decide) ?_
  refine lv_iconst (v := (1 : Int32)) hx hb dX12_init_115 (by decide) ?_
  obtain ⟨c_1, h⟩ := ckI_ex h
  obtain ⟨d_2, ed_2, h⟩ := bnd_ex h
  refine va_iast (D := D) hx hb hK hP hD hS 1 0 rfl rfl c_1 dX12_init_116 (fun H locs hP hD hS => ?_)
  rw [← ed_2] at hP hD
  have hP : va_P D vwCl (wM cA ad d_2 (fun _ => (0 : Int32)) (fun _ => (0 : Int32)) (0 : Int32) (fun _ => (0 : Int32)) (0 : Int32) (0 : Int32) (0 : Int32) (0 : Int32) (0 : Int32) (0 : Int32) (fun _ => (0 : Int32)) (fun _ => (0 : Int32)) (0 : Int32) (fun _ => (0 : Int32)) (fun _ => (0 : Int32)) (fun _ => (0 : Int32)) (0 : Int32) (0 : Int32) (fun _ => (0 : Int32)) (fun _ => (0 : Int32)) (fun _ => (0 : Int32)) (fun _ => (0 : Int32))) H := hP
  have hD : va_D A (wM cA ad d_2 (fun _ => (0 : Int32)) (fun _ => (0 : Int32)) (0 : Int32) (fun _ => (0 : Int32)) (0 : Int32) (0 : Int32) (0 : Int32) (0 : Int32) (0 : Int32) (0 : Int32) (fun _ => (0 : Int32)) (fun _ => (0 : Int32)) (0 : Int32) (fun _ => (0 : Int32)) (fun _ => (0 : Int32)) (fun _ => (0 : Int32)) (0 : Int32) (0 : Int32) (fun _ => (0 : Int32)) (fun _ => (0 : Int32)) (fun _ => (0 : Int32)) (fun _ => (0 : Int32))) := hD
  refine lv_iconst (v := (0 : Int32)) hx hb dX12_init_117 (by decide) ?_
  refine lv_istore_n (lv' := [(1, .int (0 : Int32)), (0, .ref (ad 0))]) hx hb dX12_init_118 rfl hv (by decide) rfl (fun ls hv => ?_)
  exact C_119 (0 : Int32) d_2 h _ _ _ hP hD hS (lv_sub hv [1, 0] rfl)

def fX3_init_103B (swS_103 : Nat → Int32) (waS_103 : Nat → Int32) (v2_103b : Int32) (weight_103b : Nat → Int32) : Option ((Int32 × (Nat → Int32)) ⊕ (Int32 × (Nat → Int32))) :=
  (if (12 : Int32) ≤ v2_103b then some (.inr (v2_103b, weight_103b)) else bnd (v2_103b - v2_103b / (10 : Int32) * (10 : Int32)) fun y_6 => ckI v2_103b 12 (bnd (upd weight_103b (v2_103b).toNatClampNeg y_6) fun weight_8 => bnd (v2_103b + (1 : Int32)) fun y_9 => some (.inl (y_9, weight_8))))
def fX3_init_103 (v2_103 : Int32) (weight_103 : Nat → Int32) (swS_103 : Nat → Int32) (waS_103 : Nat → Int32) : Option ((Nat → Int32) × (Nat → Int32) × (Nat → Int32)) :=
  bd (lp (fun σ : Int32 × (Nat → Int32) => fX3_init_103B swS_103 waS_103 (σ.1) (σ.2)) FU (v2_103, weight_103)) fun ρ => match ρ with | (v2_103r, weight_103r) => bd (fJ7_fill_53178 6 (-1 : Int32) swS_103) fun swS_1 => bd (fJ7_fill_53178 4 (-1 : Int32) waS_103) fun waS_3 => some (weight_103r, swS_1, waS_3)
def fX3_init : Option ((Nat → Int32) × (Nat → Int32) × (Nat → Int32)) :=
  fX3_init_103 (0 : Int32) (fun _ => (0 : Int32)) (fun _ => (0 : Int32)) (fun _ => (0 : Int32))
set_option maxHeartbeats 4000000 in
set_option maxRecDepth 100000 in
theorem c_X3_init (l : Launch) (G : Nat → Nat) (D : va_G) (cA : Nat → ClassId) (kd : Nat → Nat) (sz o : Nat) (weightR : Nat → Int32) (swSR : Nat → Int32) (waSR : Nat → Int32) (h : fX3_init = some (weightR, swSR, waSR)) : Met l yX3_init wsX3_init ({ frames := 1, cells := 11, slots := 132, locals := 23 } : Room) (PW G D (tyC cA) sz [(o, .inr (3, [.null, .null, .int 0, .int 0, .null, .null, .null, .int 0, .null, .null, .null, .null, .null, .null, .int 0, .int 0, .null, .int 0]))] [.ref o, .ref (kd 0)]) (QX D (tyC cA) (va_A [(o, .inr (3, [.null, .null, .int 0, .int 0, .null, .null, .null, .int 0, .null, .null, .null, .null, .null, .null, .int 0, .int 0, .null, .int 0]))] sz) (fun w => ∃ ad : Nat → Nat, ad 0 = o ∧ w = (wHc cA ad kd weightR (0 : Int32) (0 : Int32) swSR (fun _ => (0 : Int32)) waSR (0 : Int32) (fun _ => (0 : Int32)) (fun _ => (0 : Int32)) (fun _ => (0 : Int32)) (fun _ => (0 : Int64)) (fun _ => none) (fun _ => (0 : Int32)) (0 : Int32) (1 : Int32) (fun _ => (0 : Int32)) (0 : Int32)))) 11 132 (va_A [(o, .inr (3, [.null, .null, .int 0, .int 0, .null, .null, .null, .int 0, .null, .null, .null, .null, .null, .null, .int 0, .int 0, .null, .int 0]))] sz) := by
  refine ent (cc := cX3_init) (maxL := 3) (ret := none) (fun A => QX D (tyC cA) A (fun w => ∃ ad : Nat → Nat, ad 0 = o ∧ w = (wHc cA ad kd weightR (0 : Int32) (0 : Int32) swSR (fun _ => (0 : Int32)) waSR (0 : Int32) (fun _ => (0 : Int32)) (fun _ => (0 : Int32)) (fun _ => (0 : Int32)) (fun _ => (0 : Int64)) (fun _ => none) (fun _ => (0 : Int32)) (0 : Int32) (1 : Int32) (fun _ => (0 : Int32)) (0 : Int32)))) (by decide +kernel) rfl (Nat.le_of_ble_eq_true rfl) ?_
  intro p e s m args below meth c A ls H hx hb hml hr hlk hts hown hA hK hE hP hD hS hv hmm
  have hv : lv_has ls 3 [(0, .ref o), (1, .ref (kd 0))] := hv
  have hinit : meth.name = "<init>" := (name_of_methodNamed hmm.1 hmm.2).1
  have in_3 : ∀ w ∈ u_ws RX3 TX3 18, w ∈ wsX3_init := fun _ h => List.mem_cons_of_mem _ (List.mem_append_right _ h)
  have w_0 := hts (.methodLink RX3 3 objectInit) (List.mem_of_getElem? (i := 1) rfl)
  have w_1 := hts (.instanceMethod objectInit) (List.mem_of_getElem? (i := 2) rfl)
  have w_2 := hts (.code objectInit ⟨#[0xb1]⟩ 1 none) (List.mem_of_getElem? (i := 3) rfl)
  have w_3 := hts (.arrayClass .int) (List.mem_of_getElem? (i := 4) rfl)
  have w_4 := hts (.fieldLink RX3 9 "SpoonsLast$House" "weight" "[I") (List.mem_of_getElem? (i := 5) rfl)
  have w_5 := hts (.fieldLink RX3 15 "SpoonsLast$House" "swallowSpoon" "[I") (List.mem_of_getElem? (i := 6) rfl)
  have w_6 := hts (.fieldLink RX3 18 "SpoonsLast$House" "swallowWord" "[I") (List.mem_of_getElem? (i := 7) rfl)
  have w_7 := hts (.fieldLink RX3 21 "SpoonsLast$House" "washSpoon" "[I") (List.mem_of_getElem? (i := 8) rfl)
  have w_8 := hts (.fieldLink RX3 24 "SpoonsLast$House" "kind" "[I") (List.mem_of_getElem? (i := 9) rfl)
  have w_9 := hts (.fieldLink RX3 27 "SpoonsLast$House" "mark" "[I") (List.mem_of_getElem? (i := 10) rfl)
  have w_10 := hts (.fieldLink RX3 30 "SpoonsLast$House" "silver" "[I") (List.mem_of_getElem? (i := 11) rfl)
  have w_11 := hts (.arrayClass .long) (List.mem_of_getElem? (i := 12) rfl)
  have w_12 := hts (.fieldLink RX3 33 "SpoonsLast$House" "fresh" "[J") (List.mem_of_getElem? (i := 13) rfl)
  have w_13 := hts (.classLink RX3 37 RX9) (List.mem_of_getElem? (i := 14) rfl)
  have w_14 := hts (.fieldLink RX3 39 "SpoonsLast$House" "texts" "[LSpoonsLast$Text;") (List.mem_of_getElem? (i := 15) rfl)
  have w_15 := hts (.fieldLink RX3 43 "SpoonsLast$House" "tape" "[I") (List.mem_of_getElem? (i := 16) rfl)
  have w_16 := hts (.fieldLink RX3 46 "SpoonsLast$House" "z" "I") (List.mem_of_getElem? (i := 17) rfl)
  have w_17 := hts (.fieldLink RX3 50 "SpoonsLast$House" "waiting" "[I") (List.mem_of_getElem? (i := 18) rfl)
  have w_18 := hts (.fieldLink RX3 53 "SpoonsLast$House" "kinds" "[LSpoonsLast$Spoon;") (List.mem_of_getElem? (i := 19) rfl)
  generalize hQ : MQ below _ args s 11 132 A = Q
  have hP : va_P D vwCl [(o, .inr (3, [.null, .null, .int 0, .int 0, .null, .null, .null, .int 0, .null, .null, .null, .null, .null, .null, .int 0, .int 0, .null, .int 0]))] H := hP
  have hD : va_D A [(o, .inr (3, [.null, .null, .int 0, .int 0, .null, .null, .null, .int 0, .null, .null, .null, .null, .null, .null, .int 0, .int 0, .null, .int 0]))] := hD
  refine lv_aload_n hx hb dX3_init_0 rfl (lv_at hv 0 rfl) ?_
  refine W.objInit hx hb hown w_0 w_1 w_2 rfl (hv.1.trans hml.symm) rfl dX3_init_1 (Nat.le_of_ble_eq_true rfl) (Nat.le_of_ble_eq_true rfl) ?_
  refine W.eq (g2 := F0 m 4 ls []) rfl ?_
  refine lv_aload_n hx hb dX3_init_4 rfl (lv_at hv 0 rfl) ?_
  refine lv_bipush (v := (12 : Int32)) hx hb dX3_init_5 (by decide) ?_
  refine nwI hx hb hA w_3 rfl hK hP hD hS (n := (12 : Int32)) (N' := 12) (by decide) (by decide) (Nat.le_of_ble_eq_true rfl) (Nat.le_of_ble_eq_true rfl) (Nat.le_of_ble_eq_true rfl) dX3_init_7 ?_
  intro q1 H hP hD hS
  have hP : va_P D vwCl [(o, .inr (3, [.null, .null, .int 0, .int 0, .null, .null, .null, .int 0, .null, .null, .null, .null, .null, .null, .int 0, .int 0, .null, .int 0])), (q1, .inl (cA 0, 12, .inl (fun _ => 0)))] H := hP
  have hD : va_D A [(o, .inr (3, [.null, .null, .int 0, .int 0, .null, .null, .null, .int 0, .null, .null, .null, .null, .null, .null, .int 0, .int 0, .null, .int 0])), (q1, .inl (cA 0, 12, .inl (fun _ => 0)))] := hD
  refine va_putF (D := D) (ci := 3) (v := .ref q1) (ty := .array .int) (C := RX3) (T := TX3) (N := 18) hx hb hts in_3 tyX3 tyX3_ok nmX3 hown hK hP hD hS 0 rfl rfl 1 (by decide) w_4 (fun _ h9 => h9) rfl hinit rfl (by decide +kernel) rfl rfl (Nat.le_of_ble_eq_true rfl) dX3_init_9 (fun H locs hP hD hS => ?_)
  have hP : va_P D vwCl [(o, .inr (3, [.null, .ref q1, .int 0, .int 0, .null, .null, .null, .int 0, .null, .null, .null, .null, .null, .null, .int 0, .int 0, .null, .int 0])), (q1, .inl (cA 0, 12, .inl (fun _ => 0)))] H := hP
  have hD : va_D A [(o, .inr (3, [.null, .ref q1, .int 0, .int 0, .null, .null, .null, .int 0, .null, .null, .null, .null, .null, .null, .int 0, .int 0, .null, .int 0])), (q1, .inl (cA 0, 12, .inl (fun _ => 0)))] := hD
  refine lv_aload_n hx hb dX3_init_12 rfl (lv_at hv 0 rfl) ?_
  refine lv_bipush (v := (6 : Int32)) hx hb dX3_init_13 (by decide) ?_
  refine nwI hx hb hA w_3 rfl hK hP hD hS (n := (6 : Int32)) (N' := 6) (by decide) (by decide) (Nat.le_of_ble_eq_true rfl) (Nat.le_of_ble_eq_true rfl) (Nat.le_of_ble_eq_true rfl) dX3_init_15 ?_
  intro q2 H hP hD hS
  have hP : va_P D vwCl [(o, .inr (3, [.null, .ref q1, .int 0, .int 0, .null, .null, .null, .int 0, .null, .null, .null, .null, .null, .null, .int 0, .int 0, .null, .int 0])), (q1, .inl (cA 0, 12, .inl (fun _ => 0))), (q2, .inl (cA 0, 6, .inl (fun _ => 0)))] H := hP
  have hD : va_D A [(o, .inr (3, [.null, .ref q1, .int 0, .int 0, .null, .null, .null, .int 0, .null, .null, .null, .null, .null, .null, .int 0, .int 0, .null, .int 0])), (q1, .inl (cA 0, 12, .inl (fun _ => 0))), (q2, .inl (cA 0, 6, .inl (fun _ => 0)))] := hD
  refine va_putF (D := D) (ci := 3) (v := .ref q2) (ty := .array .int) (C := RX3) (T := TX3) (N := 18) hx hb hts in_3 tyX3 tyX3_ok nmX3 hown hK hP hD hS 0 rfl rfl 4 (by decide) w_5 (fun _ h9 => h9) rfl hinit rfl (by decide +kernel) rfl rfl (Nat.le_of_ble_eq_true rfl) dX3_init_17 (fun H locs hP hD hS => ?_)
  have hP : va_P D vwCl [(o, .inr (3, [.null, .ref q1, .int 0, .int 0, .ref q2, .null, .null, .int 0, .null, .null, .null, .null, .null, .null, .int 0, .int 0, .null, .int 0])), (q1, .inl (cA 0, 12, .inl (fun _ => 0))), (q2, .inl (cA 0, 6, .inl (fun _ => 0)))] H := hP
  have hD : va_D A [(o, .inr (3, [.null, .ref q1, .int 0, .int 0, .ref q2, .null, .null, .int 0, .null, .null, .null, .null, .null, .null, .int 0, .int 0, .null, .int 0])), (q1, .inl (cA 0, 12, .inl (fun _ => 0))), (q2, .inl (cA 0, 6, .inl (fun _ => 0)))] := hD
  refine lv_aload_n hx hb dX3_init_20 rfl (lv_at hv 0 rfl) ?_
  refine lv_bipush (v := (6 : Int32)) hx hb dX3_init_21 (by decide) ?_
  refine nwI hx hb hA w_3 rfl hK hP hD hS (n := (6 : Int32)) (N' := 6) (by decide) (by decide) (Nat.le_of_ble_eq_true rfl) (Nat.le_of_ble_eq_true rfl) (Nat.le_of_ble_eq_true rfl) dX3_init_23 ?_
  intro q3 H hP hD hS
  have hP : va_P D vwCl [(o, .inr (3, [.null, .ref q1, .int 0, .int 0, .ref q2, .null, .null, .int 0, .null, .null, .null, .null, .null, .null, .int 0, .int 0, .null, .int 0])), (q1, .inl (cA 0, 12, .inl (fun _ => 0))), (q2, .inl (cA 0, 6, .inl (fun _ => 0))), (q3, .inl (cA 0, 6, .inl (fun _ => 0)))] H := hP
  have hD : va_D A [(o, .inr (3, [.null, .ref q1, .int 0, .int 0, .ref q2, .null, .null, .int 0, .null, .null, .null, .null, .null, .null, .int 0, .int 0, .null, .int 0])), (q1, .inl (cA 0, 12, .inl (fun _ => 0))), (q2, .inl (cA 0, 6, .inl (fun _ => 0))), (q3, .inl (cA 0, 6, .inl (fun _ => 0)))] := hD
  refine va_putF (D := D) (ci := 3) (v := .ref q3) (ty := .array .int) (C := RX3) (T := TX3) (N := 18) hx hb hts in_3 tyX3 tyX3_ok nmX3 hown hK hP hD hS 0 rfl rfl 5 (by decide) w_6 (fun _ h9 => h9) rfl hinit rfl (by decide +kernel) rfl rfl (Nat.le_of_ble_eq_true rfl) dX3_init_25 (fun H locs hP hD hS => ?_)
  have hP : va_P D vwCl [(o, .inr (3, [.null, .ref q1, .int 0, .int 0, .ref q2, .ref q3, .null, .int 0, .null, .null, .null, .null, .null, .null, .int 0, .int 0, .null, .int 0])), (q1, .inl (cA 0, 12, .inl (fun _ => 0))), (q2, .inl (cA 0, 6, .inl (fun _ => 0))), (q3, .inl (cA 0, 6, .inl (fun _ => 0)))] H := hP
  have hD : va_D A [(o, .inr (3, [.null, .ref q1, .int 0, .int 0, .ref q2, .ref q3, .null, .int 0, .null, .null, .null, .null, .null, .null, .int 0, .int 0, .null, .int 0])), (q1, .inl (cA 0, 12, .inl (fun _ => 0))), (q2, .inl (cA 0, 6, .inl (fun _ => 0))), (q3, .inl (cA 0, 6, .inl (fun _ => 0)))] := hD
  refine lv_aload_n hx hb dX3_init_28 rfl (lv_at hv 0 rfl) ?_
  refine lv_iconst (v := (4 : Int32)) hx hb dX3_init_29 (by decide) ?_
  refine nwI hx hb hA w_3 rfl hK hP hD hS (n := (4 : Int32)) (N' := 4) (by decide) (by decide) (Nat.le_of_ble_eq_true rfl) (Nat.le_of_ble_eq_true rfl) (Nat.le_of_ble_eq_true rfl) dX3_init_30 ?_
  intro q4 H hP hD hS
  have hP : va_P D vwCl [(o, .inr (3, [.null, .ref q1, .int 0, .int 0, .ref q2, .ref q3, .null, .int 0, .null, .null, .null, .null, .null, .null, .int 0, .int 0, .null, .int 0])), (q1, .inl (cA 0, 12, .inl (fun _ => 0))), (q2, .inl (cA 0, 6, .inl (fun _ => 0))), (q3, .inl (cA 0, 6, .inl (fun _ => 0))), (q4, .inl (cA 0, 4, .inl (fun _ => 0)))] H := hP
  have hD : va_D A [(o, .inr (3, [.null, .ref q1, .int 0, .int 0, .ref q2, .ref q3, .null, .int 0, .null, .null, .null, .null, .null, .null, .int 0, .int 0, .null, .int 0])), (q1, .inl (cA 0, 12, .inl (fun _ => 0))), (q2, .inl (cA 0, 6, .inl (fun _ => 0))), (q3, .inl (cA 0, 6, .inl (fun _ => 0))), (q4, .inl (cA 0, 4, .inl (fun _ => 0)))] := hD
  refine va_putF (D := D) (ci := 3) (v := .ref q4) (ty := .array .int) (C := RX3) (T := TX3) (N := 18) hx hb hts in_3 tyX3 tyX3_ok nmX3 hown hK hP hD hS 0 rfl rfl 6 (by decide) w_7 (fun _ h9 => h9) rfl hinit rfl (by decide +kernel) rfl rfl (Nat.le_of_ble_eq_true rfl) dX3_init_32 (fun H locs hP hD hS => ?_)
  have hP : va_P D vwCl [(o, .inr (3, [.null, .ref q1, .int 0, .int 0, .ref q2, .ref q3, .ref q4, .int 0, .null, .null, .null, .null, .null, .null, .int 0, .int 0, .null, .int 0])), (q1, .inl (cA 0, 12, .inl (fun _ => 0))), (q2, .inl (cA 0, 6, .inl (fun _ => 0))), (q3, .inl (cA 0, 6, .inl (fun _ => 0))), (q4, .inl (cA 0, 4, .inl (fun _ => 0)))] H := hP
  have hD : va_D A [(o, .inr (3, [.null, .ref q1, .int 0, .int 0, .ref q2, .ref q3, .ref q4, .int 0, .null, .null, .null, .null, .null, .null, .int 0, .int 0, .null, .int 0])), (q1, .inl (cA 0, 12, .inl (fun _ => 0))), (q2, .inl (cA 0, 6, .inl (fun _ => 0))), (q3, .inl (cA 0, 6, .inl (fun _ => 0))), (q4, .inl (cA 0, 4, .inl (fun _ => 0)))] := hD
  refine lv_aload_n hx hb dX3_init_35 rfl (lv_at hv 0 rfl) ?_
  refine lv_bipush (v := (8 : Int32)) hx hb dX3_init_36 (by decide) ?_
  refine nwI hx hb hA w_3 rfl hK hP hD hS (n := (8 : Int32)) (N' := 8) (by decide) (by decide) (Nat.le_of_ble_eq_true rfl) (Nat.le_of_ble_eq_true rfl) (Nat.le_of_ble_eq_true rfl) dX3_init_38 ?_
  intro q5 H hP hD hS
  have hP : va_P D vwCl [(o, .inr (3, [.null, .ref q1, .int 0, .int 0, .ref q2, .ref q3, .ref q4, .int 0, .null, .null, .null, .null, .null, .null, .int 0, .int 0, .null, .int 0])), (q1, .inl (cA 0, 12, .inl (fun _ => 0))), (q2, .inl (cA 0, 6, .inl (fun _ => 0))), (q3, .inl (cA 0, 6, .inl (fun _ => 0))), (q4, .inl (cA 0, 4, .inl (fun _ => 0))), (q5, .inl (cA 0, 8, .inl (fun _ => 0)))] H := hP
  have hD : va_D A [(o, .inr (3, [.null, .ref q1, .int 0, .int 0, .ref q2, .ref q3, .ref q4, .int 0, .null, .null, .null, .null, .null, .null, .int 0, .int 0, .null, .int 0])), (q1, .inl (cA 0, 12, .inl (fun _ => 0))), (q2, .inl (cA 0, 6, .inl (fun _ => 0))), (q3, .inl (cA 0, 6, .inl (fun _ => 0))), (q4, .inl (cA 0, 4, .inl (fun _ => 0))), (q5, .inl (cA 0, 8, .inl (fun _ => 0)))] := hD
  refine va_putF (D := D) (ci := 3) (v := .ref q5) (ty := .array .int) (C := RX3) (T := TX3) (N := 18) hx hb hts in_3 tyX3 tyX3_ok nmX3 hown hK hP hD hS 0 rfl rfl 8 (by decide) w_8 (fun _ h9 => h9) rfl hinit rfl (by decide +kernel) rfl rfl (Nat.le_of_ble_eq_true rfl) dX3_init_40 (fun H locs hP hD hS => ?_)
  have hP : va_P D vwCl [(o, .inr (3, [.null, .ref q1, .int 0, .int 0, .ref q2, .ref q3, .ref q4, .int 0, .ref q5, .null, .null, .null, .null, .null, .int 0, .int 0, .null, .int 0])), (q1, .inl (cA 0, 12, .inl (fun _ => 0))), (q2, .inl (cA 0, 6, .inl (fun _ => 0))), (q3, .inl (cA 0, 6, .inl (fun _ => 0))), (q4, .inl (cA 0, 4, .inl (fun _ => 0))), (q5, .inl (cA 0, 8, .inl (fun _ => 0)))] H := hP
  have hD : va_D A [(o, .inr (3, [.null, .ref q1, .int 0, .int 0, .ref q2, .ref q3, .ref q4, .int 0, .ref q5, .null, .null, .null, .null, .null, .int 0, .int 0, .null, .int 0])), (q1, .inl (cA 0, 12, .inl (fun _ => 0))), (q2, .inl (cA 0, 6, .inl (fun _ => 0))), (q3, .inl (cA 0, 6, .inl (fun _ => 0))), (q4, .inl (cA 0, 4, .inl (fun _ => 0))), (q5, .inl (cA 0, 8, .inl (fun _ => 0)))] := hD
  refine lv_aload_n hx hb dX3_init_43 rfl (lv_at hv 0 rfl) ?_
  refine lv_bipush (v := (8 : Int32)) hx hb dX3_init_44 (by decide) ?_
  refine nwI hx hb hA w_3 rfl hK hP hD hS (n := (8 : Int32)) (N' := 8) (by decide) (by decide) (Nat.le_of_ble_eq_true rfl) (Nat.le_of_ble_eq_true rfl) (Nat.le_of_ble_eq_true rfl) dX3_init_46 ?_
  intro q6 H hP hD hS
  have hP : va_P D vwCl [(o, .inr (3, [.null, .ref q1, .int 0, .int 0, .ref q2, .ref q3, .ref q4, .int 0, .ref q5, .null, .null, .null, .null, .null, .int 0, .int 0, .null, .int 0])), (q1, .inl (cA 0, 12, .inl (fun _ => 0))), (q2, .inl (cA 0, 6, .inl (fun _ => 0))), (q3, .inl (cA 0, 6, .inl (fun _ => 0))), (q4, .inl (cA 0, 4, .inl (fun _ => 0))), (q5, .inl (cA 0, 8, .inl (fun _ => 0))), (q6, .inl (cA 0, 8, .inl (fun _ => 0)))] H := hP
  have hD : va_D A [(o, .inr (3, [.null, .ref q1, .int 0, .int 0, .ref q2, .ref q3, .ref q4, .int 0, .ref q5, .null, .null, .null, .null, .null, .int 0, .int 0, .null, .int 0])), (q1, .inl (cA 0, 12, .inl (fun _ => 0))), (q2, .inl (cA 0, 6, .inl (fun _ => 0))), (q3, .inl (cA 0, 6, .inl (fun _ => 0))), (q4, .inl (cA 0, 4, .inl (fun _ => 0))), (q5, .inl (cA 0, 8, .inl (fun _ => 0))), (q6, .inl (cA 0, 8, .inl (fun _ => 0)))] := hD
  refine va_putF (D := D) (ci := 3) (v := .ref q6) (ty := .array .int) (C := RX3) (T := TX3) (N := 18) hx hb hts in_3 tyX3 tyX3_ok nmX3 hown hK hP hD hS 0 rfl rfl 9 (by decide) w_9 (fun _ h9 => h9) rfl hinit rfl (by decide +kernel) rfl rfl (Nat.le_of_ble_eq_true rfl) dX3_init_48 (fun H locs hP hD hS => ?_)
  have hP : va_P D vwCl [(o, .inr (3, [.null, .ref q1, .int 0, .int 0, .ref q2, .ref q3, .ref q4, .int 0, .ref q5, .ref q6, .null, .null, .null, .null, .int 0, .int 0, .null, .int 0])), (q1, .inl (cA 0, 12, .inl (fun _ => 0))), (q2, .inl (cA 0, 6, .inl (fun _ => 0))), (q3, .inl (cA 0, 6, .inl (fun _ => 0))), (q4, .inl (cA 0, 4, .inl (fun _ => 0))), (q5, .inl (cA 0, 8, .inl (fun _ => 0))), (q6, .inl (cA 0, 8, .inl (fun _ => 0)))] H := hP
  have hD : va_D A [(o, .inr (3, [.null, .ref q1, .int 0, .int 0, .ref q2, .ref q3, .ref q4, .int 0, .ref q5, .ref q6, .null, .null, .null, .null, .int 0, .int 0, .null, .int 0])), (q1, .inl (cA 0, 12, .inl (fun _ => 0))), (q2, .inl (cA 0, 6, .inl (fun _ => 0))), (q3, .inl (cA 0, 6, .inl (fun _ => 0))), (q4, .inl (cA 0, 4, .inl (fun _ => 0))), (q5, .inl (cA 0, 8, .inl (fun _ => 0))), (q6, .inl (cA 0, 8, .inl (fun _ => 0)))] := hD
  refine lv_aload_n hx hb dX3_init_51 rfl (lv_at hv 0 rfl) ?_
  refine lv_bipush (v := (8 : Int32)) hx hb dX3_init_52 (by decide) ?_
  refine nwI hx hb hA w_3 rfl hK hP hD hS (n := (8 : Int32)) (N' := 8) (by decide) (by decide) (Nat.le_of_ble_eq_true rfl) (Nat.le_of_ble_eq_true rfl) (Nat.le_of_ble_eq_true rfl) dX3_init_54 ?_
  intro q7 H hP hD hS
  have hP : va_P D vwCl [(o, .inr (3, [.null, .ref q1, .int 0, .int 0, .ref q2, .ref q3, .ref q4, .int 0, .ref q5, .ref q6, .null, .null, .null, .null, .int 0, .int 0, .null, .int 0])), (q1, .inl (cA 0, 12, .inl (fun _ => 0))), (q2, .inl (cA 0, 6, .inl (fun _ => 0))), (q3, .inl (cA 0, 6, .inl (fun _ => 0))), (q4, .inl (cA 0, 4, .inl (fun _ => 0))), (q5, .inl (cA 0, 8, .inl (fun _ => 0))), (q6, .inl (cA 0, 8, .inl (fun _ => 0))), (q7, .inl (cA 0, 8, .inl (fun _ => 0)))] H := hP
  have hD : va_D A [(o, .inr (3, [.null, .ref q1, .int 0, .int 0, .ref q2, .ref q3, .ref q4, .int 0, .ref q5, .ref q6, .null, .null, .null, .null, .int 0, .int 0, .null, .int 0])), (q1, .inl (cA 0, 12, .inl (fun _ => 0))), (q2, .inl (cA 0, 6, .inl (fun _ => 0))), (q3, .inl (cA 0, 6, .inl (fun _ => 0))), (q4, .inl (cA 0, 4, .inl (fun _ => 0))), (q5, .inl (cA 0, 8, .inl (fun _ => 0))), (q6, .inl (cA 0, 8, .inl (fun _ => 0))), (q7, .inl (cA 0, 8, .inl (fun _ => 0)))] := hD
  refine va_putF (D := D) (ci := 3) (v := .ref q7) (ty := .array .int) (C := RX3) (T := TX3) (N := 18) hx hb hts in_3 tyX3 tyX3_ok nmX3 hown hK hP hD hS 0 rfl rfl 10 (by decide) w_10 (fun _ h9 => h9) rfl hinit rfl (by decide +kernel) rfl rfl (Nat.le_of_ble_eq_true rfl) dX3_init_56 (fun H locs hP hD hS => ?_)
  have hP : va_P D vwCl [(o, .inr (3, [.null, .ref q1, .int 0, .int 0, .ref q2, .ref q3, .ref q4, .int 0, .ref q5, .ref q6, .ref q7, .null, .null, .null, .int 0, .int 0, .null, .int 0])), (q1, .inl (cA 0, 12, .inl (fun _ => 0))), (q2, .inl (cA 0, 6, .inl (fun _ => 0))), (q3, .inl (cA 0, 6, .inl (fun _ => 0))), (q4, .inl (cA 0, 4, .inl (fun _ => 0))), (q5, .inl (cA 0, 8, .inl (fun _ => 0))), (q6, .inl (cA 0, 8, .inl (fun _ => 0))), (q7, .inl (cA 0, 8, .inl (fun _ => 0)))] H := hP
  have hD : va_D A [(o, .inr (3, [.null, .ref q1, .int 0, .int 0, .ref q2, .ref q3, .ref q4, .int 0, .ref q5, .ref q6, .ref q7, .null, .null, .null, .int 0, .int 0, .null, .int 0])), (q1, .inl (cA 0, 12, .inl (fun _ => 0))), (q2, .inl (cA 0, 6, .inl (fun _ => 0))), (q3, .inl (cA 0, 6, .inl (fun _ => 0))), (q4, .inl (cA 0, 4, .inl (fun _ => 0))), (q5, .inl (cA 0, 8, .inl (fun _ => 0))), (q6, .inl (cA 0, 8, .inl (fun _ => 0))), (q7, .inl (cA 0, 8, .inl (fun _ => 0)))] := hD
  refine lv_aload_n hx hb dX3_init_59 rfl (lv_at hv 0 rfl) ?_
  refine lv_bipush (v := (8 : Int32)) hx hb dX3_init_60 (by decide) ?_
  refine nwL hx hb hA w_11 rfl hK hP hD hS (n := (8 : Int32)) (N' := 8) (by decide) (by decide) (Nat.le_of_ble_eq_true rfl) (Nat.le_of_ble_eq_true rfl) (Nat.le_of_ble_eq_true rfl) dX3_init_62 ?_
  intro q8 H hP hD hS
  have hP : va_P D vwCl [(o, .inr (3, [.null, .ref q1, .int 0, .int 0, .ref q2, .ref q3, .ref q4, .int 0, .ref q5, .ref q6, .ref q7, .null, .null, .null, .int 0, .int 0, .null, .int 0])), (q1, .inl (cA 0, 12, .inl (fun _ => 0))), (q2, .inl (cA 0, 6, .inl (fun _ => 0))), (q3, .inl (cA 0, 6, .inl (fun _ => 0))), (q4, .inl (cA 0, 4, .inl (fun _ => 0))), (q5, .inl (cA 0, 8, .inl (fun _ => 0))), (q6, .inl (cA 0, 8, .inl (fun _ => 0))), (q7, .inl (cA 0, 8, .inl (fun _ => 0))), (q8, .inl (cA 1, 8, .inr (.inl (fun _ => 0))))] H := hP
  have hD : va_D A [(o, .inr (3, [.null, .ref q1, .int 0, .int 0, .ref q2, .ref q3, .ref q4, .int 0, .ref q5, .ref q6, .ref q7, .null, .null, .null, .int 0, .int 0, .null, .int 0])), (q1, .inl (cA 0, 12, .inl (fun _ => 0))), (q2, .inl (cA 0, 6, .inl (fun _ => 0))), (q3, .inl (cA 0, 6, .inl (fun _ => 0))), (q4, .inl (cA 0, 4, .inl (fun _ => 0))), (q5, .inl (cA 0, 8, .inl (fun _ => 0))), (q6, .inl (cA 0, 8, .inl (fun _ => 0))), (q7, .inl (cA 0, 8, .inl (fun _ => 0))), (q8, .inl (cA 1, 8, .inr (.inl (fun _ => 0))))] := hD
  refine va_putF (D := D) (ci := 3) (v := .ref q8) (ty := .array .long) (C := RX3) (T := TX3) (N := 18) hx hb hts in_3 tyX3 tyX3_ok nmX3 hown hK hP hD hS 0 rfl rfl 11 (by decide) w_12 (fun _ h9 => h9) rfl hinit rfl (by decide +kernel) rfl rfl (Nat.le_of_ble_eq_true rfl) dX3_init_64 (fun H locs hP hD hS => ?_)
  have hP : va_P D vwCl [(o, .inr (3, [.null, .ref q1, .int 0, .int 0, .ref q2, .ref q3, .ref q4, .int 0, .ref q5, .ref q6, .ref q7, .ref q8, .null, .null, .int 0, .int 0, .null, .int 0])), (q1, .inl (cA 0, 12, .inl (fun _ => 0))), (q2, .inl (cA 0, 6, .inl (fun _ => 0))), (q3, .inl (cA 0, 6, .inl (fun _ => 0))), (q4, .inl (cA 0, 4, .inl (fun _ => 0))), (q5, .inl (cA 0, 8, .inl (fun _ => 0))), (q6, .inl (cA 0, 8, .inl (fun _ => 0))), (q7, .inl (cA 0, 8, .inl (fun _ => 0))), (q8, .inl (cA 1, 8, .inr (.inl (fun _ => 0))))] H := hP
  have hD : va_D A [(o, .inr (3, [.null, .ref q1, .int 0, .int 0, .ref q2, .ref q3, .ref q4, .int 0, .ref q5, .ref q6, .ref q7, .ref q8, .null, .null, .int 0, .int 0, .null, .int 0])), (q1, .inl (cA 0, 12, .inl (fun _ => 0))), (q2, .inl (cA 0, 6, .inl (fun _ => 0))), (q3, .inl (cA 0, 6, .inl (fun _ => 0))), (q4, .inl (cA 0, 4, .inl (fun _ => 0))), (q5, .inl (cA 0, 8, .inl (fun _ => 0))), (q6, .inl (cA 0, 8, .inl (fun _ => 0))), (q7, .inl (cA 0, 8, .inl (fun _ => 0))), (q8, .inl (cA 1, 8, .inr (.inl (fun _ => 0))))] := hD
  refine lv_aload_n hx hb dX3_init_67 rfl (lv_at hv 0 rfl) ?_
  refine lv_iconst (v := (2 : Int32)) hx hb dX3_init_68 (by decide) ?_
  refine nwO (C := RX9) (i := 3) hx hb hA hown w_13 (hE.1.2.2.1 RX9 (by decide)) rfl hK hP hD hS (n := (2 : Int32)) (N' := 2) (by decide) (by decide) (Nat.le_of_ble_eq_true rfl) (Nat.le_of_ble_eq_true rfl) (Nat.le_of_ble_eq_true rfl) dX3_init_69 ?_
  intro q9 H hP hD hS
  have hP : va_P D vwCl [(o, .inr (3, [.null, .ref q1, .int 0, .int 0, .ref q2, .ref q3, .ref q4, .int 0, .ref q5, .ref q6, .ref q7, .ref q8, .null, .null, .int 0, .int 0, .null, .int 0])), (q1, .inl (cA 0, 12, .inl (fun _ => 0))), (q2, .inl (cA 0, 6, .inl (fun _ => 0))), (q3, .inl (cA 0, 6, .inl (fun _ => 0))), (q4, .inl (cA 0, 4, .inl (fun _ => 0))), (q5, .inl (cA 0, 8, .inl (fun _ => 0))), (q6, .inl (cA 0, 8, .inl (fun _ => 0))), (q7, .inl (cA 0, 8, .inl (fun _ => 0))), (q8, .inl (cA 1, 8, .inr (.inl (fun _ => 0)))), (q9, .inl (cA 3, 2, .inr (.inr (.inr (.inr (fun _ => none))))))] H := hP
  have hD : va_D A [(o, .inr (3, [.null, .ref q1, .int 0, .int 0, .ref q2, .ref q3, .ref q4, .int 0, .ref q5, .ref q6, .ref q7, .ref q8, .null, .null, .int 0, .int 0, .null, .int 0])), (q1, .inl (cA 0, 12, .inl (fun _ => 0))), (q2, .inl (cA 0, 6, .inl (fun _ => 0))), (q3, .inl (cA 0, 6, .inl (fun _ => 0))), (q4, .inl (cA 0, 4, .inl (fun _ => 0))), (q5, .inl (cA 0, 8, .inl (fun _ => 0))), (q6, .inl (cA 0, 8, .inl (fun _ => 0))), (q7, .inl (cA 0, 8, .inl (fun _ => 0))), (q8, .inl (cA 1, 8, .inr (.inl (fun _ => 0)))), (q9, .inl (cA 3, 2, .inr (.inr (.inr (.inr (fun _ => none))))))] := hD
  refine va_putF (D := D) (ci := 3) (v := .ref q9) (ty := .array (.object RX9)) (C := RX3) (T := TX3) (N := 18) hx hb hts in_3 tyX3 tyX3_ok nmX3 hown hK hP hD hS 0 rfl rfl 12 (by decide) w_14 (fun _ h9 => h9) rfl hinit rfl (by decide +kernel) rfl rfl (Nat.le_of_ble_eq_true rfl) dX3_init_72 (fun H locs hP hD hS => ?_)
  have hP : va_P D vwCl [(o, .inr (3, [.null, .ref q1, .int 0, .int 0, .ref q2, .ref q3, .ref q4, .int 0, .ref q5, .ref q6, .ref q7, .ref q8, .ref q9, .null, .int 0, .int 0, .null, .int 0])), (q1, .inl (cA 0, 12, .inl (fun _ => 0))), (q2, .inl (cA 0, 6, .inl (fun _ => 0))), (q3, .inl (cA 0, 6, .inl (fun _ => 0))), (q4, .inl (cA 0, 4, .inl (fun _ => 0))), (q5, .inl (cA 0, 8, .inl (fun _ => 0))), (q6, .inl (cA 0, 8, .inl (fun _ => 0))), (q7, .inl (cA 0, 8, .inl (fun _ => 0))), (q8, .inl (cA 1, 8, .inr (.inl (fun _ => 0)))), (q9, .inl (cA 3, 2, .inr (.inr (.inr (.inr (fun _ => none))))))] H := hP
  have hD : va_D A [(o, .inr (3, [.null, .ref q1, .int 0, .int 0, .ref q2, .ref q3, .ref q4, .int 0, .ref q5, .ref q6, .ref q7, .ref q8, .ref q9, .null, .int 0, .int 0, .null, .int 0])), (q1, .inl (cA 0, 12, .inl (fun _ => 0))), (q2, .inl (cA 0, 6, .inl (fun _ => 0))), (q3, .inl (cA 0, 6, .inl (fun _ => 0))), (q4, .inl (cA 0, 4, .inl (fun _ => 0))), (q5, .inl (cA 0, 8, .inl (fun _ => 0))), (q6, .inl (cA 0, 8, .inl (fun _ => 0))), (q7, .inl (cA 0, 8, .inl (fun _ => 0))), (q8, .inl (cA 1, 8, .inr (.inl (fun _ => 0)))), (q9, .inl (cA 3, 2, .inr (.inr (.inr (.inr (fun _ => none))))))] := hD
  refine lv_aload_n hx hb dX3_init_75 rfl (lv_at hv 0 rfl) ?_
  refine lv_bipush (v := (50 : Int32)) hx hb dX3_init_76 (by decide) ?_
  refine nwI hx hb hA w_3 rfl hK hP hD hS (n := (50 : Int32)) (N' := 50) (by decide) (by decide) (Nat.le_of_ble_eq_true rfl) (Nat.le_of_ble_eq_true rfl) (Nat.le_of_ble_eq_true rfl) dX3_init_78 ?_
  intro q10 H hP hD hS
  have hP : va_P D vwCl [(o, .inr (3, [.null, .ref q1, .int 0, .int 0, .ref q2, .ref q3, .ref q4, .int 0, .ref q5, .ref q6, .ref q7, .ref q8, .ref q9, .null, .int 0, .int 0, .null, .int 0])), (q1, .inl (cA 0, 12, .inl (fun _ => 0))), (q2, .inl (cA 0, 6, .inl (fun _ => 0))), (q3, .inl (cA 0, 6, .inl (fun _ => 0))), (q4, .inl (cA 0, 4, .inl (fun _ => 0))), (q5, .inl (cA 0, 8, .inl (fun _ => 0))), (q6, .inl (cA 0, 8, .inl (fun _ => 0))), (q7, .inl (cA 0, 8, .inl (fun _ => 0))), (q8, .inl (cA 1, 8, .inr (.inl (fun _ => 0)))), (q9, .inl (cA 3, 2, .inr (.inr (.inr (.inr (fun _ => none)))))), (q10, .inl (cA 0, 50, .inl (fun _ => 0)))] H := hP
  have hD : va_D A [(o, .inr (3, [.null, .ref q1, .int 0, .int 0, .ref q2, .ref q3, .ref q4, .int 0, .ref q5, .ref q6, .ref q7, .ref q8, .ref q9, .null, .int 0, .int 0, .null, .int 0])), (q1, .inl (cA 0, 12, .inl (fun _ => 0))), (q2, .inl (cA 0, 6, .inl (fun _ => 0))), (q3, .inl (cA 0, 6, .inl (fun _ => 0))), (q4, .inl (cA 0, 4, .inl (fun _ => 0))), (q5, .inl (cA 0, 8, .inl (fun _ => 0))), (q6, .inl (cA 0, 8, .inl (fun _ => 0))), (q7, .inl (cA 0, 8, .inl (fun _ => 0))), (q8, .inl (cA 1, 8, .inr (.inl (fun _ => 0)))), (q9, .inl (cA 3, 2, .inr (.inr (.inr (.inr (fun _ => none)))))), (q10, .inl (cA 0, 50, .inl (fun _ => 0)))] := hD
  refine va_putF (D := D) (ci := 3) (v := .ref q10) (ty := .array .int) (C := RX3) (T := TX3) (N := 18) hx hb hts in_3 tyX3 tyX3_ok nmX3 hown hK hP hD hS 0 rfl rfl 13 (by decide) w_15 (fun _ h9 => h9) rfl hinit rfl (by decide +kernel) rfl rfl (Nat.le_of_ble_eq_true rfl) dX3_init_80 (fun H locs hP hD hS => ?_)
  have hP : va_P D vwCl [(o, .inr (3, [.null, .ref q1, .int 0, .int 0, .ref q2, .ref q3, .ref q4, .int 0, .ref q5, .ref q6, .ref q7, .ref q8, .ref q9, .ref q10, .int 0, .int 0, .null, .int 0])), (q1, .inl (cA 0, 12, .inl (fun _ => 0))), (q2, .inl (cA 0, 6, .inl (fun _ => 0))), (q3, .inl (cA 0, 6, .inl (fun _ => 0))), (q4, .inl (cA 0, 4, .inl (fun _ => 0))), (q5, .inl (cA 0, 8, .inl (fun _ => 0))), (q6, .inl (cA 0, 8, .inl (fun _ => 0))), (q7, .inl (cA 0, 8, .inl (fun _ => 0))), (q8, .inl (cA 1, 8, .inr (.inl (fun _ => 0)))), (q9, .inl (cA 3, 2, .inr (.inr (.inr (.inr (fun _ => none)))))), (q10, .inl (cA 0, 50, .inl (fun _ => 0)))] H := hP
  have hD : va_D A [(o, .inr (3, [.null, .ref q1, .int 0, .int 0, .ref q2, .ref q3, .ref q4, .int 0, .ref q5, .ref q6, .ref q7, .ref q8, .ref q9, .ref q10, .int 0, .int 0, .null, .int 0])), (q1, .inl (cA 0, 12, .inl (fun _ => 0))), (q2, .inl (cA 0, 6, .inl (fun _ => 0))), (q3, .inl (cA 0, 6, .inl (fun _ => 0))), (q4, .inl (cA 0, 4, .inl (fun _ => 0))), (q5, .inl (cA 0, 8, .inl (fun _ => 0))), (q6, .inl (cA 0, 8, .inl (fun _ => 0))), (q7, .inl (cA 0, 8, .inl (fun _ => 0))), (q8, .inl (cA 1, 8, .inr (.inl (fun _ => 0)))), (q9, .inl (cA 3, 2, .inr (.inr (.inr (.inr (fun _ => none)))))), (q10, .inl (cA 0, 50, .inl (fun _ => 0)))] := hD
  refine lv_aload_n hx hb dX3_init_83 rfl (lv_at hv 0 rfl) ?_
  refine lv_iconst (v := (1 : Int32)) hx hb dX3_init_84 (by decide) ?_
  refine va_put (D := D) (ci := 3) (v := .int (1 : Int32)) (ty := .int) (C := RX3) (T := TX3) (N := 18) hx hb hts in_3 tyX3 tyX3_ok nmX3 hown hK hP hD hS 0 rfl rfl 15 (by decide) w_16 (fun _ h9 => h9) rfl (by decide +kernel) rfl rfl (Nat.le_of_ble_eq_true rfl) dX3_init_85 (fun H locs hP hD hS => ?_)
  have hP : va_P D vwCl [(o, .inr (3, [.null, .ref q1, .int 0, .int 0, .ref q2, .ref q3, .ref q4, .int 0, .ref q5, .ref q6, .ref q7, .ref q8, .ref q9, .ref q10, .int 0, .int (1 : Int32), .null, .int 0])), (q1, .inl (cA 0, 12, .inl (fun _ => 0))), (q2, .inl (cA 0, 6, .inl (fun _ => 0))), (q3, .inl (cA 0, 6, .inl (fun _ => 0))), (q4, .inl (cA 0, 4, .inl (fun _ => 0))), (q5, .inl (cA 0, 8, .inl (fun _ => 0))), (q6, .inl (cA 0, 8, .inl (fun _ => 0))), (q7, .inl (cA 0, 8, .inl (fun _ => 0))), (q8, .inl (cA 1, 8, .inr (.inl (fun _ => 0)))), (q9, .inl (cA 3, 2, .inr (.inr (.inr (.inr (fun _ => none)))))), (q10, .inl (cA 0, 50, .inl (fun _ => 0)))] H := hP
  have hD : va_D A [(o, .inr (3, [.null, .ref q1, .int 0, .int 0, .ref q2, .ref q3, .ref q4, .int 0, .ref q5, .ref q6, .ref q7, .ref q8, .ref q9, .ref q10, .int 0, .int (1 : Int32), .null, .int 0])), (q1, .inl (cA 0, 12, .inl (fun _ => 0))), (q2, .inl (cA 0, 6, .inl (fun _ => 0))), (q3, .inl (cA 0, 6, .inl (fun _ => 0))), (q4, .inl (cA 0, 4, .inl (fun _ => 0))), (q5, .inl (cA 0, 8, .inl (fun _ => 0))), (q6, .inl (cA 0, 8, .inl (fun _ => 0))), (q7, .inl (cA 0, 8, .inl (fun _ => 0))), (q8, .inl (cA 1, 8, .inr (.inl (fun _ => 0)))), (q9, .inl (cA 3, 2, .inr (.inr (.inr (.inr (fun _ => none)))))), (q10, .inl (cA 0, 50, .inl (fun _ => 0)))] := hD
  refine lv_aload_n hx hb dX3_init_88 rfl (lv_at hv 0 rfl) ?_
  refine lv_bipush (v := (20 : Int32)) hx hb dX3_init_89 (by decide) ?_
  refine nwI hx hb hA w_3 rfl hK hP hD hS (n := (20 : Int32)) (N' := 20) (by decide) (by decide) (Nat.le_of_ble_eq_true rfl) (Nat.le_of_ble_eq_true rfl) (Nat.le_of_ble_eq_true rfl) dX3_init_91 ?_
  intro q11 H hP hD hS
  have hP : va_P D vwCl [(o, .inr (3, [.null, .ref q1, .int 0, .int 0, .ref q2, .ref q3, .ref q4, .int 0, .ref q5, .ref q6, .ref q7, .ref q8, .ref q9, .ref q10, .int 0, .int (1 : Int32), .null, .int 0])), (q1, .inl (cA 0, 12, .inl (fun _ => 0))), (q2, .inl (cA 0, 6, .inl (fun _ => 0))), (q3, .inl (cA 0, 6, .inl (fun _ => 0))), (q4, .inl (cA 0, 4, .inl (fun _ => 0))), (q5, .inl (cA 0, 8, .inl (fun _ => 0))), (q6, .inl (cA 0, 8, .inl (fun _ => 0))), (q7, .inl (cA 0, 8, .inl (fun _ => 0))), (q8, .inl (cA 1, 8, .inr (.inl (fun _ => 0)))), (q9, .inl (cA 3, 2, .inr (.inr (.inr (.inr (fun _ => none)))))), (q10, .inl (cA 0, 50, .inl (fun _ => 0))), (q11, .inl (cA 0, 20, .inl (fun _ => 0)))] H := hP
  have hD : va_D A [(o, .inr (3, [.null, .ref q1, .int 0, .int 0, .ref q2, .ref q3, .ref q4, .int 0, .ref q5, .ref q6, .ref q7, .ref q8, .ref q9, .ref q10, .int 0, .int (1 : Int32), .null, .int 0])), (q1, .inl (cA 0, 12, .inl (fun _ => 0))), (q2, .inl (cA 0, 6, .inl (fun _ => 0))), (q3, .inl (cA 0, 6, .inl (fun _ => 0))), (q4, .inl (cA 0, 4, .inl (fun _ => 0))), (q5, .inl (cA 0, 8, .inl (fun _ => 0))), (q6, .inl (cA 0, 8, .inl (fun _ => 0))), (q7, .inl (cA 0, 8, .inl (fun _ => 0))), (q8, .inl (cA 1, 8, .inr (.inl (fun _ => 0)))), (q9, .inl (cA 3, 2, .inr (.inr (.inr (.inr (fun _ => none)))))), (q10, .inl (cA 0, 50, .inl (fun _ => 0))), (q11, .inl (cA 0, 20, .inl (fun _ => 0)))] := hD
  refine va_putF (D := D) (ci := 3) (v := .ref q11) (ty := .array .int) (C := RX3) (T := TX3) (N := 18) hx hb hts in_3 tyX3 tyX3_ok nmX3 hown hK hP hD hS 0 rfl rfl 16 (by decide) w_17 (fun _ h9 => h9) rfl hinit rfl (by decide +kernel) rfl rfl (Nat.le_of_ble_eq_true rfl) dX3_init_93 (fun H locs hP hD hS => ?_)
  have hP : va_P D vwCl [(o, .inr (3, [.null, .ref q1, .int 0, .int 0, .ref q2, .ref q3, .ref q4, .int 0, .ref q5, .ref q6, .ref q7, .ref q8, .ref q9, .ref q10, .int 0, .int (1 : Int32), .ref q11, .int 0])), (q1, .inl (cA 0, 12, .inl (fun _ => 0))), (q2, .inl (cA 0, 6, .inl (fun _ => 0))), (q3, .inl (cA 0, 6, .inl (fun _ => 0))), (q4, .inl (cA 0, 4, .inl (fun _ => 0))), (q5, .inl (cA 0, 8, .inl (fun _ => 0))), (q6, .inl (cA 0, 8, .inl (fun _ => 0))), (q7, .inl (cA 0, 8, .inl (fun _ => 0))), (q8, .inl (cA 1, 8, .inr (.inl (fun _ => 0)))), (q9, .inl (cA 3, 2, .inr (.inr (.inr (.inr (fun _ => none)))))), (q10, .inl (cA 0, 50, .inl (fun _ => 0))), (q11, .inl (cA 0, 20, .inl (fun _ => 0)))] H := hP
  have hD : va_D A [(o, .inr (3, [.null, .ref q1, .int 0, .int 0, .ref q2, .ref q3, .ref q4, .int 0, .ref q5, .ref q6, .ref q7, .ref q8, .ref q9, .ref q10, .int 0, .int (1 : Int32), .ref q11, .int 0])), (q1, .inl (cA 0, 12, .inl (fun _ => 0))), (q2, .inl (cA 0, 6, .inl (fun _ => 0))), (q3, .inl (cA 0, 6, .inl (fun _ => 0))), (q4, .inl (cA 0, 4, .inl (fun _ => 0))), (q5, .inl (cA 0, 8, .inl (fun _ => 0))), (q6, .inl (cA 0, 8, .inl (fun _ => 0))), (q7, .inl (cA 0, 8, .inl (fun _ => 0))), (q8, .inl (cA 1, 8, .inr (.inl (fun _ => 0)))), (q9, .inl (cA 3, 2, .inr (.inr (.inr (.inr (fun _ => none)))))), (q10, .inl (cA 0, 50, .inl (fun _ => 0))), (q11, .inl (cA 0, 20, .inl (fun _ => 0)))] := hD
  refine lv_aload_n hx hb dX3_init_96 rfl (lv_at hv 0 rfl) ?_
  refine lv_aload_n hx hb dX3_init_97 rfl (lv_at hv 1 rfl) ?_
  refine va_putF (D := D) (ci := 3) (v := .ref (kd 0)) (ty := .array (.object RX8)) (C := RX3) (T := TX3) (N := 18) hx hb hts in_3 tyX3 tyX3_ok nmX3 hown hK hP hD hS 0 rfl rfl 0 (by decide) w_18 (fun _ h9 => h9) rfl hinit rfl (by decide +kernel) rfl rfl (Nat.le_of_ble_eq_true rfl) dX3_init_98 (fun H locs hP hD hS => ?_)
  have hP : va_P D vwCl [(o, .inr (3, [.ref (kd 0), .ref q1, .int 0, .int 0, .ref q2, .ref q3, .ref q4, .int 0, .ref q5, .ref q6, .ref q7, .ref q8, .ref q9, .ref q10, .int 0, .int (1 : Int32), .ref q11, .int 0])), (q1, .inl (cA 0, 12, .inl (fun _ => 0))), (q2, .inl (cA 0, 6, .inl (fun _ => 0))), (q3, .inl (cA 0, 6, .inl (fun _ => 0))), (q4, .inl (cA 0, 4, .inl (fun _ => 0))), (q5, .inl (cA 0, 8, .inl (fun _ => 0))), (q6, .inl (cA 0, 8, .inl (fun _ => 0))), (q7, .inl (cA 0, 8, .inl (fun _ => 0))), (q8, .inl (cA 1, 8, .inr (.inl (fun _ => 0)))), (q9, .inl (cA 3, 2, .inr (.inr (.inr (.inr (fun _ => none)))))), (q10, .inl (cA 0, 50, .inl (fun _ => 0))), (q11, .inl (cA 0, 20, .inl (fun _ => 0)))] H := hP
  have hD : va_D A [(o, .inr (3, [.ref (kd 0), .ref q1, .int 0, .int 0, .ref q2, .ref q3, .ref q4, .int 0, .ref q5, .ref q6, .ref q7, .ref q8, .ref q9, .ref q10, .int 0, .int (1 : Int32), .ref q11, .int 0])), (q1, .inl (cA 0, 12, .inl (fun _ => 0))), (q2, .inl (cA 0, 6, .inl (fun _ => 0))), (q3, .inl (cA 0, 6, .inl (fun _ => 0))), (q4, .inl (cA 0, 4, .inl (fun _ => 0))), (q5, .inl (cA 0, 8, .inl (fun _ => 0))), (q6, .inl (cA 0, 8, .inl (fun _ => 0))), (q7, .inl (cA 0, 8, .inl (fun _ => 0))), (q8, .inl (cA 1, 8, .inr (.inl (fun _ => 0)))), (q9, .inl (cA 3, 2, .inr (.inr (.inr (.inr (fun _ => none)))))), (q10, .inl (cA 0, 50, .inl (fun _ => 0))), (q11, .inl (cA 0, 20, .inl (fun _ => 0)))] := hD
  obtain ⟨ad, ead⟩ : ∃ ad : Nat → Nat, ad = fun k => [o, 0, q1, 0, 0, q2, q3, q4, 0, q5, q6, q7, q8, q9, q10, 0, 0, q11].getD k 0 := ⟨_, rfl⟩
  have hP : va_P D vwCl (wHc cA ad kd (fun _ => (0 : Int32)) (0 : Int32) (0 : Int32) (fun _ => (0 : Int32)) (fun _ => (0 : Int32)) (fun _ => (0 : Int32)) (0 : Int32) (fun _ => (0 : Int32)) (fun _ => (0 : Int32)) (fun _ => (0 : Int32)) (fun _ => (0 : Int64)) (fun _ => none) (fun _ => (0 : Int32)) (0 : Int32) (1 : Int32) (fun _ => (0 : Int32)) (0 : Int32)) H := by rw [ead]; exact hP
  have hD : va_D A (wHc cA ad kd (fun _ => (0 : Int32)) (0 : Int32) (0 : Int32) (fun _ => (0 : Int32)) (fun _ => (0 : Int32)) (fun _ => (0 : Int32)) (0 : Int32) (fun _ => (0 : Int32)) (fun _ => (0 : Int32)) (fun _ => (0 : Int32)) (fun _ => (0 : Int64)) (fun _ => none) (fun _ => (0 : Int32)) (0 : Int32) (1 : Int32) (fun _ => (0 : Int32)) (0 : Int32)) := by rw [ead]; exact hD
  have hv : lv_has ls 3 [(0, .ref (ad 0)), (1, .ref (kd 0))] := by rw [ead]; exact hv
  have hw0 : ad 0 = o := by rw [ead]; rfl
  have C_103 : ∀ (v2_103 : Int32) (weight_103 : Nat → Int32) (swS_103 : Nat → Int32) (waS_103 : Nat → Int32), fX3_init_103 v2_103 weight_103 swS_103 waS_103 = some (weightR, swSR, waSR) → WW p l e ({ frames := 1, cells := 11, slots := 132, locals := 23 } : Room) s m args below meth c D A 11 132 Q (wHc cA ad kd weight_103 (0 : Int32) (0 : Int32) swS_103 (fun _ => (0 : Int32)) waS_103 (0 : Int32) (fun _ => (0 : Int32)) (fun _ => (0 : Int32)) (fun _ => (0 : Int32)) (fun _ => (0 : Int64)) (fun _ => none) (fun _ => (0 : Int32)) (0 : Int32) (1 : Int32) (fun _ => (0 : Int32)) (0 : Int32)) 3 [(0, .ref (ad 0)), (2, .int v2_103)] 103 [] := by
    intro v2_103 weight_103 swS_103 waS_103 h
    unfold fX3_init_103 at h
    obtain ⟨⟨v2_103r, weight_103r⟩, ho, h⟩ := bd_ex h
    have LE : WW p l e ({ frames := 1, cells := 11, slots := 132, locals := 23 } : Room) s m args below meth c D A 11 132 Q (wHc cA ad kd weight_103r (0 : Int32) (0 : Int32) swS_103 (fun _ => (0 : Int32)) waS_103 (0 : Int32) (fun _ => (0 : Int32)) (fun _ => (0 : Int32)) (fun _ => (0 : Int32)) (fun _ => (0 : Int64)) (fun _ => none) (fun _ => (0 : Int32)) (0 : Int32) (1 : Int32) (fun _ => (0 : Int32)) (0 : Int32)) 3 [(0, .ref (ad 0))] 125 [] := by
      intro H locs ls hP hD hS hv
      refine lv_aload_n hx hb dX3_init_125 rfl (lv_at hv 0 rfl) ?_
      refine va_get (D := D) (ci := 3) (v := .ref (ad 5)) (C := RX3) (T := TX3) (N := 18) hx hb hts in_3 hown hK hP 0 rfl rfl 4 (by decide) w_5 (fun _ h9 => h9) rfl dX3_init_126 ?_
      refine lv_iconst (v := (-1 : Int32)) hx hb dX3_init_129 (by decide) ?_
      obtain ⟨swS_1, hf_2, h⟩ := bd_ex h
      have sb : Sb D A H (wA cA (ad 5) 6 swS_103) := Sb.pl [2] (by decide) rfl hP hD hS hA
      refine calV (va_runS (As := [.ref (ad 5), .int (-1 : Int32)]) (rest := []) ⟨hx, hb, hml, hown, hts⟩ (c_J7_fill_53178 l G D cA (ad 5) 6 _ swS_103 (-1 : Int32) swS_1 hf_2) (va_cwS 2 hts gX3_init_J7_fill_53178 rfl rfl rfl (by decide +kernel) ⟨Nat.le_of_ble_eq_true rfl, Nat.le_of_ble_eq_true rfl⟩) (pvS hE hK hS sb) rfl rfl hv.1 rfl (lv_room (Nat.le_of_ble_eq_true rfl)) dX3_init_130 ⟨Nat.le_of_ble_eq_true rfl, Nat.le_of_ble_eq_true rfl⟩) hS sb (Jn.pl (ws := (wHc cA ad kd weight_103r (0 : Int32) (0 : Int32) swS_103 (fun _ => (0 : Int32)) waS_103 (0 : Int32) (fun _ => (0 : Int32)) (fun _ => (0 : Int32)) (fun _ => (0 : Int32)) (fun _ => (0 : Int64)) (fun _ => none) (fun _ => (0 : Int32)) (0 : Int32) (1 : Int32) (fun _ => (0 : Int32)) (0 : Int32))) (w1 := (wA cA (ad 5) 6 swS_1)) (ws' := (wHc cA ad kd weight_103r (0 : Int32) (0 : Int32) swS_1 (fun _ => (0 : Int32)) waS_103 (0 : Int32) (fun _ => (0 : Int32)) (fun _ => (0 : Int32)) (fun _ => (0 : Int32)) (fun _ => (0 : Int64)) (fun _ => none) (fun _ => (0 : Int32)) (0 : Int32) (1 : Int32) (fun _ => (0 : Int32)) (0 : Int32))) [2] rfl rfl rfl rfl hP hD) (fun H locs hP hD hS => ?_)
      have hP : va_P D vwCl (wHc cA ad kd weight_103r (0 : Int32) (0 : Int32) swS_1 (fun _ => (0 : Int32)) waS_103 (0 : Int32) (fun _ => (0 : Int32)) (fun _ => (0 : Int32)) (fun _ => (0 : Int32)) (fun _ => (0 : Int64)) (fun _ => none) (fun _ => (0 : Int32)) (0 : Int32) (1 : Int32) (fun _ => (0 : Int32)) (0 : Int32)) H := hP
      have hD : va_D A (wHc cA ad kd weight_103r (0 : Int32) (0 : Int32) swS_1 (fun _ => (0 : Int32)) waS_103 (0 : Int32) (fun _ => (0 : Int32)) (fun _ => (0 : Int32)) (fun _ => (0 : Int32)) (fun _ => (0 : Int64)) (fun _ => none) (fun _ => (0 : Int32)) (0 : Int32) (1 : Int32) (fun _ => (0 : Int32)) (0 : Int32)) := hD
      refine lv_aload_n hx hb dX3_init_133 rfl (lv_at hv 0 rfl) ?_
      refine va_get (D := D) (ci := 3) (v := .ref (ad 7)) (C := RX3) (T := TX3) (N := 18) hx hb hts in_3 hown hK hP 0 rfl rfl 6 (by decide) w_7 (fun _ h9 => h9) rfl dX3_init_134 ?_
      refine lv_iconst (v := (-1 : Int32)) hx hb dX3_init_137 (by decide) ?_
      obtain ⟨waS_3, hf_4, h⟩ := bd_ex h
      have sb : Sb D A H (wA cA (ad 7) 4 waS_103) := Sb.pl [4] (by decide) rfl hP hD hS hA
      refine calV (va_runS (As := [.ref (ad 7), .int (-1 : Int32)]) (rest := []) ⟨hx, hb, hml, hown, hts⟩ (c_J7_fill_53178 l G D cA (ad 7) 4 _ waS_103 (-1 : Int32) waS_3 hf_4) (va_cwS 2 hts gX3_init_J7_fill_53178 rfl rfl rfl (by decide +kernel) ⟨Nat.le_of_ble_eq_true rfl, Nat.le_of_ble_eq_true rfl⟩) (pvS hE hK hS sb) rfl rfl hv.1 rfl (lv_room (Nat.le_of_ble_eq_true rfl)) dX3_init_138 ⟨Nat.le_of_ble_eq_true rfl, Nat.le_of_ble_eq_true rfl⟩) hS sb (Jn.pl (ws := (wHc cA ad kd weight_103r (0 : Int32) (0 : Int32) swS_1 (fun _ => (0 : Int32)) waS_103 (0 : Int32) (fun _ => (0 : Int32)) (fun _ => (0 : Int32)) (fun _ => (0 : Int32)) (fun _ => (0 : Int64)) (fun _ => none) (fun _ => (0 : Int32)) (0 : Int32) (1 : Int32) (fun _ => (0 : Int32)) (0 : Int32))) (w1 := (wA cA (ad 7) 4 waS_3)) (ws' := (wHc cA ad kd weight_103r (0 : Int32) (0 : Int32) swS_1 (fun _ => (0 : Int32)) waS_3 (0 : Int32) (fun _ => (0 : Int32)) (fun _ => (0 : Int32)) (fun _ => (0 : Int32)) (fun _ => (0 : Int64)) (fun _ => none) (fun _ => (0 : Int32)) (0 : Int32) (1 : Int32) (fun _ => (0 : Int32)) (0 : Int32))) [4] rfl rfl rfl rfl hP hD) (fun H locs hP hD hS => ?_)
      have hP : va_P D vwCl (wHc cA ad kd weight_103r (0 : Int32) (0 : Int32) swS_1 (fun _ => (0 : Int32)) waS_3 (0 : Int32) (fun _ => (0 : Int32)) (fun _ => (0 : Int32)) (fun _ => (0 : Int32)) (fun _ => (0 : Int64)) (fun _ => none) (fun _ => (0 : Int32)) (0 : Int32) (1 : Int32) (fun _ => (0 : Int32)) (0 : Int32)) H := hP
      have hD : va_D A (wHc cA ad kd weight_103r (0 : Int32) (0 : Int32) swS_1 (fun _ => (0 : Int32)) waS_3 (0 : Int32) (fun _ => (0 : Int32)) (fun _ => (0 : Int32)) (fun _ => (0 : Int32)) (fun _ => (0 : Int64)) (fun _ => none) (fun _ => (0 : Int32)) (0 : Int32) (1 : Int32) (fun _ => (0 : Int32)) (0 : Int32)) := hD
      have h := Option.some.inj h
      have ee0 : weight_103r = weightR := congrArg (fun q => q.1) h
      have ee1 : swS_1 = swSR := congrArg (fun q => q.2.1) h
      have ee2 : waS_3 = waSR := congrArg (fun q => q.2.2) h
      subst ee0
      subst ee1
      subst ee2
      rw [← hQ]
      exact retX ⟨ad, hw0, rfl⟩ hx hb hr hlk hK hP hD hS dX3_init_141 ⟨Nat.le_of_ble_eq_true rfl, Nat.le_of_ble_eq_true rfl⟩
    have LB : ∀ (nf : Nat) (v2_103b : Int32) (weight_103b : Nat → Int32), lp (fun σ : Int32 × (Nat → Int32) => fX3_init_103B swS_103 waS_103 (σ.1) (σ.2)) nf (v2_103b, weight_103b) = some (v2_103r, weight_103r) → WW p l e ({ frames := 1, cells := 11, slots := 132, locals := 23 } : Room) s m args below meth c D A 11 132 Q (wHc cA ad kd weight_103b (0 : Int32) (0 : Int32) swS_103 (fun _ => (0 : Int32)) waS_103 (0 : Int32) (fun _ => (0 : Int32)) (fun _ => (0 : Int32)) (fun _ => (0 : Int32)) (fun _ => (0 : Int64)) (fun _ => none) (fun _ => (0 : Int32)) (0 : Int32) (1 : Int32) (fun _ => (0 : Int32)) (0 : Int32)) 3 [(0, .ref (ad 0)), (2, .int v2_103b)] 103 [] := by
      intro nf
      induction nf with
      | zero => intro v2_103b weight_103b hl; cases hl
      | succ nf ih =>
        intro v2_103b weight_103b hl
        obtain ⟨x, h, hl⟩ := lp_ex hl
        have h : fX3_init_103B swS_103 waS_103 v2_103b weight_103b = some x := h
        unfold fX3_init_103B at h
        intro H locs ls hP hD hS hv
        refine lv_iload_n hx hb dX3_init_103 rfl (lv_at hv 1 rfl) ?_
        refine lv_bipush (v := (12 : Int32)) hx hb dX3_init_104 (by decide) ?_
        refine lv_icmp_ge (tgt := 125) hx hb dX3_init_106 (by decide) (fun c_5 => ?_) (fun c_5 => ?_)
        · have h := ite_t c_5 h
          cases h
          have hl : some (v2_103b, weight_103b) = some (v2_103r, weight_103r) := hl
          have hl := Option.some.inj hl
          have ee0 : v2_103b = v2_103r := congrArg (fun q => q.1) hl
          have ee1 : weight_103b = weight_103r := congrArg (fun q => q.2) hl
          subst ee0
          subst ee1
          exact LE _ _ _ hP hD hS (lv_sub hv [0] rfl)
        · have h := ite_f c_5 h
          refine lv_aload_n hx hb dX3_init_109 rfl (lv_at hv 0 rfl) ?_
          refine va_get (D := D) (ci := 3) (v := .ref (ad 2)) (C := RX3) (T := TX3) (N := 18) hx hb hts in_3 hown hK hP 0 rfl rfl 1 (by decide) w_4 (fun _ h9 => h9) rfl dX3_init_110 ?_
          refine lv_iload_n hx hb dX3_init_113 rfl (lv_at hv 1 rfl) ?_
          refine lv_iload_n hx hb dX3_init_114 rfl (lv_at hv 1 rfl) ?_
          refine lv_bipush (v := (10 : Int32)) hx hb dX3_init_115 (by decide) ?_
          refine lv_irem hx hb dX3_init_117 (by decide) ?_
          obtain ⟨y_6, ey_6, h⟩ := bnd_ex h
          refine lv_nm ey_6 ?_
          obtain ⟨c_7, h⟩ := ckI_ex h
          obtain ⟨weight_8, eweight_8, h⟩ := bnd_ex h
          refine va_iast (D := D) hx hb hK hP hD hS 1 0 rfl rfl c_7 dX3_init_118 (fun H locs hP hD hS => ?_)
          rw [← eweight_8] at hP hD
          have hP : va_P D vwCl (wHc cA ad kd weight_8 (0 : Int32) (0 : Int32) swS_103 (fun _ => (0 : Int32)) waS_103 (0 : Int32) (fun _ => (0 : Int32)) (fun _ => (0 : Int32)) (fun _ => (0 : Int32)) (fun _ => (0 : Int64)) (fun _ => none) (fun _ => (0 : Int32)) (0 : Int32) (1 : Int32) (fun _ => (0 : Int32)) (0 : Int32)) H := hP
          have hD : va_D A (wHc cA ad kd weight_8 (0 : Int32) (0 : Int32) swS_103 (fun _ => (0 : Int32)) waS_103 (0 : Int32) (fun _ => (0 : Int32)) (fun _ => (0 : Int32)) (fun _ => (0 : Int32)) (fun _ => (0 : Int64)) (fun _ => none) (fun _ => (0 : Int32)) (0 : Int32) (1 : Int32) (fun _ => (0 : Int32)) (0 : Int32)) := hD
          obtain ⟨y_9, ey_9, h⟩ := bnd_ex h
          refine lv_iinc (v := y_9) (lv' := [(2, .int y_9), (0, .ref (ad 0))]) hx hb dX3_init_119 hv (k := 1) rfl (by rw [ey_9]; rfl) (by decide) rfl (fun ls hv => ?_)
          refine lv_goto (tgt := 103) hx hb dX3_init_122 (by decide) ?_
          cases h
          exact ih y_9 weight_8 hl _ _ _ hP hD hS (lv_sub hv [1, 0] rfl)
    exact LB FU v2_103 weight_103 ho
  unfold fX3_init at h
  refine lv_iconst (v := (0 : Int32)) hx hb dX3_init_101 (by decide) ?_
  refine lv_istore_n (lv' := [(2, .int (0 : Int32)), (0, .ref (ad 0)), (1, .ref (kd 0))]) hx hb dX3_init_102 rfl hv (by decide) rfl (fun ls hv => ?_)
  exact C_103 (0 : Int32) (fun _ => (0 : Int32)) (fun _ => (0 : Int32)) (fun _ => (0 : Int32)) h _ _ _ hP hD hS (lv_sub hv [1, 0] rfl)

