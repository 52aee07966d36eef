def fJ0_isLatin1_aae02 (si : Nat) : Option (Int32) :=
  ck (si < 11) (some (1 : Int32))
set_option maxHeartbeats 4000000 in
set_option maxRecDepth 100000 in
theorem c_J0_isLatin1_aae02 (l : Launch) (G : Nat → Nat) (D : va_G) (cA : Nat → ClassId) (sz : Nat) (si : Nat) (rR : Int32) (h : fJ0_isLatin1_aae02 si = some rR) : Met l yJ0_isLatin1_aae02 wsJ0_isLatin1_aae02 ({ frames := 0, cells := 0, slots := 0, locals := 0 } : Room) (PW G D (tyC cA) sz (wE) [.ref (G si)]) (QI D (tyC cA) (va_A (wE) sz) rR (wE)) 0 0 (va_A (wE) sz) := by
  refine ent (cc := cJ0_isLatin1_aae02) (maxL := 1) (ret := (some .boolean)) (fun A => QI D (tyC cA) A rR (wE)) (by decide +kernel) rfl (Nat.le_of_ble_eq_true rfl) ?_
  intro p e s m args below meth c A ls H hx hb hml hr hlk hts hown hA hK hE hP hD hS hv hmm
  have hv : lv_has ls 1 [(0, .ref (G si))] := hv
  have w_0 := hts (.fieldLink RJ0 38 "java/lang/String" "COMPACT_STRINGS" "Z") (List.mem_of_getElem? (i := 1) rfl)
  have w_1 := hts (.fieldLink RJ0 15 "java/lang/String" "coder" "B") (List.mem_of_getElem? (i := 2) rfl)
  generalize hQ : MQ below _ args s 0 0 A = Q
  have hP : va_P D vwCl (wE) H := hP
  unfold fJ0_isLatin1_aae02 at h
  refine va_gets hx hb hE.2.2.2.2.2 hS hown w_0 (fun _ h9 => h9) dJ0_isLatin1_aae02_0 ?_
  refine lv_if_eq (tgt := 17) hx hb dJ0_isLatin1_aae02_3 (by decide) (fun c_1 => absurd c_1 (by decide)) (fun _ => ?_)
  refine lv_aload_n hx hb dJ0_isLatin1_aae02_6 rfl (lv_at hv 0 rfl) ?_
  obtain ⟨c_2, h⟩ := ck_ex h
  refine vk_getf (v := .int (0 : Int32)) hx hb (hE.2.1.1 si c_2).2.1 hS hown w_1 (fun _ h9 => h9) dJ0_isLatin1_aae02_7 ?_
  refine lv_if_ne (tgt := 17) hx hb dJ0_isLatin1_aae02_10 (by decide) (fun c_3 => absurd c_3 (by decide)) (fun _ => ?_)
  refine lv_iconst (v := (1 : Int32)) hx hb dJ0_isLatin1_aae02_13 (by decide) ?_
  refine lv_goto (tgt := 18) hx hb dJ0_isLatin1_aae02_14 (by decide) ?_
  have h := Option.some.inj h
  have ee0 : (1 : Int32) = rR := congrArg (fun q => q) h
  subst ee0
  rw [← hQ]
  exact retZ (by decide) hx hb hr hlk hK hP hD hS dJ0_isLatin1_aae02_18 ⟨Nat.le_of_ble_eq_true rfl, Nat.le_of_ble_eq_true rfl⟩

def fJ0_coder_7d493 (si : Nat) : Option (Int32) :=
  ck (si < 11) (some (0 : Int32))
set_option maxHeartbeats 4000000 in
set_option maxRecDepth 100000 in
theorem c_J0_coder_7d493 (l : Launch) (G : Nat → Nat) (D : va_G) (cA : Nat → ClassId) (sz : Nat) (si : Nat) (rR : Int32) (h : fJ0_coder_7d493 si = some rR) : Met l yJ0_coder_7d493 wsJ0_coder_7d493 ({ frames := 0, cells := 0, slots := 0, locals := 0 } : Room) (PW G D (tyC cA) sz (wE) [.ref (G si)]) (QI D (tyC cA) (va_A (wE) sz) rR (wE)) 0 0 (va_A (wE) sz) := by
  refine ent (cc := cJ0_coder_7d493) (maxL := 1) (ret := (some .byte)) (fun A => QI D (tyC cA) A rR (wE)) (by decide +kernel) rfl (Nat.le_of_ble_eq_true rfl) ?_
  intro p e s m args below meth c A ls H hx hb hml hr hlk hts hown hA hK hE hP hD hS hv hmm
  have hv : lv_has ls 1 [(0, .ref (G si))] := hv
  have w_0 := hts (.fieldLink RJ0 38 "java/lang/String" "COMPACT_STRINGS" "Z") (List.mem_of_getElem? (i := 1) rfl)
  have w_1 := hts (.fieldLink RJ0 15 "java/lang/String" "coder" "B") (List.mem_of_getElem? (i := 2) rfl)
  generalize hQ : MQ below _ args s 0 0 A = Q
  have hP : va_P D vwCl (wE) H := hP
  unfold fJ0_coder_7d493 at h
  refine va_gets hx hb hE.2.2.2.2.2 hS hown w_0 (fun _ h9 => h9) dJ0_coder_7d493_0 ?_
  refine lv_if_eq (tgt := 13) hx hb dJ0_coder_7d493_3 (by decide) (fun c_1 => absurd c_1 (by decide)) (fun _ => ?_)
  refine lv_aload_n hx hb dJ0_coder_7d493_6 rfl (lv_at hv 0 rfl) ?_
  obtain ⟨c_2, h⟩ := ck_ex h
  refine vk_getf (v := .int (0 : Int32)) hx hb (hE.2.1.1 si c_2).2.1 hS hown w_1 (fun _ h9 => h9) dJ0_coder_7d493_7 ?_
  refine lv_goto (tgt := 14) hx hb dJ0_coder_7d493_10 (by decide) ?_
  have h := Option.some.inj h
  have ee0 : (0 : Int32) = rR := congrArg (fun q => q) h
  subst ee0
  rw [← hQ]
  exact retB rfl hx hb hr hlk hK hP hD hS dJ0_coder_7d493_14 ⟨Nat.le_of_ble_eq_true rfl, Nat.le_of_ble_eq_true rfl⟩

def fJ0_length_8abf5 (si : Nat) : Option (Int32) :=
  ck (si < 11) (ck (si < 11) (ck (si < 11) (bd (fJ0_coder_7d493 si) fun r_4 => some ((nI (slen.getD si 0)) >>> (r_4 &&& 31)))))
set_option maxHeartbeats 4000000 in
set_option maxRecDepth 100000 in
theorem c_J0_length_8abf5 (l : Launch) (G : Nat → Nat) (D : va_G) (cA : Nat → ClassId) (sz : Nat) (si : Nat) (rR : Int32) (h : fJ0_length_8abf5 si = some rR) : Met l yJ0_length_8abf5 wsJ0_length_8abf5 ({ frames := 1, cells := 0, slots := 0, locals := 20 } : Room) (PW G D (tyC cA) sz (wE) [.ref (G si)]) (QI D (tyC cA) (va_A (wE) sz) rR (wE)) 0 0 (va_A (wE) sz) := by
  refine ent (cc := cJ0_length_8abf5) (maxL := 1) (ret := (some .int)) (fun A => QI D (tyC cA) A rR (wE)) (by decide +kernel) rfl (Nat.le_of_ble_eq_true rfl) ?_
  intro p e s m args below meth c A ls H hx hb hml hr hlk hts hown hA hK hE hP hD hS hv hmm
  have hv : lv_has ls 1 [(0, .ref (G si))] := hv
  have w_0 := hts (.fieldLink RJ0 9 "java/lang/String" "value" "[B") (List.mem_of_getElem? (i := 1) rfl)
  generalize hQ : MQ below _ args s 0 0 A = Q
  have hP : va_P D vwCl (wE) H := hP
  unfold fJ0_length_8abf5 at h
  refine lv_aload_n hx hb dJ0_length_8abf5_0 rfl (lv_at hv 0 rfl) ?_
  obtain ⟨c_1, h⟩ := ck_ex h
  refine vk_getf (v := .ref (G (11 + si))) hx hb (hE.2.1.1 si c_1).2.2.1 hS hown w_0 (fun _ h9 => h9) dJ0_length_8abf5_1 ?_
  obtain ⟨c_2, h⟩ := ck_ex h
  refine va_tlen (v := (nI (slen.getD si 0))) hx hb (hE.2.1.1 si c_2).2.2.2 hS rfl dJ0_length_8abf5_4 ?_
  refine lv_aload_n hx hb dJ0_length_8abf5_5 rfl (lv_at hv 0 rfl) ?_
  obtain ⟨c_3, h⟩ := ck_ex h
  obtain ⟨r_4, hf_5, h⟩ := bd_ex h
  have sb := Sb.nil hP hD hS hA
  refine calI (va_runV (As := []) (rest := [.int (nI (slen.getD si 0))]) ⟨hx, hb, hml, hown, hts⟩ (c_J0_coder_7d493 l G D cA  _ si r_4 hf_5) (cwV 0 hts gJ0_length_8abf5_J0_coder_7d493 rfl rfl rfl (by decide +kernel) ⟨Nat.le_of_ble_eq_true rfl, Nat.le_of_ble_eq_true rfl⟩) (pvV hE hK hS sb (vk_recv hE.2.1 c_3 hS)) rfl rfl hv.1 rfl (lv_room (Nat.le_of_ble_eq_true rfl)) dJ0_length_8abf5_6 ⟨Nat.le_of_ble_eq_true rfl, Nat.le_of_ble_eq_true rfl⟩) hS sb (Jn.nil hP hD) (fun H locs hP hD hS => ?_)
  have hP : va_P D vwCl (wE) H := hP
  have hD : va_D A (wE) := hD
  refine lv_ishr hx hb dJ0_length_8abf5_9 ?_
  have h := Option.some.inj h
  have ee0 : ((nI (slen.getD si 0)) >>> (r_4 &&& 31)) = rR := congrArg (fun q => q) h
  subst ee0
  rw [← hQ]
  exact retI hx hb hr hlk hK hP hD hS dJ0_length_8abf5_10 ⟨Nat.le_of_ble_eq_true rfl, Nat.le_of_ble_eq_true rfl⟩

def fJ1_canEncode_9a6ad (v : Int32) : Option (Int32) :=
  (if v < 0 then some (0 : Int32) else (if (255 : Int32) < v then some (0 : Int32) else some (1 : Int32)))
set_option maxHeartbeats 4000000 in
set_option maxRecDepth 100000 in
theorem c_J1_canEncode_9a6ad (l : Launch) (G : Nat → Nat) (D : va_G) (cA : Nat → ClassId) (sz : Nat) (v : Int32) (rR : Int32) (h : fJ1_canEncode_9a6ad v = some rR) : Met l yJ1_canEncode_9a6ad wsJ1_canEncode_9a6ad ({ frames := 0, cells := 0, slots := 0, locals := 0 } : Room) (PW G D (tyC cA) sz (wE) [.int v]) (QI D (tyC cA) (va_A (wE) sz) rR (wE)) 0 0 (va_A (wE) sz) := by
  refine ent (cc := cJ1_canEncode_9a6ad) (maxL := 1) (ret := (some .boolean)) (fun A => QI D (tyC cA) A rR (wE)) (by decide +kernel) rfl (Nat.le_of_ble_eq_true rfl) ?_
  intro p e s m args below meth c A ls H hx hb hml hr hlk hts hown hA hK hE hP hD hS hv hmm
  have hv : lv_has ls 1 [(0, .int v)] := hv
  generalize hQ : MQ below _ args s 0 0 A = Q
  have hP : va_P D vwCl (wE) H := hP
  unfold fJ1_canEncode_9a6ad at h
  refine lv_iload_n hx hb dJ1_canEncode_9a6ad_0 rfl (lv_at hv 0 rfl) ?_
  refine lv_if_lt (tgt := 15) hx hb dJ1_canEncode_9a6ad_1 (by decide) (fun c_1 => ?_) (fun c_1 => ?_)
  · have h := ite_t c_1 h
    refine lv_iconst (v := (0 : Int32)) hx hb dJ1_canEncode_9a6ad_15 (by decide) ?_
    have h := Option.some.inj h
    have ee0 : (0 : Int32) = rR := congrArg (fun q => q) h
    subst ee0
    rw [← hQ]
    exact retZ (by decide) hx hb hr hlk hK hP hD hS dJ1_canEncode_9a6ad_16 ⟨Nat.le_of_ble_eq_true rfl, Nat.le_of_ble_eq_true rfl⟩
  · have h := ite_f c_1 h
    refine lv_iload_n hx hb dJ1_canEncode_9a6ad_4 rfl (lv_at hv 0 rfl) ?_
    refine lv_sipush (v := (255 : Int32)) hx hb dJ1_canEncode_9a6ad_5 (by decide) ?_
    refine lv_icmp_gt (tgt := 15) hx hb dJ1_canEncode_9a6ad_8 (by decide) (fun c_2 => ?_) (fun c_2 => ?_)
    · have h := ite_t c_2 h
      refine lv_iconst (v := (0 : Int32)) hx hb dJ1_canEncode_9a6ad_15 (by decide) ?_
      have h := Option.some.inj h
      have ee0 : (0 : Int32) = rR := congrArg (fun q => q) h
      subst ee0
      rw [← hQ]
      exact retZ (by decide) hx hb hr hlk hK hP hD hS dJ1_canEncode_9a6ad_16 ⟨Nat.le_of_ble_eq_true rfl, Nat.le_of_ble_eq_true rfl⟩
    · have h := ite_f c_2 h
      refine lv_iconst (v := (1 : Int32)) hx hb dJ1_canEncode_9a6ad_11 (by decide) ?_
      refine lv_goto (tgt := 16) hx hb dJ1_canEncode_9a6ad_12 (by decide) ?_
      have h := Option.some.inj h
      have ee0 : (1 : Int32) = rR := congrArg (fun q => q) h
      subst ee0
      rw [← hQ]
      exact retZ (by decide) hx hb hr hlk hK hP hD hS dJ1_canEncode_9a6ad_16 ⟨Nat.le_of_ble_eq_true rfl, Nat.le_of_ble_eq_true rfl⟩

def fJ1_indexOfChar_4cfef_7B (si : Nat) (v3_7 : Int32) (v4_7 : Int32) (v5_7b : Int32) : Option ((Int32) ⊕ ((Int32) ⊕ (Int32))) :=
  (if v3_7 ≤ v5_7b then some (.inr (.inl v5_7b)) else ck (si < 11) (ckI v5_7b (slen.getD si 0) ((if ((sbyt.getD si []).getD (v5_7b).toNatClampNeg 0) = v4_7 then some (.inr (.inr v5_7b)) else bnd (v5_7b + (1 : Int32)) fun y_6 => some (.inl y_6)))))
def fJ1_indexOfChar_4cfef_7 (si : Nat) (v3_7 : Int32) (v4_7 : Int32) (v5_7 : Int32) : Option (Int32) :=
  bd (lp (fun σ : Int32 => fJ1_indexOfChar_4cfef_7B si v3_7 v4_7 σ) FU v5_7) fun ρ => match ρ with | .inl v5_7r => some (-1 : Int32) | .inr q => some q
def fJ1_indexOfChar_4cfef (si : Nat) (v : Int32) (i : Int32) (n : Int32) : Option (Int32) :=
  bnd ((v).toInt8.toInt32) fun y_1 => fJ1_indexOfChar_4cfef_7 si n y_1 i
set_option maxHeartbeats 4000000 in
set_option maxRecDepth 100000 in
theorem c_J1_indexOfChar_4cfef (l : Launch) (G : Nat → Nat) (D : va_G) (cA : Nat → ClassId) (sz : Nat) (si : Nat) (v : Int32) (i : Int32) (n : Int32) (rR : Int32) (h : fJ1_indexOfChar_4cfef si v i n = some rR) : Met l yJ1_indexOfChar_4cfef wsJ1_indexOfChar_4cfef ({ frames := 0, cells := 0, slots := 0, locals := 0 } : Room) (PW G D (tyC cA) sz (wE) [.ref (G (11 + si)), .int v, .int i, .int n]) (QI D (tyC cA) (va_A (wE) sz) rR (wE)) 0 0 (va_A (wE) sz) := by
  refine ent (cc := cJ1_indexOfChar_4cfef) (maxL := 6) (ret := (some .int)) (fun A => QI D (tyC cA) A rR (wE)) (by decide +kernel) rfl (Nat.le_of_ble_eq_true rfl) ?_
  intro p e s m args below meth c A ls H hx hb hml hr hlk hts hown hA hK hE hP hD hS hv hmm
  have hv : lv_has ls 6 [(0, .ref (G (11 + si))), (1, .int v), (2, .int i), (3, .int n)] := hv
  generalize hQ : MQ below _ args s 0 0 A = Q
  have C_7 : ∀ (v3_7 : Int32) (v4_7 : Int32) (v5_7 : Int32), fJ1_indexOfChar_4cfef_7 si v3_7 v4_7 v5_7 = some rR → WW p l e ({ frames := 0, cells := 0, slots := 0, locals := 0 } : Room) s m args below meth c D A 0 0 Q (wE) 6 [(0, .ref (G (11 + si))), (3, .int v3_7), (4, .int v4_7), (5, .int v5_7)] 7 [] := by
    intro v3_7 v4_7 v5_7 h
    unfold fJ1_indexOfChar_4cfef_7 at h
    obtain ⟨ρ, ho, h⟩ := bd_ex h
    have LR : ∀ q, ρ = .inr q → q = rR := by intro q e; subst e; exact Option.some.inj h
    have LE : ∀ (v5_7r : Int32), ρ = .inl v5_7r → WW p l e ({ frames := 0, cells := 0, slots := 0, locals := 0 } : Room) s m args below meth c D A 0 0 Q (wE) 6 [] 31 [] := by
      intro v5_7r e
      subst e
      intro H locs ls hP hD hS hv
      refine lv_iconst (v := (-1 : Int32)) hx hb dJ1_indexOfChar_4cfef_31 (by decide) ?_
      have h := Option.some.inj h
      have ee0 : (-1 : Int32) = rR := congrArg (fun q => q) h
      subst ee0
      rw [← hQ]
      exact retI hx hb hr hlk hK hP hD hS dJ1_indexOfChar_4cfef_32 ⟨Nat.le_of_ble_eq_true rfl, Nat.le_of_ble_eq_true rfl⟩
    have LB : ∀ (nf : Nat) (v5_7b : Int32), lp (fun σ : Int32 => fJ1_indexOfChar_4cfef_7B si v3_7 v4_7 σ) nf v5_7b = some ρ → WW p l e ({ frames := 0, cells := 0, slots := 0, locals := 0 } : Room) s m args below meth c D A 0 0 Q (wE) 6 [(0, .ref (G (11 + si))), (3, .int v3_7), (4, .int v4_7), (5, .int v5_7b)] 7 [] := by
      intro nf
      induction nf with
      | zero => intro v5_7b hl; cases hl
      | succ nf ih =>
        intro v5_7b hl
        obtain ⟨x, h, hl⟩ := lp_ex hl
        have h : fJ1_indexOfChar_4cfef_7B si v3_7 v4_7 v5_7b = some x := h
        unfold fJ1_indexOfChar_4cfef_7B at h
        intro H locs ls hP hD hS hv
        refine lv_iload hx hb dJ1_indexOfChar_4cfef_7 (lv_at hv 3 rfl) ?_
        refine lv_iload_n hx hb dJ1_indexOfChar_4cfef_9 rfl (lv_at hv 1 rfl) ?_
        refine lv_icmp_ge (tgt := 31) hx hb dJ1_indexOfChar_4cfef_10 (by decide) (fun c_2 => ?_) (fun c_2 => ?_)
        · have h := ite_t c_2 h
          cases h
          have hl : some (Sum.inl v5_7b) = some ρ := hl
          cases hl
          exact LE _ rfl _ _ _ hP hD hS (lv_sub hv [] rfl)
        · have h := ite_f c_2 h
          refine lv_aload_n hx hb dJ1_indexOfChar_4cfef_13 rfl (lv_at hv 0 rfl) ?_
          refine lv_iload hx hb dJ1_indexOfChar_4cfef_14 (lv_at hv 3 rfl) ?_
          obtain ⟨c_3, h⟩ := ck_ex h
          obtain ⟨c_4, h⟩ := ckI_ex h
          refine va_tb (v := .int ((sbyt.getD si []).getD (v5_7b).toNatClampNeg 0)) hx hb (hE.2.1.1 si c_3).2.2.2 hS c_4 rfl dJ1_indexOfChar_4cfef_16 ?_
          refine lv_iload hx hb dJ1_indexOfChar_4cfef_17 (lv_at hv 2 rfl) ?_
          refine lv_icmp_ne (tgt := 25) hx hb dJ1_indexOfChar_4cfef_19 (by decide) (fun c_5 => ?_) (fun c_5 => ?_)
          · have h := ite_f c_5 h
            obtain ⟨y_6, ey_6, h⟩ := bnd_ex h
            refine lv_iinc (v := y_6) (lv' := [(5, .int y_6), (0, .ref (G (11 + si))), (3, .int v3_7), (4, .int v4_7)]) hx hb dJ1_indexOfChar_4cfef_25 hv (k := 3) rfl (by rw [ey_6]; rfl) (by decide) rfl (fun ls hv => ?_)
            refine lv_goto (tgt := 7) hx hb dJ1_indexOfChar_4cfef_28 (by decide) ?_
            cases h
            exact ih y_6 hl _ _ _ hP hD hS (lv_sub hv [1, 2, 3, 0] rfl)
          · have h := ite_t c_5 h
            refine lv_iload hx hb dJ1_indexOfChar_4cfef_22 (lv_at hv 3 rfl) ?_
            cases h
            have hl : some (Sum.inr v5_7b) = some ρ := hl
            cases hl
            have h := LR _ rfl
            have ee0 : v5_7b = rR := congrArg (fun q => q) h
            subst ee0
            rw [← hQ]
            exact retI hx hb hr hlk hK hP hD hS dJ1_indexOfChar_4cfef_24 ⟨Nat.le_of_ble_eq_true rfl, Nat.le_of_ble_eq_true rfl⟩
    exact LB FU v5_7 ho
  have hP : va_P D vwCl (wE) H := hP
  unfold fJ1_indexOfChar_4cfef at h
  refine lv_iload_n hx hb dJ1_indexOfChar_4cfef_0 rfl (lv_at hv 1 rfl) ?_
  refine lv_i2b (v := (v).toInt8.toInt32) hx hb dJ1_indexOfChar_4cfef_1 rfl ?_
  obtain ⟨y_1, ey_1, h⟩ := bnd_ex h
  refine lv_nm ey_1 ?_
  refine lv_istore (lv' := [(4, .int y_1), (0, .ref (G (11 + si))), (1, .int v), (2, .int i), (3, .int n)]) hx hb dJ1_indexOfChar_4cfef_2 hv (by decide) rfl (fun ls hv => ?_)
  refine lv_iload_n hx hb dJ1_indexOfChar_4cfef_4 rfl (lv_at hv 3 rfl) ?_
  refine lv_istore (lv' := [(5, .int i), (4, .int y_1), (0, .ref (G (11 + si))), (1, .int v), (2, .int i), (3, .int n)]) hx hb dJ1_indexOfChar_4cfef_5 hv (by decide) rfl (fun ls hv => ?_)
  exact C_7 n y_1 i h _ _ _ hP hD hS (lv_sub hv [2, 5, 1, 0] rfl)

def fJ1_indexOf_4cfef (si : Nat) (v : Int32) (i : Int32) (n : Int32) : Option (Int32) :=
  bd (fJ1_canEncode_9a6ad v) fun r_1 => (if r_1 = 0 then some (-1 : Int32) else bnd (jmax i (0 : Int32)) fun y_4 => ck (si < 11) (bnd (jmin n (nI (slen.getD si 0))) fun y_6 => (if y_4 < y_6 then bd (fJ1_indexOfChar_4cfef si v y_4 y_6) fun r_8 => some r_8 else some (-1 : Int32))))
set_option maxHeartbeats 4000000 in
set_option maxRecDepth 100000 in
theorem c_J1_indexOf_4cfef (l : Launch) (G : Nat → Nat) (D : va_G) (cA : Nat → ClassId) (sz : Nat) (si : Nat) (v : Int32) (i : Int32) (n : Int32) (rR : Int32) (h : fJ1_indexOf_4cfef si v i n = some rR) : Met l yJ1_indexOf_4cfef wsJ1_indexOf_4cfef ({ frames := 1, cells := 0, slots := 0, locals := 30 } : Room) (PW G D (tyC cA) sz (wE) [.ref (G (11 + si)), .int v, .int i, .int n]) (QI D (tyC cA) (va_A (wE) sz) rR (wE)) 0 0 (va_A (wE) sz) := by
  refine ent (cc := cJ1_indexOf_4cfef) (maxL := 4) (ret := (some .int)) (fun A => QI D (tyC cA) A rR (wE)) (by decide +kernel) rfl (Nat.le_of_ble_eq_true rfl) ?_
  intro p e s m args below meth c A ls H hx hb hml hr hlk hts hown hA hK hE hP hD hS hv hmm
  have hv : lv_has ls 4 [(0, .ref (G (11 + si))), (1, .int v), (2, .int i), (3, .int n)] := hv
  have w_0 := hts (.methodLink RJ1 92 Lib.Math.max.name) (List.mem_of_getElem? (i := 1) rfl)
  have w_1 := hts (.static Lib.Math.max.name) (List.mem_of_getElem? (i := 2) rfl)
  have w_2 := hts (.initialized "java/lang/Math") (List.mem_of_getElem? (i := 3) rfl)
  have w_3 := hts (.code Lib.Math.max.name Lib.Math.max.code 2 (some .int)) (List.mem_of_getElem? (i := 4) rfl)
  have w_4 := hts (.methodLink RJ1 38 Lib.Math.min.name) (List.mem_of_getElem? (i := 5) rfl)
  have w_5 := hts (.static Lib.Math.min.name) (List.mem_of_getElem? (i := 6) rfl)
  have w_6 := hts (.code Lib.Math.min.name Lib.Math.min.code 2 (some .int)) (List.mem_of_getElem? (i := 7) rfl)
  generalize hQ : MQ below _ args s 0 0 A = Q
  have hP : va_P D vwCl (wE) H := hP
  unfold fJ1_indexOf_4cfef at h
  refine lv_iload_n hx hb dJ1_indexOf_4cfef_0 rfl (lv_at hv 1 rfl) ?_
  obtain ⟨r_1, hf_2, h⟩ := bd_ex h
  have sb := Sb.nil hP hD hS hA
  refine calI (va_runS (As := [.int v]) (rest := []) ⟨hx, hb, hml, hown, hts⟩ (c_J1_canEncode_9a6ad l G D cA  _ v r_1 hf_2) (va_cwS 1 hts gJ1_indexOf_4cfef_J1_canEncode_9a6ad rfl rfl rfl (by decide +kernel) ⟨Nat.le_of_ble_eq_true rfl, Nat.le_of_ble_eq_true rfl⟩) (pvS hE hK hS sb) rfl rfl hv.1 rfl (lv_room (Nat.le_of_ble_eq_true rfl)) dJ1_indexOf_4cfef_1 ⟨Nat.le_of_ble_eq_true rfl, Nat.le_of_ble_eq_true rfl⟩) hS sb (Jn.nil hP hD) (fun H locs hP hD hS => ?_)
  have hP : va_P D vwCl (wE) H := hP
  have hD : va_D A (wE) := hD
  refine lv_if_ne (tgt := 9) hx hb dJ1_indexOf_4cfef_4 (by decide) (fun c_3 => ?_) (fun c_3 => ?_)
  · have h := ite_f c_3 h
    refine lv_iload_n hx hb dJ1_indexOf_4cfef_9 rfl (lv_at hv 2 rfl) ?_
    refine lv_iconst (v := (0 : Int32)) hx hb dJ1_indexOf_4cfef_10 (by decide) ?_
    refine va_mmax hx hb (hml.trans hv.1.symm) hown w_0 w_1 w_2 w_3 (Nat.le_of_ble_eq_true rfl) (Nat.le_of_ble_eq_true rfl) (Nat.le_of_ble_eq_true rfl) (Nat.le_of_ble_eq_true rfl) dJ1_indexOf_4cfef_11 ?_
    obtain ⟨y_4, ey_4, h⟩ := bnd_ex h
    refine lv_nm ey_4 ?_
    refine lv_istore_n (lv' := [(2, .int y_4), (0, .ref (G (11 + si))), (1, .int v), (3, .int n)]) hx hb dJ1_indexOf_4cfef_14 rfl hv (by decide) rfl (fun ls hv => ?_)
    refine lv_iload_n hx hb dJ1_indexOf_4cfef_15 rfl (lv_at hv 3 rfl) ?_
    refine lv_aload_n hx hb dJ1_indexOf_4cfef_16 rfl (lv_at hv 1 rfl) ?_
    obtain ⟨c_5, h⟩ := ck_ex h
    refine va_tlen (v := (nI (slen.getD si 0))) hx hb (hE.2.1.1 si c_5).2.2.2 hS rfl dJ1_indexOf_4cfef_17 ?_
    refine va_mmin hx hb (hml.trans hv.1.symm) hown w_4 w_5 w_2 w_6 (Nat.le_of_ble_eq_true rfl) (Nat.le_of_ble_eq_true rfl) (Nat.le_of_ble_eq_true rfl) (Nat.le_of_ble_eq_true rfl) dJ1_indexOf_4cfef_18 ?_
    obtain ⟨y_6, ey_6, h⟩ := bnd_ex h
    refine lv_nm ey_6 ?_
    refine lv_istore_n (lv' := [(3, .int y_6), (2, .int y_4), (0, .ref (G (11 + si))), (1, .int v)]) hx hb dJ1_indexOf_4cfef_21 rfl hv (by decide) rfl (fun ls hv => ?_)
    refine lv_iload_n hx hb dJ1_indexOf_4cfef_22 rfl (lv_at hv 1 rfl) ?_
    refine lv_iload_n hx hb dJ1_indexOf_4cfef_23 rfl (lv_at hv 0 rfl) ?_
    refine lv_icmp_lt (tgt := 29) hx hb dJ1_indexOf_4cfef_24 (by decide) (fun c_7 => ?_) (fun c_7 => ?_)
    · have h := ite_t c_7 h
      refine lv_aload_n hx hb dJ1_indexOf_4cfef_29 rfl (lv_at hv 2 rfl) ?_
      refine lv_iload_n hx hb dJ1_indexOf_4cfef_30 rfl (lv_at hv 3 rfl) ?_
      refine lv_iload_n hx hb dJ1_indexOf_4cfef_31 rfl (lv_at hv 1 rfl) ?_
      refine lv_iload_n hx hb dJ1_indexOf_4cfef_32 rfl (lv_at hv 0 rfl) ?_
      obtain ⟨r_8, hf_9, h⟩ := bd_ex h
      have sb := Sb.nil hP hD hS hA
      refine calI (va_runS (As := [.ref (G (11 + si)), .int v, .int y_4, .int y_6]) (rest := []) ⟨hx, hb, hml, hown, hts⟩ (c_J1_indexOfChar_4cfef l G D cA  _ si v y_4 y_6 r_8 hf_9) (va_cwS 4 hts gJ1_indexOf_4cfef_J1_indexOfChar_4cfef rfl rfl rfl (by decide +kernel) ⟨Nat.le_of_ble_eq_true rfl, Nat.le_of_ble_eq_true rfl⟩) (pvS hE hK hS sb) rfl rfl hv.1 rfl (lv_room (Nat.le_of_ble_eq_true rfl)) dJ1_indexOf_4cfef_33 ⟨Nat.le_of_ble_eq_true rfl, Nat.le_of_ble_eq_true rfl⟩) hS sb (Jn.nil hP hD) (fun H locs hP hD hS => ?_)
      have hP : va_P D vwCl (wE) H := hP
      have hD : va_D A (wE) := hD
      have h := Option.some.inj h
      have ee0 : r_8 = rR := congrArg (fun q => q) h
      subst ee0
      rw [← hQ]
      exact retI hx hb hr hlk hK hP hD hS dJ1_indexOf_4cfef_36 ⟨Nat.le_of_ble_eq_true rfl, Nat.le_of_ble_eq_true rfl⟩
    · have h := ite_f c_7 h
      refine lv_iconst (v := (-1 : Int32)) hx hb dJ1_indexOf_4cfef_27 (by decide) ?_
      have h := Option.some.inj h
      have ee0 : (-1 : Int32) = rR := congrArg (fun q => q) h
      subst ee0
      rw [← hQ]
      exact retI hx hb hr hlk hK hP hD hS dJ1_indexOf_4cfef_28 ⟨Nat.le_of_ble_eq_true rfl, Nat.le_of_ble_eq_true rfl⟩
  · have h := ite_t c_3 h
    refine lv_iconst (v := (-1 : Int32)) hx hb dJ1_indexOf_4cfef_7 (by decide) ?_
    have h := Option.some.inj h
    have ee0 : (-1 : Int32) = rR := congrArg (fun q => q) h
    subst ee0
    rw [← hQ]
    exact retI hx hb hr hlk hK hP hD hS dJ1_indexOf_4cfef_8 ⟨Nat.le_of_ble_eq_true rfl, Nat.le_of_ble_eq_true rfl⟩

def fJ0_indexOf_7cf53 (si : Nat) (v : Int32) (i : Int32) : Option (Int32) :=
  ck (si < 11) (bd (fJ0_isLatin1_aae02 si) fun r_2 => (if r_2 = 0 then none else ck (si < 11) (ck (si < 11) (bd (fJ0_length_8abf5 si) fun r_7 => bd (fJ1_indexOf_4cfef si v i r_7) fun r_9 => some r_9))))
set_option maxHeartbeats 4000000 in
set_option maxRecDepth 100000 in
theorem c_J0_indexOf_7cf53 (l : Launch) (G : Nat → Nat) (D : va_G) (cA : Nat → ClassId) (sz : Nat) (si : Nat) (v : Int32) (i : Int32) (rR : Int32) (h : fJ0_indexOf_7cf53 si v i = some rR) : Met l yJ0_indexOf_7cf53 wsJ0_indexOf_7cf53 ({ frames := 2, cells := 0, slots := 0, locals := 53 } : Room) (PW G D (tyC cA) sz (wE) [.ref (G si), .int v, .int i]) (QI D (tyC cA) (va_A (wE) sz) rR (wE)) 0 0 (va_A (wE) sz) := by
  refine ent (cc := cJ0_indexOf_7cf53) (maxL := 3) (ret := (some .int)) (fun A => QI D (tyC cA) A rR (wE)) (by decide +kernel) rfl (Nat.le_of_ble_eq_true rfl) ?_
  intro p e s m args below meth c A ls H hx hb hml hr hlk hts hown hA hK hE hP hD hS hv hmm
  have hv : lv_has ls 3 [(0, .ref (G si)), (1, .int v), (2, .int i)] := hv
  have w_0 := hts (.fieldLink RJ0 9 "java/lang/String" "value" "[B") (List.mem_of_getElem? (i := 1) rfl)
  generalize hQ : MQ below _ args s 0 0 A = Q
  have hP : va_P D vwCl (wE) H := hP
  unfold fJ0_indexOf_7cf53 at h
  refine lv_aload_n hx hb dJ0_indexOf_7cf53_0 rfl (lv_at hv 0 rfl) ?_
  obtain ⟨c_1, h⟩ := ck_ex h
  obtain ⟨r_2, hf_3, h⟩ := bd_ex h
  have sb := Sb.nil hP hD hS hA
  refine calI (va_runV (As := []) (rest := []) ⟨hx, hb, hml, hown, hts⟩ (c_J0_isLatin1_aae02 l G D cA  _ si r_2 hf_3) (cwV 0 hts gJ0_indexOf_7cf53_J0_isLatin1_aae02 rfl rfl rfl (by decide +kernel) ⟨Nat.le_of_ble_eq_true rfl, Nat.le_of_ble_eq_true rfl⟩) (pvV hE hK hS sb (vk_recv hE.2.1 c_1 hS)) rfl rfl hv.1 rfl (lv_room (Nat.le_of_ble_eq_true rfl)) dJ0_indexOf_7cf53_1 ⟨Nat.le_of_ble_eq_true rfl, Nat.le_of_ble_eq_true rfl⟩) hS sb (Jn.nil hP hD) (fun H locs hP hD hS => ?_)
  have hP : va_P D vwCl (wE) H := hP
  have hD : va_D A (wE) := hD
  refine lv_if_eq (tgt := 23) hx hb dJ0_indexOf_7cf53_4 (by decide) (fun c_4 => ?_) (fun c_4 => ?_)
  · have h := ite_t c_4 h
    cases h
  · have h := ite_f c_4 h
    refine lv_aload_n hx hb dJ0_indexOf_7cf53_7 rfl (lv_at hv 0 rfl) ?_
    obtain ⟨c_5, h⟩ := ck_ex h
    refine vk_getf (v := .ref (G (11 + si))) hx hb (hE.2.1.1 si c_5).2.2.1 hS hown w_0 (fun _ h9 => h9) dJ0_indexOf_7cf53_8 ?_
    refine lv_iload_n hx hb dJ0_indexOf_7cf53_11 rfl (lv_at hv 1 rfl) ?_
    refine lv_iload_n hx hb dJ0_indexOf_7cf53_12 rfl (lv_at hv 2 rfl) ?_
    refine lv_aload_n hx hb dJ0_indexOf_7cf53_13 rfl (lv_at hv 0 rfl) ?_
    obtain ⟨c_6, h⟩ := ck_ex h
    obtain ⟨r_7, hf_8, h⟩ := bd_ex h
    have sb := Sb.nil hP hD hS hA
    refine calI (va_runV (As := []) (rest := [.int i, .int v, .ref (G (11 + si))]) ⟨hx, hb, hml, hown, hts⟩ (c_J0_length_8abf5 l G D cA  _ si r_7 hf_8) (cwV 0 hts gJ0_indexOf_7cf53_J0_length_8abf5 rfl rfl rfl (by decide +kernel) ⟨Nat.le_of_ble_eq_true rfl, Nat.le_of_ble_eq_true rfl⟩) (pvV hE hK hS sb (vk_recv hE.2.1 c_6 hS)) rfl rfl hv.1 rfl (lv_room (Nat.le_of_ble_eq_true rfl)) dJ0_indexOf_7cf53_14 ⟨Nat.le_of_ble_eq_true rfl, Nat.le_of_ble_eq_true rfl⟩) hS sb (Jn.nil hP hD) (fun H locs hP hD hS => ?_)
    have hP : va_P D vwCl (wE) H := hP
    have hD : va_D A (wE) := hD
    obtain ⟨r_9, hf_10, h⟩ := bd_ex h
    have sb := Sb.nil hP hD hS hA
    refine calI (va_runS (As := [.ref (G (11 + si)), .int v, .int i, .int r_7]) (rest := []) ⟨hx, hb, hml, hown, hts⟩ (c_J1_indexOf_4cfef l G D cA  _ si v i r_7 r_9 hf_10) (va_cwS 4 hts gJ0_indexOf_7cf53_J1_indexOf_4cfef rfl rfl rfl (by decide +kernel) ⟨Nat.le_of_ble_eq_true rfl, Nat.le_of_ble_eq_true rfl⟩) (pvS hE hK hS sb) rfl rfl hv.1 rfl (lv_room (Nat.le_of_ble_eq_true rfl)) dJ0_indexOf_7cf53_17 ⟨Nat.le_of_ble_eq_true rfl, Nat.le_of_ble_eq_true rfl⟩) hS sb (Jn.nil hP hD) (fun H locs hP hD hS => ?_)
    have hP : va_P D vwCl (wE) H := hP
    have hD : va_D A (wE) := hD
    refine lv_goto (tgt := 36) hx hb dJ0_indexOf_7cf53_20 (by decide) ?_
    have h := Option.some.inj h
    have ee0 : r_9 = rR := congrArg (fun q => q) h
    subst ee0
    rw [← hQ]
    exact retI hx hb hr hlk hK hP hD hS dJ0_indexOf_7cf53_36 ⟨Nat.le_of_ble_eq_true rfl, Nat.le_of_ble_eq_true rfl⟩

def fJ0_indexOf_0f7a4 (si : Nat) (v : Int32) : Option (Int32) :=
  ck (si < 11) (bd (fJ0_indexOf_7cf53 si v (0 : Int32)) fun r_2 => some r_2)
set_option maxHeartbeats 4000000 in
set_option maxRecDepth 100000 in
theorem c_J0_indexOf_0f7a4 (l : Launch) (G : Nat → Nat) (D : va_G) (cA : Nat → ClassId) (sz : Nat) (si : Nat) (v : Int32) (rR : Int32) (h : fJ0_indexOf_0f7a4 si v = some rR) : Met l yJ0_indexOf_0f7a4 wsJ0_indexOf_0f7a4 ({ frames := 3, cells := 0, slots := 0, locals := 75 } : Room) (PW G D (tyC cA) sz (wE) [.ref (G si), .int v]) (QI D (tyC cA) (va_A (wE) sz) rR (wE)) 0 0 (va_A (wE) sz) := by
  refine ent (cc := cJ0_indexOf_0f7a4) (maxL := 2) (ret := (some .int)) (fun A => QI D (tyC cA) A rR (wE)) (by decide +kernel) rfl (Nat.le_of_ble_eq_true rfl) ?_
  intro p e s m args below meth c A ls H hx hb hml hr hlk hts hown hA hK hE hP hD hS hv hmm
  have hv : lv_has ls 2 [(0, .ref (G si)), (1, .int v)] := hv
  generalize hQ : MQ below _ args s 0 0 A = Q
  have hP : va_P D vwCl (wE) H := hP
  unfold fJ0_indexOf_0f7a4 at h
  refine lv_aload_n hx hb dJ0_indexOf_0f7a4_0 rfl (lv_at hv 0 rfl) ?_
  refine lv_iload_n hx hb dJ0_indexOf_0f7a4_1 rfl (lv_at hv 1 rfl) ?_
  refine lv_iconst (v := (0 : Int32)) hx hb dJ0_indexOf_0f7a4_2 (by decide) ?_
  obtain ⟨c_1, h⟩ := ck_ex h
  obtain ⟨r_2, hf_3, h⟩ := bd_ex h
  have sb := Sb.nil hP hD hS hA
  refine calI (va_runV (As := [.int v, .int (0 : Int32)]) (rest := []) ⟨hx, hb, hml, hown, hts⟩ (c_J0_indexOf_7cf53 l G D cA  _ si v (0 : Int32) r_2 hf_3) (cwV 2 hts gJ0_indexOf_0f7a4_J0_indexOf_7cf53 rfl rfl rfl (by decide +kernel) ⟨Nat.le_of_ble_eq_true rfl, Nat.le_of_ble_eq_true rfl⟩) (pvV hE hK hS sb (vk_recv hE.2.1 c_1 hS)) rfl rfl hv.1 rfl (lv_room (Nat.le_of_ble_eq_true rfl)) dJ0_indexOf_0f7a4_3 ⟨Nat.le_of_ble_eq_true rfl, Nat.le_of_ble_eq_true rfl⟩) hS sb (Jn.nil hP hD) (fun H locs hP hD hS => ?_)
  have hP : va_P D vwCl (wE) H := hP
  have hD : va_D A (wE) := hD
  have h := Option.some.inj h
  have ee0 : r_2 = rR := congrArg (fun q => q) h
  subst ee0
  rw [← hQ]
  exact retI hx hb hr hlk hK hP hD hS dJ0_indexOf_0f7a4_6 ⟨Nat.le_of_ble_eq_true rfl, Nat.le_of_ble_eq_true rfl⟩

