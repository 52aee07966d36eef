def fJ7_fill_53178_5B (n : Nat) (v1_5 : Int32) (v3_5 : Int32) (v2_5b : Int32) (arr_5b : Nat → Int32) : Option ((Int32 × (Nat → Int32)) ⊕ (Int32 × (Nat → Int32))) :=
  (if v3_5 ≤ v2_5b then some (.inr (v2_5b, arr_5b)) else ckI v2_5b n (bnd (upd arr_5b (v2_5b).toNatClampNeg v1_5) fun arr_4 => bnd (v2_5b + (1 : Int32)) fun y_5 => some (.inl (y_5, arr_4))))
def fJ7_fill_53178_5 (n : Nat) (v1_5 : Int32) (v2_5 : Int32) (v3_5 : Int32) (arr_5 : Nat → Int32) : Option ((Nat → Int32)) :=
  bd (lp (fun σ : Int32 × (Nat → Int32) => fJ7_fill_53178_5B n v1_5 v3_5 (σ.1) (σ.2)) FU (v2_5, arr_5)) fun ρ => match ρ with | (v2_5r, arr_5r) => some arr_5r
def fJ7_fill_53178 (n : Nat) (v : Int32) (arr : Nat → Int32) : Option ((Nat → Int32)) :=
  bnd (nI n) fun y_1 => fJ7_fill_53178_5 n v (0 : Int32) y_1 arr
set_option maxHeartbeats 4000000 in
set_option maxRecDepth 100000 in
theorem c_J7_fill_53178 (l : Launch) (G : Nat → Nat) (D : va_G) (cA : Nat → ClassId) (a : Nat) (n : Nat) (sz : Nat) (arr : Nat → Int32) (v : Int32) (arrR : Nat → Int32) (h : fJ7_fill_53178 n v arr = some arrR) : Met l yJ7_fill_53178 wsJ7_fill_53178 ({ frames := 0, cells := 0, slots := 0, locals := 0 } : Room) (PW G D (tyC cA) sz (wA cA a n arr) [.ref a, .int v]) (QV D (tyC cA) (va_A (wA cA a n arr) sz) (wA cA a n arrR)) 0 0 (va_A (wA cA a n arr) sz) := by
  refine ent (cc := cJ7_fill_53178) (maxL := 4) (ret := none) (fun A => QV D (tyC cA) A (wA cA a n arrR)) (by decide +kernel) rfl (Nat.le_of_ble_eq_true rfl) ?_
  intro p e s m args below meth c A ls H hx hb hml hr hlk hts hown hA hK hE hP hD hS hv hmm
  have hv : lv_has ls 4 [(0, .ref a), (1, .int v)] := hv
  generalize hQ : MQ below _ args s 0 0 A = Q
  have C_5 : ∀ (v1_5 : Int32) (v2_5 : Int32) (v3_5 : Int32) (arr_5 : Nat → Int32), fJ7_fill_53178_5 n v1_5 v2_5 v3_5 arr_5 = some arrR → WW p l e ({ frames := 0, cells := 0, slots := 0, locals := 0 } : Room) s m args below meth c D A 0 0 Q (wA cA a n arr_5) 4 [(0, .ref a), (1, .int v1_5), (2, .int v2_5), (3, .int v3_5)] 5 [] := by
    intro v1_5 v2_5 v3_5 arr_5 h
    unfold fJ7_fill_53178_5 at h
    obtain ⟨⟨v2_5r, arr_5r⟩, ho, h⟩ := bd_ex h
    have LE : WW p l e ({ frames := 0, cells := 0, slots := 0, locals := 0 } : Room) s m args below meth c D A 0 0 Q (wA cA a n arr_5r) 4 [] 20 [] := by
      intro H locs ls hP hD hS hv
      have h := Option.some.inj h
      have ee0 : arr_5r = arrR := congrArg (fun q => q) h
      subst ee0
      rw [← hQ]
      exact retV hx hb hr hlk hK hP hD hS dJ7_fill_53178_20 ⟨Nat.le_of_ble_eq_true rfl, Nat.le_of_ble_eq_true rfl⟩
    have LB : ∀ (nf : Nat) (v2_5b : Int32) (arr_5b : Nat → Int32), lp (fun σ : Int32 × (Nat → Int32) => fJ7_fill_53178_5B n v1_5 v3_5 (σ.1) (σ.2)) nf (v2_5b, arr_5b) = some (v2_5r, arr_5r) → WW p l e ({ frames := 0, cells := 0, slots := 0, locals := 0 } : Room) s m args below meth c D A 0 0 Q (wA cA a n arr_5b) 4 [(0, .ref a), (1, .int v1_5), (2, .int v2_5b), (3, .int v3_5)] 5 [] := by
      intro nf
      induction nf with
      | zero => intro v2_5b arr_5b hl; cases hl
      | succ nf ih =>
        intro v2_5b arr_5b hl
        obtain ⟨x, h, hl⟩ := lp_ex hl
        have h : fJ7_fill_53178_5B n v1_5 v3_5 v2_5b arr_5b = some x := h
        unfold fJ7_fill_53178_5B at h
        intro H locs ls hP hD hS hv
        refine lv_iload_n hx hb dJ7_fill_53178_5 rfl (lv_at hv 2 rfl) ?_
        refine lv_iload_n hx hb dJ7_fill_53178_6 rfl (lv_at hv 3 rfl) ?_
        refine lv_icmp_ge (tgt := 20) hx hb dJ7_fill_53178_7 (by decide) (fun c_2 => ?_) (fun c_2 => ?_)
        · have h := ite_t c_2 h
          cases h
          have hl : some (v2_5b, arr_5b) = some (v2_5r, arr_5r) := hl
          have hl := Option.some.inj hl
          have ee0 : v2_5b = v2_5r := congrArg (fun q => q.1) hl
          have ee1 : arr_5b = arr_5r := congrArg (fun q => q.2) hl
          subst ee0
          subst ee1
          exact LE _ _ _ hP hD hS (lv_sub hv [] rfl)
        · have h := ite_f c_2 h
          refine lv_aload_n hx hb dJ7_fill_53178_10 rfl (lv_at hv 0 rfl) ?_
          refine lv_iload_n hx hb dJ7_fill_53178_11 rfl (lv_at hv 2 rfl) ?_
          refine lv_iload_n hx hb dJ7_fill_53178_12 rfl (lv_at hv 1 rfl) ?_
          obtain ⟨c_3, h⟩ := ckI_ex h
          obtain ⟨arr_4, earr_4, h⟩ := bnd_ex h
          refine va_iast (D := D) hx hb hK hP hD hS 0 0 rfl rfl c_3 dJ7_fill_53178_13 (fun H locs hP hD hS => ?_)
          rw [← earr_4] at hP hD
          have hP : va_P D vwCl (wA cA a n arr_4) H := hP
          have hD : va_D A (wA cA a n arr_4) := hD
          obtain ⟨y_5, ey_5, h⟩ := bnd_ex h
          refine lv_iinc (v := y_5) (lv' := [(2, .int y_5), (0, .ref a), (1, .int v1_5), (3, .int v3_5)]) hx hb dJ7_fill_53178_14 hv (k := 2) rfl (by rw [ey_5]; rfl) (by decide) rfl (fun ls hv => ?_)
          refine lv_goto (tgt := 5) hx hb dJ7_fill_53178_17 (by decide) ?_
          cases h
          exact ih y_5 arr_4 hl _ _ _ hP hD hS (lv_sub hv [1, 2, 0, 3] rfl)
    exact LB FU v2_5 arr_5 ho
  have hP : va_P D vwCl (wA cA a n arr) H := hP
  unfold fJ7_fill_53178 at h
  refine lv_iconst (v := (0 : Int32)) hx hb dJ7_fill_53178_0 (by decide) ?_
  refine lv_istore_n (lv' := [(2, .int (0 : Int32)), (0, .ref a), (1, .int v)]) hx hb dJ7_fill_53178_1 rfl hv (by decide) rfl (fun ls hv => ?_)
  refine lv_aload_n hx hb dJ7_fill_53178_2 rfl (lv_at hv 1 rfl) ?_
  refine va_alen (D := D) (v := (nI n)) hx hb hK hP 0 0 rfl rfl rfl dJ7_fill_53178_3 ?_
  obtain ⟨y_1, ey_1, h⟩ := bnd_ex h
  refine lv_nm ey_1 ?_
  refine lv_istore_n (lv' := [(3, .int y_1), (2, .int (0 : Int32)), (0, .ref a), (1, .int v)]) hx hb dJ7_fill_53178_4 rfl hv (by decide) rfl (fun ls hv => ?_)
  exact C_5 v (0 : Int32) y_1 arr h _ _ _ hP hD hS (lv_sub hv [2, 3, 1, 0] rfl)

def fX7_begin (a : Int32) (n : Int32) (sbits : Int32) (slen0 : Int32) (snum : Nat → Int32) : Option (Int32 × Int32 × (Nat → Int32)) :=
  bd (fJ7_fill_53178 40 (0 : Int32) snum) fun snum_1 => some (a, n, snum_1)
set_option maxHeartbeats 4000000 in
set_option maxRecDepth 100000 in
theorem c_X7_begin (l : Launch) (G : Nat → Nat) (D : va_G) (cA : Nat → ClassId) (sd : Nat) (nd : Nat) (sz : Nat) (sbits : Int32) (slen0 : Int32) (snum : Nat → Int32) (a : Int32) (n : Int32) (sbitsR : Int32) (slen0R : Int32) (snumR : Nat → Int32) (h : fX7_begin a n sbits slen0 snum = some (sbitsR, slen0R, snumR)) : Met l yX7_begin wsX7_begin ({ frames := 1, cells := 0, slots := 0, locals := 23 } : Room) (PW G D (tyC cA) sz (wS cA sd nd sbits slen0 snum) [.ref sd, .int a, .int n]) (QV D (tyC cA) (va_A (wS cA sd nd sbits slen0 snum) sz) (wS cA sd nd sbitsR slen0R snumR)) 0 0 (va_A (wS cA sd nd sbits slen0 snum) sz) := by
  refine ent (cc := cX7_begin) (maxL := 3) (ret := none) (fun A => QV D (tyC cA) A (wS cA sd nd sbitsR slen0R snumR)) (by decide +kernel) rfl (Nat.le_of_ble_eq_true rfl) ?_
  intro p e s m args below meth c A ls H hx hb hml hr hlk hts hown hA hK hE hP hD hS hv hmm
  have hv : lv_has ls 3 [(0, .ref sd), (1, .int a), (2, .int n)] := hv
  have in_7 : ∀ w ∈ u_ws RX7 TX7 3, w ∈ wsX7_begin := fun _ h => List.mem_cons_of_mem _ (List.mem_append_right _ h)
  have w_0 := hts (.fieldLink RX7 15 "SpoonsLast$Sheet" "bits" "I") (List.mem_of_getElem? (i := 1) rfl)
  have w_1 := hts (.fieldLink RX7 19 "SpoonsLast$Sheet" "length" "I") (List.mem_of_getElem? (i := 2) rfl)
  have w_2 := hts (.fieldLink RX7 9 "SpoonsLast$Sheet" "numbers" "[I") (List.mem_of_getElem? (i := 3) rfl)
  generalize hQ : MQ below _ args s 0 0 A = Q
  have hP : va_P D vwCl (wS cA sd nd sbits slen0 snum) H := hP
  unfold fX7_begin at h
  refine lv_aload_n hx hb dX7_begin_0 rfl (lv_at hv 0 rfl) ?_
  refine lv_iload_n hx hb dX7_begin_1 rfl (lv_at hv 1 rfl) ?_
  refine va_put (D := D) (ci := 7) (v := .int a) (ty := .int) (C := RX7) (T := TX7) (N := 3) hx hb hts in_7 tyX7 tyX7_ok nmX7 hown hK hP hD hS 0 rfl rfl 0 (by decide) w_0 (fun _ h9 => h9) rfl (by decide +kernel) rfl rfl (Nat.le_of_ble_eq_true rfl) dX7_begin_2 (fun H locs hP hD hS => ?_)
  have hP : va_P D vwCl (wS cA sd nd a slen0 snum) H := hP
  have hD : va_D A (wS cA sd nd a slen0 snum) := hD
  refine lv_aload_n hx hb dX7_begin_5 rfl (lv_at hv 0 rfl) ?_
  refine lv_iload_n hx hb dX7_begin_6 rfl (lv_at hv 2 rfl) ?_
  refine va_put (D := D) (ci := 7) (v := .int n) (ty := .int) (C := RX7) (T := TX7) (N := 3) hx hb hts in_7 tyX7 tyX7_ok nmX7 hown hK hP hD hS 0 rfl rfl 1 (by decide) w_1 (fun _ h9 => h9) rfl (by decide +kernel) rfl rfl (Nat.le_of_ble_eq_true rfl) dX7_begin_7 (fun H locs hP hD hS => ?_)
  have hP : va_P D vwCl (wS cA sd nd a n snum) H := hP
  have hD : va_D A (wS cA sd nd a n snum) := hD
  refine lv_aload_n hx hb dX7_begin_10 rfl (lv_at hv 0 rfl) ?_
  refine va_get (D := D) (ci := 7) (v := .ref nd) (C := RX7) (T := TX7) (N := 3) hx hb hts in_7 hown hK hP 0 rfl rfl 2 (by decide) w_2 (fun _ h9 => h9) rfl dX7_begin_11 ?_
  refine lv_iconst (v := (0 : Int32)) hx hb dX7_begin_14 (by decide) ?_
  obtain ⟨snum_1, hf_2, h⟩ := bd_ex h
  have sb : Sb D A H (wA cA nd 40 snum) := Sb.pl [1] (by decide) rfl hP hD hS hA
  refine calV (va_runS (As := [.ref nd, .int (0 : Int32)]) (rest := []) ⟨hx, hb, hml, hown, hts⟩ (c_J7_fill_53178 l G D cA nd 40 _ snum (0 : Int32) snum_1 hf_2) (va_cwS 2 hts gX7_begin_J7_fill_53178 rfl rfl rfl (by decide +kernel) ⟨Nat.le_of_ble_eq_true rfl, Nat.le_of_ble_eq_true rfl⟩) (pvS hE hK hS sb) rfl rfl hv.1 rfl (lv_room (Nat.le_of_ble_eq_true rfl)) dX7_begin_15 ⟨Nat.le_of_ble_eq_true rfl, Nat.le_of_ble_eq_true rfl⟩) hS sb (Jn.pl (ws := (wS cA sd nd a n snum)) (w1 := (wA cA nd 40 snum_1)) (ws' := (wS cA sd nd a n snum_1)) [1] rfl rfl rfl rfl hP hD) (fun H locs hP hD hS => ?_)
  have hP : va_P D vwCl (wS cA sd nd a n snum_1) H := hP
  have hD : va_D A (wS cA sd nd a n snum_1) := hD
  have h := Option.some.inj h
  have ee0 : a = sbitsR := congrArg (fun q => q.1) h
  have ee1 : n = slen0R := congrArg (fun q => q.2.1) h
  have ee2 : snum_1 = snumR := congrArg (fun q => q.2.2) h
  subst ee0
  subst ee1
  subst ee2
  rw [← hQ]
  exact retV hx hb hr hlk hK hP hD hS dX7_begin_18 ⟨Nat.le_of_ble_eq_true rfl, Nat.le_of_ble_eq_true rfl⟩

def fX7_hasStanding (a : Int32) (n : Int32) (slen0 : Int32) : Option (Int32) :=
  (if n < 0 then some (0 : Int32) else (if slen0 < n then some (0 : Int32) else (if a < 0 then some (0 : Int32) else (if (slen0 - n) < a then some (0 : Int32) else some (1 : Int32)))))
set_option maxHeartbeats 4000000 in
set_option maxRecDepth 100000 in
theorem c_X7_hasStanding (l : Launch) (G : Nat → Nat) (D : va_G) (cA : Nat → ClassId) (sd : Nat) (nd : Nat) (sz : Nat) (sbits : Int32) (slen0 : Int32) (snum : Nat → Int32) (a : Int32) (n : Int32) (rR : Int32) (h : fX7_hasStanding a n slen0 = some rR) : Met l yX7_hasStanding wsX7_hasStanding ({ frames := 0, cells := 0, slots := 0, locals := 0 } : Room) (PW G D (tyC cA) sz (wS cA sd nd sbits slen0 snum) [.ref sd, .int a, .int n]) (QI D (tyC cA) (va_A (wS cA sd nd sbits slen0 snum) sz) rR (wS cA sd nd sbits slen0 snum)) 0 0 (va_A (wS cA sd nd sbits slen0 snum) sz) := by
  refine ent (cc := cX7_hasStanding) (maxL := 3) (ret := (some .boolean)) (fun A => QI D (tyC cA) A rR (wS cA sd nd sbits slen0 snum)) (by decide +kernel) rfl (Nat.le_of_ble_eq_true rfl) ?_
  intro p e s m args below meth c A ls H hx hb hml hr hlk hts hown hA hK hE hP hD hS hv hmm
  have hv : lv_has ls 3 [(0, .ref sd), (1, .int a), (2, .int n)] := hv
  have in_7 : ∀ w ∈ u_ws RX7 TX7 3, w ∈ wsX7_hasStanding := fun _ h => List.mem_cons_of_mem _ (List.mem_append_right _ h)
  have w_0 := hts (.fieldLink RX7 19 "SpoonsLast$Sheet" "length" "I") (List.mem_of_getElem? (i := 1) rfl)
  generalize hQ : MQ below _ args s 0 0 A = Q
  have hP : va_P D vwCl (wS cA sd nd sbits slen0 snum) H := hP
  unfold fX7_hasStanding at h
  refine lv_iload_n hx hb dX7_hasStanding_0 rfl (lv_at hv 2 rfl) ?_
  refine lv_if_lt (tgt := 30) hx hb dX7_hasStanding_1 (by decide) (fun c_1 => ?_) (fun c_1 => ?_)
  · have h := ite_t c_1 h
    refine lv_iconst (v := (0 : Int32)) hx hb dX7_hasStanding_30 (by decide) ?_
    have h := Option.some.inj h
    have ee0 : (0 : Int32) = rR := congrArg (fun q => q) h
    subst ee0
    rw [← hQ]
    exact retZ (by decide) hx hb hr hlk hK hP hD hS dX7_hasStanding_31 ⟨Nat.le_of_ble_eq_true rfl, Nat.le_of_ble_eq_true rfl⟩
  · have h := ite_f c_1 h
    refine lv_iload_n hx hb dX7_hasStanding_4 rfl (lv_at hv 2 rfl) ?_
    refine lv_aload_n hx hb dX7_hasStanding_5 rfl (lv_at hv 0 rfl) ?_
    refine va_get (D := D) (ci := 7) (v := .int slen0) (C := RX7) (T := TX7) (N := 3) hx hb hts in_7 hown hK hP 0 rfl rfl 1 (by decide) w_0 (fun _ h9 => h9) rfl dX7_hasStanding_6 ?_
    refine lv_icmp_gt (tgt := 30) hx hb dX7_hasStanding_9 (by decide) (fun c_2 => ?_) (fun c_2 => ?_)
    · have h := ite_t c_2 h
      refine lv_iconst (v := (0 : Int32)) hx hb dX7_hasStanding_30 (by decide) ?_
      have h := Option.some.inj h
      have ee0 : (0 : Int32) = rR := congrArg (fun q => q) h
      subst ee0
      rw [← hQ]
      exact retZ (by decide) hx hb hr hlk hK hP hD hS dX7_hasStanding_31 ⟨Nat.le_of_ble_eq_true rfl, Nat.le_of_ble_eq_true rfl⟩
    · have h := ite_f c_2 h
      refine lv_iload_n hx hb dX7_hasStanding_12 rfl (lv_at hv 1 rfl) ?_
      refine lv_if_lt (tgt := 30) hx hb dX7_hasStanding_13 (by decide) (fun c_3 => ?_) (fun c_3 => ?_)
      · have h := ite_t c_3 h
        refine lv_iconst (v := (0 : Int32)) hx hb dX7_hasStanding_30 (by decide) ?_
        have h := Option.some.inj h
        have ee0 : (0 : Int32) = rR := congrArg (fun q => q) h
        subst ee0
        rw [← hQ]
        exact retZ (by decide) hx hb hr hlk hK hP hD hS dX7_hasStanding_31 ⟨Nat.le_of_ble_eq_true rfl, Nat.le_of_ble_eq_true rfl⟩
      · have h := ite_f c_3 h
        refine lv_iload_n hx hb dX7_hasStanding_16 rfl (lv_at hv 1 rfl) ?_
        refine lv_aload_n hx hb dX7_hasStanding_17 rfl (lv_at hv 0 rfl) ?_
        refine va_get (D := D) (ci := 7) (v := .int slen0) (C := RX7) (T := TX7) (N := 3) hx hb hts in_7 hown hK hP 0 rfl rfl 1 (by decide) w_0 (fun _ h9 => h9) rfl dX7_hasStanding_18 ?_
        refine lv_iload_n hx hb dX7_hasStanding_21 rfl (lv_at hv 2 rfl) ?_
        refine lv_isub hx hb dX7_hasStanding_22 ?_
        refine lv_icmp_gt (tgt := 30) hx hb dX7_hasStanding_23 (by decide) (fun c_4 => ?_) (fun c_4 => ?_)
        · have h := ite_t c_4 h
          refine lv_iconst (v := (0 : Int32)) hx hb dX7_hasStanding_30 (by decide) ?_
          have h := Option.some.inj h
          have ee0 : (0 : Int32) = rR := congrArg (fun q => q) h
          subst ee0
          rw [← hQ]
          exact retZ (by decide) hx hb hr hlk hK hP hD hS dX7_hasStanding_31 ⟨Nat.le_of_ble_eq_true rfl, Nat.le_of_ble_eq_true rfl⟩
        · have h := ite_f c_4 h
          refine lv_iconst (v := (1 : Int32)) hx hb dX7_hasStanding_26 (by decide) ?_
          refine lv_goto (tgt := 31) hx hb dX7_hasStanding_27 (by decide) ?_
          have h := Option.some.inj h
          have ee0 : (1 : Int32) = rR := congrArg (fun q => q) h
          subst ee0
          rw [← hQ]
          exact retZ (by decide) hx hb hr hlk hK hP hD hS dX7_hasStanding_31 ⟨Nat.le_of_ble_eq_true rfl, Nat.le_of_ble_eq_true rfl⟩

def fX7_lowestBits (v : Int32) (sbits : Int32) : Option (Int32) :=
  (if sbits = (32 : Int32) then some v else some (v &&& (((1 : Int32) <<< (sbits &&& 31)) - (1 : Int32))))
set_option maxHeartbeats 4000000 in
set_option maxRecDepth 100000 in
theorem c_X7_lowestBits (l : Launch) (G : Nat → Nat) (D : va_G) (cA : Nat → ClassId) (sd : Nat) (nd : Nat) (sz : Nat) (sbits : Int32) (slen0 : Int32) (snum : Nat → Int32) (v : Int32) (rR : Int32) (h : fX7_lowestBits v sbits = some rR) : Met l yX7_lowestBits wsX7_lowestBits ({ frames := 0, cells := 0, slots := 0, locals := 0 } : Room) (PW G D (tyC cA) sz (wS cA sd nd sbits slen0 snum) [.ref sd, .int v]) (QI D (tyC cA) (va_A (wS cA sd nd sbits slen0 snum) sz) rR (wS cA sd nd sbits slen0 snum)) 0 0 (va_A (wS cA sd nd sbits slen0 snum) sz) := by
  refine ent (cc := cX7_lowestBits) (maxL := 2) (ret := (some .int)) (fun A => QI D (tyC cA) A rR (wS cA sd nd sbits slen0 snum)) (by decide +kernel) rfl (Nat.le_of_ble_eq_true rfl) ?_
  intro p e s m args below meth c A ls H hx hb hml hr hlk hts hown hA hK hE hP hD hS hv hmm
  have hv : lv_has ls 2 [(0, .ref sd), (1, .int v)] := hv
  have in_7 : ∀ w ∈ u_ws RX7 TX7 3, w ∈ wsX7_lowestBits := fun _ h => List.mem_cons_of_mem _ (List.mem_append_right _ h)
  have w_0 := hts (.fieldLink RX7 15 "SpoonsLast$Sheet" "bits" "I") (List.mem_of_getElem? (i := 1) rfl)
  generalize hQ : MQ below _ args s 0 0 A = Q
  have hP : va_P D vwCl (wS cA sd nd sbits slen0 snum) H := hP
  unfold fX7_lowestBits at h
  refine lv_aload_n hx hb dX7_lowestBits_0 rfl (lv_at hv 0 rfl) ?_
  refine va_get (D := D) (ci := 7) (v := .int sbits) (C := RX7) (T := TX7) (N := 3) hx hb hts in_7 hown hK hP 0 rfl rfl 0 (by decide) w_0 (fun _ h9 => h9) rfl dX7_lowestBits_1 ?_
  refine lv_bipush (v := (32 : Int32)) hx hb dX7_lowestBits_4 (by decide) ?_
  refine lv_icmp_ne (tgt := 13) hx hb dX7_lowestBits_6 (by decide) (fun c_1 => ?_) (fun c_1 => ?_)
  · have h := ite_f c_1 h
    refine lv_iload_n hx hb dX7_lowestBits_13 rfl (lv_at hv 1 rfl) ?_
    refine lv_iconst (v := (1 : Int32)) hx hb dX7_lowestBits_14 (by decide) ?_
    refine lv_aload_n hx hb dX7_lowestBits_15 rfl (lv_at hv 0 rfl) ?_
    refine va_get (D := D) (ci := 7) (v := .int sbits) (C := RX7) (T := TX7) (N := 3) hx hb hts in_7 hown hK hP 0 rfl rfl 0 (by decide) w_0 (fun _ h9 => h9) rfl dX7_lowestBits_16 ?_
    refine lv_ishl hx hb dX7_lowestBits_19 ?_
    refine lv_iconst (v := (1 : Int32)) hx hb dX7_lowestBits_20 (by decide) ?_
    refine lv_isub hx hb dX7_lowestBits_21 ?_
    refine lv_iand hx hb dX7_lowestBits_22 ?_
    have h := Option.some.inj h
    have ee0 : (v &&& (((1 : Int32) <<< (sbits &&& 31)) - (1 : Int32))) = rR := congrArg (fun q => q) h
    subst ee0
    rw [← hQ]
    exact retI hx hb hr hlk hK hP hD hS dX7_lowestBits_23 ⟨Nat.le_of_ble_eq_true rfl, Nat.le_of_ble_eq_true rfl⟩
  · have h := ite_t c_1 h
    refine lv_iload_n hx hb dX7_lowestBits_9 rfl (lv_at hv 1 rfl) ?_
    refine lv_goto (tgt := 23) hx hb dX7_lowestBits_10 (by decide) ?_
    have h := Option.some.inj h
    have ee0 : v = rR := congrArg (fun q => q) h
    subst ee0
    rw [← hQ]
    exact retI hx hb hr hlk hK hP hD hS dX7_lowestBits_23 ⟨Nat.le_of_ble_eq_true rfl, Nat.le_of_ble_eq_true rfl⟩

def fX3_unlikeSpreads_2B (nn : Nat) (v2_2 : Int32) (weight : Nat → Int32) (swS : Nat → Int32) (swW : Nat → Int32) (waS : Nat → Int32) (spoons : Int32) (kind : Nat → Int32) (mark : Nat → Int32) (texts : Nat → Option Nat) (nums : Nat → Int32) (L : List Nat) (tx : Nat → TXc) (v3_2b : Int32) (known_2b : Int32) (hour_2b : Int32) (silver_2b : Nat → Int32) (fresh_2b : Nat → Int64) (tst_2b : Nat → Nat → Int32) : Option ((Int32 × Int32 × Int32 × (Nat → Int32) × (Nat → Int64) × (Nat → Nat → Int32)) ⊕ ((Int32 × Int32 × Int32 × (Nat → Int32) × (Nat → Int64) × (Nat → Nat → Int32)) ⊕ (Int32 × Int32 × Int32 × (Nat → Int32) × (Nat → Int64) × (Nat → Nat → Int32)))) :=
  (if v2_2 ≤ v3_2b then some (.inr (.inl (v3_2b, known_2b, hour_2b, silver_2b, fresh_2b, tst_2b))) else bd (fX3_passHours (1 : Int32) weight known_2b hour_2b swS swW waS spoons kind mark silver_2b fresh_2b texts L tx tst_2b) fun (known_2, hour_3, silver_4, fresh_5, tst_6) => ckI v3_2b nn (bd (fJ6_bitCount_0f7a4 known_2) fun r_9 => (if (nums (v3_2b).toNatClampNeg) = r_9 then bnd (v3_2b + (1 : Int32)) fun y_12 => some (.inl (y_12, known_2, hour_3, silver_4, fresh_5, tst_6)) else some (.inr (.inr (v3_2b, known_2, hour_3, silver_4, fresh_5, tst_6))))))
def fX3_unlikeSpreads_2 (nn : Nat) (v2_2 : Int32) (v3_2 : Int32) (weight : Nat → Int32) (known_2 : Int32) (hour_2 : Int32) (swS : Nat → Int32) (swW : Nat → Int32) (waS : Nat → Int32) (spoons : Int32) (kind : Nat → Int32) (mark : Nat → Int32) (silver_2 : Nat → Int32) (fresh_2 : Nat → Int64) (texts : Nat → Option Nat) (nums : Nat → Int32) (L : List Nat) (tx : Nat → TXc) (tst_2 : Nat → Nat → Int32) : Option (Int32 × Int32 × Int32 × (Nat → Int32) × (Nat → Int64) × (Nat → Nat → Int32)) :=
  bd (lp (fun σ : Int32 × Int32 × Int32 × (Nat → Int32) × (Nat → Int64) × (Nat → Nat → Int32) => fX3_unlikeSpreads_2B nn v2_2 weight swS swW waS spoons kind mark texts nums L tx (σ.1) (σ.2.1) (σ.2.2.1) (σ.2.2.2.1) (σ.2.2.2.2.1) (σ.2.2.2.2.2)) FU (v3_2, known_2, hour_2, silver_2, fresh_2, tst_2)) fun ρ => match ρ with | .inl (v3_2r, known_2r, hour_2r, silver_2r, fresh_2r, tst_2r) => some ((-1 : Int32), known_2r, hour_2r, silver_2r, fresh_2r, tst_2r) | .inr q => some q
def fX3_unlikeSpreads (nn : Nat) (n : Int32) (weight : Nat → Int32) (known : Int32) (hour : Int32) (swS : Nat → Int32) (swW : Nat → Int32) (waS : Nat → Int32) (spoons : Int32) (kind : Nat → Int32) (mark : Nat → Int32) (silver : Nat → Int32) (fresh : Nat → Int64) (texts : Nat → Option Nat) (nums : Nat → Int32) (L : List Nat) (tx : Nat → TXc) (tst : Nat → Nat → Int32) : Option (Int32 × Int32 × Int32 × (Nat → Int32) × (Nat → Int64) × (Nat → Nat → Int32)) :=
  fX3_unlikeSpreads_2 nn n (0 : Int32) weight known hour swS swW waS spoons kind mark silver fresh texts nums L tx tst
set_option maxHeartbeats 4000000 in
set_option maxRecDepth 100000 in
theorem c_X3_unlikeSpreads (l : Launch) (G : Nat → Nat) (D : va_G) (cA : Nat → ClassId) (ad : Nat → Nat) (kd : Nat → Nat) (na : Nat) (nn : Nat) (sz : Nat) (weight : Nat → Int32) (known : Int32) (hour : Int32) (swS : Nat → Int32) (swW : Nat → Int32) (waS : Nat → Int32) (spoons : Int32) (kind : Nat → Int32) (mark : Nat → Int32) (silver : Nat → Int32) (fresh : Nat → Int64) (texts : Nat → Option Nat) (tape : Nat → Int32) (tapeCount : Int32) (z : Int32) (waiting : Nat → Int32) (waitingCount : Int32) (nums : Nat → Int32) (L : List Nat) (tx : Nat → TXc) (tst : Nat → Nat → Int32) (n : Int32) (rR : Int32) (knownR : Int32) (hourR : Int32) (silverR : Nat → Int32) (freshR : Nat → Int64) (tstR : Nat → Nat → Int32) (h : fX3_unlikeSpreads nn n weight known hour swS swW waS spoons kind mark silver fresh texts nums L tx tst = some (rR, knownR, hourR, silverR, freshR, tstR)) : Met l yX3_unlikeSpreads wsX3_unlikeSpreads ({ frames := 6, cells := 0, slots := 0, locals := 141 } : Room) (PW G D (tyC cA) sz (wHA cA ad kd na nn weight known hour swS swW waS spoons kind mark silver fresh texts tape tapeCount z waiting waitingCount nums L tx tst) [.ref (ad 0), .ref na, .int n]) (QI D (tyC cA) (va_A (wHA cA ad kd na nn weight known hour swS swW waS spoons kind mark silver fresh texts tape tapeCount z waiting waitingCount nums L tx tst) sz) rR (wHA cA ad kd na nn weight knownR hourR swS swW waS spoons kind mark silverR freshR texts tape tapeCount z waiting waitingCount nums L tx tstR)) 0 0 (va_A (wHA cA ad kd na nn weight known hour swS swW waS spoons kind mark silver fresh texts tape tapeCount z waiting waitingCount nums L tx tst) sz) := by
  refine ent (cc := cX3_unlikeSpreads) (maxL := 4) (ret := (some .int)) (fun A => QI D (tyC cA) A rR (wHA cA ad kd na nn weight knownR hourR swS swW waS spoons kind mark silverR freshR texts tape tapeCount z waiting waitingCount nums L tx tstR)) (by decide +kernel) rfl (Nat.le_of_ble_eq_true rfl) ?_
  intro p e s m args below meth c A ls H hx hb hml hr hlk hts hown hA hK hE hP hD hS hv hmm
  have hv : lv_has ls 4 [(0, .ref (ad 0)), (1, .ref na), (2, .int n)] := hv
  have in_3 : ∀ w ∈ u_ws RX3 TX3 18, w ∈ wsX3_unlikeSpreads := fun _ h => List.mem_cons_of_mem _ (List.mem_append_left _ (List.mem_append_right _ h))
  have w_0 := hts (.fieldLink RX3 69 "SpoonsLast$House" "known" "I") (List.mem_of_getElem? (i := 1) rfl)
  generalize hQ : MQ below _ args s 0 0 A = Q
  have C_2 : ∀ (v2_2 : Int32) (v3_2 : Int32) (known_2 : Int32) (hour_2 : Int32) (silver_2 : Nat → Int32) (fresh_2 : Nat → Int64) (tst_2 : Nat → Nat → Int32), fX3_unlikeSpreads_2 nn v2_2 v3_2 weight known_2 hour_2 swS swW waS spoons kind mark silver_2 fresh_2 texts nums L tx tst_2 = some (rR, knownR, hourR, silverR, freshR, tstR) → WW p l e ({ frames := 6, cells := 0, slots := 0, locals := 141 } : Room) s m args below meth c D A 0 0 Q (wHA cA ad kd na nn weight known_2 hour_2 swS swW waS spoons kind mark silver_2 fresh_2 texts tape tapeCount z waiting waitingCount nums L tx tst_2) 4 [(0, .ref (ad 0)), (1, .ref na), (2, .int v2_2), (3, .int v3_2)] 2 [] := by
    intro v2_2 v3_2 known_2 hour_2 silver_2 fresh_2 tst_2 h
    unfold fX3_unlikeSpreads_2 at h
    obtain ⟨ρ, ho, h⟩ := bd_ex h
    have LR : ∀ q, ρ = .inr q → q = (rR, knownR, hourR, silverR, freshR, tstR) := by intro q e; subst e; exact Option.some.inj h
    have LE : ∀ (v3_2r : Int32) (known_2r : Int32) (hour_2r : Int32) (silver_2r : Nat → Int32) (fresh_2r : Nat → Int64) (tst_2r : Nat → Nat → Int32), ρ = .inl (v3_2r, known_2r, hour_2r, silver_2r, fresh_2r, tst_2r) → WW p l e ({ frames := 6, cells := 0, slots := 0, locals := 141 } : Room) s m args below meth c D A 0 0 Q (wHA cA ad kd na nn weight known_2r hour_2r swS swW waS spoons kind mark silver_2r fresh_2r texts tape tapeCount z waiting waitingCount nums L tx tst_2r) 4 [] 33 [] := by
      intro v3_2r known_2r hour_2r silver_2r fresh_2r tst_2r e
      subst e
      intro H locs ls hP hD hS hv
      refine lv_iconst (v := (-1 : Int32)) hx hb dX3_unlikeSpreads_33 (by decide) ?_
      have h := Option.some.inj h
      have ee0 : (-1 : Int32) = rR := congrArg (fun q => q.1) h
      have ee1 : known_2r = knownR := congrArg (fun q => q.2.1) h
      have ee2 : hour_2r = hourR := congrArg (fun q => q.2.2.1) h
      have ee3 : silver_2r = silverR := congrArg (fun q => q.2.2.2.1) h
      have ee4 : fresh_2r = freshR := congrArg (fun q => q.2.2.2.2.1) h
      have ee5 : tst_2r = tstR := congrArg (fun q => q.2.2.2.2.2) h
      subst ee0
      subst ee1
      subst ee2
      subst ee3
      subst ee4
      subst ee5
      rw [← hQ]
      exact retI hx hb hr hlk hK hP hD hS dX3_unlikeSpreads_34 ⟨Nat.le_of_ble_eq_true rfl, Nat.le_of_ble_eq_true rfl⟩
    have LB : ∀ (nf : Nat) (v3_2b : Int32) (known_2b : Int32) (hour_2b : Int32) (silver_2b : Nat → Int32) (fresh_2b : Nat → Int64) (tst_2b : Nat → Nat → Int32), lp (fun σ : Int32 × Int32 × Int32 × (Nat → Int32) × (Nat → Int64) × (Nat → Nat → Int32) => fX3_unlikeSpreads_2B nn v2_2 weight swS swW waS spoons kind mark texts nums L tx (σ.1) (σ.2.1) (σ.2.2.1) (σ.2.2.2.1) (σ.2.2.2.2.1) (σ.2.2.2.2.2)) nf (v3_2b, known_2b, hour_2b, silver_2b, fresh_2b, tst_2b) = some ρ → WW p l e ({ frames := 6, cells := 0, slots := 0, locals := 141 } : Room) s m args below meth c D A 0 0 Q (wHA cA ad kd na nn weight known_2b hour_2b swS swW waS spoons kind mark silver_2b fresh_2b texts tape tapeCount z waiting waitingCount nums L tx tst_2b) 4 [(0, .ref (ad 0)), (1, .ref na), (2, .int v2_2), (3, .int v3_2b)] 2 [] := by
      intro nf
      induction nf with
      | zero => intro v3_2b known_2b hour_2b silver_2b fresh_2b tst_2b hl; cases hl
      | succ nf ih =>
        intro v3_2b known_2b hour_2b silver_2b fresh_2b tst_2b hl
        obtain ⟨x, h, hl⟩ := lp_ex hl
        have h : fX3_unlikeSpreads_2B nn v2_2 weight swS swW waS spoons kind mark texts nums L tx v3_2b known_2b hour_2b silver_2b fresh_2b tst_2b = some x := h
        unfold fX3_unlikeSpreads_2B at h
        intro H locs ls hP hD hS hv
        refine lv_iload_n hx hb dX3_unlikeSpreads_2 rfl (lv_at hv 3 rfl) ?_
        refine lv_iload_n hx hb dX3_unlikeSpreads_3 rfl (lv_at hv 2 rfl) ?_
        refine lv_icmp_ge (tgt := 33) hx hb dX3_unlikeSpreads_4 (by decide) (fun c_1 => ?_) (fun c_1 => ?_)
        · have h := ite_t c_1 h
          cases h
          have hl : some (Sum.inl (v3_2b, known_2b, hour_2b, silver_2b, fresh_2b, tst_2b)) = some ρ := hl
          cases hl
          exact LE _ _ _ _ _ _ rfl _ _ _ hP hD hS (lv_sub hv [] rfl)
        · have h := ite_f c_1 h
          refine lv_aload_n hx hb dX3_unlikeSpreads_7 rfl (lv_at hv 0 rfl) ?_
          refine lv_iconst (v := (1 : Int32)) hx hb dX3_unlikeSpreads_8 (by decide) ?_
          obtain ⟨⟨known_2, hour_3, silver_4, fresh_5, tst_6⟩, hf_7, h⟩ := bd_ex h
          have sb : Sb D A H (wH cA ad kd weight known_2b hour_2b swS swW waS spoons kind mark silver_2b fresh_2b texts tape tapeCount z waiting waitingCount L tx tst_2b) := HA_sb hP hD hS hA
          refine calV (va_runV (As := [.int (1 : Int32)]) (rest := []) ⟨hx, hb, hml, hown, hts⟩ (c_X3_passHours l G D cA ad kd _ weight known_2b hour_2b swS swW waS spoons kind mark silver_2b fresh_2b texts tape tapeCount z waiting waitingCount L tx tst_2b (1 : Int32) known_2 hour_3 silver_4 fresh_5 tst_6 hf_7) (cwV 1 hts gX3_unlikeSpreads_X3_passHours rfl rfl rfl (by decide +kernel) ⟨Nat.le_of_ble_eq_true rfl, Nat.le_of_ble_eq_true rfl⟩) (pvV hE hK hS sb (va_recv hK hP (ci := 3) (q0 := 0) rfl rfl)) rfl rfl hv.1 rfl (lv_room (Nat.le_of_ble_eq_true rfl)) dX3_unlikeSpreads_9 ⟨Nat.le_of_ble_eq_true rfl, Nat.le_of_ble_eq_true rfl⟩) hS sb (HA_jn hP hD) (fun H locs hP hD hS => ?_)
          have hP : va_P D vwCl (wHA cA ad kd na nn weight known_2 hour_3 swS swW waS spoons kind mark silver_4 fresh_5 texts tape tapeCount z waiting waitingCount nums L tx tst_6) H := hP
          have hD : va_D A (wHA cA ad kd na nn weight known_2 hour_3 swS swW waS spoons kind mark silver_4 fresh_5 texts tape tapeCount z waiting waitingCount nums L tx tst_6) := hD
          refine lv_aload_n hx hb dX3_unlikeSpreads_12 rfl (lv_at hv 1 rfl) ?_
          refine lv_iload_n hx hb dX3_unlikeSpreads_13 rfl (lv_at hv 3 rfl) ?_
          obtain ⟨c_8, h⟩ := ckI_ex h
          refine va_iald (D := D) hx hb hK hP 20 0 rfl rfl c_8 dX3_unlikeSpreads_14 ?_
          refine lv_aload_n hx hb dX3_unlikeSpreads_15 rfl (lv_at hv 0 rfl) ?_
          refine va_get (D := D) (ci := 3) (v := .int known_2) (C := RX3) (T := TX3) (N := 18) hx hb hts in_3 hown hK hP 0 rfl rfl 2 (by decide) w_0 (fun _ h9 => h9) rfl dX3_unlikeSpreads_16 ?_
          obtain ⟨r_9, hf_10, h⟩ := bd_ex h
          have sb := Sb.nil hP hD hS hA
          refine calI (va_runS (As := [.int known_2]) (rest := [.int (nums (v3_2b).toNatClampNeg)]) ⟨hx, hb, hml, hown, hts⟩ (c_J6_bitCount_0f7a4 l G D cA  _ known_2 r_9 hf_10) (va_cwS 1 hts gX3_unlikeSpreads_J6_bitCount_0f7a4 rfl rfl rfl (by decide +kernel) ⟨Nat.le_of_ble_eq_true rfl, Nat.le_of_ble_eq_true rfl⟩) (pvS hE hK hS sb) rfl rfl hv.1 rfl (lv_room (Nat.le_of_ble_eq_true rfl)) dX3_unlikeSpreads_19 ⟨Nat.le_of_ble_eq_true rfl, Nat.le_of_ble_eq_true rfl⟩) hS sb (Jn.nil hP hD) (fun H locs hP hD hS => ?_)
          have hP : va_P D vwCl (wHA cA ad kd na nn weight known_2 hour_3 swS swW waS spoons kind mark silver_4 fresh_5 texts tape tapeCount z waiting waitingCount nums L tx tst_6) H := hP
          have hD : va_D A (wHA cA ad kd na nn weight known_2 hour_3 swS swW waS spoons kind mark silver_4 fresh_5 texts tape tapeCount z waiting waitingCount nums L tx tst_6) := hD
          refine lv_icmp_eq (tgt := 27) hx hb dX3_unlikeSpreads_22 (by decide) (fun c_11 => ?_) (fun c_11 => ?_)
          · have h := ite_t c_11 h
            obtain ⟨y_12, ey_12, h⟩ := bnd_ex h
            refine lv_iinc (v := y_12) (lv' := [(3, .int y_12), (0, .ref (ad 0)), (1, .ref na), (2, .int v2_2)]) hx hb dX3_unlikeSpreads_27 hv (k := 3) rfl (by rw [ey_12]; rfl) (by decide) rfl (fun ls hv => ?_)
            refine lv_goto (tgt := 2) hx hb dX3_unlikeSpreads_30 (by decide) ?_
            cases h
            exact ih y_12 known_2 hour_3 silver_4 fresh_5 tst_6 hl _ _ _ hP hD hS (lv_sub hv [1, 2, 3, 0] rfl)
          · have h := ite_f c_11 h
            refine lv_iload_n hx hb dX3_unlikeSpreads_25 rfl (lv_at hv 3 rfl) ?_
            cases h
            have hl : some (Sum.inr (v3_2b, known_2, hour_3, silver_4, fresh_5, tst_6)) = some ρ := hl
            cases hl
            have h := LR _ rfl
            have ee0 : v3_2b = rR := congrArg (fun q => q.1) h
            have ee1 : known_2 = knownR := congrArg (fun q => q.2.1) h
            have ee2 : hour_3 = hourR := congrArg (fun q => q.2.2.1) h
            have ee3 : silver_4 = silverR := congrArg (fun q => q.2.2.2.1) h
            have ee4 : fresh_5 = freshR := congrArg (fun q => q.2.2.2.2.1) h
            have ee5 : tst_6 = tstR := congrArg (fun q => q.2.2.2.2.2) h
            subst ee0
            subst ee1
            subst ee2
            subst ee3
            subst ee4
            subst ee5
            rw [← hQ]
            exact retI hx hb hr hlk hK hP hD hS dX3_unlikeSpreads_26 ⟨Nat.le_of_ble_eq_true rfl, Nat.le_of_ble_eq_true rfl⟩
    exact LB FU v3_2 known_2 hour_2 silver_2 fresh_2 tst_2 ho
  have hP : va_P D vwCl (wHA cA ad kd na nn weight known hour swS swW waS spoons kind mark silver fresh texts tape tapeCount z waiting waitingCount nums L tx tst) H := hP
  unfold fX3_unlikeSpreads at h
  refine lv_iconst (v := (0 : Int32)) hx hb dX3_unlikeSpreads_0 (by decide) ?_
  refine lv_istore_n (lv' := [(3, .int (0 : Int32)), (0, .ref (ad 0)), (1, .ref na), (2, .int n)]) hx hb dX3_unlikeSpreads_1 rfl hv (by decide) rfl (fun ls hv => ?_)
  exact C_2 n (0 : Int32) known hour silver fresh tst h _ _ _ hP hD hS (lv_sub hv [1, 2, 3, 0] rfl)

