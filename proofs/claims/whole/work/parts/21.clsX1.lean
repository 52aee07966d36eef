def fX11_within (v : Int32) (lo : Int32) (hi : Int32) : Option (Int32) :=
  (if v < lo then some (0 : Int32) else (if hi < v then some (0 : Int32) else some (1 : Int32)))
set_option maxHeartbeats 4000000 in
set_option maxRecDepth 100000 in
theorem c_X11_within (l : Launch) (G : Nat → Nat) (D : va_G) (cA : Nat → ClassId) (sz : Nat) (v : Int32) (lo : Int32) (hi : Int32) (rR : Int32) (h : fX11_within v lo hi = some rR) : Met l yX11_within wsX11_within ({ frames := 0, cells := 0, slots := 0, locals := 0 } : Room) (PW G D (tyC cA) sz (wE) [.int v, .int lo, .int hi]) (QI D (tyC cA) (va_A (wE) sz) rR (wE)) 0 0 (va_A (wE) sz) := by
  refine ent (cc := cX11_within) (maxL := 3) (ret := (some .boolean)) (fun A => QI D (tyC cA) A rR (wE)) (by decide +kernel) rfl (Nat.le_of_ble_eq_true rfl) ?_
  intro p e s m args below meth c A ls H hx hb hml hr hlk hts hown hA hK hE hP hD hS hv hmm
  have hv : lv_has ls 3 [(0, .int v), (1, .int lo), (2, .int hi)] := hv
  generalize hQ : MQ below _ args s 0 0 A = Q
  have hP : va_P D vwCl (wE) H := hP
  unfold fX11_within at h
  refine lv_iload_n hx hb dX11_within_0 rfl (lv_at hv 0 rfl) ?_
  refine lv_iload_n hx hb dX11_within_1 rfl (lv_at hv 1 rfl) ?_
  refine lv_icmp_lt (tgt := 14) hx hb dX11_within_2 (by decide) (fun c_1 => ?_) (fun c_1 => ?_)
  · have h := ite_t c_1 h
    refine lv_iconst (v := (0 : Int32)) hx hb dX11_within_14 (by decide) ?_
    have h := Option.some.inj h
    have ee0 : (0 : Int32) = rR := congrArg (fun q => q) h
    subst ee0
    rw [← hQ]
    exact retZ (by decide) hx hb hr hlk hK hP hD hS dX11_within_15 ⟨Nat.le_of_ble_eq_true rfl, Nat.le_of_ble_eq_true rfl⟩
  · have h := ite_f c_1 h
    refine lv_iload_n hx hb dX11_within_5 rfl (lv_at hv 0 rfl) ?_
    refine lv_iload_n hx hb dX11_within_6 rfl (lv_at hv 2 rfl) ?_
    refine lv_icmp_gt (tgt := 14) hx hb dX11_within_7 (by decide) (fun c_2 => ?_) (fun c_2 => ?_)
    · have h := ite_t c_2 h
      refine lv_iconst (v := (0 : Int32)) hx hb dX11_within_14 (by decide) ?_
      have h := Option.some.inj h
      have ee0 : (0 : Int32) = rR := congrArg (fun q => q) h
      subst ee0
      rw [← hQ]
      exact retZ (by decide) hx hb hr hlk hK hP hD hS dX11_within_15 ⟨Nat.le_of_ble_eq_true rfl, Nat.le_of_ble_eq_true rfl⟩
    · have h := ite_f c_2 h
      refine lv_iconst (v := (1 : Int32)) hx hb dX11_within_10 (by decide) ?_
      refine lv_goto (tgt := 15) hx hb dX11_within_11 (by decide) ?_
      have h := Option.some.inj h
      have ee0 : (1 : Int32) = rR := congrArg (fun q => q) h
      subst ee0
      rw [← hQ]
      exact retZ (by decide) hx hb hr hlk hK hP hD hS dX11_within_15 ⟨Nat.le_of_ble_eq_true rfl, Nat.le_of_ble_eq_true rfl⟩

def fX11_isWord (a : Int32) : Option (Int32) :=
  bd (fX11_within a (0 : Int32) (11 : Int32)) fun r_1 => ck (isZ r_1 = true) (some r_1)
set_option maxHeartbeats 4000000 in
set_option maxRecDepth 100000 in
theorem c_X11_isWord (l : Launch) (G : Nat → Nat) (D : va_G) (cA : Nat → ClassId) (sz : Nat) (a : Int32) (rR : Int32) (h : fX11_isWord a = some rR) : Met l yX11_isWord wsX11_isWord ({ frames := 1, cells := 0, slots := 0, locals := 22 } : Room) (PW G D (tyC cA) sz (wE) [.int a]) (QI D (tyC cA) (va_A (wE) sz) rR (wE)) 0 0 (va_A (wE) sz) := by
  refine ent (cc := cX11_isWord) (maxL := 1) (ret := (some .boolean)) (fun A => QI D (tyC cA) A rR (wE)) (by decide +kernel) rfl (Nat.le_of_ble_eq_true rfl) ?_
  intro p e s m args below meth c A ls H hx hb hml hr hlk hts hown hA hK hE hP hD hS hv hmm
  have hv : lv_has ls 1 [(0, .int a)] := hv
  generalize hQ : MQ below _ args s 0 0 A = Q
  have hP : va_P D vwCl (wE) H := hP
  unfold fX11_isWord at h
  refine lv_iload_n hx hb dX11_isWord_0 rfl (lv_at hv 0 rfl) ?_
  refine lv_iconst (v := (0 : Int32)) hx hb dX11_isWord_1 (by decide) ?_
  refine lv_bipush (v := (11 : Int32)) hx hb dX11_isWord_2 (by decide) ?_
  obtain ⟨r_1, hf_2, h⟩ := bd_ex h
  have sb := Sb.nil hP hD hS hA
  refine calI (va_runS (As := [.int a, .int (0 : Int32), .int (11 : Int32)]) (rest := []) ⟨hx, hb, hml, hown, hts⟩ (c_X11_within l G D cA  _ a (0 : Int32) (11 : Int32) r_1 hf_2) (va_cwS 3 hts gX11_isWord_X11_within rfl rfl rfl (by decide +kernel) ⟨Nat.le_of_ble_eq_true rfl, Nat.le_of_ble_eq_true rfl⟩) (pvS hE hK hS sb) rfl rfl hv.1 rfl (lv_room (Nat.le_of_ble_eq_true rfl)) dX11_isWord_4 ⟨Nat.le_of_ble_eq_true rfl, Nat.le_of_ble_eq_true rfl⟩) hS sb (Jn.nil hP hD) (fun H locs hP hD hS => ?_)
  have hP : va_P D vwCl (wE) H := hP
  have hD : va_D A (wE) := hD
  obtain ⟨hz, h⟩ := ck_ex h
  have h := Option.some.inj h
  have ee0 : r_1 = rR := congrArg (fun q => q) h
  subst ee0
  rw [← hQ]
  exact retZ hz hx hb hr hlk hK hP hD hS dX11_isWord_7 ⟨Nat.le_of_ble_eq_true rfl, Nat.le_of_ble_eq_true rfl⟩

def fX11_isSetOfWords (a : Int32) : Option (Int32) :=
  bd (fX11_within a (0 : Int32) (4095 : Int32)) fun r_1 => ck (isZ r_1 = true) (some r_1)
set_option maxHeartbeats 4000000 in
set_option maxRecDepth 100000 in
theorem c_X11_isSetOfWords (l : Launch) (G : Nat → Nat) (D : va_G) (cA : Nat → ClassId) (sz : Nat) (a : Int32) (rR : Int32) (h : fX11_isSetOfWords a = some rR) : Met l yX11_isSetOfWords wsX11_isSetOfWords ({ frames := 1, cells := 0, slots := 0, locals := 22 } : Room) (PW G D (tyC cA) sz (wE) [.int a]) (QI D (tyC cA) (va_A (wE) sz) rR (wE)) 0 0 (va_A (wE) sz) := by
  refine ent (cc := cX11_isSetOfWords) (maxL := 1) (ret := (some .boolean)) (fun A => QI D (tyC cA) A rR (wE)) (by decide +kernel) rfl (Nat.le_of_ble_eq_true rfl) ?_
  intro p e s m args below meth c A ls H hx hb hml hr hlk hts hown hA hK hE hP hD hS hv hmm
  have hv : lv_has ls 1 [(0, .int a)] := hv
  generalize hQ : MQ below _ args s 0 0 A = Q
  have hP : va_P D vwCl (wE) H := hP
  unfold fX11_isSetOfWords at h
  refine lv_iload_n hx hb dX11_isSetOfWords_0 rfl (lv_at hv 0 rfl) ?_
  refine lv_iconst (v := (0 : Int32)) hx hb dX11_isSetOfWords_1 (by decide) ?_
  refine lv_sipush (v := (4095 : Int32)) hx hb dX11_isSetOfWords_2 (by decide) ?_
  obtain ⟨r_1, hf_2, h⟩ := bd_ex h
  have sb := Sb.nil hP hD hS hA
  refine calI (va_runS (As := [.int a, .int (0 : Int32), .int (4095 : Int32)]) (rest := []) ⟨hx, hb, hml, hown, hts⟩ (c_X11_within l G D cA  _ a (0 : Int32) (4095 : Int32) r_1 hf_2) (va_cwS 3 hts gX11_isSetOfWords_X11_within rfl rfl rfl (by decide +kernel) ⟨Nat.le_of_ble_eq_true rfl, Nat.le_of_ble_eq_true rfl⟩) (pvS hE hK hS sb) rfl rfl hv.1 rfl (lv_room (Nat.le_of_ble_eq_true rfl)) dX11_isSetOfWords_5 ⟨Nat.le_of_ble_eq_true rfl, Nat.le_of_ble_eq_true rfl⟩) hS sb (Jn.nil hP hD) (fun H locs hP hD hS => ?_)
  have hP : va_P D vwCl (wE) H := hP
  have hD : va_D A (wE) := hD
  obtain ⟨hz, h⟩ := ck_ex h
  have h := Option.some.inj h
  have ee0 : r_1 = rR := congrArg (fun q => q) h
  subst ee0
  rw [← hQ]
  exact retZ hz hx hb hr hlk hK hP hD hS dX11_isSetOfWords_8 ⟨Nat.le_of_ble_eq_true rfl, Nat.le_of_ble_eq_true rfl⟩

def fX11_isUse (a : Int32) : Option (Int32) :=
  bd (fX11_within a (0 : Int32) (1 : Int32)) fun r_1 => ck (isZ r_1 = true) (some r_1)
set_option maxHeartbeats 4000000 in
set_option maxRecDepth 100000 in
theorem c_X11_isUse (l : Launch) (G : Nat → Nat) (D : va_G) (cA : Nat → ClassId) (sz : Nat) (a : Int32) (rR : Int32) (h : fX11_isUse a = some rR) : Met l yX11_isUse wsX11_isUse ({ frames := 1, cells := 0, slots := 0, locals := 22 } : Room) (PW G D (tyC cA) sz (wE) [.int a]) (QI D (tyC cA) (va_A (wE) sz) rR (wE)) 0 0 (va_A (wE) sz) := by
  refine ent (cc := cX11_isUse) (maxL := 1) (ret := (some .boolean)) (fun A => QI D (tyC cA) A rR (wE)) (by decide +kernel) rfl (Nat.le_of_ble_eq_true rfl) ?_
  intro p e s m args below meth c A ls H hx hb hml hr hlk hts hown hA hK hE hP hD hS hv hmm
  have hv : lv_has ls 1 [(0, .int a)] := hv
  generalize hQ : MQ below _ args s 0 0 A = Q
  have hP : va_P D vwCl (wE) H := hP
  unfold fX11_isUse at h
  refine lv_iload_n hx hb dX11_isUse_0 rfl (lv_at hv 0 rfl) ?_
  refine lv_iconst (v := (0 : Int32)) hx hb dX11_isUse_1 (by decide) ?_
  refine lv_iconst (v := (1 : Int32)) hx hb dX11_isUse_2 (by decide) ?_
  obtain ⟨r_1, hf_2, h⟩ := bd_ex h
  have sb := Sb.nil hP hD hS hA
  refine calI (va_runS (As := [.int a, .int (0 : Int32), .int (1 : Int32)]) (rest := []) ⟨hx, hb, hml, hown, hts⟩ (c_X11_within l G D cA  _ a (0 : Int32) (1 : Int32) r_1 hf_2) (va_cwS 3 hts gX11_isUse_X11_within rfl rfl rfl (by decide +kernel) ⟨Nat.le_of_ble_eq_true rfl, Nat.le_of_ble_eq_true rfl⟩) (pvS hE hK hS sb) rfl rfl hv.1 rfl (lv_room (Nat.le_of_ble_eq_true rfl)) dX11_isUse_3 ⟨Nat.le_of_ble_eq_true rfl, Nat.le_of_ble_eq_true rfl⟩) hS sb (Jn.nil hP hD) (fun H locs hP hD hS => ?_)
  have hP : va_P D vwCl (wE) H := hP
  have hD : va_D A (wE) := hD
  obtain ⟨hz, h⟩ := ck_ex h
  have h := Option.some.inj h
  have ee0 : r_1 = rR := congrArg (fun q => q) h
  subst ee0
  rw [← hQ]
  exact retZ hz hx hb hr hlk hK hP hD hS dX11_isUse_6 ⟨Nat.le_of_ble_eq_true rfl, Nat.le_of_ble_eq_true rfl⟩

def fX11_isSheet (a : Int32) : Option (Int32) :=
  bd (fX11_within a (0 : Int32) (3 : Int32)) fun r_1 => ck (isZ r_1 = true) (some r_1)
set_option maxHeartbeats 4000000 in
set_option maxRecDepth 100000 in
theorem c_X11_isSheet (l : Launch) (G : Nat → Nat) (D : va_G) (cA : Nat → ClassId) (sz : Nat) (a : Int32) (rR : Int32) (h : fX11_isSheet a = some rR) : Met l yX11_isSheet wsX11_isSheet ({ frames := 1, cells := 0, slots := 0, locals := 22 } : Room) (PW G D (tyC cA) sz (wE) [.int a]) (QI D (tyC cA) (va_A (wE) sz) rR (wE)) 0 0 (va_A (wE) sz) := by
  refine ent (cc := cX11_isSheet) (maxL := 1) (ret := (some .boolean)) (fun A => QI D (tyC cA) A rR (wE)) (by decide +kernel) rfl (Nat.le_of_ble_eq_true rfl) ?_
  intro p e s m args below meth c A ls H hx hb hml hr hlk hts hown hA hK hE hP hD hS hv hmm
  have hv : lv_has ls 1 [(0, .int a)] := hv
  generalize hQ : MQ below _ args s 0 0 A = Q
  have hP : va_P D vwCl (wE) H := hP
  unfold fX11_isSheet at h
  refine lv_iload_n hx hb dX11_isSheet_0 rfl (lv_at hv 0 rfl) ?_
  refine lv_iconst (v := (0 : Int32)) hx hb dX11_isSheet_1 (by decide) ?_
  refine lv_iconst (v := (3 : Int32)) hx hb dX11_isSheet_2 (by decide) ?_
  obtain ⟨r_1, hf_2, h⟩ := bd_ex h
  have sb := Sb.nil hP hD hS hA
  refine calI (va_runS (As := [.int a, .int (0 : Int32), .int (3 : Int32)]) (rest := []) ⟨hx, hb, hml, hown, hts⟩ (c_X11_within l G D cA  _ a (0 : Int32) (3 : Int32) r_1 hf_2) (va_cwS 3 hts gX11_isSheet_X11_within rfl rfl rfl (by decide +kernel) ⟨Nat.le_of_ble_eq_true rfl, Nat.le_of_ble_eq_true rfl⟩) (pvS hE hK hS sb) rfl rfl hv.1 rfl (lv_room (Nat.le_of_ble_eq_true rfl)) dX11_isSheet_3 ⟨Nat.le_of_ble_eq_true rfl, Nat.le_of_ble_eq_true rfl⟩) hS sb (Jn.nil hP hD) (fun H locs hP hD hS => ?_)
  have hP : va_P D vwCl (wE) H := hP
  have hD : va_D A (wE) := hD
  obtain ⟨hz, h⟩ := ck_ex h
  have h := Option.some.inj h
  have ee0 : r_1 = rR := congrArg (fun q => q) h
  subst ee0
  rw [← hQ]
  exact retZ hz hx hb hr hlk hK hP hD hS dX11_isSheet_6 ⟨Nat.le_of_ble_eq_true rfl, Nat.le_of_ble_eq_true rfl⟩

def fX11_isBehind (a : Int32) : Option (Int32) :=
  bd (fX11_within a (0 : Int32) (60 : Int32)) fun r_1 => ck (isZ r_1 = true) (some r_1)
set_option maxHeartbeats 4000000 in
set_option maxRecDepth 100000 in
theorem c_X11_isBehind (l : Launch) (G : Nat → Nat) (D : va_G) (cA : Nat → ClassId) (sz : Nat) (a : Int32) (rR : Int32) (h : fX11_isBehind a = some rR) : Met l yX11_isBehind wsX11_isBehind ({ frames := 1, cells := 0, slots := 0, locals := 22 } : Room) (PW G D (tyC cA) sz (wE) [.int a]) (QI D (tyC cA) (va_A (wE) sz) rR (wE)) 0 0 (va_A (wE) sz) := by
  refine ent (cc := cX11_isBehind) (maxL := 1) (ret := (some .boolean)) (fun A => QI D (tyC cA) A rR (wE)) (by decide +kernel) rfl (Nat.le_of_ble_eq_true rfl) ?_
  intro p e s m args below meth c A ls H hx hb hml hr hlk hts hown hA hK hE hP hD hS hv hmm
  have hv : lv_has ls 1 [(0, .int a)] := hv
  generalize hQ : MQ below _ args s 0 0 A = Q
  have hP : va_P D vwCl (wE) H := hP
  unfold fX11_isBehind at h
  refine lv_iload_n hx hb dX11_isBehind_0 rfl (lv_at hv 0 rfl) ?_
  refine lv_iconst (v := (0 : Int32)) hx hb dX11_isBehind_1 (by decide) ?_
  refine lv_bipush (v := (60 : Int32)) hx hb dX11_isBehind_2 (by decide) ?_
  obtain ⟨r_1, hf_2, h⟩ := bd_ex h
  have sb := Sb.nil hP hD hS hA
  refine calI (va_runS (As := [.int a, .int (0 : Int32), .int (60 : Int32)]) (rest := []) ⟨hx, hb, hml, hown, hts⟩ (c_X11_within l G D cA  _ a (0 : Int32) (60 : Int32) r_1 hf_2) (va_cwS 3 hts gX11_isBehind_X11_within rfl rfl rfl (by decide +kernel) ⟨Nat.le_of_ble_eq_true rfl, Nat.le_of_ble_eq_true rfl⟩) (pvS hE hK hS sb) rfl rfl hv.1 rfl (lv_room (Nat.le_of_ble_eq_true rfl)) dX11_isBehind_4 ⟨Nat.le_of_ble_eq_true rfl, Nat.le_of_ble_eq_true rfl⟩) hS sb (Jn.nil hP hD) (fun H locs hP hD hS => ?_)
  have hP : va_P D vwCl (wE) H := hP
  have hD : va_D A (wE) := hD
  obtain ⟨hz, h⟩ := ck_ex h
  have h := Option.some.inj h
  have ee0 : r_1 = rR := congrArg (fun q => q) h
  subst ee0
  rw [← hQ]
  exact retZ hz hx hb hr hlk hK hP hD hS dX11_isBehind_7 ⟨Nat.le_of_ble_eq_true rfl, Nat.le_of_ble_eq_true rfl⟩

def fX11_mayBeListed (a : Int32) : Option (Int32) :=
  bd (fX11_within a (-1 : Int32) (7 : Int32)) fun r_1 => ck (isZ r_1 = true) (some r_1)
set_option maxHeartbeats 4000000 in
set_option maxRecDepth 100000 in
theorem c_X11_mayBeListed (l : Launch) (G : Nat → Nat) (D : va_G) (cA : Nat → ClassId) (sz : Nat) (a : Int32) (rR : Int32) (h : fX11_mayBeListed a = some rR) : Met l yX11_mayBeListed wsX11_mayBeListed ({ frames := 1, cells := 0, slots := 0, locals := 22 } : Room) (PW G D (tyC cA) sz (wE) [.int a]) (QI D (tyC cA) (va_A (wE) sz) rR (wE)) 0 0 (va_A (wE) sz) := by
  refine ent (cc := cX11_mayBeListed) (maxL := 1) (ret := (some .boolean)) (fun A => QI D (tyC cA) A rR (wE)) (by decide +kernel) rfl (Nat.le_of_ble_eq_true rfl) ?_
  intro p e s m args below meth c A ls H hx hb hml hr hlk hts hown hA hK hE hP hD hS hv hmm
  have hv : lv_has ls 1 [(0, .int a)] := hv
  generalize hQ : MQ below _ args s 0 0 A = Q
  have hP : va_P D vwCl (wE) H := hP
  unfold fX11_mayBeListed at h
  refine lv_iload_n hx hb dX11_mayBeListed_0 rfl (lv_at hv 0 rfl) ?_
  refine lv_iconst (v := (-1 : Int32)) hx hb dX11_mayBeListed_1 (by decide) ?_
  refine lv_bipush (v := (7 : Int32)) hx hb dX11_mayBeListed_2 (by decide) ?_
  obtain ⟨r_1, hf_2, h⟩ := bd_ex h
  have sb := Sb.nil hP hD hS hA
  refine calI (va_runS (As := [.int a, .int (-1 : Int32), .int (7 : Int32)]) (rest := []) ⟨hx, hb, hml, hown, hts⟩ (c_X11_within l G D cA  _ a (-1 : Int32) (7 : Int32) r_1 hf_2) (va_cwS 3 hts gX11_mayBeListed_X11_within rfl rfl rfl (by decide +kernel) ⟨Nat.le_of_ble_eq_true rfl, Nat.le_of_ble_eq_true rfl⟩) (pvS hE hK hS sb) rfl rfl hv.1 rfl (lv_room (Nat.le_of_ble_eq_true rfl)) dX11_mayBeListed_4 ⟨Nat.le_of_ble_eq_true rfl, Nat.le_of_ble_eq_true rfl⟩) hS sb (Jn.nil hP hD) (fun H locs hP hD hS => ?_)
  have hP : va_P D vwCl (wE) H := hP
  have hD : va_D A (wE) := hD
  obtain ⟨hz, h⟩ := ck_ex h
  have h := Option.some.inj h
  have ee0 : r_1 = rR := congrArg (fun q => q) h
  subst ee0
  rw [← hQ]
  exact retZ hz hx hb hr hlk hK hP hD hS dX11_mayBeListed_7 ⟨Nat.le_of_ble_eq_true rfl, Nat.le_of_ble_eq_true rfl⟩

def fX11_commonPart_21 (v0_2 : Int32) (v1_2 : Int32) (v2_21 : Int32) : Option ((Int32) ⊕ ((Int32) ⊕ (Int32))) :=
  bnd (v2_21 + (-1 : Int32)) fun y_4 => some (.inl y_4)
def fX11_commonPart_2B (v0_2 : Int32) (v1_2 : Int32) (v2_2b : Int32) : Option ((Int32) ⊕ ((Int32) ⊕ (Int32))) :=
  (if v2_2b ≤ (1 : Int32) then some (.inr (.inl v2_2b)) else ck (¬ v2_2b = 0) ((if (v0_2 - v0_2 / v2_2b * v2_2b) = 0 then ck (¬ v2_2b = 0) ((if (v1_2 - v1_2 / v2_2b * v2_2b) = 0 then some (.inr (.inr v2_2b)) else fX11_commonPart_21 v0_2 v1_2 v2_2b)) else fX11_commonPart_21 v0_2 v1_2 v2_2b)))
def fX11_commonPart_2 (v0_2 : Int32) (v1_2 : Int32) (v2_2 : Int32) : Option (Int32) :=
  bd (lp (fun σ : Int32 => fX11_commonPart_2B v0_2 v1_2 σ) FU v2_2) fun ρ => match ρ with | .inl v2_2r => some (1 : Int32) | .inr q => some q
def fX11_commonPart (a : Int32) (b : Int32) : Option (Int32) :=
  fX11_commonPart_2 a b b
set_option maxHeartbeats 4000000 in
set_option maxRecDepth 100000 in
theorem c_X11_commonPart (l : Launch) (G : Nat → Nat) (D : va_G) (cA : Nat → ClassId) (sz : Nat) (a : Int32) (b : Int32) (rR : Int32) (h : fX11_commonPart a b = some rR) : Met l yX11_commonPart wsX11_commonPart ({ frames := 0, cells := 0, slots := 0, locals := 0 } : Room) (PW G D (tyC cA) sz (wE) [.int a, .int b]) (QI D (tyC cA) (va_A (wE) sz) rR (wE)) 0 0 (va_A (wE) sz) := by
  refine ent (cc := cX11_commonPart) (maxL := 3) (ret := (some .int)) (fun A => QI D (tyC cA) A rR (wE)) (by decide +kernel) rfl (Nat.le_of_ble_eq_true rfl) ?_
  intro p e s m args below meth c A ls H hx hb hml hr hlk hts hown hA hK hE hP hD hS hv hmm
  have hv : lv_has ls 3 [(0, .int a), (1, .int b)] := hv
  generalize hQ : MQ below _ args s 0 0 A = Q
  have C_2 : ∀ (v0_2 : Int32) (v1_2 : Int32) (v2_2 : Int32), fX11_commonPart_2 v0_2 v1_2 v2_2 = some rR → WW p l e ({ frames := 0, cells := 0, slots := 0, locals := 0 } : Room) s m args below meth c D A 0 0 Q (wE) 3 [(0, .int v0_2), (1, .int v1_2), (2, .int v2_2)] 2 [] := by
    intro v0_2 v1_2 v2_2 h
    unfold fX11_commonPart_2 at h
    obtain ⟨ρ, ho, h⟩ := bd_ex h
    have LR : ∀ q, ρ = .inr q → q = rR := by intro q e; subst e; exact Option.some.inj h
    have LE : ∀ (v2_2r : Int32), ρ = .inl v2_2r → WW p l e ({ frames := 0, cells := 0, slots := 0, locals := 0 } : Room) s m args below meth c D A 0 0 Q (wE) 3 [] 27 [] := by
      intro v2_2r e
      subst e
      intro H locs ls hP hD hS hv
      refine lv_iconst (v := (1 : Int32)) hx hb dX11_commonPart_27 (by decide) ?_
      have h := Option.some.inj h
      have ee0 : (1 : Int32) = rR := congrArg (fun q => q) h
      subst ee0
      rw [← hQ]
      exact retI hx hb hr hlk hK hP hD hS dX11_commonPart_28 ⟨Nat.le_of_ble_eq_true rfl, Nat.le_of_ble_eq_true rfl⟩
    have LB : ∀ (nf : Nat) (v2_2b : Int32), lp (fun σ : Int32 => fX11_commonPart_2B v0_2 v1_2 σ) nf v2_2b = some ρ → WW p l e ({ frames := 0, cells := 0, slots := 0, locals := 0 } : Room) s m args below meth c D A 0 0 Q (wE) 3 [(0, .int v0_2), (1, .int v1_2), (2, .int v2_2b)] 2 [] := by
      intro nf
      induction nf with
      | zero => intro v2_2b hl; cases hl
      | succ nf ih =>
        intro v2_2b hl
        obtain ⟨x, h, hl⟩ := lp_ex hl
        have h : fX11_commonPart_2B v0_2 v1_2 v2_2b = some x := h
        unfold fX11_commonPart_2B at h
        have C_21 : ∀ (v2_21 : Int32) (x : (Int32) ⊕ ((Int32) ⊕ (Int32))), fX11_commonPart_21 v0_2 v1_2 v2_21 = some x → lpk (fun σ : Int32 => fX11_commonPart_2B v0_2 v1_2 σ) nf x = some ρ → WW p l e ({ frames := 0, cells := 0, slots := 0, locals := 0 } : Room) s m args below meth c D A 0 0 Q (wE) 3 [(0, .int v0_2), (1, .int v1_2), (2, .int v2_21)] 21 [] := by
          intro v2_21 x h hl
          unfold fX11_commonPart_21 at h
          intro H locs ls hP hD hS hv
          obtain ⟨y_4, ey_4, h⟩ := bnd_ex h
          refine lv_iinc (v := y_4) (lv' := [(2, .int y_4), (0, .int v0_2), (1, .int v1_2)]) hx hb dX11_commonPart_21 hv (k := 2) rfl (by rw [ey_4]; rfl) (by decide) rfl (fun ls hv => ?_)
          refine lv_goto (tgt := 2) hx hb dX11_commonPart_24 (by decide) ?_
          cases h
          exact ih y_4 hl _ _ _ hP hD hS (lv_sub hv [1, 2, 0] rfl)
        intro H locs ls hP hD hS hv
        refine lv_iload_n hx hb dX11_commonPart_2 rfl (lv_at hv 2 rfl) ?_
        refine lv_iconst (v := (1 : Int32)) hx hb dX11_commonPart_3 (by decide) ?_
        refine lv_icmp_le (tgt := 27) hx hb dX11_commonPart_4 (by decide) (fun c_1 => ?_) (fun c_1 => ?_)
        · have h := ite_t c_1 h
          cases h
          have hl : some (Sum.inl v2_2b) = some ρ := hl
          cases hl
          exact LE _ rfl _ _ _ hP hD hS (lv_sub hv [] rfl)
        · have h := ite_f c_1 h
          refine lv_iload_n hx hb dX11_commonPart_7 rfl (lv_at hv 0 rfl) ?_
          refine lv_iload_n hx hb dX11_commonPart_8 rfl (lv_at hv 2 rfl) ?_
          obtain ⟨c_2, h⟩ := ck_ex h
          refine lv_irem hx hb dX11_commonPart_9 c_2 ?_
          refine lv_if_ne (tgt := 21) hx hb dX11_commonPart_10 (by decide) (fun c_3 => ?_) (fun c_3 => ?_)
          · have h := ite_f c_3 h
            exact C_21 v2_2b _ h hl _ _ _ hP hD hS (lv_sub hv [0, 1, 2] rfl)
          · have h := ite_t c_3 h
            refine lv_iload_n hx hb dX11_commonPart_13 rfl (lv_at hv 1 rfl) ?_
            refine lv_iload_n hx hb dX11_commonPart_14 rfl (lv_at hv 2 rfl) ?_
            obtain ⟨c_5, h⟩ := ck_ex h
            refine lv_irem hx hb dX11_commonPart_15 c_5 ?_
            refine lv_if_ne (tgt := 21) hx hb dX11_commonPart_16 (by decide) (fun c_6 => ?_) (fun c_6 => ?_)
            · have h := ite_f c_6 h
              exact C_21 v2_2b _ h hl _ _ _ hP hD hS (lv_sub hv [0, 1, 2] rfl)
            · have h := ite_t c_6 h
              refine lv_iload_n hx hb dX11_commonPart_19 rfl (lv_at hv 2 rfl) ?_
              cases h
              have hl : some (Sum.inr v2_2b) = some ρ := hl
              cases hl
              have h := LR _ rfl
              have ee0 : v2_2b = rR := congrArg (fun q => q) h
              subst ee0
              rw [← hQ]
              exact retI hx hb hr hlk hK hP hD hS dX11_commonPart_20 ⟨Nat.le_of_ble_eq_true rfl, Nat.le_of_ble_eq_true rfl⟩
    exact LB FU v2_2 ho
  have hP : va_P D vwCl (wE) H := hP
  unfold fX11_commonPart at h
  refine lv_iload_n hx hb dX11_commonPart_0 rfl (lv_at hv 1 rfl) ?_
  refine lv_istore_n (lv' := [(2, .int b), (0, .int a), (1, .int b)]) hx hb dX11_commonPart_1 rfl hv (by decide) rfl (fun ls hv => ?_)
  exact C_2 a b b h _ _ _ hP hD hS (lv_sub hv [1, 2, 0] rfl)

def fX3_freshIn (row : Int64) (w : Int32) : Option (Int32) :=
  some (((lushrJ row ((4 : Int32) * w))).toInt32 &&& (15 : Int32))
set_option maxHeartbeats 4000000 in
set_option maxRecDepth 100000 in
theorem c_X3_freshIn (l : Launch) (G : Nat → Nat) (D : va_G) (cA : Nat → ClassId) (sz : Nat) (row : Int64) (w : Int32) (rR : Int32) (h : fX3_freshIn row w = some rR) : Met l yX3_freshIn wsX3_freshIn ({ frames := 0, cells := 0, slots := 0, locals := 0 } : Room) (PW G D (tyC cA) sz (wE) [.long row, .int w]) (QI D (tyC cA) (va_A (wE) sz) rR (wE)) 0 0 (va_A (wE) sz) := by
  refine ent (cc := cX3_freshIn) (maxL := 3) (ret := (some .int)) (fun A => QI D (tyC cA) A rR (wE)) (by decide +kernel) rfl (Nat.le_of_ble_eq_true rfl) ?_
  intro p e s m args below meth c A ls H hx hb hml hr hlk hts hown hA hK hE hP hD hS hv hmm
  have hv : lv_has ls 3 [(0, .long row), (2, .int w)] := hv
  generalize hQ : MQ below _ args s 0 0 A = Q
  have hP : va_P D vwCl (wE) H := hP
  unfold fX3_freshIn at h
  refine lv_lload_n hx hb dX3_freshIn_0 rfl (lv_at hv 0 rfl) ?_
  refine lv_iconst (v := (4 : Int32)) hx hb dX3_freshIn_1 (by decide) ?_
  refine lv_iload_n hx hb dX3_freshIn_2 rfl (lv_at hv 1 rfl) ?_
  refine lv_imul hx hb dX3_freshIn_3 ?_
  refine lv_lushr (v := (lushrJ row ((4 : Int32) * w))) hx hb dX3_freshIn_4 rfl ?_
  refine lv_l2i (v := ((lushrJ row ((4 : Int32) * w))).toInt32) hx hb dX3_freshIn_5 rfl ?_
  refine lv_bipush (v := (15 : Int32)) hx hb dX3_freshIn_6 (by decide) ?_
  refine lv_iand hx hb dX3_freshIn_8 ?_
  have h := Option.some.inj h
  have ee0 : (((lushrJ row ((4 : Int32) * w))).toInt32 &&& (15 : Int32)) = rR := congrArg (fun q => q) h
  subst ee0
  rw [← hQ]
  exact retI hx hb hr hlk hK hP hD hS dX3_freshIn_9 ⟨Nat.le_of_ble_eq_true rfl, Nat.le_of_ble_eq_true rfl⟩

def fX3_withFresh (row : Int64) (w : Int32) (v : Int32) : Option (Int64) :=
  some ((row &&& ((lshlJ (15 : Int64) ((4 : Int32) * w)) ^^^ (-1 : Int64))) ||| (lshlJ ((v).toInt64) ((4 : Int32) * w)))
set_option maxHeartbeats 4000000 in
set_option maxRecDepth 100000 in
theorem c_X3_withFresh (l : Launch) (G : Nat → Nat) (D : va_G) (cA : Nat → ClassId) (sz : Nat) (row : Int64) (w : Int32) (v : Int32) (rR : Int64) (h : fX3_withFresh row w v = some rR) : Met l yX3_withFresh wsX3_withFresh ({ frames := 0, cells := 0, slots := 0, locals := 0 } : Room) (PW G D (tyC cA) sz (wE) [.long row, .int w, .int v]) (QL D (tyC cA) (va_A (wE) sz) rR (wE)) 0 0 (va_A (wE) sz) := by
  refine ent (cc := cX3_withFresh) (maxL := 4) (ret := (some .long)) (fun A => QL D (tyC cA) A rR (wE)) (by decide +kernel) rfl (Nat.le_of_ble_eq_true rfl) ?_
  intro p e s m args below meth c A ls H hx hb hml hr hlk hts hown hA hK hE hP hD hS hv hmm
  have hv : lv_has ls 4 [(0, .long row), (2, .int w), (3, .int v)] := hv
  have w_0 := hts (.constantLong RX3 175 (15)) (List.mem_of_getElem? (i := 1) rfl)
  have w_1 := hts (.constantLong RX3 177 (-1)) (List.mem_of_getElem? (i := 2) rfl)
  generalize hQ : MQ below _ args s 0 0 A = Q
  have hP : va_P D vwCl (wE) H := hP
  unfold fX3_withFresh at h
  refine lv_lload_n hx hb dX3_withFresh_0 rfl (lv_at hv 0 rfl) ?_
  refine lv_ldc2 (v := (15 : Int64)) hx hb hown w_0 dX3_withFresh_1 ?_
  refine lv_iconst (v := (4 : Int32)) hx hb dX3_withFresh_4 (by decide) ?_
  refine lv_iload_n hx hb dX3_withFresh_5 rfl (lv_at hv 1 rfl) ?_
  refine lv_imul hx hb dX3_withFresh_6 ?_
  refine lv_lshl (v := (lshlJ (15 : Int64) ((4 : Int32) * w))) hx hb dX3_withFresh_7 rfl ?_
  refine lv_ldc2 (v := (-1 : Int64)) hx hb hown w_1 dX3_withFresh_8 ?_
  refine lv_lxor hx hb dX3_withFresh_11 ?_
  refine lv_land hx hb dX3_withFresh_12 ?_
  refine lv_iload_n hx hb dX3_withFresh_13 rfl (lv_at hv 2 rfl) ?_
  refine lv_i2l (v := (v).toInt64) hx hb dX3_withFresh_14 rfl ?_
  refine lv_iconst (v := (4 : Int32)) hx hb dX3_withFresh_15 (by decide) ?_
  refine lv_iload_n hx hb dX3_withFresh_16 rfl (lv_at hv 1 rfl) ?_
  refine lv_imul hx hb dX3_withFresh_17 ?_
  refine lv_lshl (v := (lshlJ ((v).toInt64) ((4 : Int32) * w))) hx hb dX3_withFresh_18 rfl ?_
  refine lv_lor hx hb dX3_withFresh_19 ?_
  have h := Option.some.inj h
  have ee0 : ((row &&& ((lshlJ (15 : Int64) ((4 : Int32) * w)) ^^^ (-1 : Int64))) ||| (lshlJ ((v).toInt64) ((4 : Int32) * w))) = rR := congrArg (fun q => q) h
  subst ee0
  rw [← hQ]
  exact retL hx hb hr hlk hK hP hD hS dX3_withFresh_20 ⟨Nat.le_of_ble_eq_true rfl, Nat.le_of_ble_eq_true rfl⟩

def fX3_freshAtLeast_35 (v0_11 : Int64) (v2_11 : Int32) (v3_35 : Int32) (v4_35 : Int32) : Option ((Int32 × Int32) ⊕ (Int32 × Int32)) :=
  bnd (v4_35 + (1 : Int32)) fun y_6 => some (.inl (v3_35, y_6))
def fX3_freshAtLeast_11B (v0_11 : Int64) (v2_11 : Int32) (v3_11b : Int32) (v4_11b : Int32) : Option ((Int32 × Int32) ⊕ (Int32 × Int32)) :=
  (if (12 : Int32) ≤ v4_11b then some (.inr (v3_11b, v4_11b)) else bd (fX3_freshIn v0_11 v4_11b) fun r_3 => (if r_3 < v2_11 then fX3_freshAtLeast_35 v0_11 v2_11 v3_11b v4_11b else bnd (v3_11b ||| ((1 : Int32) <<< (v4_11b &&& 31))) fun y_7 => fX3_freshAtLeast_35 v0_11 v2_11 y_7 v4_11b))
def fX3_freshAtLeast_11 (v0_11 : Int64) (v2_11 : Int32) (v3_11 : Int32) (v4_11 : Int32) : Option (Int32) :=
  bd (lp (fun σ : Int32 × Int32 => fX3_freshAtLeast_11B v0_11 v2_11 (σ.1) (σ.2)) FU (v3_11, v4_11)) fun ρ => match ρ with | (v3_11r, v4_11r) => some v3_11r
def fX3_freshAtLeast (row : Int64) (lo : Int32) : Option (Int32) :=
  (if (lg_cmp row (0 : Int64)) = 0 then some (0 : Int32) else fX3_freshAtLeast_11 row lo (0 : Int32) (0 : Int32))
set_option maxHeartbeats 4000000 in
set_option maxRecDepth 100000 in
theorem c_X3_freshAtLeast (l : Launch) (G : Nat → Nat) (D : va_G) (cA : Nat → ClassId) (sz : Nat) (row : Int64) (lo : Int32) (rR : Int32) (h : fX3_freshAtLeast row lo = some rR) : Met l yX3_freshAtLeast wsX3_freshAtLeast ({ frames := 1, cells := 0, slots := 0, locals := 22 } : Room) (PW G D (tyC cA) sz (wE) [.long row, .int lo]) (QI D (tyC cA) (va_A (wE) sz) rR (wE)) 0 0 (va_A (wE) sz) := by
  refine ent (cc := cX3_freshAtLeast) (maxL := 5) (ret := (some .int)) (fun A => QI D (tyC cA) A rR (wE)) (by decide +kernel) rfl (Nat.le_of_ble_eq_true rfl) ?_
  intro p e s m args below meth c A ls H hx hb hml hr hlk hts hown hA hK hE hP hD hS hv hmm
  have hv : lv_has ls 5 [(0, .long row), (2, .int lo)] := hv
  generalize hQ : MQ below _ args s 0 0 A = Q
  have C_11 : ∀ (v0_11 : Int64) (v2_11 : Int32) (v3_11 : Int32) (v4_11 : Int32), fX3_freshAtLeast_11 v0_11 v2_11 v3_11 v4_11 = some rR → WW p l e ({ frames := 1, cells := 0, slots := 0, locals := 22 } : Room) s m args below meth c D A 0 0 Q (wE) 5 [(0, .long v0_11), (2, .int v2_11), (3, .int v3_11), (4, .int v4_11)] 11 [] := by
    intro v0_11 v2_11 v3_11 v4_11 h
    unfold fX3_freshAtLeast_11 at h
    obtain ⟨⟨v3_11r, v4_11r⟩, ho, h⟩ := bd_ex h
    have LE : WW p l e ({ frames := 1, cells := 0, slots := 0, locals := 22 } : Room) s m args below meth c D A 0 0 Q (wE) 5 [(3, .int v3_11r)] 41 [] := by
      intro H locs ls hP hD hS hv
      refine lv_iload_n hx hb dX3_freshAtLeast_41 rfl (lv_at hv 0 rfl) ?_
      have h := Option.some.inj h
      have ee0 : v3_11r = rR := congrArg (fun q => q) h
      subst ee0
      rw [← hQ]
      exact retI hx hb hr hlk hK hP hD hS dX3_freshAtLeast_42 ⟨Nat.le_of_ble_eq_true rfl, Nat.le_of_ble_eq_true rfl⟩
    have LB : ∀ (nf : Nat) (v3_11b : Int32) (v4_11b : Int32), lp (fun σ : Int32 × Int32 => fX3_freshAtLeast_11B v0_11 v2_11 (σ.1) (σ.2)) nf (v3_11b, v4_11b) = some (v3_11r, v4_11r) → WW p l e ({ frames := 1, cells := 0, slots := 0, locals := 22 } : Room) s m args below meth c D A 0 0 Q (wE) 5 [(0, .long v0_11), (2, .int v2_11), (3, .int v3_11b), (4, .int v4_11b)] 11 [] := by
      intro nf
      induction nf with
      | zero => intro v3_11b v4_11b hl; cases hl
      | succ nf ih =>
        intro v3_11b v4_11b hl
        obtain ⟨x, h, hl⟩ := lp_ex hl
        have h : fX3_freshAtLeast_11B v0_11 v2_11 v3_11b v4_11b = some x := h
        unfold fX3_freshAtLeast_11B at h
        have C_35 : ∀ (v3_35 : Int32) (v4_35 : Int32) (x : (Int32 × Int32) ⊕ (Int32 × Int32)), fX3_freshAtLeast_35 v0_11 v2_11 v3_35 v4_35 = some x → lpk (fun σ : Int32 × Int32 => fX3_freshAtLeast_11B v0_11 v2_11 (σ.1) (σ.2)) nf x = some (v3_11r, v4_11r) → WW p l e ({ frames := 1, cells := 0, slots := 0, locals := 22 } : Room) s m args below meth c D A 0 0 Q (wE) 5 [(0, .long v0_11), (2, .int v2_11), (3, .int v3_35), (4, .int v4_35)] 35 [] := by
          intro v3_35 v4_35 x h hl
          unfold fX3_freshAtLeast_35 at h
          intro H locs ls hP hD hS hv
          obtain ⟨y_6, ey_6, h⟩ := bnd_ex h
          refine lv_iinc (v := y_6) (lv' := [(4, .int y_6), (0, .long v0_11), (2, .int v2_11), (3, .int v3_35)]) hx hb dX3_freshAtLeast_35 hv (k := 3) rfl (by rw [ey_6]; rfl) (by decide) rfl (fun ls hv => ?_)
          refine lv_goto (tgt := 11) hx hb dX3_freshAtLeast_38 (by decide) ?_
          cases h
          exact ih v3_35 y_6 hl _ _ _ hP hD hS (lv_sub hv [1, 2, 3, 0] rfl)
        intro H locs ls hP hD hS hv
        refine lv_iload hx hb dX3_freshAtLeast_11 (lv_at hv 3 rfl) ?_
        refine lv_bipush (v := (12 : Int32)) hx hb dX3_freshAtLeast_13 (by decide) ?_
        refine lv_icmp_ge (tgt := 41) hx hb dX3_freshAtLeast_15 (by decide) (fun c_2 => ?_) (fun c_2 => ?_)
        · have h := ite_t c_2 h
          cases h
          have hl : some (v3_11b, v4_11b) = some (v3_11r, v4_11r) := hl
          have hl := Option.some.inj hl
          have ee0 : v3_11b = v3_11r := congrArg (fun q => q.1) hl
          have ee1 : v4_11b = v4_11r := congrArg (fun q => q.2) hl
          subst ee0
          subst ee1
          exact LE _ _ _ hP hD hS (lv_sub hv [2] rfl)
        · have h := ite_f c_2 h
          refine lv_lload_n hx hb dX3_freshAtLeast_18 rfl (lv_at hv 0 rfl) ?_
          refine lv_iload hx hb dX3_freshAtLeast_19 (lv_at hv 3 rfl) ?_
          obtain ⟨r_3, hf_4, h⟩ := bd_ex h
          have sb := Sb.nil hP hD hS hA
          refine calI (va_runS (As := [.long v0_11, .int v4_11b]) (rest := []) ⟨hx, hb, hml, hown, hts⟩ (c_X3_freshIn l G D cA  _ v0_11 v4_11b r_3 hf_4) (va_cwS 2 hts gX3_freshAtLeast_X3_freshIn rfl rfl rfl (by decide +kernel) ⟨Nat.le_of_ble_eq_true rfl, Nat.le_of_ble_eq_true rfl⟩) (pvS hE hK hS sb) rfl rfl hv.1 rfl (lv_room (Nat.le_of_ble_eq_true rfl)) dX3_freshAtLeast_21 ⟨Nat.le_of_ble_eq_true rfl, Nat.le_of_ble_eq_true rfl⟩) hS sb (Jn.nil hP hD) (fun H locs hP hD hS => ?_)
          have hP : va_P D vwCl (wE) H := hP
          have hD : va_D A (wE) := hD
          refine lv_iload_n hx hb dX3_freshAtLeast_24 rfl (lv_at hv 1 rfl) ?_
          refine lv_icmp_lt (tgt := 35) hx hb dX3_freshAtLeast_25 (by decide) (fun c_5 => ?_) (fun c_5 => ?_)
          · have h := ite_t c_5 h
            exact C_35 v3_11b v4_11b _ h hl _ _ _ hP hD hS (lv_sub hv [0, 1, 2, 3] rfl)
          · have h := ite_f c_5 h
            refine lv_iload_n hx hb dX3_freshAtLeast_28 rfl (lv_at hv 2 rfl) ?_
            refine lv_iconst (v := (1 : Int32)) hx hb dX3_freshAtLeast_29 (by decide) ?_
            refine lv_iload hx hb dX3_freshAtLeast_30 (lv_at hv 3 rfl) ?_
            refine lv_ishl hx hb dX3_freshAtLeast_32 ?_
            refine lv_ior hx hb dX3_freshAtLeast_33 ?_
            obtain ⟨y_7, ey_7, h⟩ := bnd_ex h
            refine lv_nm ey_7 ?_
            refine lv_istore_n (lv' := [(3, .int y_7), (0, .long v0_11), (2, .int v2_11), (4, .int v4_11b)]) hx hb dX3_freshAtLeast_34 rfl hv (by decide) rfl (fun ls hv => ?_)
            exact C_35 y_7 v4_11b _ h hl _ _ _ hP hD hS (lv_sub hv [1, 2, 0, 3] rfl)
    exact LB FU v3_11 v4_11 ho
  have hP : va_P D vwCl (wE) H := hP
  unfold fX3_freshAtLeast at h
  refine lv_iconst (v := (0 : Int32)) hx hb dX3_freshAtLeast_0 (by decide) ?_
  refine lv_istore_n (lv' := [(3, .int (0 : Int32)), (0, .long row), (2, .int lo)]) hx hb dX3_freshAtLeast_1 rfl hv (by decide) rfl (fun ls hv => ?_)
  refine lv_lload_n hx hb dX3_freshAtLeast_2 rfl (lv_at hv 1 rfl) ?_
  refine lv_lconst (v := (0 : Int64)) hx hb dX3_freshAtLeast_3 (by decide) ?_
  refine W.lcmp hx hb dX3_freshAtLeast_4 ?_
  refine lv_if_eq (tgt := 41) hx hb dX3_freshAtLeast_5 (by decide) (fun c_1 => ?_) (fun c_1 => ?_)
  · have h := ite_t c_1 h
    refine lv_iload_n hx hb dX3_freshAtLeast_41 rfl (lv_at hv 0 rfl) ?_
    have h := Option.some.inj h
    have ee0 : (0 : Int32) = rR := congrArg (fun q => q) h
    subst ee0
    rw [← hQ]
    exact retI hx hb hr hlk hK hP hD hS dX3_freshAtLeast_42 ⟨Nat.le_of_ble_eq_true rfl, Nat.le_of_ble_eq_true rfl⟩
  · have h := ite_f c_1 h
    refine lv_iconst (v := (0 : Int32)) hx hb dX3_freshAtLeast_8 (by decide) ?_
    refine lv_istore (lv' := [(4, .int (0 : Int32)), (3, .int (0 : Int32)), (0, .long row), (2, .int lo)]) hx hb dX3_freshAtLeast_9 hv (by decide) rfl (fun ls hv => ?_)
    exact C_11 row lo (0 : Int32) (0 : Int32) h _ _ _ hP hD hS (lv_sub hv [2, 3, 1, 0] rfl)

def fX3_halved (row : Int64) : Option (Int64) :=
  some ((lushrJ row (1 : Int32)) &&& (131354989131639 : Int64))
set_option maxHeartbeats 4000000 in
set_option maxRecDepth 100000 in
theorem c_X3_halved (l : Launch) (G : Nat → Nat) (D : va_G) (cA : Nat → ClassId) (sz : Nat) (row : Int64) (rR : Int64) (h : fX3_halved row = some rR) : Met l yX3_halved wsX3_halved ({ frames := 0, cells := 0, slots := 0, locals := 0 } : Room) (PW G D (tyC cA) sz (wE) [.long row]) (QL D (tyC cA) (va_A (wE) sz) rR (wE)) 0 0 (va_A (wE) sz) := by
  refine ent (cc := cX3_halved) (maxL := 2) (ret := (some .long)) (fun A => QL D (tyC cA) A rR (wE)) (by decide +kernel) rfl (Nat.le_of_ble_eq_true rfl) ?_
  intro p e s m args below meth c A ls H hx hb hml hr hlk hts hown hA hK hE hP hD hS hv hmm
  have hv : lv_has ls 2 [(0, .long row)] := hv
  have w_0 := hts (.constantLong RX3 179 (131354989131639)) (List.mem_of_getElem? (i := 1) rfl)
  generalize hQ : MQ below _ args s 0 0 A = Q
  have hP : va_P D vwCl (wE) H := hP
  unfold fX3_halved at h
  refine lv_lload_n hx hb dX3_halved_0 rfl (lv_at hv 0 rfl) ?_
  refine lv_iconst (v := (1 : Int32)) hx hb dX3_halved_1 (by decide) ?_
  refine lv_lushr (v := (lushrJ row (1 : Int32))) hx hb dX3_halved_2 rfl ?_
  refine lv_ldc2 (v := (131354989131639 : Int64)) hx hb hown w_0 dX3_halved_3 ?_
  refine lv_land hx hb dX3_halved_6 ?_
  have h := Option.some.inj h
  have ee0 : ((lushrJ row (1 : Int32)) &&& (131354989131639 : Int64)) = rR := congrArg (fun q => q) h
  subst ee0
  rw [← hQ]
  exact retL hx hb hr hlk hK hP hD hS dX3_halved_7 ⟨Nat.le_of_ble_eq_true rfl, Nat.le_of_ble_eq_true rfl⟩

def fX3_aged (row : Int64) : Option (Int64) :=
  bnd (row ||| (lushrJ row (1 : Int32))) fun y_1 => bnd (y_1 ||| (lushrJ y_1 (2 : Int32))) fun y_2 => some (row - (y_2 &&& (18764998447377 : Int64)))
set_option maxHeartbeats 4000000 in
set_option maxRecDepth 100000 in
theorem c_X3_aged (l : Launch) (G : Nat → Nat) (D : va_G) (cA : Nat → ClassId) (sz : Nat) (row : Int64) (rR : Int64) (h : fX3_aged row = some rR) : Met l yX3_aged wsX3_aged ({ frames := 0, cells := 0, slots := 0, locals := 0 } : Room) (PW G D (tyC cA) sz (wE) [.long row]) (QL D (tyC cA) (va_A (wE) sz) rR (wE)) 0 0 (va_A (wE) sz) := by
  refine ent (cc := cX3_aged) (maxL := 4) (ret := (some .long)) (fun A => QL D (tyC cA) A rR (wE)) (by decide +kernel) rfl (Nat.le_of_ble_eq_true rfl) ?_
  intro p e s m args below meth c A ls H hx hb hml hr hlk hts hown hA hK hE hP hD hS hv hmm
  have hv : lv_has ls 4 [(0, .long row)] := hv
  have w_0 := hts (.constantLong RX3 181 (18764998447377)) (List.mem_of_getElem? (i := 1) rfl)
  generalize hQ : MQ below _ args s 0 0 A = Q
  have hP : va_P D vwCl (wE) H := hP
  unfold fX3_aged at h
  refine lv_lload_n hx hb dX3_aged_0 rfl (lv_at hv 0 rfl) ?_
  refine lv_lload_n hx hb dX3_aged_1 rfl (lv_at hv 0 rfl) ?_
  refine lv_iconst (v := (1 : Int32)) hx hb dX3_aged_2 (by decide) ?_
  refine lv_lushr (v := (lushrJ row (1 : Int32))) hx hb dX3_aged_3 rfl ?_
  refine lv_lor hx hb dX3_aged_4 ?_
  obtain ⟨y_1, ey_1, h⟩ := bnd_ex h
  refine lv_nml ey_1 ?_
  refine lv_lstore_n (lv' := [(2, .long y_1), (0, .long row)]) hx hb dX3_aged_5 rfl hv (by decide) rfl (fun ls hv => ?_)
  refine lv_lload_n hx hb dX3_aged_6 rfl (lv_at hv 0 rfl) ?_
  refine lv_lload_n hx hb dX3_aged_7 rfl (lv_at hv 0 rfl) ?_
  refine lv_iconst (v := (2 : Int32)) hx hb dX3_aged_8 (by decide) ?_
  refine lv_lushr (v := (lushrJ y_1 (2 : Int32))) hx hb dX3_aged_9 rfl ?_
  refine lv_lor hx hb dX3_aged_10 ?_
  obtain ⟨y_2, ey_2, h⟩ := bnd_ex h
  refine lv_nml ey_2 ?_
  refine lv_lstore_n (lv' := [(2, .long y_2), (0, .long row)]) hx hb dX3_aged_11 rfl hv (by decide) rfl (fun ls hv => ?_)
  refine lv_lload_n hx hb dX3_aged_12 rfl (lv_at hv 1 rfl) ?_
  refine lv_lload_n hx hb dX3_aged_13 rfl (lv_at hv 0 rfl) ?_
  refine lv_ldc2 (v := (18764998447377 : Int64)) hx hb hown w_0 dX3_aged_14 ?_
  refine lv_land hx hb dX3_aged_17 ?_
  refine lv_lsub hx hb dX3_aged_18 ?_
  have h := Option.some.inj h
  have ee0 : (row - (y_2 &&& (18764998447377 : Int64))) = rR := congrArg (fun q => q) h
  subst ee0
  rw [← hQ]
  exact retL hx hb hr hlk hK hP hD hS dX3_aged_19 ⟨Nat.le_of_ble_eq_true rfl, Nat.le_of_ble_eq_true rfl⟩

def fX9_joined (sg : Int32) (v : Int32) (w : Int32) : Option (Int32) :=
  (if sg = (38 : Int32) then (if v = 0 then some (0 : Int32) else (if w = 0 then some (0 : Int32) else some (1 : Int32))) else (if sg = (42 : Int32) then some (v * w) else (if sg = (43 : Int32) then some (v + w) else (if sg = (45 : Int32) then some (v - w) else (if sg = (47 : Int32) then (if w = 0 then some (0 : Int32) else ck (¬ w = 0) (some (v / w))) else (if sg = (60 : Int32) then (if w ≤ v then some (0 : Int32) else some (1 : Int32)) else (if sg = (61 : Int32) then (if v = w then some (1 : Int32) else some (0 : Int32)) else (if sg = (62 : Int32) then (if v ≤ w then some (0 : Int32) else some (1 : Int32)) else (if sg = (124 : Int32) then (if v = 0 then (if w = 0 then some (0 : Int32) else some (1 : Int32)) else some (1 : Int32)) else (if w = 0 then some (0 : Int32) else ck (¬ w = 0) (some (v - v / w * w))))))))))))
set_option maxHeartbeats 4000000 in
set_option maxRecDepth 100000 in
theorem c_X9_joined (l : Launch) (G : Nat → Nat) (D : va_G) (cA : Nat → ClassId) (sz : Nat) (sg : Int32) (v : Int32) (w : Int32) (rR : Int32) (h : fX9_joined sg v w = some rR) : Met l yX9_joined wsX9_joined ({ frames := 0, cells := 0, slots := 0, locals := 0 } : Room) (PW G D (tyC cA) sz (wE) [.int sg, .int v, .int w]) (QI D (tyC cA) (va_A (wE) sz) rR (wE)) 0 0 (va_A (wE) sz) := by
  refine ent (cc := cX9_joined) (maxL := 3) (ret := (some .int)) (fun A => QI D (tyC cA) A rR (wE)) (by decide +kernel) rfl (Nat.le_of_ble_eq_true rfl) ?_
  intro p e s m args below meth c A ls H hx hb hml hr hlk hts hown hA hK hE hP hD hS hv hmm
  have hv : lv_has ls 3 [(0, .int sg), (1, .int v), (2, .int w)] := hv
  generalize hQ : MQ below _ args s 0 0 A = Q
  have hP : va_P D vwCl (wE) H := hP
  unfold fX9_joined at h
  refine lv_iload_n hx hb dX9_joined_0 rfl (lv_at hv 0 rfl) ?_
  by_cases c_1 : sg = (38 : Int32)
  · refine lv_lookup (tgt := 98) (off := 97) hx hb dX9_joined_1 (by decide) (by rw [c_1]; rfl) (by decide) ?_
    have h := ite_t c_1 h
    refine lv_iload_n hx hb dX9_joined_98 rfl (lv_at hv 1 rfl) ?_
    refine lv_if_eq (tgt := 110) hx hb dX9_joined_99 (by decide) (fun c_2 => ?_) (fun c_2 => ?_)
    · have h := ite_t c_2 h
      refine lv_iconst (v := (0 : Int32)) hx hb dX9_joined_110 (by decide) ?_
      have h := Option.some.inj h
      have ee0 : (0 : Int32) = rR := congrArg (fun q => q) h
      subst ee0
      rw [← hQ]
      exact retI hx hb hr hlk hK hP hD hS dX9_joined_111 ⟨Nat.le_of_ble_eq_true rfl, Nat.le_of_ble_eq_true rfl⟩
    · have h := ite_f c_2 h
      refine lv_iload_n hx hb dX9_joined_102 rfl (lv_at hv 2 rfl) ?_
      refine lv_if_eq (tgt := 110) hx hb dX9_joined_103 (by decide) (fun c_3 => ?_) (fun c_3 => ?_)
      · have h := ite_t c_3 h
        refine lv_iconst (v := (0 : Int32)) hx hb dX9_joined_110 (by decide) ?_
        have h := Option.some.inj h
        have ee0 : (0 : Int32) = rR := congrArg (fun q => q) h
        subst ee0
        rw [← hQ]
        exact retI hx hb hr hlk hK hP hD hS dX9_joined_111 ⟨Nat.le_of_ble_eq_true rfl, Nat.le_of_ble_eq_true rfl⟩
      · have h := ite_f c_3 h
        refine lv_iconst (v := (1 : Int32)) hx hb dX9_joined_106 (by decide) ?_
        refine lv_goto (tgt := 111) hx hb dX9_joined_107 (by decide) ?_
        have h := Option.some.inj h
        have ee0 : (1 : Int32) = rR := congrArg (fun q => q) h
        subst ee0
        rw [← hQ]
        exact retI hx hb hr hlk hK hP hD hS dX9_joined_111 ⟨Nat.le_of_ble_eq_true rfl, Nat.le_of_ble_eq_true rfl⟩
  have h := ite_f c_1 h
  by_cases c_4 : sg = (42 : Int32)
  · refine lv_lookup (tgt := 153) (off := 152) hx hb dX9_joined_1 (by decide) (by rw [c_4]; rfl) (by decide) ?_
    have h := ite_t c_4 h
    refine lv_iload_n hx hb dX9_joined_153 rfl (lv_at hv 1 rfl) ?_
    refine lv_iload_n hx hb dX9_joined_154 rfl (lv_at hv 2 rfl) ?_
    refine lv_imul hx hb dX9_joined_155 ?_
    have h := Option.some.inj h
    have ee0 : (v * w) = rR := congrArg (fun q => q) h
    subst ee0
    rw [← hQ]
    exact retI hx hb hr hlk hK hP hD hS dX9_joined_156 ⟨Nat.le_of_ble_eq_true rfl, Nat.le_of_ble_eq_true rfl⟩
  have h := ite_f c_4 h
  by_cases c_5 : sg = (43 : Int32)
  · refine lv_lookup (tgt := 145) (off := 144) hx hb dX9_joined_1 (by decide) (by rw [c_5]; rfl) (by decide) ?_
    have h := ite_t c_5 h
    refine lv_iload_n hx hb dX9_joined_145 rfl (lv_at hv 1 rfl) ?_
    refine lv_iload_n hx hb dX9_joined_146 rfl (lv_at hv 2 rfl) ?_
    refine lv_iadd hx hb dX9_joined_147 ?_
    have h := Option.some.inj h
    have ee0 : (v + w) = rR := congrArg (fun q => q) h
    subst ee0
    rw [← hQ]
    exact retI hx hb hr hlk hK hP hD hS dX9_joined_148 ⟨Nat.le_of_ble_eq_true rfl, Nat.le_of_ble_eq_true rfl⟩
  have h := ite_f c_5 h
  by_cases c_6 : sg = (45 : Int32)
  · refine lv_lookup (tgt := 149) (off := 148) hx hb dX9_joined_1 (by decide) (by rw [c_6]; rfl) (by decide) ?_
    have h := ite_t c_6 h
    refine lv_iload_n hx hb dX9_joined_149 rfl (lv_at hv 1 rfl) ?_
    refine lv_iload_n hx hb dX9_joined_150 rfl (lv_at hv 2 rfl) ?_
    refine lv_isub hx hb dX9_joined_151 ?_
    have h := Option.some.inj h
    have ee0 : (v - w) = rR := congrArg (fun q => q) h
    subst ee0
    rw [← hQ]
    exact retI hx hb hr hlk hK hP hD hS dX9_joined_152 ⟨Nat.le_of_ble_eq_true rfl, Nat.le_of_ble_eq_true rfl⟩
  have h := ite_f c_6 h
  by_cases c_7 : sg = (47 : Int32)
  · refine lv_lookup (tgt := 157) (off := 156) hx hb dX9_joined_1 (by decide) (by rw [c_7]; rfl) (by decide) ?_
    have h := ite_t c_7 h
    refine lv_iload_n hx hb dX9_joined_157 rfl (lv_at hv 2 rfl) ?_
    refine lv_if_ne (tgt := 165) hx hb dX9_joined_158 (by decide) (fun c_8 => ?_) (fun c_8 => ?_)
    · have h := ite_f c_8 h
      refine lv_iload_n hx hb dX9_joined_165 rfl (lv_at hv 1 rfl) ?_
      refine lv_iload_n hx hb dX9_joined_166 rfl (lv_at hv 2 rfl) ?_
      obtain ⟨c_9, h⟩ := ck_ex h
      refine lv_idiv hx hb dX9_joined_167 c_9 ?_
      have h := Option.some.inj h
      have ee0 : (v / w) = rR := congrArg (fun q => q) h
      subst ee0
      rw [← hQ]
      exact retI hx hb hr hlk hK hP hD hS dX9_joined_168 ⟨Nat.le_of_ble_eq_true rfl, Nat.le_of_ble_eq_true rfl⟩
    · have h := ite_t c_8 h
      refine lv_iconst (v := (0 : Int32)) hx hb dX9_joined_161 (by decide) ?_
      refine lv_goto (tgt := 168) hx hb dX9_joined_162 (by decide) ?_
      have h := Option.some.inj h
      have ee0 : (0 : Int32) = rR := congrArg (fun q => q) h
      subst ee0
      rw [← hQ]
      exact retI hx hb hr hlk hK hP hD hS dX9_joined_168 ⟨Nat.le_of_ble_eq_true rfl, Nat.le_of_ble_eq_true rfl⟩
  have h := ite_f c_7 h
  by_cases c_10 : sg = (60 : Int32)
  · refine lv_lookup (tgt := 112) (off := 111) hx hb dX9_joined_1 (by decide) (by rw [c_10]; rfl) (by decide) ?_
    have h := ite_t c_10 h
    refine lv_iload_n hx hb dX9_joined_112 rfl (lv_at hv 1 rfl) ?_
    refine lv_iload_n hx hb dX9_joined_113 rfl (lv_at hv 2 rfl) ?_
    refine lv_icmp_ge (tgt := 121) hx hb dX9_joined_114 (by decide) (fun c_11 => ?_) (fun c_11 => ?_)
    · have h := ite_t c_11 h
      refine lv_iconst (v := (0 : Int32)) hx hb dX9_joined_121 (by decide) ?_
      have h := Option.some.inj h
      have ee0 : (0 : Int32) = rR := congrArg (fun q => q) h
      subst ee0
      rw [← hQ]
      exact retI hx hb hr hlk hK hP hD hS dX9_joined_122 ⟨Nat.le_of_ble_eq_true rfl, Nat.le_of_ble_eq_true rfl⟩
    · have h := ite_f c_11 h
      refine lv_iconst (v := (1 : Int32)) hx hb dX9_joined_117 (by decide) ?_
      refine lv_goto (tgt := 122) hx hb dX9_joined_118 (by decide) ?_
      have h := Option.some.inj h
      have ee0 : (1 : Int32) = rR := congrArg (fun q => q) h
      subst ee0
      rw [← hQ]
      exact retI hx hb hr hlk hK hP hD hS dX9_joined_122 ⟨Nat.le_of_ble_eq_true rfl, Nat.le_of_ble_eq_true rfl⟩
  have h := ite_f c_10 h
  by_cases c_12 : sg = (61 : Int32)
  · refine lv_lookup (tgt := 123) (off := 122) hx hb dX9_joined_1 (by decide) (by rw [c_12]; rfl) (by decide) ?_
    have h := ite_t c_12 h
    refine lv_iload_n hx hb dX9_joined_123 rfl (lv_at hv 1 rfl) ?_
    refine lv_iload_n hx hb dX9_joined_124 rfl (lv_at hv 2 rfl) ?_
    refine lv_icmp_ne (tgt := 132) hx hb dX9_joined_125 (by decide) (fun c_13 => ?_) (fun c_13 => ?_)
    · have h := ite_f c_13 h
      refine lv_iconst (v := (0 : Int32)) hx hb dX9_joined_132 (by decide) ?_
      have h := Option.some.inj h
      have ee0 : (0 : Int32) = rR := congrArg (fun q => q) h
      subst ee0
      rw [← hQ]
      exact retI hx hb hr hlk hK hP hD hS dX9_joined_133 ⟨Nat.le_of_ble_eq_true rfl, Nat.le_of_ble_eq_true rfl⟩
    · have h := ite_t c_13 h
      refine lv_iconst (v := (1 : Int32)) hx hb dX9_joined_128 (by decide) ?_
      refine lv_goto (tgt := 133) hx hb dX9_joined_129 (by decide) ?_
      have h := Option.some.inj h
      have ee0 : (1 : Int32) = rR := congrArg (fun q => q) h
      subst ee0
      rw [← hQ]
      exact retI hx hb hr hlk hK hP hD hS dX9_joined_133 ⟨Nat.le_of_ble_eq_true rfl, Nat.le_of_ble_eq_true rfl⟩
  have h := ite_f c_12 h
  by_cases c_14 : sg = (62 : Int32)
  · refine lv_lookup (tgt := 134) (off := 133) hx hb dX9_joined_1 (by decide) (by rw [c_14]; rfl) (by decide) ?_
    have h := ite_t c_14 h
    refine lv_iload_n hx hb dX9_joined_134 rfl (lv_at hv 1 rfl) ?_
    refine lv_iload_n hx hb dX9_joined_135 rfl (lv_at hv 2 rfl) ?_
    refine lv_icmp_le (tgt := 143) hx hb dX9_joined_136 (by decide) (fun c_15 => ?_) (fun c_15 => ?_)
    · have h := ite_t c_15 h
      refine lv_iconst (v := (0 : Int32)) hx hb dX9_joined_143 (by decide) ?_
      have h := Option.some.inj h
      have ee0 : (0 : Int32) = rR := congrArg (fun q => q) h
      subst ee0
      rw [← hQ]
      exact retI hx hb hr hlk hK hP hD hS dX9_joined_144 ⟨Nat.le_of_ble_eq_true rfl, Nat.le_of_ble_eq_true rfl⟩
    · have h := ite_f c_15 h
      refine lv_iconst (v := (1 : Int32)) hx hb dX9_joined_139 (by decide) ?_
      refine lv_goto (tgt := 144) hx hb dX9_joined_140 (by decide) ?_
      have h := Option.some.inj h
      have ee0 : (1 : Int32) = rR := congrArg (fun q => q) h
      subst ee0
      rw [← hQ]
      exact retI hx hb hr hlk hK hP hD hS dX9_joined_144 ⟨Nat.le_of_ble_eq_true rfl, Nat.le_of_ble_eq_true rfl⟩
  have h := ite_f c_14 h
  by_cases c_16 : sg = (124 : Int32)
  · refine lv_lookup (tgt := 84) (off := 83) hx hb dX9_joined_1 (by decide) (by rw [c_16]; rfl) (by decide) ?_
    have h := ite_t c_16 h
    refine lv_iload_n hx hb dX9_joined_84 rfl (lv_at hv 1 rfl) ?_
    refine lv_if_ne (tgt := 92) hx hb dX9_joined_85 (by decide) (fun c_17 => ?_) (fun c_17 => ?_)
    · have h := ite_f c_17 h
      refine lv_iconst (v := (1 : Int32)) hx hb dX9_joined_92 (by decide) ?_
      refine lv_goto (tgt := 97) hx hb dX9_joined_93 (by decide) ?_
      have h := Option.some.inj h
      have ee0 : (1 : Int32) = rR := congrArg (fun q => q) h
      subst ee0
      rw [← hQ]
      exact retI hx hb hr hlk hK hP hD hS dX9_joined_97 ⟨Nat.le_of_ble_eq_true rfl, Nat.le_of_ble_eq_true rfl⟩
    · have h := ite_t c_17 h
      refine lv_iload_n hx hb dX9_joined_88 rfl (lv_at hv 2 rfl) ?_
      refine lv_if_eq (tgt := 96) hx hb dX9_joined_89 (by decide) (fun c_18 => ?_) (fun c_18 => ?_)
      · have h := ite_t c_18 h
        refine lv_iconst (v := (0 : Int32)) hx hb dX9_joined_96 (by decide) ?_
        have h := Option.some.inj h
        have ee0 : (0 : Int32) = rR := congrArg (fun q => q) h
        subst ee0
        rw [← hQ]
        exact retI hx hb hr hlk hK hP hD hS dX9_joined_97 ⟨Nat.le_of_ble_eq_true rfl, Nat.le_of_ble_eq_true rfl⟩
      · have h := ite_f c_18 h
        refine lv_iconst (v := (1 : Int32)) hx hb dX9_joined_92 (by decide) ?_
        refine lv_goto (tgt := 97) hx hb dX9_joined_93 (by decide) ?_
        have h := Option.some.inj h
        have ee0 : (1 : Int32) = rR := congrArg (fun q => q) h
        subst ee0
        rw [← hQ]
        exact retI hx hb hr hlk hK hP hD hS dX9_joined_97 ⟨Nat.le_of_ble_eq_true rfl, Nat.le_of_ble_eq_true rfl⟩
  have h := ite_f c_16 h
  refine lv_lookup (tgt := 169) (off := 168) hx hb dX9_joined_1 (by decide) (by show Op.lookupswitch.offset [(38, 97), (42, 152), (43, 144), (45, 148), (47, 156), (60, 111), (61, 122), (62, 133), (124, 83)] (168) _ = _; rw [lv_osw (a := 38) c_1 (by decide), lv_osw (a := 42) c_4 (by decide), lv_osw (a := 43) c_5 (by decide), lv_osw (a := 45) c_6 (by decide), lv_osw (a := 47) c_7 (by decide), lv_osw (a := 60) c_10 (by decide), lv_osw (a := 61) c_12 (by decide), lv_osw (a := 62) c_14 (by decide), lv_osw (a := 124) c_16 (by decide)]; rfl) (by decide) ?_
  refine lv_iload_n hx hb dX9_joined_169 rfl (lv_at hv 2 rfl) ?_
  refine lv_if_ne (tgt := 177) hx hb dX9_joined_170 (by decide) (fun c_19 => ?_) (fun c_19 => ?_)
  · have h := ite_f c_19 h
    refine lv_iload_n hx hb dX9_joined_177 rfl (lv_at hv 1 rfl) ?_
    refine lv_iload_n hx hb dX9_joined_178 rfl (lv_at hv 2 rfl) ?_
    obtain ⟨c_20, h⟩ := ck_ex h
    refine lv_irem hx hb dX9_joined_179 c_20 ?_
    have h := Option.some.inj h
    have ee0 : (v - v / w * w) = rR := congrArg (fun q => q) h
    subst ee0
    rw [← hQ]
    exact retI hx hb hr hlk hK hP hD hS dX9_joined_180 ⟨Nat.le_of_ble_eq_true rfl, Nat.le_of_ble_eq_true rfl⟩
  · have h := ite_t c_19 h
    refine lv_iconst (v := (0 : Int32)) hx hb dX9_joined_173 (by decide) ?_
    refine lv_goto (tgt := 180) hx hb dX9_joined_174 (by decide) ?_
    have h := Option.some.inj h
    have ee0 : (0 : Int32) = rR := congrArg (fun q => q) h
    subst ee0
    rw [← hQ]
    exact retI hx hb hr hlk hK hP hD hS dX9_joined_180 ⟨Nat.le_of_ble_eq_true rfl, Nat.le_of_ble_eq_true rfl⟩

def fJ6_bitCount_0f7a4 (v : Int32) : Option (Int32) :=
  bnd (v - ((iushr v (1 : Int32)) &&& (1431655765 : Int32))) fun y_1 => bnd ((y_1 &&& (858993459 : Int32)) + ((iushr y_1 (2 : Int32)) &&& (858993459 : Int32))) fun y_2 => bnd ((y_2 + (iushr y_2 (4 : Int32))) &&& (252645135 : Int32)) fun y_3 => bnd (y_3 + (iushr y_3 (8 : Int32))) fun y_4 => bnd (y_4 + (iushr y_4 (16 : Int32))) fun y_5 => some (y_5 &&& (63 : Int32))
set_option maxHeartbeats 4000000 in
set_option maxRecDepth 100000 in
theorem c_J6_bitCount_0f7a4 (l : Launch) (G : Nat → Nat) (D : va_G) (cA : Nat → ClassId) (sz : Nat) (v : Int32) (rR : Int32) (h : fJ6_bitCount_0f7a4 v = some rR) : Met l yJ6_bitCount_0f7a4 wsJ6_bitCount_0f7a4 ({ frames := 0, cells := 0, slots := 0, locals := 0 } : Room) (PW G D (tyC cA) sz (wE) [.int v]) (QI D (tyC cA) (va_A (wE) sz) rR (wE)) 0 0 (va_A (wE) sz) := by
  refine ent (cc := cJ6_bitCount_0f7a4) (maxL := 1) (ret := (some .int)) (fun A => QI D (tyC cA) A rR (wE)) (by decide +kernel) rfl (Nat.le_of_ble_eq_true rfl) ?_
  intro p e s m args below meth c A ls H hx hb hml hr hlk hts hown hA hK hE hP hD hS hv hmm
  have hv : lv_has ls 1 [(0, .int v)] := hv
  have w_0 := hts (.constant RJ6 265 (1431655765)) (List.mem_of_getElem? (i := 1) rfl)
  have w_1 := hts (.constant RJ6 266 (858993459)) (List.mem_of_getElem? (i := 2) rfl)
  have w_2 := hts (.constant RJ6 267 (252645135)) (List.mem_of_getElem? (i := 3) rfl)
  generalize hQ : MQ below _ args s 0 0 A = Q
  have hP : va_P D vwCl (wE) H := hP
  unfold fJ6_bitCount_0f7a4 at h
  refine lv_iload_n hx hb dJ6_bitCount_0f7a4_0 rfl (lv_at hv 0 rfl) ?_
  refine lv_iload_n hx hb dJ6_bitCount_0f7a4_1 rfl (lv_at hv 0 rfl) ?_
  refine lv_iconst (v := (1 : Int32)) hx hb dJ6_bitCount_0f7a4_2 (by decide) ?_
  refine lv_iushr (v := (iushr v (1 : Int32))) hx hb dJ6_bitCount_0f7a4_3 rfl ?_
  refine lv_ldcw (v := (1431655765 : Int32)) hx hb hown w_0 dJ6_bitCount_0f7a4_4 ?_
  refine lv_iand hx hb dJ6_bitCount_0f7a4_7 ?_
  refine lv_isub hx hb dJ6_bitCount_0f7a4_8 ?_
  obtain ⟨y_1, ey_1, h⟩ := bnd_ex h
  refine lv_nm ey_1 ?_
  refine lv_istore_n (lv' := [(0, .int y_1)]) hx hb dJ6_bitCount_0f7a4_9 rfl hv (by decide) rfl (fun ls hv => ?_)
  refine lv_iload_n hx hb dJ6_bitCount_0f7a4_10 rfl (lv_at hv 0 rfl) ?_
  refine lv_ldcw (v := (858993459 : Int32)) hx hb hown w_1 dJ6_bitCount_0f7a4_11 ?_
  refine lv_iand hx hb dJ6_bitCount_0f7a4_14 ?_
  refine lv_iload_n hx hb dJ6_bitCount_0f7a4_15 rfl (lv_at hv 0 rfl) ?_
  refine lv_iconst (v := (2 : Int32)) hx hb dJ6_bitCount_0f7a4_16 (by decide) ?_
  refine lv_iushr (v := (iushr y_1 (2 : Int32))) hx hb dJ6_bitCount_0f7a4_17 rfl ?_
  refine lv_ldcw (v := (858993459 : Int32)) hx hb hown w_1 dJ6_bitCount_0f7a4_18 ?_
  refine lv_iand hx hb dJ6_bitCount_0f7a4_21 ?_
  refine lv_iadd hx hb dJ6_bitCount_0f7a4_22 ?_
  obtain ⟨y_2, ey_2, h⟩ := bnd_ex h
  refine lv_nm ey_2 ?_
  refine lv_istore_n (lv' := [(0, .int y_2)]) hx hb dJ6_bitCount_0f7a4_23 rfl hv (by decide) rfl (fun ls hv => ?_)
  refine lv_iload_n hx hb dJ6_bitCount_0f7a4_24 rfl (lv_at hv 0 rfl) ?_
  refine lv_iload_n hx hb dJ6_bitCount_0f7a4_25 rfl (lv_at hv 0 rfl) ?_
  refine lv_iconst (v := (4 : Int32)) hx hb dJ6_bitCount_0f7a4_26 (by decide) ?_
  refine lv_iushr (v := (iushr y_2 (4 : Int32))) hx hb dJ6_bitCount_0f7a4_27 rfl ?_
  refine lv_iadd hx hb dJ6_bitCount_0f7a4_28 ?_
  refine lv_ldcw (v := (252645135 : Int32)) hx hb hown w_2 dJ6_bitCount_0f7a4_29 ?_
  refine lv_iand hx hb dJ6_bitCount_0f7a4_32 ?_
  obtain ⟨y_3, ey_3, h⟩ := bnd_ex h
  refine lv_nm ey_3 ?_
  refine lv_istore_n (lv' := [(0, .int y_3)]) hx hb dJ6_bitCount_0f7a4_33 rfl hv (by decide) rfl (fun ls hv => ?_)
  refine lv_iload_n hx hb dJ6_bitCount_0f7a4_34 rfl (lv_at hv 0 rfl) ?_
  refine lv_iload_n hx hb dJ6_bitCount_0f7a4_35 rfl (lv_at hv 0 rfl) ?_
  refine lv_bipush (v := (8 : Int32)) hx hb dJ6_bitCount_0f7a4_36 (by decide) ?_
  refine lv_iushr (v := (iushr y_3 (8 : Int32))) hx hb dJ6_bitCount_0f7a4_38 rfl ?_
  refine lv_iadd hx hb dJ6_bitCount_0f7a4_39 ?_
  obtain ⟨y_4, ey_4, h⟩ := bnd_ex h
  refine lv_nm ey_4 ?_
  refine lv_istore_n (lv' := [(0, .int y_4)]) hx hb dJ6_bitCount_0f7a4_40 rfl hv (by decide) rfl (fun ls hv => ?_)
  refine lv_iload_n hx hb dJ6_bitCount_0f7a4_41 rfl (lv_at hv 0 rfl) ?_
  refine lv_iload_n hx hb dJ6_bitCount_0f7a4_42 rfl (lv_at hv 0 rfl) ?_
  refine lv_bipush (v := (16 : Int32)) hx hb dJ6_bitCount_0f7a4_43 (by decide) ?_
  refine lv_iushr (v := (iushr y_4 (16 : Int32))) hx hb dJ6_bitCount_0f7a4_45 rfl ?_
  refine lv_iadd hx hb dJ6_bitCount_0f7a4_46 ?_
  obtain ⟨y_5, ey_5, h⟩ := bnd_ex h
  refine lv_nm ey_5 ?_
  refine lv_istore_n (lv' := [(0, .int y_5)]) hx hb dJ6_bitCount_0f7a4_47 rfl hv (by decide) rfl (fun ls hv => ?_)
  refine lv_iload_n hx hb dJ6_bitCount_0f7a4_48 rfl (lv_at hv 0 rfl) ?_
  refine lv_bipush (v := (63 : Int32)) hx hb dJ6_bitCount_0f7a4_49 (by decide) ?_
  refine lv_iand hx hb dJ6_bitCount_0f7a4_51 ?_
  have h := Option.some.inj h
  have ee0 : (y_5 &&& (63 : Int32)) = rR := congrArg (fun q => q) h
  subst ee0
  rw [← hQ]
  exact retI hx hb hr hlk hK hP hD hS dJ6_bitCount_0f7a4_52 ⟨Nat.le_of_ble_eq_true rfl, Nat.le_of_ble_eq_true rfl⟩

def fJ9_floorMod_7cf53 (x : Int32) (y : Int32) : Option (Int32) :=
  ck (¬ y = 0) (bnd (x - x / y * y) fun y_2 => (if 0 ≤ (x ^^^ y) then some y_2 else (if y_2 = 0 then some y_2 else some (y_2 + y))))
set_option maxHeartbeats 4000000 in
set_option maxRecDepth 100000 in
theorem c_J9_floorMod_7cf53 (l : Launch) (G : Nat → Nat) (D : va_G) (cA : Nat → ClassId) (sz : Nat) (x : Int32) (y : Int32) (rR : Int32) (h : fJ9_floorMod_7cf53 x y = some rR) : Met l yJ9_floorMod_7cf53 wsJ9_floorMod_7cf53 ({ frames := 0, cells := 0, slots := 0, locals := 0 } : Room) (PW G D (tyC cA) sz (wE) [.int x, .int y]) (QI D (tyC cA) (va_A (wE) sz) rR (wE)) 0 0 (va_A (wE) sz) := by
  refine ent (cc := cJ9_floorMod_7cf53) (maxL := 3) (ret := (some .int)) (fun A => QI D (tyC cA) A rR (wE)) (by decide +kernel) rfl (Nat.le_of_ble_eq_true rfl) ?_
  intro p e s m args below meth c A ls H hx hb hml hr hlk hts hown hA hK hE hP hD hS hv hmm
  have hv : lv_has ls 3 [(0, .int x), (1, .int y)] := hv
  generalize hQ : MQ below _ args s 0 0 A = Q
  have hP : va_P D vwCl (wE) H := hP
  unfold fJ9_floorMod_7cf53 at h
  refine lv_iload_n hx hb dJ9_floorMod_7cf53_0 rfl (lv_at hv 0 rfl) ?_
  refine lv_iload_n hx hb dJ9_floorMod_7cf53_1 rfl (lv_at hv 1 rfl) ?_
  obtain ⟨c_1, h⟩ := ck_ex h
  refine lv_irem hx hb dJ9_floorMod_7cf53_2 c_1 ?_
  obtain ⟨y_2, ey_2, h⟩ := bnd_ex h
  refine lv_nm ey_2 ?_
  refine lv_istore_n (lv' := [(2, .int y_2), (0, .int x), (1, .int y)]) hx hb dJ9_floorMod_7cf53_3 rfl hv (by decide) rfl (fun ls hv => ?_)
  refine lv_iload_n hx hb dJ9_floorMod_7cf53_4 rfl (lv_at hv 1 rfl) ?_
  refine lv_iload_n hx hb dJ9_floorMod_7cf53_5 rfl (lv_at hv 2 rfl) ?_
  refine lv_ixor hx hb dJ9_floorMod_7cf53_6 ?_
  refine lv_if_ge (tgt := 18) hx hb dJ9_floorMod_7cf53_7 (by decide) (fun c_3 => ?_) (fun c_3 => ?_)
  · have h := ite_t c_3 h
    refine lv_iload_n hx hb dJ9_floorMod_7cf53_18 rfl (lv_at hv 0 rfl) ?_
    have h := Option.some.inj h
    have ee0 : y_2 = rR := congrArg (fun q => q) h
    subst ee0
    rw [← hQ]
    exact retI hx hb hr hlk hK hP hD hS dJ9_floorMod_7cf53_19 ⟨Nat.le_of_ble_eq_true rfl, Nat.le_of_ble_eq_true rfl⟩
  · have h := ite_f c_3 h
    refine lv_iload_n hx hb dJ9_floorMod_7cf53_10 rfl (lv_at hv 0 rfl) ?_
    refine lv_if_eq (tgt := 18) hx hb dJ9_floorMod_7cf53_11 (by decide) (fun c_4 => ?_) (fun c_4 => ?_)
    · have h := ite_t c_4 h
      refine lv_iload_n hx hb dJ9_floorMod_7cf53_18 rfl (lv_at hv 0 rfl) ?_
      have h := Option.some.inj h
      have ee0 : y_2 = rR := congrArg (fun q => q) h
      subst ee0
      rw [← hQ]
      exact retI hx hb hr hlk hK hP hD hS dJ9_floorMod_7cf53_19 ⟨Nat.le_of_ble_eq_true rfl, Nat.le_of_ble_eq_true rfl⟩
    · have h := ite_f c_4 h
      refine lv_iload_n hx hb dJ9_floorMod_7cf53_14 rfl (lv_at hv 0 rfl) ?_
      refine lv_iload_n hx hb dJ9_floorMod_7cf53_15 rfl (lv_at hv 2 rfl) ?_
      refine lv_iadd hx hb dJ9_floorMod_7cf53_16 ?_
      have h := Option.some.inj h
      have ee0 : (y_2 + y) = rR := congrArg (fun q => q) h
      subst ee0
      rw [← hQ]
      exact retI hx hb hr hlk hK hP hD hS dJ9_floorMod_7cf53_17 ⟨Nat.le_of_ble_eq_true rfl, Nat.le_of_ble_eq_true rfl⟩

def fX10_of (a : Int32) (b : Int32) (vspoon : Int32) (vmark : Int32) (vcount : Int32) : Option (Int32 × Int32 × Int32) :=
  some (a, b, (0 : Int32))
set_option maxHeartbeats 4000000 in
set_option maxRecDepth 100000 in
theorem c_X10_of (l : Launch) (G : Nat → Nat) (D : va_G) (cA : Nat → ClassId) (vd : Nat → Nat) (sz : Nat) (vspoon : Int32) (vmark : Int32) (vcount : Int32) (vbodies : Nat → Int32) (a : Int32) (b : Int32) (vspoonR : Int32) (vmarkR : Int32) (vcountR : Int32) (h : fX10_of a b vspoon vmark vcount = some (vspoonR, vmarkR, vcountR)) : Met l yX10_of wsX10_of ({ frames := 0, cells := 0, slots := 0, locals := 0 } : Room) (PW G D (tyC cA) sz (wV cA vd vspoon vmark vcount vbodies) [.ref (vd 0), .int a, .int b]) (QV D (tyC cA) (va_A (wV cA vd vspoon vmark vcount vbodies) sz) (wV cA vd vspoonR vmarkR vcountR vbodies)) 0 0 (va_A (wV cA vd vspoon vmark vcount vbodies) sz) := by
  refine ent (cc := cX10_of) (maxL := 3) (ret := none) (fun A => QV D (tyC cA) A (wV cA vd vspoonR vmarkR vcountR vbodies)) (by decide +kernel) rfl (Nat.le_of_ble_eq_true rfl) ?_
  intro p e s m args below meth c A ls H hx hb hml hr hlk hts hown hA hK hE hP hD hS hv hmm
  have hv : lv_has ls 3 [(0, .ref (vd 0)), (1, .int a), (2, .int b)] := hv
  have in_10 : ∀ w ∈ u_ws RX10 TX10 4, w ∈ wsX10_of := fun _ h => List.mem_cons_of_mem _ (List.mem_append_right _ h)
  have w_0 := hts (.fieldLink RX10 15 "SpoonsLast$Voice" "spoon" "I") (List.mem_of_getElem? (i := 1) rfl)
  have w_1 := hts (.fieldLink RX10 19 "SpoonsLast$Voice" "mark" "I") (List.mem_of_getElem? (i := 2) rfl)
  have w_2 := hts (.fieldLink RX10 22 "SpoonsLast$Voice" "count" "I") (List.mem_of_getElem? (i := 3) rfl)
  generalize hQ : MQ below _ args s 0 0 A = Q
  have hP : va_P D vwCl (wV cA vd vspoon vmark vcount vbodies) H := hP
  unfold fX10_of at h
  refine lv_aload_n hx hb dX10_of_0 rfl (lv_at hv 0 rfl) ?_
  refine lv_iload_n hx hb dX10_of_1 rfl (lv_at hv 1 rfl) ?_
  refine va_put (D := D) (ci := 10) (v := .int a) (ty := .int) (C := RX10) (T := TX10) (N := 4) hx hb hts in_10 tyX10 tyX10_ok nmX10 hown hK hP hD hS 0 rfl rfl 0 (by decide) w_0 (fun _ h9 => h9) rfl (by decide +kernel) rfl rfl (Nat.le_of_ble_eq_true rfl) dX10_of_2 (fun H locs hP hD hS => ?_)
  have hP : va_P D vwCl (wV cA vd a vmark vcount vbodies) H := hP
  have hD : va_D A (wV cA vd a vmark vcount vbodies) := hD
  refine lv_aload_n hx hb dX10_of_5 rfl (lv_at hv 0 rfl) ?_
  refine lv_iload_n hx hb dX10_of_6 rfl (lv_at hv 2 rfl) ?_
  refine va_put (D := D) (ci := 10) (v := .int b) (ty := .int) (C := RX10) (T := TX10) (N := 4) hx hb hts in_10 tyX10 tyX10_ok nmX10 hown hK hP hD hS 0 rfl rfl 1 (by decide) w_1 (fun _ h9 => h9) rfl (by decide +kernel) rfl rfl (Nat.le_of_ble_eq_true rfl) dX10_of_7 (fun H locs hP hD hS => ?_)
  have hP : va_P D vwCl (wV cA vd a b vcount vbodies) H := hP
  have hD : va_D A (wV cA vd a b vcount vbodies) := hD
  refine lv_aload_n hx hb dX10_of_10 rfl (lv_at hv 0 rfl) ?_
  refine lv_iconst (v := (0 : Int32)) hx hb dX10_of_11 (by decide) ?_
  refine va_put (D := D) (ci := 10) (v := .int (0 : Int32)) (ty := .int) (C := RX10) (T := TX10) (N := 4) hx hb hts in_10 tyX10 tyX10_ok nmX10 hown hK hP hD hS 0 rfl rfl 2 (by decide) w_2 (fun _ h9 => h9) rfl (by decide +kernel) rfl rfl (Nat.le_of_ble_eq_true rfl) dX10_of_12 (fun H locs hP hD hS => ?_)
  have hP : va_P D vwCl (wV cA vd a b (0 : Int32) vbodies) H := hP
  have hD : va_D A (wV cA vd a b (0 : Int32) vbodies) := hD
  have h := Option.some.inj h
  have ee0 : a = vspoonR := congrArg (fun q => q.1) h
  have ee1 : b = vmarkR := congrArg (fun q => q.2.1) h
  have ee2 : (0 : Int32) = vcountR := congrArg (fun q => q.2.2) h
  subst ee0
  subst ee1
  subst ee2
  rw [← hQ]
  exact retV hx hb hr hlk hK hP hD hS dX10_of_15 ⟨Nat.le_of_ble_eq_true rfl, Nat.le_of_ble_eq_true rfl⟩

def fX10_begins (k : Int32) (vcount : Int32) (vbodies : Nat → Int32) : Option (Int32 × (Nat → Int32)) :=
  (if (40 : Int32) ≤ vcount then some (vcount, vbodies) else ckI vcount 40 (bnd (upd vbodies (vcount).toNatClampNeg k) fun vbodies_3 => bnd (vcount + (1 : Int32)) fun y_4 => some (y_4, vbodies_3)))
set_option maxHeartbeats 4000000 in
set_option maxRecDepth 100000 in
theorem c_X10_begins (l : Launch) (G : Nat → Nat) (D : va_G) (cA : Nat → ClassId) (vd : Nat → Nat) (sz : Nat) (vspoon : Int32) (vmark : Int32) (vcount : Int32) (vbodies : Nat → Int32) (k : Int32) (vcountR : Int32) (vbodiesR : Nat → Int32) (h : fX10_begins k vcount vbodies = some (vcountR, vbodiesR)) : Met l yX10_begins wsX10_begins ({ frames := 0, cells := 0, slots := 0, locals := 0 } : Room) (PW G D (tyC cA) sz (wV cA vd vspoon vmark vcount vbodies) [.ref (vd 0), .int k]) (QV D (tyC cA) (va_A (wV cA vd vspoon vmark vcount vbodies) sz) (wV cA vd vspoon vmark vcountR vbodiesR)) 0 0 (va_A (wV cA vd vspoon vmark vcount vbodies) sz) := by
  refine ent (cc := cX10_begins) (maxL := 2) (ret := none) (fun A => QV D (tyC cA) A (wV cA vd vspoon vmark vcountR vbodiesR)) (by decide +kernel) rfl (Nat.le_of_ble_eq_true rfl) ?_
  intro p e s m args below meth c A ls H hx hb hml hr hlk hts hown hA hK hE hP hD hS hv hmm
  have hv : lv_has ls 2 [(0, .ref (vd 0)), (1, .int k)] := hv
  have in_10 : ∀ w ∈ u_ws RX10 TX10 4, w ∈ wsX10_begins := fun _ h => List.mem_cons_of_mem _ (List.mem_append_right _ h)
  have w_0 := hts (.fieldLink RX10 22 "SpoonsLast$Voice" "count" "I") (List.mem_of_getElem? (i := 1) rfl)
  have w_1 := hts (.fieldLink RX10 9 "SpoonsLast$Voice" "bodies" "[I") (List.mem_of_getElem? (i := 2) rfl)
  generalize hQ : MQ below _ args s 0 0 A = Q
  have hP : va_P D vwCl (wV cA vd vspoon vmark vcount vbodies) H := hP
  unfold fX10_begins at h
  refine lv_aload_n hx hb dX10_begins_0 rfl (lv_at hv 0 rfl) ?_
  refine va_get (D := D) (ci := 10) (v := .int vcount) (C := RX10) (T := TX10) (N := 4) hx hb hts in_10 hown hK hP 0 rfl rfl 2 (by decide) w_0 (fun _ h9 => h9) rfl dX10_begins_1 ?_
  refine lv_bipush (v := (40 : Int32)) hx hb dX10_begins_4 (by decide) ?_
  refine lv_icmp_ge (tgt := 29) hx hb dX10_begins_6 (by decide) (fun c_1 => ?_) (fun c_1 => ?_)
  · have h := ite_t c_1 h
    have h := Option.some.inj h
    have ee0 : vcount = vcountR := congrArg (fun q => q.1) h
    have ee1 : vbodies = vbodiesR := congrArg (fun q => q.2) h
    subst ee0
    subst ee1
    rw [← hQ]
    exact retV hx hb hr hlk hK hP hD hS dX10_begins_29 ⟨Nat.le_of_ble_eq_true rfl, Nat.le_of_ble_eq_true rfl⟩
  · have h := ite_f c_1 h
    refine lv_aload_n hx hb dX10_begins_9 rfl (lv_at hv 0 rfl) ?_
    refine va_get (D := D) (ci := 10) (v := .ref (vd 1)) (C := RX10) (T := TX10) (N := 4) hx hb hts in_10 hown hK hP 0 rfl rfl 3 (by decide) w_1 (fun _ h9 => h9) rfl dX10_begins_10 ?_
    refine lv_aload_n hx hb dX10_begins_13 rfl (lv_at hv 0 rfl) ?_
    refine va_get (D := D) (ci := 10) (v := .int vcount) (C := RX10) (T := TX10) (N := 4) hx hb hts in_10 hown hK hP 0 rfl rfl 2 (by decide) w_0 (fun _ h9 => h9) rfl dX10_begins_14 ?_
    refine lv_iload_n hx hb dX10_begins_17 rfl (lv_at hv 1 rfl) ?_
    obtain ⟨c_2, h⟩ := ckI_ex h
    obtain ⟨vbodies_3, evbodies_3, h⟩ := bnd_ex h
    refine va_iast (D := D) hx hb hK hP hD hS 1 0 rfl rfl c_2 dX10_begins_18 (fun H locs hP hD hS => ?_)
    rw [← evbodies_3] at hP hD
    have hP : va_P D vwCl (wV cA vd vspoon vmark vcount vbodies_3) H := hP
    have hD : va_D A (wV cA vd vspoon vmark vcount vbodies_3) := hD
    refine lv_aload_n hx hb dX10_begins_19 rfl (lv_at hv 0 rfl) ?_
    refine lv_dup hx hb dX10_begins_20 rfl ?_
    refine va_get (D := D) (ci := 10) (v := .int vcount) (C := RX10) (T := TX10) (N := 4) hx hb hts in_10 hown hK hP 0 rfl rfl 2 (by decide) w_0 (fun _ h9 => h9) rfl dX10_begins_21 ?_
    refine lv_iconst (v := (1 : Int32)) hx hb dX10_begins_24 (by decide) ?_
    refine lv_iadd hx hb dX10_begins_25 ?_
    obtain ⟨y_4, ey_4, h⟩ := bnd_ex h
    refine lv_nm ey_4 ?_
    refine va_put (D := D) (ci := 10) (v := .int y_4) (ty := .int) (C := RX10) (T := TX10) (N := 4) hx hb hts in_10 tyX10 tyX10_ok nmX10 hown hK hP hD hS 0 rfl rfl 2 (by decide) w_0 (fun _ h9 => h9) rfl (by decide +kernel) rfl rfl (Nat.le_of_ble_eq_true rfl) dX10_begins_26 (fun H locs hP hD hS => ?_)
    have hP : va_P D vwCl (wV cA vd vspoon vmark y_4 vbodies_3) H := hP
    have hD : va_D A (wV cA vd vspoon vmark y_4 vbodies_3) := hD
    have h := Option.some.inj h
    have ee0 : y_4 = vcountR := congrArg (fun q => q.1) h
    have ee1 : vbodies_3 = vbodiesR := congrArg (fun q => q.2) h
    subst ee0
    subst ee1
    rw [← hQ]
    exact retV hx hb hr hlk hK hP hD hS dX10_begins_29 ⟨Nat.le_of_ble_eq_true rfl, Nat.le_of_ble_eq_true rfl⟩

