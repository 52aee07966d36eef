def fX8_stays_k8 (mk : Int32) (w : Int32) (sv : Int32) : Option (Int32) :=
  some (3 : Int32)
set_option maxHeartbeats 4000000 in
set_option maxRecDepth 100000 in
theorem c_X8_stays_k8 (l : Launch) (G : Nat → Nat) (D : va_G) (cA : Nat → ClassId) (o : Nat) (sz : Nat) (mk : Int32) (w : Int32) (sv : Int32) (rR : Int32) (h : fX8_stays_k8 mk w sv = some rR) : Met l yX8_stays wsX8_stays ({ frames := 0, cells := 0, slots := 0, locals := 0 } : Room) (PW G D (tyC cA) sz (wO 8 o) [.ref o, .int mk, .int w, .int sv]) (QI D (tyC cA) (va_A (wO 8 o) sz) rR (wO 8 o)) 0 0 (va_A (wO 8 o) sz) := by
  refine ent (cc := cX8_stays) (maxL := 4) (ret := (some .int)) (fun A => QI D (tyC cA) A rR (wO 8 o)) (by decide +kernel) rfl (Nat.le_of_ble_eq_true rfl) ?_
  intro p e s m args below meth c A ls H hx hb hml hr hlk hts hown hA hK hE hP hD hS hv hmm
  have hv : lv_has ls 4 [(0, .ref o), (1, .int mk), (2, .int w), (3, .int sv)] := hv
  generalize hQ : MQ below _ args s 0 0 A = Q
  have hP : va_P D vwCl (wO 8 o) H := hP
  unfold fX8_stays_k8 at h
  refine lv_iconst (v := (3 : Int32)) hx hb dX8_stays_0 (by decide) ?_
  have h := Option.some.inj h
  have ee0 : (3 : Int32) = rR := congrArg (fun q => q) h
  subst ee0
  rw [← hQ]
  exact retI hx hb hr hlk hK hP hD hS dX8_stays_1 ⟨Nat.le_of_ble_eq_true rfl, Nat.le_of_ble_eq_true rfl⟩

def fX8_reads_k8 (mk : Int32) : Option (Int32) :=
  some (3 : Int32)
set_option maxHeartbeats 4000000 in
set_option maxRecDepth 100000 in
theorem c_X8_reads_k8 (l : Launch) (G : Nat → Nat) (D : va_G) (cA : Nat → ClassId) (o : Nat) (sz : Nat) (mk : Int32) (rR : Int32) (h : fX8_reads_k8 mk = some rR) : Met l yX8_reads wsX8_reads ({ frames := 0, cells := 0, slots := 0, locals := 0 } : Room) (PW G D (tyC cA) sz (wO 8 o) [.ref o, .int mk]) (QI D (tyC cA) (va_A (wO 8 o) sz) rR (wO 8 o)) 0 0 (va_A (wO 8 o) sz) := by
  refine ent (cc := cX8_reads) (maxL := 2) (ret := (some .int)) (fun A => QI D (tyC cA) A rR (wO 8 o)) (by decide +kernel) rfl (Nat.le_of_ble_eq_true rfl) ?_
  intro p e s m args below meth c A ls H hx hb hml hr hlk hts hown hA hK hE hP hD hS hv hmm
  have hv : lv_has ls 2 [(0, .ref o), (1, .int mk)] := hv
  generalize hQ : MQ below _ args s 0 0 A = Q
  have hP : va_P D vwCl (wO 8 o) H := hP
  unfold fX8_reads_k8 at h
  refine lv_iconst (v := (3 : Int32)) hx hb dX8_reads_0 (by decide) ?_
  have h := Option.some.inj h
  have ee0 : (3 : Int32) = rR := congrArg (fun q => q) h
  subst ee0
  rw [← hQ]
  exact retI hx hb hr hlk hK hP hD hS dX8_reads_1 ⟨Nat.le_of_ble_eq_true rfl, Nat.le_of_ble_eq_true rfl⟩

def fX8_wears_k8 (n : Int32) : Option (Int32) :=
  some (1 : Int32)
set_option maxHeartbeats 4000000 in
set_option maxRecDepth 100000 in
theorem c_X8_wears_k8 (l : Launch) (G : Nat → Nat) (D : va_G) (cA : Nat → ClassId) (o : Nat) (sz : Nat) (n : Int32) (rR : Int32) (h : fX8_wears_k8 n = some rR) : Met l yX8_wears wsX8_wears ({ frames := 0, cells := 0, slots := 0, locals := 0 } : Room) (PW G D (tyC cA) sz (wO 8 o) [.ref o, .int n]) (QI D (tyC cA) (va_A (wO 8 o) sz) rR (wO 8 o)) 0 0 (va_A (wO 8 o) sz) := by
  refine ent (cc := cX8_wears) (maxL := 2) (ret := (some .int)) (fun A => QI D (tyC cA) A rR (wO 8 o)) (by decide +kernel) rfl (Nat.le_of_ble_eq_true rfl) ?_
  intro p e s m args below meth c A ls H hx hb hml hr hlk hts hown hA hK hE hP hD hS hv hmm
  have hv : lv_has ls 2 [(0, .ref o), (1, .int n)] := hv
  generalize hQ : MQ below _ args s 0 0 A = Q
  have hP : va_P D vwCl (wO 8 o) H := hP
  unfold fX8_wears_k8 at h
  refine lv_iconst (v := (1 : Int32)) hx hb dX8_wears_0 (by decide) ?_
  have h := Option.some.inj h
  have ee0 : (1 : Int32) = rR := congrArg (fun q => q) h
  subst ee0
  rw [← hQ]
  exact retI hx hb hr hlk hK hP hD hS dX8_wears_1 ⟨Nat.le_of_ble_eq_true rfl, Nat.le_of_ble_eq_true rfl⟩

def fX8_stays_k2 (mk : Int32) (w : Int32) (sv : Int32) : Option (Int32) :=
  some (3 : Int32)
set_option maxHeartbeats 4000000 in
set_option maxRecDepth 100000 in
theorem c_X8_stays_k2 (l : Launch) (G : Nat → Nat) (D : va_G) (cA : Nat → ClassId) (o : Nat) (sz : Nat) (mk : Int32) (w : Int32) (sv : Int32) (rR : Int32) (h : fX8_stays_k2 mk w sv = some rR) : Met l yX8_stays wsX8_stays ({ frames := 0, cells := 0, slots := 0, locals := 0 } : Room) (PW G D (tyC cA) sz (wO 2 o) [.ref o, .int mk, .int w, .int sv]) (QI D (tyC cA) (va_A (wO 2 o) sz) rR (wO 2 o)) 0 0 (va_A (wO 2 o) sz) := by
  refine ent (cc := cX8_stays) (maxL := 4) (ret := (some .int)) (fun A => QI D (tyC cA) A rR (wO 2 o)) (by decide +kernel) rfl (Nat.le_of_ble_eq_true rfl) ?_
  intro p e s m args below meth c A ls H hx hb hml hr hlk hts hown hA hK hE hP hD hS hv hmm
  have hv : lv_has ls 4 [(0, .ref o), (1, .int mk), (2, .int w), (3, .int sv)] := hv
  generalize hQ : MQ below _ args s 0 0 A = Q
  have hP : va_P D vwCl (wO 2 o) H := hP
  unfold fX8_stays_k2 at h
  refine lv_iconst (v := (3 : Int32)) hx hb dX8_stays_0 (by decide) ?_
  have h := Option.some.inj h
  have ee0 : (3 : Int32) = rR := congrArg (fun q => q) h
  subst ee0
  rw [← hQ]
  exact retI hx hb hr hlk hK hP hD hS dX8_stays_1 ⟨Nat.le_of_ble_eq_true rfl, Nat.le_of_ble_eq_true rfl⟩

def fX2_stays_k2 (mk : Int32) (w : Int32) (sv : Int32) : Option (Int32) :=
  bd (fX8_stays_k2 mk w sv) fun r_1 => some (r_1 + (w / (2 : Int32)))
set_option maxHeartbeats 4000000 in
set_option maxRecDepth 100000 in
theorem c_X2_stays_k2 (l : Launch) (G : Nat → Nat) (D : va_G) (cA : Nat → ClassId) (o : Nat) (sz : Nat) (mk : Int32) (w : Int32) (sv : Int32) (rR : Int32) (h : fX2_stays_k2 mk w sv = some rR) : Met l yX2_stays wsX2_stays ({ frames := 1, cells := 0, slots := 0, locals := 23 } : Room) (PW G D (tyC cA) sz (wO 2 o) [.ref o, .int mk, .int w, .int sv]) (QI D (tyC cA) (va_A (wO 2 o) sz) rR (wO 2 o)) 0 0 (va_A (wO 2 o) sz) := by
  refine ent (cc := cX2_stays) (maxL := 4) (ret := (some .int)) (fun A => QI D (tyC cA) A rR (wO 2 o)) (by decide +kernel) rfl (Nat.le_of_ble_eq_true rfl) ?_
  intro p e s m args below meth c A ls H hx hb hml hr hlk hts hown hA hK hE hP hD hS hv hmm
  have hv : lv_has ls 4 [(0, .ref o), (1, .int mk), (2, .int w), (3, .int sv)] := hv
  generalize hQ : MQ below _ args s 0 0 A = Q
  have hP : va_P D vwCl (wO 2 o) H := hP
  unfold fX2_stays_k2 at h
  refine lv_aload_n hx hb dX2_stays_0 rfl (lv_at hv 0 rfl) ?_
  refine lv_iload_n hx hb dX2_stays_1 rfl (lv_at hv 1 rfl) ?_
  refine lv_iload_n hx hb dX2_stays_2 rfl (lv_at hv 2 rfl) ?_
  refine lv_iload_n hx hb dX2_stays_3 rfl (lv_at hv 3 rfl) ?_
  obtain ⟨r_1, hf_2, h⟩ := bd_ex h
  have sb := Sb.same hP hD hS hA
  refine calI (va_runSU (As := [.int mk, .int w, .int sv]) (rest := []) (hK.1 2 _ rfl).2 ⟨hx, hb, hml, hown, hts⟩ (c_X8_stays_k2 l G D cA o _ mk w sv r_1 hf_2) (va_cwSU 3 hts gX2_stays_X8_stays_s7 rfl rfl rfl (by decide +kernel) ⟨Nat.le_of_ble_eq_true rfl, Nat.le_of_ble_eq_true rfl⟩) (pvV hE hK hS sb (va_recv hK hP (ci := 2) (q0 := 0) rfl rfl)) rfl rfl hv.1 rfl (lv_room (Nat.le_of_ble_eq_true rfl)) dX2_stays_4 ⟨Nat.le_of_ble_eq_true rfl, Nat.le_of_ble_eq_true rfl⟩) hS sb (Jn.same sb) (fun H locs hP hD hS => ?_)
  have hP : va_P D vwCl (wO 2 o) H := hP
  have hD : va_D A (wO 2 o) := hD
  refine lv_iload_n hx hb dX2_stays_7 rfl (lv_at hv 2 rfl) ?_
  refine lv_iconst (v := (2 : Int32)) hx hb dX2_stays_8 (by decide) ?_
  refine lv_idiv hx hb dX2_stays_9 (by decide) ?_
  refine lv_iadd hx hb dX2_stays_10 ?_
  have h := Option.some.inj h
  have ee0 : (r_1 + (w / (2 : Int32))) = rR := congrArg (fun q => q) h
  subst ee0
  rw [← hQ]
  exact retI hx hb hr hlk hK hP hD hS dX2_stays_11 ⟨Nat.le_of_ble_eq_true rfl, Nat.le_of_ble_eq_true rfl⟩

def fX2_reads_k2 (mk : Int32) : Option (Int32) :=
  some (2 : Int32)
set_option maxHeartbeats 4000000 in
set_option maxRecDepth 100000 in
theorem c_X2_reads_k2 (l : Launch) (G : Nat → Nat) (D : va_G) (cA : Nat → ClassId) (o : Nat) (sz : Nat) (mk : Int32) (rR : Int32) (h : fX2_reads_k2 mk = some rR) : Met l yX2_reads wsX2_reads ({ frames := 0, cells := 0, slots := 0, locals := 0 } : Room) (PW G D (tyC cA) sz (wO 2 o) [.ref o, .int mk]) (QI D (tyC cA) (va_A (wO 2 o) sz) rR (wO 2 o)) 0 0 (va_A (wO 2 o) sz) := by
  refine ent (cc := cX2_reads) (maxL := 2) (ret := (some .int)) (fun A => QI D (tyC cA) A rR (wO 2 o)) (by decide +kernel) rfl (Nat.le_of_ble_eq_true rfl) ?_
  intro p e s m args below meth c A ls H hx hb hml hr hlk hts hown hA hK hE hP hD hS hv hmm
  have hv : lv_has ls 2 [(0, .ref o), (1, .int mk)] := hv
  generalize hQ : MQ below _ args s 0 0 A = Q
  have hP : va_P D vwCl (wO 2 o) H := hP
  unfold fX2_reads_k2 at h
  refine lv_iconst (v := (2 : Int32)) hx hb dX2_reads_0 (by decide) ?_
  have h := Option.some.inj h
  have ee0 : (2 : Int32) = rR := congrArg (fun q => q) h
  subst ee0
  rw [← hQ]
  exact retI hx hb hr hlk hK hP hD hS dX2_reads_1 ⟨Nat.le_of_ble_eq_true rfl, Nat.le_of_ble_eq_true rfl⟩

def fX8_wears_k2 (n : Int32) : Option (Int32) :=
  some (1 : Int32)
set_option maxHeartbeats 4000000 in
set_option maxRecDepth 100000 in
theorem c_X8_wears_k2 (l : Launch) (G : Nat → Nat) (D : va_G) (cA : Nat → ClassId) (o : Nat) (sz : Nat) (n : Int32) (rR : Int32) (h : fX8_wears_k2 n = some rR) : Met l yX8_wears wsX8_wears ({ frames := 0, cells := 0, slots := 0, locals := 0 } : Room) (PW G D (tyC cA) sz (wO 2 o) [.ref o, .int n]) (QI D (tyC cA) (va_A (wO 2 o) sz) rR (wO 2 o)) 0 0 (va_A (wO 2 o) sz) := by
  refine ent (cc := cX8_wears) (maxL := 2) (ret := (some .int)) (fun A => QI D (tyC cA) A rR (wO 2 o)) (by decide +kernel) rfl (Nat.le_of_ble_eq_true rfl) ?_
  intro p e s m args below meth c A ls H hx hb hml hr hlk hts hown hA hK hE hP hD hS hv hmm
  have hv : lv_has ls 2 [(0, .ref o), (1, .int n)] := hv
  generalize hQ : MQ below _ args s 0 0 A = Q
  have hP : va_P D vwCl (wO 2 o) H := hP
  unfold fX8_wears_k2 at h
  refine lv_iconst (v := (1 : Int32)) hx hb dX8_wears_0 (by decide) ?_
  have h := Option.some.inj h
  have ee0 : (1 : Int32) = rR := congrArg (fun q => q) h
  subst ee0
  rw [← hQ]
  exact retI hx hb hr hlk hK hP hD hS dX8_wears_1 ⟨Nat.le_of_ble_eq_true rfl, Nat.le_of_ble_eq_true rfl⟩

def fX2_wears_k2 (n : Int32) : Option (Int32) :=
  bd (fX8_wears_k2 n) fun r_1 => some (r_1 + (1 : Int32))
set_option maxHeartbeats 4000000 in
set_option maxRecDepth 100000 in
theorem c_X2_wears_k2 (l : Launch) (G : Nat → Nat) (D : va_G) (cA : Nat → ClassId) (o : Nat) (sz : Nat) (n : Int32) (rR : Int32) (h : fX2_wears_k2 n = some rR) : Met l yX2_wears wsX2_wears ({ frames := 1, cells := 0, slots := 0, locals := 21 } : Room) (PW G D (tyC cA) sz (wO 2 o) [.ref o, .int n]) (QI D (tyC cA) (va_A (wO 2 o) sz) rR (wO 2 o)) 0 0 (va_A (wO 2 o) sz) := by
  refine ent (cc := cX2_wears) (maxL := 2) (ret := (some .int)) (fun A => QI D (tyC cA) A rR (wO 2 o)) (by decide +kernel) rfl (Nat.le_of_ble_eq_true rfl) ?_
  intro p e s m args below meth c A ls H hx hb hml hr hlk hts hown hA hK hE hP hD hS hv hmm
  have hv : lv_has ls 2 [(0, .ref o), (1, .int n)] := hv
  generalize hQ : MQ below _ args s 0 0 A = Q
  have hP : va_P D vwCl (wO 2 o) H := hP
  unfold fX2_wears_k2 at h
  refine lv_aload_n hx hb dX2_wears_0 rfl (lv_at hv 0 rfl) ?_
  refine lv_iload_n hx hb dX2_wears_1 rfl (lv_at hv 1 rfl) ?_
  obtain ⟨r_1, hf_2, h⟩ := bd_ex h
  have sb := Sb.same hP hD hS hA
  refine calI (va_runSU (As := [.int n]) (rest := []) (hK.1 2 _ rfl).2 ⟨hx, hb, hml, hown, hts⟩ (c_X8_wears_k2 l G D cA o _ n r_1 hf_2) (va_cwSU 1 hts gX2_wears_X8_wears_s11 rfl rfl rfl (by decide +kernel) ⟨Nat.le_of_ble_eq_true rfl, Nat.le_of_ble_eq_true rfl⟩) (pvV hE hK hS sb (va_recv hK hP (ci := 2) (q0 := 0) rfl rfl)) rfl rfl hv.1 rfl (lv_room (Nat.le_of_ble_eq_true rfl)) dX2_wears_2 ⟨Nat.le_of_ble_eq_true rfl, Nat.le_of_ble_eq_true rfl⟩) hS sb (Jn.same sb) (fun H locs hP hD hS => ?_)
  have hP : va_P D vwCl (wO 2 o) H := hP
  have hD : va_D A (wO 2 o) := hD
  refine lv_iconst (v := (1 : Int32)) hx hb dX2_wears_5 (by decide) ?_
  refine lv_iadd hx hb dX2_wears_6 ?_
  have h := Option.some.inj h
  have ee0 : (r_1 + (1 : Int32)) = rR := congrArg (fun q => q) h
  subst ee0
  rw [← hQ]
  exact retI hx hb hr hlk hK hP hD hS dX2_wears_7 ⟨Nat.le_of_ble_eq_true rfl, Nat.le_of_ble_eq_true rfl⟩

def fX8_stays_k0 (mk : Int32) (w : Int32) (sv : Int32) : Option (Int32) :=
  some (3 : Int32)
set_option maxHeartbeats 4000000 in
set_option maxRecDepth 100000 in
theorem c_X8_stays_k0 (l : Launch) (G : Nat → Nat) (D : va_G) (cA : Nat → ClassId) (o : Nat) (sz : Nat) (mk : Int32) (w : Int32) (sv : Int32) (rR : Int32) (h : fX8_stays_k0 mk w sv = some rR) : Met l yX8_stays wsX8_stays ({ frames := 0, cells := 0, slots := 0, locals := 0 } : Room) (PW G D (tyC cA) sz (wO 0 o) [.ref o, .int mk, .int w, .int sv]) (QI D (tyC cA) (va_A (wO 0 o) sz) rR (wO 0 o)) 0 0 (va_A (wO 0 o) sz) := by
  refine ent (cc := cX8_stays) (maxL := 4) (ret := (some .int)) (fun A => QI D (tyC cA) A rR (wO 0 o)) (by decide +kernel) rfl (Nat.le_of_ble_eq_true rfl) ?_
  intro p e s m args below meth c A ls H hx hb hml hr hlk hts hown hA hK hE hP hD hS hv hmm
  have hv : lv_has ls 4 [(0, .ref o), (1, .int mk), (2, .int w), (3, .int sv)] := hv
  generalize hQ : MQ below _ args s 0 0 A = Q
  have hP : va_P D vwCl (wO 0 o) H := hP
  unfold fX8_stays_k0 at h
  refine lv_iconst (v := (3 : Int32)) hx hb dX8_stays_0 (by decide) ?_
  have h := Option.some.inj h
  have ee0 : (3 : Int32) = rR := congrArg (fun q => q) h
  subst ee0
  rw [← hQ]
  exact retI hx hb hr hlk hK hP hD hS dX8_stays_1 ⟨Nat.le_of_ble_eq_true rfl, Nat.le_of_ble_eq_true rfl⟩

def fX0_reads_k0 (mk : Int32) : Option (Int32) :=
  some (5 : Int32)
set_option maxHeartbeats 4000000 in
set_option maxRecDepth 100000 in
theorem c_X0_reads_k0 (l : Launch) (G : Nat → Nat) (D : va_G) (cA : Nat → ClassId) (o : Nat) (sz : Nat) (mk : Int32) (rR : Int32) (h : fX0_reads_k0 mk = some rR) : Met l yX0_reads wsX0_reads ({ frames := 0, cells := 0, slots := 0, locals := 0 } : Room) (PW G D (tyC cA) sz (wO 0 o) [.ref o, .int mk]) (QI D (tyC cA) (va_A (wO 0 o) sz) rR (wO 0 o)) 0 0 (va_A (wO 0 o) sz) := by
  refine ent (cc := cX0_reads) (maxL := 2) (ret := (some .int)) (fun A => QI D (tyC cA) A rR (wO 0 o)) (by decide +kernel) rfl (Nat.le_of_ble_eq_true rfl) ?_
  intro p e s m args below meth c A ls H hx hb hml hr hlk hts hown hA hK hE hP hD hS hv hmm
  have hv : lv_has ls 2 [(0, .ref o), (1, .int mk)] := hv
  generalize hQ : MQ below _ args s 0 0 A = Q
  have hP : va_P D vwCl (wO 0 o) H := hP
  unfold fX0_reads_k0 at h
  refine lv_iconst (v := (5 : Int32)) hx hb dX0_reads_0 (by decide) ?_
  have h := Option.some.inj h
  have ee0 : (5 : Int32) = rR := congrArg (fun q => q) h
  subst ee0
  rw [← hQ]
  exact retI hx hb hr hlk hK hP hD hS dX0_reads_1 ⟨Nat.le_of_ble_eq_true rfl, Nat.le_of_ble_eq_true rfl⟩

def fX8_wears_k0 (n : Int32) : Option (Int32) :=
  some (1 : Int32)
set_option maxHeartbeats 4000000 in
set_option maxRecDepth 100000 in
theorem c_X8_wears_k0 (l : Launch) (G : Nat → Nat) (D : va_G) (cA : Nat → ClassId) (o : Nat) (sz : Nat) (n : Int32) (rR : Int32) (h : fX8_wears_k0 n = some rR) : Met l yX8_wears wsX8_wears ({ frames := 0, cells := 0, slots := 0, locals := 0 } : Room) (PW G D (tyC cA) sz (wO 0 o) [.ref o, .int n]) (QI D (tyC cA) (va_A (wO 0 o) sz) rR (wO 0 o)) 0 0 (va_A (wO 0 o) sz) := by
  refine ent (cc := cX8_wears) (maxL := 2) (ret := (some .int)) (fun A => QI D (tyC cA) A rR (wO 0 o)) (by decide +kernel) rfl (Nat.le_of_ble_eq_true rfl) ?_
  intro p e s m args below meth c A ls H hx hb hml hr hlk hts hown hA hK hE hP hD hS hv hmm
  have hv : lv_has ls 2 [(0, .ref o), (1, .int n)] := hv
  generalize hQ : MQ below _ args s 0 0 A = Q
  have hP : va_P D vwCl (wO 0 o) H := hP
  unfold fX8_wears_k0 at h
  refine lv_iconst (v := (1 : Int32)) hx hb dX8_wears_0 (by decide) ?_
  have h := Option.some.inj h
  have ee0 : (1 : Int32) = rR := congrArg (fun q => q) h
  subst ee0
  rw [← hQ]
  exact retI hx hb hr hlk hK hP hD hS dX8_wears_1 ⟨Nat.le_of_ble_eq_true rfl, Nat.le_of_ble_eq_true rfl⟩

def fX5_stays_k5 (mk : Int32) (w : Int32) (sv : Int32) : Option (Int32) :=
  some w
set_option maxHeartbeats 4000000 in
set_option maxRecDepth 100000 in
theorem c_X5_stays_k5 (l : Launch) (G : Nat → Nat) (D : va_G) (cA : Nat → ClassId) (o : Nat) (sz : Nat) (mk : Int32) (w : Int32) (sv : Int32) (rR : Int32) (h : fX5_stays_k5 mk w sv = some rR) : Met l yX5_stays wsX5_stays ({ frames := 0, cells := 0, slots := 0, locals := 0 } : Room) (PW G D (tyC cA) sz (wO 5 o) [.ref o, .int mk, .int w, .int sv]) (QI D (tyC cA) (va_A (wO 5 o) sz) rR (wO 5 o)) 0 0 (va_A (wO 5 o) sz) := by
  refine ent (cc := cX5_stays) (maxL := 4) (ret := (some .int)) (fun A => QI D (tyC cA) A rR (wO 5 o)) (by decide +kernel) rfl (Nat.le_of_ble_eq_true rfl) ?_
  intro p e s m args below meth c A ls H hx hb hml hr hlk hts hown hA hK hE hP hD hS hv hmm
  have hv : lv_has ls 4 [(0, .ref o), (1, .int mk), (2, .int w), (3, .int sv)] := hv
  generalize hQ : MQ below _ args s 0 0 A = Q
  have hP : va_P D vwCl (wO 5 o) H := hP
  unfold fX5_stays_k5 at h
  refine lv_iload_n hx hb dX5_stays_0 rfl (lv_at hv 2 rfl) ?_
  have h := Option.some.inj h
  have ee0 : w = rR := congrArg (fun q => q) h
  subst ee0
  rw [← hQ]
  exact retI hx hb hr hlk hK hP hD hS dX5_stays_1 ⟨Nat.le_of_ble_eq_true rfl, Nat.le_of_ble_eq_true rfl⟩

def fX8_reads_k5 (mk : Int32) : Option (Int32) :=
  some (3 : Int32)
set_option maxHeartbeats 4000000 in
set_option maxRecDepth 100000 in
theorem c_X8_reads_k5 (l : Launch) (G : Nat → Nat) (D : va_G) (cA : Nat → ClassId) (o : Nat) (sz : Nat) (mk : Int32) (rR : Int32) (h : fX8_reads_k5 mk = some rR) : Met l yX8_reads wsX8_reads ({ frames := 0, cells := 0, slots := 0, locals := 0 } : Room) (PW G D (tyC cA) sz (wO 5 o) [.ref o, .int mk]) (QI D (tyC cA) (va_A (wO 5 o) sz) rR (wO 5 o)) 0 0 (va_A (wO 5 o) sz) := by
  refine ent (cc := cX8_reads) (maxL := 2) (ret := (some .int)) (fun A => QI D (tyC cA) A rR (wO 5 o)) (by decide +kernel) rfl (Nat.le_of_ble_eq_true rfl) ?_
  intro p e s m args below meth c A ls H hx hb hml hr hlk hts hown hA hK hE hP hD hS hv hmm
  have hv : lv_has ls 2 [(0, .ref o), (1, .int mk)] := hv
  generalize hQ : MQ below _ args s 0 0 A = Q
  have hP : va_P D vwCl (wO 5 o) H := hP
  unfold fX8_reads_k5 at h
  refine lv_iconst (v := (3 : Int32)) hx hb dX8_reads_0 (by decide) ?_
  have h := Option.some.inj h
  have ee0 : (3 : Int32) = rR := congrArg (fun q => q) h
  subst ee0
  rw [← hQ]
  exact retI hx hb hr hlk hK hP hD hS dX8_reads_1 ⟨Nat.le_of_ble_eq_true rfl, Nat.le_of_ble_eq_true rfl⟩

def fX5_wears_k5 (n : Int32) : Option (Int32) :=
  some (3 : Int32)
set_option maxHeartbeats 4000000 in
set_option maxRecDepth 100000 in
theorem c_X5_wears_k5 (l : Launch) (G : Nat → Nat) (D : va_G) (cA : Nat → ClassId) (o : Nat) (sz : Nat) (n : Int32) (rR : Int32) (h : fX5_wears_k5 n = some rR) : Met l yX5_wears wsX5_wears ({ frames := 0, cells := 0, slots := 0, locals := 0 } : Room) (PW G D (tyC cA) sz (wO 5 o) [.ref o, .int n]) (QI D (tyC cA) (va_A (wO 5 o) sz) rR (wO 5 o)) 0 0 (va_A (wO 5 o) sz) := by
  refine ent (cc := cX5_wears) (maxL := 2) (ret := (some .int)) (fun A => QI D (tyC cA) A rR (wO 5 o)) (by decide +kernel) rfl (Nat.le_of_ble_eq_true rfl) ?_
  intro p e s m args below meth c A ls H hx hb hml hr hlk hts hown hA hK hE hP hD hS hv hmm
  have hv : lv_has ls 2 [(0, .ref o), (1, .int n)] := hv
  generalize hQ : MQ below _ args s 0 0 A = Q
  have hP : va_P D vwCl (wO 5 o) H := hP
  unfold fX5_wears_k5 at h
  refine lv_iconst (v := (3 : Int32)) hx hb dX5_wears_0 (by decide) ?_
  have h := Option.some.inj h
  have ee0 : (3 : Int32) = rR := congrArg (fun q => q) h
  subst ee0
  rw [← hQ]
  exact retI hx hb hr hlk hK hP hD hS dX5_wears_1 ⟨Nat.le_of_ble_eq_true rfl, Nat.le_of_ble_eq_true rfl⟩

def fX8_stays_k6 (mk : Int32) (w : Int32) (sv : Int32) : Option (Int32) :=
  some (3 : Int32)
set_option maxHeartbeats 4000000 in
set_option maxRecDepth 100000 in
theorem c_X8_stays_k6 (l : Launch) (G : Nat → Nat) (D : va_G) (cA : Nat → ClassId) (o : Nat) (sz : Nat) (mk : Int32) (w : Int32) (sv : Int32) (rR : Int32) (h : fX8_stays_k6 mk w sv = some rR) : Met l yX8_stays wsX8_stays ({ frames := 0, cells := 0, slots := 0, locals := 0 } : Room) (PW G D (tyC cA) sz (wO 6 o) [.ref o, .int mk, .int w, .int sv]) (QI D (tyC cA) (va_A (wO 6 o) sz) rR (wO 6 o)) 0 0 (va_A (wO 6 o) sz) := by
  refine ent (cc := cX8_stays) (maxL := 4) (ret := (some .int)) (fun A => QI D (tyC cA) A rR (wO 6 o)) (by decide +kernel) rfl (Nat.le_of_ble_eq_true rfl) ?_
  intro p e s m args below meth c A ls H hx hb hml hr hlk hts hown hA hK hE hP hD hS hv hmm
  have hv : lv_has ls 4 [(0, .ref o), (1, .int mk), (2, .int w), (3, .int sv)] := hv
  generalize hQ : MQ below _ args s 0 0 A = Q
  have hP : va_P D vwCl (wO 6 o) H := hP
  unfold fX8_stays_k6 at h
  refine lv_iconst (v := (3 : Int32)) hx hb dX8_stays_0 (by decide) ?_
  have h := Option.some.inj h
  have ee0 : (3 : Int32) = rR := congrArg (fun q => q) h
  subst ee0
  rw [← hQ]
  exact retI hx hb hr hlk hK hP hD hS dX8_stays_1 ⟨Nat.le_of_ble_eq_true rfl, Nat.le_of_ble_eq_true rfl⟩

def fX2_stays_k6 (mk : Int32) (w : Int32) (sv : Int32) : Option (Int32) :=
  bd (fX8_stays_k6 mk w sv) fun r_1 => some (r_1 + (w / (2 : Int32)))
set_option maxHeartbeats 4000000 in
set_option maxRecDepth 100000 in
theorem c_X2_stays_k6 (l : Launch) (G : Nat → Nat) (D : va_G) (cA : Nat → ClassId) (o : Nat) (sz : Nat) (mk : Int32) (w : Int32) (sv : Int32) (rR : Int32) (h : fX2_stays_k6 mk w sv = some rR) : Met l yX2_stays wsX2_stays ({ frames := 1, cells := 0, slots := 0, locals := 23 } : Room) (PW G D (tyC cA) sz (wO 6 o) [.ref o, .int mk, .int w, .int sv]) (QI D (tyC cA) (va_A (wO 6 o) sz) rR (wO 6 o)) 0 0 (va_A (wO 6 o) sz) := by
  refine ent (cc := cX2_stays) (maxL := 4) (ret := (some .int)) (fun A => QI D (tyC cA) A rR (wO 6 o)) (by decide +kernel) rfl (Nat.le_of_ble_eq_true rfl) ?_
  intro p e s m args below meth c A ls H hx hb hml hr hlk hts hown hA hK hE hP hD hS hv hmm
  have hv : lv_has ls 4 [(0, .ref o), (1, .int mk), (2, .int w), (3, .int sv)] := hv
  generalize hQ : MQ below _ args s 0 0 A = Q
  have hP : va_P D vwCl (wO 6 o) H := hP
  unfold fX2_stays_k6 at h
  refine lv_aload_n hx hb dX2_stays_0 rfl (lv_at hv 0 rfl) ?_
  refine lv_iload_n hx hb dX2_stays_1 rfl (lv_at hv 1 rfl) ?_
  refine lv_iload_n hx hb dX2_stays_2 rfl (lv_at hv 2 rfl) ?_
  refine lv_iload_n hx hb dX2_stays_3 rfl (lv_at hv 3 rfl) ?_
  obtain ⟨r_1, hf_2, h⟩ := bd_ex h
  have sb := Sb.same hP hD hS hA
  refine calI (va_runSU (As := [.int mk, .int w, .int sv]) (rest := []) (hK.1 6 _ rfl).2 ⟨hx, hb, hml, hown, hts⟩ (c_X8_stays_k6 l G D cA o _ mk w sv r_1 hf_2) (va_cwSU 3 hts gX2_stays_X8_stays_s7 rfl rfl rfl (by decide +kernel) ⟨Nat.le_of_ble_eq_true rfl, Nat.le_of_ble_eq_true rfl⟩) (pvV hE hK hS sb (va_recv hK hP (ci := 6) (q0 := 0) rfl rfl)) rfl rfl hv.1 rfl (lv_room (Nat.le_of_ble_eq_true rfl)) dX2_stays_4 ⟨Nat.le_of_ble_eq_true rfl, Nat.le_of_ble_eq_true rfl⟩) hS sb (Jn.same sb) (fun H locs hP hD hS => ?_)
  have hP : va_P D vwCl (wO 6 o) H := hP
  have hD : va_D A (wO 6 o) := hD
  refine lv_iload_n hx hb dX2_stays_7 rfl (lv_at hv 2 rfl) ?_
  refine lv_iconst (v := (2 : Int32)) hx hb dX2_stays_8 (by decide) ?_
  refine lv_idiv hx hb dX2_stays_9 (by decide) ?_
  refine lv_iadd hx hb dX2_stays_10 ?_
  have h := Option.some.inj h
  have ee0 : (r_1 + (w / (2 : Int32))) = rR := congrArg (fun q => q) h
  subst ee0
  rw [← hQ]
  exact retI hx hb hr hlk hK hP hD hS dX2_stays_11 ⟨Nat.le_of_ble_eq_true rfl, Nat.le_of_ble_eq_true rfl⟩

def fX6_stays_k6 (mk : Int32) (w : Int32) (sv : Int32) : Option (Int32) :=
  bd (fX2_stays_k6 mk w sv) fun r_1 => some (r_1 * (2 : Int32))
set_option maxHeartbeats 4000000 in
set_option maxRecDepth 100000 in
theorem c_X6_stays_k6 (l : Launch) (G : Nat → Nat) (D : va_G) (cA : Nat → ClassId) (o : Nat) (sz : Nat) (mk : Int32) (w : Int32) (sv : Int32) (rR : Int32) (h : fX6_stays_k6 mk w sv = some rR) : Met l yX6_stays wsX6_stays ({ frames := 2, cells := 0, slots := 0, locals := 46 } : Room) (PW G D (tyC cA) sz (wO 6 o) [.ref o, .int mk, .int w, .int sv]) (QI D (tyC cA) (va_A (wO 6 o) sz) rR (wO 6 o)) 0 0 (va_A (wO 6 o) sz) := by
  refine ent (cc := cX6_stays) (maxL := 4) (ret := (some .int)) (fun A => QI D (tyC cA) A rR (wO 6 o)) (by decide +kernel) rfl (Nat.le_of_ble_eq_true rfl) ?_
  intro p e s m args below meth c A ls H hx hb hml hr hlk hts hown hA hK hE hP hD hS hv hmm
  have hv : lv_has ls 4 [(0, .ref o), (1, .int mk), (2, .int w), (3, .int sv)] := hv
  generalize hQ : MQ below _ args s 0 0 A = Q
  have hP : va_P D vwCl (wO 6 o) H := hP
  unfold fX6_stays_k6 at h
  refine lv_aload_n hx hb dX6_stays_0 rfl (lv_at hv 0 rfl) ?_
  refine lv_iload_n hx hb dX6_stays_1 rfl (lv_at hv 1 rfl) ?_
  refine lv_iload_n hx hb dX6_stays_2 rfl (lv_at hv 2 rfl) ?_
  refine lv_iload_n hx hb dX6_stays_3 rfl (lv_at hv 3 rfl) ?_
  obtain ⟨r_1, hf_2, h⟩ := bd_ex h
  have sb := Sb.same hP hD hS hA
  refine calI (va_runSU (As := [.int mk, .int w, .int sv]) (rest := []) (hK.1 6 _ rfl).2 ⟨hx, hb, hml, hown, hts⟩ (c_X2_stays_k6 l G D cA o _ mk w sv r_1 hf_2) (va_cwSU 3 hts gX6_stays_X2_stays_s7 rfl rfl rfl (by decide +kernel) ⟨Nat.le_of_ble_eq_true rfl, Nat.le_of_ble_eq_true rfl⟩) (pvV hE hK hS sb (va_recv hK hP (ci := 6) (q0 := 0) rfl rfl)) rfl rfl hv.1 rfl (lv_room (Nat.le_of_ble_eq_true rfl)) dX6_stays_4 ⟨Nat.le_of_ble_eq_true rfl, Nat.le_of_ble_eq_true rfl⟩) hS sb (Jn.same sb) (fun H locs hP hD hS => ?_)
  have hP : va_P D vwCl (wO 6 o) H := hP
  have hD : va_D A (wO 6 o) := hD
  refine lv_iconst (v := (2 : Int32)) hx hb dX6_stays_7 (by decide) ?_
  refine lv_imul hx hb dX6_stays_8 ?_
  have h := Option.some.inj h
  have ee0 : (r_1 * (2 : Int32)) = rR := congrArg (fun q => q) h
  subst ee0
  rw [← hQ]
  exact retI hx hb hr hlk hK hP hD hS dX6_stays_9 ⟨Nat.le_of_ble_eq_true rfl, Nat.le_of_ble_eq_true rfl⟩

def fX2_reads_k6 (mk : Int32) : Option (Int32) :=
  some (2 : Int32)
set_option maxHeartbeats 4000000 in
set_option maxRecDepth 100000 in
theorem c_X2_reads_k6 (l : Launch) (G : Nat → Nat) (D : va_G) (cA : Nat → ClassId) (o : Nat) (sz : Nat) (mk : Int32) (rR : Int32) (h : fX2_reads_k6 mk = some rR) : Met l yX2_reads wsX2_reads ({ frames := 0, cells := 0, slots := 0, locals := 0 } : Room) (PW G D (tyC cA) sz (wO 6 o) [.ref o, .int mk]) (QI D (tyC cA) (va_A (wO 6 o) sz) rR (wO 6 o)) 0 0 (va_A (wO 6 o) sz) := by
  refine ent (cc := cX2_reads) (maxL := 2) (ret := (some .int)) (fun A => QI D (tyC cA) A rR (wO 6 o)) (by decide +kernel) rfl (Nat.le_of_ble_eq_true rfl) ?_
  intro p e s m args below meth c A ls H hx hb hml hr hlk hts hown hA hK hE hP hD hS hv hmm
  have hv : lv_has ls 2 [(0, .ref o), (1, .int mk)] := hv
  generalize hQ : MQ below _ args s 0 0 A = Q
  have hP : va_P D vwCl (wO 6 o) H := hP
  unfold fX2_reads_k6 at h
  refine lv_iconst (v := (2 : Int32)) hx hb dX2_reads_0 (by decide) ?_
  have h := Option.some.inj h
  have ee0 : (2 : Int32) = rR := congrArg (fun q => q) h
  subst ee0
  rw [← hQ]
  exact retI hx hb hr hlk hK hP hD hS dX2_reads_1 ⟨Nat.le_of_ble_eq_true rfl, Nat.le_of_ble_eq_true rfl⟩

def fX6_reads_k6 (mk : Int32) : Option (Int32) :=
  (if mk ≤ (4 : Int32) then bd (fX2_reads_k6 mk) fun r_2 => some r_2 else some (1 : Int32))
set_option maxHeartbeats 4000000 in
set_option maxRecDepth 100000 in
theorem c_X6_reads_k6 (l : Launch) (G : Nat → Nat) (D : va_G) (cA : Nat → ClassId) (o : Nat) (sz : Nat) (mk : Int32) (rR : Int32) (h : fX6_reads_k6 mk = some rR) : Met l yX6_reads wsX6_reads ({ frames := 1, cells := 0, slots := 0, locals := 21 } : Room) (PW G D (tyC cA) sz (wO 6 o) [.ref o, .int mk]) (QI D (tyC cA) (va_A (wO 6 o) sz) rR (wO 6 o)) 0 0 (va_A (wO 6 o) sz) := by
  refine ent (cc := cX6_reads) (maxL := 2) (ret := (some .int)) (fun A => QI D (tyC cA) A rR (wO 6 o)) (by decide +kernel) rfl (Nat.le_of_ble_eq_true rfl) ?_
  intro p e s m args below meth c A ls H hx hb hml hr hlk hts hown hA hK hE hP hD hS hv hmm
  have hv : lv_has ls 2 [(0, .ref o), (1, .int mk)] := hv
  generalize hQ : MQ below _ args s 0 0 A = Q
  have hP : va_P D vwCl (wO 6 o) H := hP
  unfold fX6_reads_k6 at h
  refine lv_iload_n hx hb dX6_reads_0 rfl (lv_at hv 1 rfl) ?_
  refine lv_iconst (v := (4 : Int32)) hx hb dX6_reads_1 (by decide) ?_
  refine lv_icmp_le (tgt := 9) hx hb dX6_reads_2 (by decide) (fun c_1 => ?_) (fun c_1 => ?_)
  · have h := ite_t c_1 h
    refine lv_aload_n hx hb dX6_reads_9 rfl (lv_at hv 0 rfl) ?_
    refine lv_iload_n hx hb dX6_reads_10 rfl (lv_at hv 1 rfl) ?_
    obtain ⟨r_2, hf_3, h⟩ := bd_ex h
    have sb := Sb.same hP hD hS hA
    refine calI (va_runSU (As := [.int mk]) (rest := []) (hK.1 6 _ rfl).2 ⟨hx, hb, hml, hown, hts⟩ (c_X2_reads_k6 l G D cA o _ mk r_2 hf_3) (va_cwSU 1 hts gX6_reads_X2_reads_s11 rfl rfl rfl (by decide +kernel) ⟨Nat.le_of_ble_eq_true rfl, Nat.le_of_ble_eq_true rfl⟩) (pvV hE hK hS sb (va_recv hK hP (ci := 6) (q0 := 0) rfl rfl)) rfl rfl hv.1 rfl (lv_room (Nat.le_of_ble_eq_true rfl)) dX6_reads_11 ⟨Nat.le_of_ble_eq_true rfl, Nat.le_of_ble_eq_true rfl⟩) hS sb (Jn.same sb) (fun H locs hP hD hS => ?_)
    have hP : va_P D vwCl (wO 6 o) H := hP
    have hD : va_D A (wO 6 o) := hD
    have h := Option.some.inj h
    have ee0 : r_2 = rR := congrArg (fun q => q) h
    subst ee0
    rw [← hQ]
    exact retI hx hb hr hlk hK hP hD hS dX6_reads_14 ⟨Nat.le_of_ble_eq_true rfl, Nat.le_of_ble_eq_true rfl⟩
  · have h := ite_f c_1 h
    refine lv_iconst (v := (1 : Int32)) hx hb dX6_reads_5 (by decide) ?_
    refine lv_goto (tgt := 14) hx hb dX6_reads_6 (by decide) ?_
    have h := Option.some.inj h
    have ee0 : (1 : Int32) = rR := congrArg (fun q => q) h
    subst ee0
    rw [← hQ]
    exact retI hx hb hr hlk hK hP hD hS dX6_reads_14 ⟨Nat.le_of_ble_eq_true rfl, Nat.le_of_ble_eq_true rfl⟩

def fX8_wears_k6 (n : Int32) : Option (Int32) :=
  some (1 : Int32)
set_option maxHeartbeats 4000000 in
set_option maxRecDepth 100000 in
theorem c_X8_wears_k6 (l : Launch) (G : Nat → Nat) (D : va_G) (cA : Nat → ClassId) (o : Nat) (sz : Nat) (n : Int32) (rR : Int32) (h : fX8_wears_k6 n = some rR) : Met l yX8_wears wsX8_wears ({ frames := 0, cells := 0, slots := 0, locals := 0 } : Room) (PW G D (tyC cA) sz (wO 6 o) [.ref o, .int n]) (QI D (tyC cA) (va_A (wO 6 o) sz) rR (wO 6 o)) 0 0 (va_A (wO 6 o) sz) := by
  refine ent (cc := cX8_wears) (maxL := 2) (ret := (some .int)) (fun A => QI D (tyC cA) A rR (wO 6 o)) (by decide +kernel) rfl (Nat.le_of_ble_eq_true rfl) ?_
  intro p e s m args below meth c A ls H hx hb hml hr hlk hts hown hA hK hE hP hD hS hv hmm
  have hv : lv_has ls 2 [(0, .ref o), (1, .int n)] := hv
  generalize hQ : MQ below _ args s 0 0 A = Q
  have hP : va_P D vwCl (wO 6 o) H := hP
  unfold fX8_wears_k6 at h
  refine lv_iconst (v := (1 : Int32)) hx hb dX8_wears_0 (by decide) ?_
  have h := Option.some.inj h
  have ee0 : (1 : Int32) = rR := congrArg (fun q => q) h
  subst ee0
  rw [← hQ]
  exact retI hx hb hr hlk hK hP hD hS dX8_wears_1 ⟨Nat.le_of_ble_eq_true rfl, Nat.le_of_ble_eq_true rfl⟩

def fX2_wears_k6 (n : Int32) : Option (Int32) :=
  bd (fX8_wears_k6 n) fun r_1 => some (r_1 + (1 : Int32))
set_option maxHeartbeats 4000000 in
set_option maxRecDepth 100000 in
theorem c_X2_wears_k6 (l : Launch) (G : Nat → Nat) (D : va_G) (cA : Nat → ClassId) (o : Nat) (sz : Nat) (n : Int32) (rR : Int32) (h : fX2_wears_k6 n = some rR) : Met l yX2_wears wsX2_wears ({ frames := 1, cells := 0, slots := 0, locals := 21 } : Room) (PW G D (tyC cA) sz (wO 6 o) [.ref o, .int n]) (QI D (tyC cA) (va_A (wO 6 o) sz) rR (wO 6 o)) 0 0 (va_A (wO 6 o) sz) := by
  refine ent (cc := cX2_wears) (maxL := 2) (ret := (some .int)) (fun A => QI D (tyC cA) A rR (wO 6 o)) (by decide +kernel) rfl (Nat.le_of_ble_eq_true rfl) ?_
  intro p e s m args below meth c A ls H hx hb hml hr hlk hts hown hA hK hE hP hD hS hv hmm
  have hv : lv_has ls 2 [(0, .ref o), (1, .int n)] := hv
  generalize hQ : MQ below _ args s 0 0 A = Q
  have hP : va_P D vwCl (wO 6 o) H := hP
  unfold fX2_wears_k6 at h
  refine lv_aload_n hx hb dX2_wears_0 rfl (lv_at hv 0 rfl) ?_
  refine lv_iload_n hx hb dX2_wears_1 rfl (lv_at hv 1 rfl) ?_
  obtain ⟨r_1, hf_2, h⟩ := bd_ex h
  have sb := Sb.same hP hD hS hA
  refine calI (va_runSU (As := [.int n]) (rest := []) (hK.1 6 _ rfl).2 ⟨hx, hb, hml, hown, hts⟩ (c_X8_wears_k6 l G D cA o _ n r_1 hf_2) (va_cwSU 1 hts gX2_wears_X8_wears_s11 rfl rfl rfl (by decide +kernel) ⟨Nat.le_of_ble_eq_true rfl, Nat.le_of_ble_eq_true rfl⟩) (pvV hE hK hS sb (va_recv hK hP (ci := 6) (q0 := 0) rfl rfl)) rfl rfl hv.1 rfl (lv_room (Nat.le_of_ble_eq_true rfl)) dX2_wears_2 ⟨Nat.le_of_ble_eq_true rfl, Nat.le_of_ble_eq_true rfl⟩) hS sb (Jn.same sb) (fun H locs hP hD hS => ?_)
  have hP : va_P D vwCl (wO 6 o) H := hP
  have hD : va_D A (wO 6 o) := hD
  refine lv_iconst (v := (1 : Int32)) hx hb dX2_wears_5 (by decide) ?_
  refine lv_iadd hx hb dX2_wears_6 ?_
  have h := Option.some.inj h
  have ee0 : (r_1 + (1 : Int32)) = rR := congrArg (fun q => q) h
  subst ee0
  rw [← hQ]
  exact retI hx hb hr hlk hK hP hD hS dX2_wears_7 ⟨Nat.le_of_ble_eq_true rfl, Nat.le_of_ble_eq_true rfl⟩

def fX8_stays_k4 (mk : Int32) (w : Int32) (sv : Int32) : Option (Int32) :=
  some (3 : Int32)
set_option maxHeartbeats 4000000 in
set_option maxRecDepth 100000 in
theorem c_X8_stays_k4 (l : Launch) (G : Nat → Nat) (D : va_G) (cA : Nat → ClassId) (o : Nat) (sz : Nat) (mk : Int32) (w : Int32) (sv : Int32) (rR : Int32) (h : fX8_stays_k4 mk w sv = some rR) : Met l yX8_stays wsX8_stays ({ frames := 0, cells := 0, slots := 0, locals := 0 } : Room) (PW G D (tyC cA) sz (wO 4 o) [.ref o, .int mk, .int w, .int sv]) (QI D (tyC cA) (va_A (wO 4 o) sz) rR (wO 4 o)) 0 0 (va_A (wO 4 o) sz) := by
  refine ent (cc := cX8_stays) (maxL := 4) (ret := (some .int)) (fun A => QI D (tyC cA) A rR (wO 4 o)) (by decide +kernel) rfl (Nat.le_of_ble_eq_true rfl) ?_
  intro p e s m args below meth c A ls H hx hb hml hr hlk hts hown hA hK hE hP hD hS hv hmm
  have hv : lv_has ls 4 [(0, .ref o), (1, .int mk), (2, .int w), (3, .int sv)] := hv
  generalize hQ : MQ below _ args s 0 0 A = Q
  have hP : va_P D vwCl (wO 4 o) H := hP
  unfold fX8_stays_k4 at h
  refine lv_iconst (v := (3 : Int32)) hx hb dX8_stays_0 (by decide) ?_
  have h := Option.some.inj h
  have ee0 : (3 : Int32) = rR := congrArg (fun q => q) h
  subst ee0
  rw [← hQ]
  exact retI hx hb hr hlk hK hP hD hS dX8_stays_1 ⟨Nat.le_of_ble_eq_true rfl, Nat.le_of_ble_eq_true rfl⟩

def fX4_stays_k4 (mk : Int32) (w : Int32) (sv : Int32) : Option (Int32) :=
  bd (fX8_stays_k4 mk w sv) fun r_1 => some (r_1 + (mk / (3 : Int32)))
set_option maxHeartbeats 4000000 in
set_option maxRecDepth 100000 in
theorem c_X4_stays_k4 (l : Launch) (G : Nat → Nat) (D : va_G) (cA : Nat → ClassId) (o : Nat) (sz : Nat) (mk : Int32) (w : Int32) (sv : Int32) (rR : Int32) (h : fX4_stays_k4 mk w sv = some rR) : Met l yX4_stays wsX4_stays ({ frames := 1, cells := 0, slots := 0, locals := 23 } : Room) (PW G D (tyC cA) sz (wO 4 o) [.ref o, .int mk, .int w, .int sv]) (QI D (tyC cA) (va_A (wO 4 o) sz) rR (wO 4 o)) 0 0 (va_A (wO 4 o) sz) := by
  refine ent (cc := cX4_stays) (maxL := 4) (ret := (some .int)) (fun A => QI D (tyC cA) A rR (wO 4 o)) (by decide +kernel) rfl (Nat.le_of_ble_eq_true rfl) ?_
  intro p e s m args below meth c A ls H hx hb hml hr hlk hts hown hA hK hE hP hD hS hv hmm
  have hv : lv_has ls 4 [(0, .ref o), (1, .int mk), (2, .int w), (3, .int sv)] := hv
  generalize hQ : MQ below _ args s 0 0 A = Q
  have hP : va_P D vwCl (wO 4 o) H := hP
  unfold fX4_stays_k4 at h
  refine lv_aload_n hx hb dX4_stays_0 rfl (lv_at hv 0 rfl) ?_
  refine lv_iload_n hx hb dX4_stays_1 rfl (lv_at hv 1 rfl) ?_
  refine lv_iload_n hx hb dX4_stays_2 rfl (lv_at hv 2 rfl) ?_
  refine lv_iload_n hx hb dX4_stays_3 rfl (lv_at hv 3 rfl) ?_
  obtain ⟨r_1, hf_2, h⟩ := bd_ex h
  have sb := Sb.same hP hD hS hA
  refine calI (runSU2 (n := 3) (x := ⟨RX0, "stays", "(III)I"⟩) (y := yX8_stays) (As := [.int mk, .int w, .int sv]) (rest := []) hE (hK.1 4 _ rfl).2 ⟨hx, hb, hml, hown, hts⟩ (c_X8_stays_k4 l G D cA o _ mk w sv r_1 hf_2) rfl (by decide +kernel) (by decide +kernel) (by decide +kernel) (by decide +kernel) (by decide +kernel) (by decide +kernel) (fun _ h => List.mem_append_right _ (List.mem_append_left _ h)) List.mem_cons_self (by decide +kernel) (by decide +kernel) ⟨rfl, rfl⟩ ⟨Nat.le_of_ble_eq_true rfl, Nat.le_of_ble_eq_true rfl⟩ (pvV hE hK hS sb (va_recv hK hP (ci := 4) (q0 := 0) rfl rfl)) rfl rfl hv.1 rfl (lv_room (Nat.le_of_ble_eq_true rfl)) dX4_stays_4 ⟨Nat.le_of_ble_eq_true rfl, Nat.le_of_ble_eq_true rfl⟩) hS sb (Jn.same sb) (fun H locs hP hD hS => ?_)
  have hP : va_P D vwCl (wO 4 o) H := hP
  have hD : va_D A (wO 4 o) := hD
  refine lv_iload_n hx hb dX4_stays_7 rfl (lv_at hv 1 rfl) ?_
  refine lv_iconst (v := (3 : Int32)) hx hb dX4_stays_8 (by decide) ?_
  refine lv_idiv hx hb dX4_stays_9 (by decide) ?_
  refine lv_iadd hx hb dX4_stays_10 ?_
  have h := Option.some.inj h
  have ee0 : (r_1 + (mk / (3 : Int32))) = rR := congrArg (fun q => q) h
  subst ee0
  rw [← hQ]
  exact retI hx hb hr hlk hK hP hD hS dX4_stays_11 ⟨Nat.le_of_ble_eq_true rfl, Nat.le_of_ble_eq_true rfl⟩

def fX0_reads_k4 (mk : Int32) : Option (Int32) :=
  some (5 : Int32)
set_option maxHeartbeats 4000000 in
set_option maxRecDepth 100000 in
theorem c_X0_reads_k4 (l : Launch) (G : Nat → Nat) (D : va_G) (cA : Nat → ClassId) (o : Nat) (sz : Nat) (mk : Int32) (rR : Int32) (h : fX0_reads_k4 mk = some rR) : Met l yX0_reads wsX0_reads ({ frames := 0, cells := 0, slots := 0, locals := 0 } : Room) (PW G D (tyC cA) sz (wO 4 o) [.ref o, .int mk]) (QI D (tyC cA) (va_A (wO 4 o) sz) rR (wO 4 o)) 0 0 (va_A (wO 4 o) sz) := by
  refine ent (cc := cX0_reads) (maxL := 2) (ret := (some .int)) (fun A => QI D (tyC cA) A rR (wO 4 o)) (by decide +kernel) rfl (Nat.le_of_ble_eq_true rfl) ?_
  intro p e s m args below meth c A ls H hx hb hml hr hlk hts hown hA hK hE hP hD hS hv hmm
  have hv : lv_has ls 2 [(0, .ref o), (1, .int mk)] := hv
  generalize hQ : MQ below _ args s 0 0 A = Q
  have hP : va_P D vwCl (wO 4 o) H := hP
  unfold fX0_reads_k4 at h
  refine lv_iconst (v := (5 : Int32)) hx hb dX0_reads_0 (by decide) ?_
  have h := Option.some.inj h
  have ee0 : (5 : Int32) = rR := congrArg (fun q => q) h
  subst ee0
  rw [← hQ]
  exact retI hx hb hr hlk hK hP hD hS dX0_reads_1 ⟨Nat.le_of_ble_eq_true rfl, Nat.le_of_ble_eq_true rfl⟩

def fX8_wears_k4 (n : Int32) : Option (Int32) :=
  some (1 : Int32)
set_option maxHeartbeats 4000000 in
set_option maxRecDepth 100000 in
theorem c_X8_wears_k4 (l : Launch) (G : Nat → Nat) (D : va_G) (cA : Nat → ClassId) (o : Nat) (sz : Nat) (n : Int32) (rR : Int32) (h : fX8_wears_k4 n = some rR) : Met l yX8_wears wsX8_wears ({ frames := 0, cells := 0, slots := 0, locals := 0 } : Room) (PW G D (tyC cA) sz (wO 4 o) [.ref o, .int n]) (QI D (tyC cA) (va_A (wO 4 o) sz) rR (wO 4 o)) 0 0 (va_A (wO 4 o) sz) := by
  refine ent (cc := cX8_wears) (maxL := 2) (ret := (some .int)) (fun A => QI D (tyC cA) A rR (wO 4 o)) (by decide +kernel) rfl (Nat.le_of_ble_eq_true rfl) ?_
  intro p e s m args below meth c A ls H hx hb hml hr hlk hts hown hA hK hE hP hD hS hv hmm
  have hv : lv_has ls 2 [(0, .ref o), (1, .int n)] := hv
  generalize hQ : MQ below _ args s 0 0 A = Q
  have hP : va_P D vwCl (wO 4 o) H := hP
  unfold fX8_wears_k4 at h
  refine lv_iconst (v := (1 : Int32)) hx hb dX8_wears_0 (by decide) ?_
  have h := Option.some.inj h
  have ee0 : (1 : Int32) = rR := congrArg (fun q => q) h
  subst ee0
  rw [← hQ]
  exact retI hx hb hr hlk hK hP hD hS dX8_wears_1 ⟨Nat.le_of_ble_eq_true rfl, Nat.le_of_ble_eq_true rfl⟩

def fX4_wears_k4 (n : Int32) : Option (Int32) :=
  (if n = 0 then some (0 : Int32) else bd (fX8_wears_k4 n) fun r_2 => some r_2)
set_option maxHeartbeats 4000000 in
set_option maxRecDepth 100000 in
theorem c_X4_wears_k4 (l : Launch) (G : Nat → Nat) (D : va_G) (cA : Nat → ClassId) (o : Nat) (sz : Nat) (n : Int32) (rR : Int32) (h : fX4_wears_k4 n = some rR) : Met l yX4_wears wsX4_wears ({ frames := 1, cells := 0, slots := 0, locals := 21 } : Room) (PW G D (tyC cA) sz (wO 4 o) [.ref o, .int n]) (QI D (tyC cA) (va_A (wO 4 o) sz) rR (wO 4 o)) 0 0 (va_A (wO 4 o) sz) := by
  refine ent (cc := cX4_wears) (maxL := 2) (ret := (some .int)) (fun A => QI D (tyC cA) A rR (wO 4 o)) (by decide +kernel) rfl (Nat.le_of_ble_eq_true rfl) ?_
  intro p e s m args below meth c A ls H hx hb hml hr hlk hts hown hA hK hE hP hD hS hv hmm
  have hv : lv_has ls 2 [(0, .ref o), (1, .int n)] := hv
  generalize hQ : MQ below _ args s 0 0 A = Q
  have hP : va_P D vwCl (wO 4 o) H := hP
  unfold fX4_wears_k4 at h
  refine lv_iload_n hx hb dX4_wears_0 rfl (lv_at hv 1 rfl) ?_
  refine lv_if_ne (tgt := 8) hx hb dX4_wears_1 (by decide) (fun c_1 => ?_) (fun c_1 => ?_)
  · have h := ite_f c_1 h
    refine lv_aload_n hx hb dX4_wears_8 rfl (lv_at hv 0 rfl) ?_
    refine lv_iload_n hx hb dX4_wears_9 rfl (lv_at hv 1 rfl) ?_
    obtain ⟨r_2, hf_3, h⟩ := bd_ex h
    have sb := Sb.same hP hD hS hA
    refine calI (runSU2 (n := 1) (x := ⟨RX0, "wears", "(I)I"⟩) (y := yX8_wears) (As := [.int n]) (rest := []) hE (hK.1 4 _ rfl).2 ⟨hx, hb, hml, hown, hts⟩ (c_X8_wears_k4 l G D cA o _ n r_2 hf_3) rfl (by decide +kernel) (by decide +kernel) (by decide +kernel) (by decide +kernel) (by decide +kernel) (by decide +kernel) (fun _ h => List.mem_append_right _ (List.mem_append_right _ (List.mem_append_left _ h))) List.mem_cons_self (by decide +kernel) (by decide +kernel) ⟨rfl, rfl⟩ ⟨Nat.le_of_ble_eq_true rfl, Nat.le_of_ble_eq_true rfl⟩ (pvV hE hK hS sb (va_recv hK hP (ci := 4) (q0 := 0) rfl rfl)) rfl rfl hv.1 rfl (lv_room (Nat.le_of_ble_eq_true rfl)) dX4_wears_10 ⟨Nat.le_of_ble_eq_true rfl, Nat.le_of_ble_eq_true rfl⟩) hS sb (Jn.same sb) (fun H locs hP hD hS => ?_)
    have hP : va_P D vwCl (wO 4 o) H := hP
    have hD : va_D A (wO 4 o) := hD
    have h := Option.some.inj h
    have ee0 : r_2 = rR := congrArg (fun q => q) h
    subst ee0
    rw [← hQ]
    exact retI hx hb hr hlk hK hP hD hS dX4_wears_13 ⟨Nat.le_of_ble_eq_true rfl, Nat.le_of_ble_eq_true rfl⟩
  · have h := ite_t c_1 h
    refine lv_iconst (v := (0 : Int32)) hx hb dX4_wears_4 (by decide) ?_
    refine lv_goto (tgt := 13) hx hb dX4_wears_5 (by decide) ?_
    have h := Option.some.inj h
    have ee0 : (0 : Int32) = rR := congrArg (fun q => q) h
    subst ee0
    rw [← hQ]
    exact retI hx hb hr hlk hK hP hD hS dX4_wears_13 ⟨Nat.le_of_ble_eq_true rfl, Nat.le_of_ble_eq_true rfl⟩

def fX5_stays_k1 (mk : Int32) (w : Int32) (sv : Int32) : Option (Int32) :=
  some w
set_option maxHeartbeats 4000000 in
set_option maxRecDepth 100000 in
theorem c_X5_stays_k1 (l : Launch) (G : Nat → Nat) (D : va_G) (cA : Nat → ClassId) (o : Nat) (sz : Nat) (mk : Int32) (w : Int32) (sv : Int32) (rR : Int32) (h : fX5_stays_k1 mk w sv = some rR) : Met l yX5_stays wsX5_stays ({ frames := 0, cells := 0, slots := 0, locals := 0 } : Room) (PW G D (tyC cA) sz (wO 1 o) [.ref o, .int mk, .int w, .int sv]) (QI D (tyC cA) (va_A (wO 1 o) sz) rR (wO 1 o)) 0 0 (va_A (wO 1 o) sz) := by
  refine ent (cc := cX5_stays) (maxL := 4) (ret := (some .int)) (fun A => QI D (tyC cA) A rR (wO 1 o)) (by decide +kernel) rfl (Nat.le_of_ble_eq_true rfl) ?_
  intro p e s m args below meth c A ls H hx hb hml hr hlk hts hown hA hK hE hP hD hS hv hmm
  have hv : lv_has ls 4 [(0, .ref o), (1, .int mk), (2, .int w), (3, .int sv)] := hv
  generalize hQ : MQ below _ args s 0 0 A = Q
  have hP : va_P D vwCl (wO 1 o) H := hP
  unfold fX5_stays_k1 at h
  refine lv_iload_n hx hb dX5_stays_0 rfl (lv_at hv 2 rfl) ?_
  have h := Option.some.inj h
  have ee0 : w = rR := congrArg (fun q => q) h
  subst ee0
  rw [← hQ]
  exact retI hx hb hr hlk hK hP hD hS dX5_stays_1 ⟨Nat.le_of_ble_eq_true rfl, Nat.le_of_ble_eq_true rfl⟩

def fX1_stays_k1 (mk : Int32) (w : Int32) (sv : Int32) : Option (Int32) :=
  (if (10 : Int32) ≤ sv then bd (fX5_stays_k1 mk w sv) fun r_2 => some r_2 else some (9 : Int32))
set_option maxHeartbeats 4000000 in
set_option maxRecDepth 100000 in
theorem c_X1_stays_k1 (l : Launch) (G : Nat → Nat) (D : va_G) (cA : Nat → ClassId) (o : Nat) (sz : Nat) (mk : Int32) (w : Int32) (sv : Int32) (rR : Int32) (h : fX1_stays_k1 mk w sv = some rR) : Met l yX1_stays wsX1_stays ({ frames := 1, cells := 0, slots := 0, locals := 23 } : Room) (PW G D (tyC cA) sz (wO 1 o) [.ref o, .int mk, .int w, .int sv]) (QI D (tyC cA) (va_A (wO 1 o) sz) rR (wO 1 o)) 0 0 (va_A (wO 1 o) sz) := by
  refine ent (cc := cX1_stays) (maxL := 4) (ret := (some .int)) (fun A => QI D (tyC cA) A rR (wO 1 o)) (by decide +kernel) rfl (Nat.le_of_ble_eq_true rfl) ?_
  intro p e s m args below meth c A ls H hx hb hml hr hlk hts hown hA hK hE hP hD hS hv hmm
  have hv : lv_has ls 4 [(0, .ref o), (1, .int mk), (2, .int w), (3, .int sv)] := hv
  generalize hQ : MQ below _ args s 0 0 A = Q
  have hP : va_P D vwCl (wO 1 o) H := hP
  unfold fX1_stays_k1 at h
  refine lv_iload_n hx hb dX1_stays_0 rfl (lv_at hv 3 rfl) ?_
  refine lv_bipush (v := (10 : Int32)) hx hb dX1_stays_1 (by decide) ?_
  refine lv_icmp_ge (tgt := 11) hx hb dX1_stays_3 (by decide) (fun c_1 => ?_) (fun c_1 => ?_)
  · have h := ite_t c_1 h
    refine lv_aload_n hx hb dX1_stays_11 rfl (lv_at hv 0 rfl) ?_
    refine lv_iload_n hx hb dX1_stays_12 rfl (lv_at hv 1 rfl) ?_
    refine lv_iload_n hx hb dX1_stays_13 rfl (lv_at hv 2 rfl) ?_
    refine lv_iload_n hx hb dX1_stays_14 rfl (lv_at hv 3 rfl) ?_
    obtain ⟨r_2, hf_3, h⟩ := bd_ex h
    have sb := Sb.same hP hD hS hA
    refine calI (va_runSU (As := [.int mk, .int w, .int sv]) (rest := []) (hK.1 1 _ rfl).2 ⟨hx, hb, hml, hown, hts⟩ (c_X5_stays_k1 l G D cA o _ mk w sv r_2 hf_3) (va_cwSU 3 hts gX1_stays_X5_stays_s7 rfl rfl rfl (by decide +kernel) ⟨Nat.le_of_ble_eq_true rfl, Nat.le_of_ble_eq_true rfl⟩) (pvV hE hK hS sb (va_recv hK hP (ci := 1) (q0 := 0) rfl rfl)) rfl rfl hv.1 rfl (lv_room (Nat.le_of_ble_eq_true rfl)) dX1_stays_15 ⟨Nat.le_of_ble_eq_true rfl, Nat.le_of_ble_eq_true rfl⟩) hS sb (Jn.same sb) (fun H locs hP hD hS => ?_)
    have hP : va_P D vwCl (wO 1 o) H := hP
    have hD : va_D A (wO 1 o) := hD
    have h := Option.some.inj h
    have ee0 : r_2 = rR := congrArg (fun q => q) h
    subst ee0
    rw [← hQ]
    exact retI hx hb hr hlk hK hP hD hS dX1_stays_18 ⟨Nat.le_of_ble_eq_true rfl, Nat.le_of_ble_eq_true rfl⟩
  · have h := ite_f c_1 h
    refine lv_bipush (v := (9 : Int32)) hx hb dX1_stays_6 (by decide) ?_
    refine lv_goto (tgt := 18) hx hb dX1_stays_8 (by decide) ?_
    have h := Option.some.inj h
    have ee0 : (9 : Int32) = rR := congrArg (fun q => q) h
    subst ee0
    rw [← hQ]
    exact retI hx hb hr hlk hK hP hD hS dX1_stays_18 ⟨Nat.le_of_ble_eq_true rfl, Nat.le_of_ble_eq_true rfl⟩

def fX1_reads_k1 (mk : Int32) : Option (Int32) :=
  some (9 : Int32)
set_option maxHeartbeats 4000000 in
set_option maxRecDepth 100000 in
theorem c_X1_reads_k1 (l : Launch) (G : Nat → Nat) (D : va_G) (cA : Nat → ClassId) (o : Nat) (sz : Nat) (mk : Int32) (rR : Int32) (h : fX1_reads_k1 mk = some rR) : Met l yX1_reads wsX1_reads ({ frames := 0, cells := 0, slots := 0, locals := 0 } : Room) (PW G D (tyC cA) sz (wO 1 o) [.ref o, .int mk]) (QI D (tyC cA) (va_A (wO 1 o) sz) rR (wO 1 o)) 0 0 (va_A (wO 1 o) sz) := by
  refine ent (cc := cX1_reads) (maxL := 2) (ret := (some .int)) (fun A => QI D (tyC cA) A rR (wO 1 o)) (by decide +kernel) rfl (Nat.le_of_ble_eq_true rfl) ?_
  intro p e s m args below meth c A ls H hx hb hml hr hlk hts hown hA hK hE hP hD hS hv hmm
  have hv : lv_has ls 2 [(0, .ref o), (1, .int mk)] := hv
  generalize hQ : MQ below _ args s 0 0 A = Q
  have hP : va_P D vwCl (wO 1 o) H := hP
  unfold fX1_reads_k1 at h
  refine lv_bipush (v := (9 : Int32)) hx hb dX1_reads_0 (by decide) ?_
  have h := Option.some.inj h
  have ee0 : (9 : Int32) = rR := congrArg (fun q => q) h
  subst ee0
  rw [← hQ]
  exact retI hx hb hr hlk hK hP hD hS dX1_reads_2 ⟨Nat.le_of_ble_eq_true rfl, Nat.le_of_ble_eq_true rfl⟩

def fX5_wears_k1 (n : Int32) : Option (Int32) :=
  some (3 : Int32)
set_option maxHeartbeats 4000000 in
set_option maxRecDepth 100000 in
theorem c_X5_wears_k1 (l : Launch) (G : Nat → Nat) (D : va_G) (cA : Nat → ClassId) (o : Nat) (sz : Nat) (n : Int32) (rR : Int32) (h : fX5_wears_k1 n = some rR) : Met l yX5_wears wsX5_wears ({ frames := 0, cells := 0, slots := 0, locals := 0 } : Room) (PW G D (tyC cA) sz (wO 1 o) [.ref o, .int n]) (QI D (tyC cA) (va_A (wO 1 o) sz) rR (wO 1 o)) 0 0 (va_A (wO 1 o) sz) := by
  refine ent (cc := cX5_wears) (maxL := 2) (ret := (some .int)) (fun A => QI D (tyC cA) A rR (wO 1 o)) (by decide +kernel) rfl (Nat.le_of_ble_eq_true rfl) ?_
  intro p e s m args below meth c A ls H hx hb hml hr hlk hts hown hA hK hE hP hD hS hv hmm
  have hv : lv_has ls 2 [(0, .ref o), (1, .int n)] := hv
  generalize hQ : MQ below _ args s 0 0 A = Q
  have hP : va_P D vwCl (wO 1 o) H := hP
  unfold fX5_wears_k1 at h
  refine lv_iconst (v := (3 : Int32)) hx hb dX5_wears_0 (by decide) ?_
  have h := Option.some.inj h
  have ee0 : (3 : Int32) = rR := congrArg (fun q => q) h
  subst ee0
  rw [← hQ]
  exact retI hx hb hr hlk hK hP hD hS dX5_wears_1 ⟨Nat.le_of_ble_eq_true rfl, Nat.le_of_ble_eq_true rfl⟩

def fX1_wears_k1 (n : Int32) : Option (Int32) :=
  bd (fX5_wears_k1 n) fun r_1 => some (r_1 + n)
set_option maxHeartbeats 4000000 in
set_option maxRecDepth 100000 in
theorem c_X1_wears_k1 (l : Launch) (G : Nat → Nat) (D : va_G) (cA : Nat → ClassId) (o : Nat) (sz : Nat) (n : Int32) (rR : Int32) (h : fX1_wears_k1 n = some rR) : Met l yX1_wears wsX1_wears ({ frames := 1, cells := 0, slots := 0, locals := 21 } : Room) (PW G D (tyC cA) sz (wO 1 o) [.ref o, .int n]) (QI D (tyC cA) (va_A (wO 1 o) sz) rR (wO 1 o)) 0 0 (va_A (wO 1 o) sz) := by
  refine ent (cc := cX1_wears) (maxL := 2) (ret := (some .int)) (fun A => QI D (tyC cA) A rR (wO 1 o)) (by decide +kernel) rfl (Nat.le_of_ble_eq_true rfl) ?_
  intro p e s m args below meth c A ls H hx hb hml hr hlk hts hown hA hK hE hP hD hS hv hmm
  have hv : lv_has ls 2 [(0, .ref o), (1, .int n)] := hv
  generalize hQ : MQ below _ args s 0 0 A = Q
  have hP : va_P D vwCl (wO 1 o) H := hP
  unfold fX1_wears_k1 at h
  refine lv_aload_n hx hb dX1_wears_0 rfl (lv_at hv 0 rfl) ?_
  refine lv_iload_n hx hb dX1_wears_1 rfl (lv_at hv 1 rfl) ?_
  obtain ⟨r_1, hf_2, h⟩ := bd_ex h
  have sb := Sb.same hP hD hS hA
  refine calI (va_runSU (As := [.int n]) (rest := []) (hK.1 1 _ rfl).2 ⟨hx, hb, hml, hown, hts⟩ (c_X5_wears_k1 l G D cA o _ n r_1 hf_2) (va_cwSU 1 hts gX1_wears_X5_wears_s11 rfl rfl rfl (by decide +kernel) ⟨Nat.le_of_ble_eq_true rfl, Nat.le_of_ble_eq_true rfl⟩) (pvV hE hK hS sb (va_recv hK hP (ci := 1) (q0 := 0) rfl rfl)) rfl rfl hv.1 rfl (lv_room (Nat.le_of_ble_eq_true rfl)) dX1_wears_2 ⟨Nat.le_of_ble_eq_true rfl, Nat.le_of_ble_eq_true rfl⟩) hS sb (Jn.same sb) (fun H locs hP hD hS => ?_)
  have hP : va_P D vwCl (wO 1 o) H := hP
  have hD : va_D A (wO 1 o) := hD
  refine lv_iload_n hx hb dX1_wears_5 rfl (lv_at hv 1 rfl) ?_
  refine lv_iadd hx hb dX1_wears_6 ?_
  have h := Option.some.inj h
  have ee0 : (r_1 + n) = rR := congrArg (fun q => q) h
  subst ee0
  rw [← hQ]
  exact retI hx hb hr hlk hK hP hD hS dX1_wears_7 ⟨Nat.le_of_ble_eq_true rfl, Nat.le_of_ble_eq_true rfl⟩

def fX8_shines_k8 (x : Int32) (vspoon : Int32) (vcount : Int32) (vbodies : Nat → Int32) : Option (Int32 × Int32 × (Nat → Int32)) :=
  bd (fX10_begins (10 : Int32) vcount vbodies) fun (vcount_1, vbodies_2) => some ((x + vspoon), vcount_1, vbodies_2)
set_option maxHeartbeats 4000000 in
set_option maxRecDepth 100000 in
theorem c_X8_shines_k8 (l : Launch) (G : Nat → Nat) (D : va_G) (cA : Nat → ClassId) (o : Nat) (vd : Nat → Nat) (sz : Nat) (vspoon : Int32) (vmark : Int32) (vcount : Int32) (vbodies : Nat → Int32) (x : Int32) (rR : Int32) (vcountR : Int32) (vbodiesR : Nat → Int32) (h : fX8_shines_k8 x vspoon vcount vbodies = some (rR, vcountR, vbodiesR)) : Met l yX8_shines wsX8_shines ({ frames := 1, cells := 0, slots := 0, locals := 21 } : Room) (PW G D (tyC cA) sz (wVO cA 8 o vd vspoon vmark vcount vbodies) [.ref o, .ref (vd 0), .int x]) (QI D (tyC cA) (va_A (wVO cA 8 o vd vspoon vmark vcount vbodies) sz) rR (wVO cA 8 o vd vspoon vmark vcountR vbodiesR)) 0 0 (va_A (wVO cA 8 o vd vspoon vmark vcount vbodies) sz) := by
  refine ent (cc := cX8_shines) (maxL := 3) (ret := (some .int)) (fun A => QI D (tyC cA) A rR (wVO cA 8 o vd vspoon vmark vcountR vbodiesR)) (by decide +kernel) rfl (Nat.le_of_ble_eq_true rfl) ?_
  intro p e s m args below meth c A ls H hx hb hml hr hlk hts hown hA hK hE hP hD hS hv hmm
  have hv : lv_has ls 3 [(0, .ref o), (1, .ref (vd 0)), (2, .int x)] := hv
  have in_10 : ∀ w ∈ u_ws RX10 TX10 4, w ∈ wsX8_shines := fun _ h => List.mem_cons_of_mem _ (List.mem_append_right _ h)
  have w_0 := hts (.fieldLink RX8 13 "SpoonsLast$Voice" "spoon" "I") (List.mem_of_getElem? (i := 1) rfl)
  generalize hQ : MQ below _ args s 0 0 A = Q
  have hP : va_P D vwCl (wVO cA 8 o vd vspoon vmark vcount vbodies) H := hP
  unfold fX8_shines_k8 at h
  refine lv_aload_n hx hb dX8_shines_0 rfl (lv_at hv 1 rfl) ?_
  refine lv_bipush (v := (10 : Int32)) hx hb dX8_shines_1 (by decide) ?_
  obtain ⟨⟨vcount_1, vbodies_2⟩, hf_3, h⟩ := bd_ex h
  have sb : Sb D A H (wV cA vd vspoon vmark vcount vbodies) := Sb.pl [1, 2] (by decide) rfl hP hD hS hA
  refine calV (va_runV (As := [.int (10 : Int32)]) (rest := []) ⟨hx, hb, hml, hown, hts⟩ (c_X10_begins l G D cA vd _ vspoon vmark vcount vbodies (10 : Int32) vcount_1 vbodies_2 hf_3) (cwV 1 hts gX8_shines_X10_begins rfl rfl rfl (by decide +kernel) ⟨Nat.le_of_ble_eq_true rfl, Nat.le_of_ble_eq_true rfl⟩) (pvV hE hK hS sb (va_recv hK hP (ci := 10) (q0 := 1) rfl rfl)) rfl rfl hv.1 rfl (lv_room (Nat.le_of_ble_eq_true rfl)) dX8_shines_3 ⟨Nat.le_of_ble_eq_true rfl, Nat.le_of_ble_eq_true rfl⟩) hS sb (Jn.pl (ws := (wVO cA 8 o vd vspoon vmark vcount vbodies)) (w1 := (wV cA vd vspoon vmark vcount_1 vbodies_2)) (ws' := (wVO cA 8 o vd vspoon vmark vcount_1 vbodies_2)) [1, 2] rfl rfl rfl rfl hP hD) (fun H locs hP hD hS => ?_)
  have hP : va_P D vwCl (wVO cA 8 o vd vspoon vmark vcount_1 vbodies_2) H := hP
  have hD : va_D A (wVO cA 8 o vd vspoon vmark vcount_1 vbodies_2) := hD
  refine lv_iload_n hx hb dX8_shines_6 rfl (lv_at hv 2 rfl) ?_
  refine lv_aload_n hx hb dX8_shines_7 rfl (lv_at hv 1 rfl) ?_
  refine va_get (D := D) (ci := 10) (v := .int vspoon) (C := RX10) (T := TX10) (N := 4) hx hb hts in_10 hown hK hP 1 rfl rfl 0 (by decide) w_0 (fun _ h9 => h9) rfl dX8_shines_8 ?_
  refine lv_iadd hx hb dX8_shines_11 ?_
  have h := Option.some.inj h
  have ee0 : (x + vspoon) = rR := congrArg (fun q => q.1) h
  have ee1 : vcount_1 = vcountR := congrArg (fun q => q.2.1) h
  have ee2 : vbodies_2 = vbodiesR := congrArg (fun q => q.2.2) h
  subst ee0
  subst ee1
  subst ee2
  rw [← hQ]
  exact retI hx hb hr hlk hK hP hD hS dX8_shines_12 ⟨Nat.le_of_ble_eq_true rfl, Nat.le_of_ble_eq_true rfl⟩

def fX8_dulls_k8 (x : Int32) (vspoon : Int32) (vcount : Int32) (vbodies : Nat → Int32) : Option (Int32 × Int32 × (Nat → Int32)) :=
  bd (fX10_begins (11 : Int32) vcount vbodies) fun (vcount_1, vbodies_2) => bd (fX8_shines_k8 x vspoon vcount_1 vbodies_2) fun (r_4, vcount_5, vbodies_6) => some ((r_4 * (2 : Int32)), vcount_5, vbodies_6)
set_option maxHeartbeats 4000000 in
set_option maxRecDepth 100000 in
theorem c_X8_dulls_k8 (l : Launch) (G : Nat → Nat) (D : va_G) (cA : Nat → ClassId) (o : Nat) (vd : Nat → Nat) (sz : Nat) (vspoon : Int32) (vmark : Int32) (vcount : Int32) (vbodies : Nat → Int32) (x : Int32) (rR : Int32) (vcountR : Int32) (vbodiesR : Nat → Int32) (h : fX8_dulls_k8 x vspoon vcount vbodies = some (rR, vcountR, vbodiesR)) : Met l yX8_dulls wsX8_dulls ({ frames := 2, cells := 0, slots := 0, locals := 43 } : Room) (PW G D (tyC cA) sz (wVO cA 8 o vd vspoon vmark vcount vbodies) [.ref o, .ref (vd 0), .int x]) (QI D (tyC cA) (va_A (wVO cA 8 o vd vspoon vmark vcount vbodies) sz) rR (wVO cA 8 o vd vspoon vmark vcountR vbodiesR)) 0 0 (va_A (wVO cA 8 o vd vspoon vmark vcount vbodies) sz) := by
  refine ent (cc := cX8_dulls) (maxL := 3) (ret := (some .int)) (fun A => QI D (tyC cA) A rR (wVO cA 8 o vd vspoon vmark vcountR vbodiesR)) (by decide +kernel) rfl (Nat.le_of_ble_eq_true rfl) ?_
  intro p e s m args below meth c A ls H hx hb hml hr hlk hts hown hA hK hE hP hD hS hv hmm
  have hv : lv_has ls 3 [(0, .ref o), (1, .ref (vd 0)), (2, .int x)] := hv
  generalize hQ : MQ below _ args s 0 0 A = Q
  have hP : va_P D vwCl (wVO cA 8 o vd vspoon vmark vcount vbodies) H := hP
  unfold fX8_dulls_k8 at h
  refine lv_aload_n hx hb dX8_dulls_0 rfl (lv_at hv 1 rfl) ?_
  refine lv_bipush (v := (11 : Int32)) hx hb dX8_dulls_1 (by decide) ?_
  obtain ⟨⟨vcount_1, vbodies_2⟩, hf_3, h⟩ := bd_ex h
  have sb : Sb D A H (wV cA vd vspoon vmark vcount vbodies) := Sb.pl [1, 2] (by decide) rfl hP hD hS hA
  refine calV (va_runV (As := [.int (11 : Int32)]) (rest := []) ⟨hx, hb, hml, hown, hts⟩ (c_X10_begins l G D cA vd _ vspoon vmark vcount vbodies (11 : Int32) vcount_1 vbodies_2 hf_3) (cwV 1 hts gX8_dulls_X10_begins rfl rfl rfl (by decide +kernel) ⟨Nat.le_of_ble_eq_true rfl, Nat.le_of_ble_eq_true rfl⟩) (pvV hE hK hS sb (va_recv hK hP (ci := 10) (q0 := 1) rfl rfl)) rfl rfl hv.1 rfl (lv_room (Nat.le_of_ble_eq_true rfl)) dX8_dulls_3 ⟨Nat.le_of_ble_eq_true rfl, Nat.le_of_ble_eq_true rfl⟩) hS sb (Jn.pl (ws := (wVO cA 8 o vd vspoon vmark vcount vbodies)) (w1 := (wV cA vd vspoon vmark vcount_1 vbodies_2)) (ws' := (wVO cA 8 o vd vspoon vmark vcount_1 vbodies_2)) [1, 2] rfl rfl rfl rfl hP hD) (fun H locs hP hD hS => ?_)
  have hP : va_P D vwCl (wVO cA 8 o vd vspoon vmark vcount_1 vbodies_2) H := hP
  have hD : va_D A (wVO cA 8 o vd vspoon vmark vcount_1 vbodies_2) := hD
  refine lv_aload_n hx hb dX8_dulls_6 rfl (lv_at hv 0 rfl) ?_
  refine lv_aload_n hx hb dX8_dulls_7 rfl (lv_at hv 1 rfl) ?_
  refine lv_iload_n hx hb dX8_dulls_8 rfl (lv_at hv 2 rfl) ?_
  obtain ⟨⟨r_4, vcount_5, vbodies_6⟩, hf_7, h⟩ := bd_ex h
  have sb := Sb.same hP hD hS hA
  refine calI (va_runV (As := [.ref (vd 0), .int x]) (rest := []) ⟨hx, hb, hml, hown, hts⟩ (c_X8_shines_k8 l G D cA o vd _ vspoon vmark vcount_1 vbodies_2 x r_4 vcount_5 vbodies_6 hf_7) (cwV 2 hts gX8_dulls_X8_shines rfl rfl rfl (by decide +kernel) ⟨Nat.le_of_ble_eq_true rfl, Nat.le_of_ble_eq_true rfl⟩) (pvV hE hK hS sb (va_recv hK hP (ci := 8) (q0 := 0) rfl rfl)) rfl rfl hv.1 rfl (lv_room (Nat.le_of_ble_eq_true rfl)) dX8_dulls_9 ⟨Nat.le_of_ble_eq_true rfl, Nat.le_of_ble_eq_true rfl⟩) hS sb (Jn.same sb) (fun H locs hP hD hS => ?_)
  have hP : va_P D vwCl (wVO cA 8 o vd vspoon vmark vcount_5 vbodies_6) H := hP
  have hD : va_D A (wVO cA 8 o vd vspoon vmark vcount_5 vbodies_6) := hD
  refine lv_iconst (v := (2 : Int32)) hx hb dX8_dulls_12 (by decide) ?_
  refine lv_imul hx hb dX8_dulls_13 ?_
  have h := Option.some.inj h
  have ee0 : (r_4 * (2 : Int32)) = rR := congrArg (fun q => q.1) h
  have ee1 : vcount_5 = vcountR := congrArg (fun q => q.2.1) h
  have ee2 : vbodies_6 = vbodiesR := congrArg (fun q => q.2.2) h
  subst ee0
  subst ee1
  subst ee2
  rw [← hQ]
  exact retI hx hb hr hlk hK hP hD hS dX8_dulls_14 ⟨Nat.le_of_ble_eq_true rfl, Nat.le_of_ble_eq_true rfl⟩

def fX8_holds_k8 (x : Int32) (vmark : Int32) (vcount : Int32) (vbodies : Nat → Int32) : Option (Int32 × Int32 × (Nat → Int32)) :=
  bd (fX10_begins (12 : Int32) vcount vbodies) fun (vcount_1, vbodies_2) => some ((x - vmark), vcount_1, vbodies_2)
set_option maxHeartbeats 4000000 in
set_option maxRecDepth 100000 in
theorem c_X8_holds_k8 (l : Launch) (G : Nat → Nat) (D : va_G) (cA : Nat → ClassId) (o : Nat) (vd : Nat → Nat) (sz : Nat) (vspoon : Int32) (vmark : Int32) (vcount : Int32) (vbodies : Nat → Int32) (x : Int32) (rR : Int32) (vcountR : Int32) (vbodiesR : Nat → Int32) (h : fX8_holds_k8 x vmark vcount vbodies = some (rR, vcountR, vbodiesR)) : Met l yX8_holds wsX8_holds ({ frames := 1, cells := 0, slots := 0, locals := 21 } : Room) (PW G D (tyC cA) sz (wVO cA 8 o vd vspoon vmark vcount vbodies) [.ref o, .ref (vd 0), .int x]) (QI D (tyC cA) (va_A (wVO cA 8 o vd vspoon vmark vcount vbodies) sz) rR (wVO cA 8 o vd vspoon vmark vcountR vbodiesR)) 0 0 (va_A (wVO cA 8 o vd vspoon vmark vcount vbodies) sz) := by
  refine ent (cc := cX8_holds) (maxL := 3) (ret := (some .int)) (fun A => QI D (tyC cA) A rR (wVO cA 8 o vd vspoon vmark vcountR vbodiesR)) (by decide +kernel) rfl (Nat.le_of_ble_eq_true rfl) ?_
  intro p e s m args below meth c A ls H hx hb hml hr hlk hts hown hA hK hE hP hD hS hv hmm
  have hv : lv_has ls 3 [(0, .ref o), (1, .ref (vd 0)), (2, .int x)] := hv
  have in_10 : ∀ w ∈ u_ws RX10 TX10 4, w ∈ wsX8_holds := fun _ h => List.mem_cons_of_mem _ (List.mem_append_right _ h)
  have w_0 := hts (.fieldLink RX8 23 "SpoonsLast$Voice" "mark" "I") (List.mem_of_getElem? (i := 1) rfl)
  generalize hQ : MQ below _ args s 0 0 A = Q
  have hP : va_P D vwCl (wVO cA 8 o vd vspoon vmark vcount vbodies) H := hP
  unfold fX8_holds_k8 at h
  refine lv_aload_n hx hb dX8_holds_0 rfl (lv_at hv 1 rfl) ?_
  refine lv_bipush (v := (12 : Int32)) hx hb dX8_holds_1 (by decide) ?_
  obtain ⟨⟨vcount_1, vbodies_2⟩, hf_3, h⟩ := bd_ex h
  have sb : Sb D A H (wV cA vd vspoon vmark vcount vbodies) := Sb.pl [1, 2] (by decide) rfl hP hD hS hA
  refine calV (va_runV (As := [.int (12 : Int32)]) (rest := []) ⟨hx, hb, hml, hown, hts⟩ (c_X10_begins l G D cA vd _ vspoon vmark vcount vbodies (12 : Int32) vcount_1 vbodies_2 hf_3) (cwV 1 hts gX8_holds_X10_begins rfl rfl rfl (by decide +kernel) ⟨Nat.le_of_ble_eq_true rfl, Nat.le_of_ble_eq_true rfl⟩) (pvV hE hK hS sb (va_recv hK hP (ci := 10) (q0 := 1) rfl rfl)) rfl rfl hv.1 rfl (lv_room (Nat.le_of_ble_eq_true rfl)) dX8_holds_3 ⟨Nat.le_of_ble_eq_true rfl, Nat.le_of_ble_eq_true rfl⟩) hS sb (Jn.pl (ws := (wVO cA 8 o vd vspoon vmark vcount vbodies)) (w1 := (wV cA vd vspoon vmark vcount_1 vbodies_2)) (ws' := (wVO cA 8 o vd vspoon vmark vcount_1 vbodies_2)) [1, 2] rfl rfl rfl rfl hP hD) (fun H locs hP hD hS => ?_)
  have hP : va_P D vwCl (wVO cA 8 o vd vspoon vmark vcount_1 vbodies_2) H := hP
  have hD : va_D A (wVO cA 8 o vd vspoon vmark vcount_1 vbodies_2) := hD
  refine lv_iload_n hx hb dX8_holds_6 rfl (lv_at hv 2 rfl) ?_
  refine lv_aload_n hx hb dX8_holds_7 rfl (lv_at hv 1 rfl) ?_
  refine va_get (D := D) (ci := 10) (v := .int vmark) (C := RX10) (T := TX10) (N := 4) hx hb hts in_10 hown hK hP 1 rfl rfl 1 (by decide) w_0 (fun _ h9 => h9) rfl dX8_holds_8 ?_
  refine lv_isub hx hb dX8_holds_11 ?_
  have h := Option.some.inj h
  have ee0 : (x - vmark) = rR := congrArg (fun q => q.1) h
  have ee1 : vcount_1 = vcountR := congrArg (fun q => q.2.1) h
  have ee2 : vbodies_2 = vbodiesR := congrArg (fun q => q.2.2) h
  subst ee0
  subst ee1
  subst ee2
  rw [← hQ]
  exact retI hx hb hr hlk hK hP hD hS dX8_holds_12 ⟨Nat.le_of_ble_eq_true rfl, Nat.le_of_ble_eq_true rfl⟩

def fX8_tells_k8 (x : Int32) (vspoon : Int32) (vmark : Int32) (vcount : Int32) (vbodies : Nat → Int32) : Option (Int32 × Int32 × (Nat → Int32)) :=
  bd (fX10_begins (13 : Int32) vcount vbodies) fun (vcount_1, vbodies_2) => bd (fX8_dulls_k8 x vspoon vcount_1 vbodies_2) fun (r_4, vcount_5, vbodies_6) => bd (fX8_holds_k8 x vmark vcount_5 vbodies_6) fun (r_8, vcount_9, vbodies_10) => some ((r_4 ^^^ r_8), vcount_9, vbodies_10)
set_option maxHeartbeats 4000000 in
set_option maxRecDepth 100000 in
theorem c_X8_tells_k8 (l : Launch) (G : Nat → Nat) (D : va_G) (cA : Nat → ClassId) (o : Nat) (vd : Nat → Nat) (sz : Nat) (vspoon : Int32) (vmark : Int32) (vcount : Int32) (vbodies : Nat → Int32) (x : Int32) (rR : Int32) (vcountR : Int32) (vbodiesR : Nat → Int32) (h : fX8_tells_k8 x vspoon vmark vcount vbodies = some (rR, vcountR, vbodiesR)) : Met l yX8_tells wsX8_tells ({ frames := 3, cells := 0, slots := 0, locals := 65 } : Room) (PW G D (tyC cA) sz (wVO cA 8 o vd vspoon vmark vcount vbodies) [.ref o, .ref (vd 0), .int x]) (QI D (tyC cA) (va_A (wVO cA 8 o vd vspoon vmark vcount vbodies) sz) rR (wVO cA 8 o vd vspoon vmark vcountR vbodiesR)) 0 0 (va_A (wVO cA 8 o vd vspoon vmark vcount vbodies) sz) := by
  refine ent (cc := cX8_tells) (maxL := 3) (ret := (some .int)) (fun A => QI D (tyC cA) A rR (wVO cA 8 o vd vspoon vmark vcountR vbodiesR)) (by decide +kernel) rfl (Nat.le_of_ble_eq_true rfl) ?_
  intro p e s m args below meth c A ls H hx hb hml hr hlk hts hown hA hK hE hP hD hS hv hmm
  have hv : lv_has ls 3 [(0, .ref o), (1, .ref (vd 0)), (2, .int x)] := hv
  generalize hQ : MQ below _ args s 0 0 A = Q
  have hP : va_P D vwCl (wVO cA 8 o vd vspoon vmark vcount vbodies) H := hP
  unfold fX8_tells_k8 at h
  refine lv_aload_n hx hb dX8_tells_0 rfl (lv_at hv 1 rfl) ?_
  refine lv_bipush (v := (13 : Int32)) hx hb dX8_tells_1 (by decide) ?_
  obtain ⟨⟨vcount_1, vbodies_2⟩, hf_3, h⟩ := bd_ex h
  have sb : Sb D A H (wV cA vd vspoon vmark vcount vbodies) := Sb.pl [1, 2] (by decide) rfl hP hD hS hA
  refine calV (va_runV (As := [.int (13 : Int32)]) (rest := []) ⟨hx, hb, hml, hown, hts⟩ (c_X10_begins l G D cA vd _ vspoon vmark vcount vbodies (13 : Int32) vcount_1 vbodies_2 hf_3) (cwV 1 hts gX8_tells_X10_begins rfl rfl rfl (by decide +kernel) ⟨Nat.le_of_ble_eq_true rfl, Nat.le_of_ble_eq_true rfl⟩) (pvV hE hK hS sb (va_recv hK hP (ci := 10) (q0 := 1) rfl rfl)) rfl rfl hv.1 rfl (lv_room (Nat.le_of_ble_eq_true rfl)) dX8_tells_3 ⟨Nat.le_of_ble_eq_true rfl, Nat.le_of_ble_eq_true rfl⟩) hS sb (Jn.pl (ws := (wVO cA 8 o vd vspoon vmark vcount vbodies)) (w1 := (wV cA vd vspoon vmark vcount_1 vbodies_2)) (ws' := (wVO cA 8 o vd vspoon vmark vcount_1 vbodies_2)) [1, 2] rfl rfl rfl rfl hP hD) (fun H locs hP hD hS => ?_)
  have hP : va_P D vwCl (wVO cA 8 o vd vspoon vmark vcount_1 vbodies_2) H := hP
  have hD : va_D A (wVO cA 8 o vd vspoon vmark vcount_1 vbodies_2) := hD
  refine lv_aload_n hx hb dX8_tells_6 rfl (lv_at hv 0 rfl) ?_
  refine lv_aload_n hx hb dX8_tells_7 rfl (lv_at hv 1 rfl) ?_
  refine lv_iload_n hx hb dX8_tells_8 rfl (lv_at hv 2 rfl) ?_
  obtain ⟨⟨r_4, vcount_5, vbodies_6⟩, hf_7, h⟩ := bd_ex h
  have sb := Sb.same hP hD hS hA
  refine calI (va_runV (As := [.ref (vd 0), .int x]) (rest := []) ⟨hx, hb, hml, hown, hts⟩ (c_X8_dulls_k8 l G D cA o vd _ vspoon vmark vcount_1 vbodies_2 x r_4 vcount_5 vbodies_6 hf_7) (cwV 2 hts gX8_tells_X8_dulls rfl rfl rfl (by decide +kernel) ⟨Nat.le_of_ble_eq_true rfl, Nat.le_of_ble_eq_true rfl⟩) (pvV hE hK hS sb (va_recv hK hP (ci := 8) (q0 := 0) rfl rfl)) rfl rfl hv.1 rfl (lv_room (Nat.le_of_ble_eq_true rfl)) dX8_tells_9 ⟨Nat.le_of_ble_eq_true rfl, Nat.le_of_ble_eq_true rfl⟩) hS sb (Jn.same sb) (fun H locs hP hD hS => ?_)
  have hP : va_P D vwCl (wVO cA 8 o vd vspoon vmark vcount_5 vbodies_6) H := hP
  have hD : va_D A (wVO cA 8 o vd vspoon vmark vcount_5 vbodies_6) := hD
  refine lv_aload_n hx hb dX8_tells_12 rfl (lv_at hv 0 rfl) ?_
  refine lv_aload_n hx hb dX8_tells_13 rfl (lv_at hv 1 rfl) ?_
  refine lv_iload_n hx hb dX8_tells_14 rfl (lv_at hv 2 rfl) ?_
  obtain ⟨⟨r_8, vcount_9, vbodies_10⟩, hf_11, h⟩ := bd_ex h
  have sb := Sb.same hP hD hS hA
  refine calI (va_runV (As := [.ref (vd 0), .int x]) (rest := [.int r_4]) ⟨hx, hb, hml, hown, hts⟩ (c_X8_holds_k8 l G D cA o vd _ vspoon vmark vcount_5 vbodies_6 x r_8 vcount_9 vbodies_10 hf_11) (cwV 2 hts gX8_tells_X8_holds rfl rfl rfl (by decide +kernel) ⟨Nat.le_of_ble_eq_true rfl, Nat.le_of_ble_eq_true rfl⟩) (pvV hE hK hS sb (va_recv hK hP (ci := 8) (q0 := 0) rfl rfl)) rfl rfl hv.1 rfl (lv_room (Nat.le_of_ble_eq_true rfl)) dX8_tells_15 ⟨Nat.le_of_ble_eq_true rfl, Nat.le_of_ble_eq_true rfl⟩) hS sb (Jn.same sb) (fun H locs hP hD hS => ?_)
  have hP : va_P D vwCl (wVO cA 8 o vd vspoon vmark vcount_9 vbodies_10) H := hP
  have hD : va_D A (wVO cA 8 o vd vspoon vmark vcount_9 vbodies_10) := hD
  refine lv_ixor hx hb dX8_tells_18 ?_
  have h := Option.some.inj h
  have ee0 : (r_4 ^^^ r_8) = rR := congrArg (fun q => q.1) h
  have ee1 : vcount_9 = vcountR := congrArg (fun q => q.2.1) h
  have ee2 : vbodies_10 = vbodiesR := congrArg (fun q => q.2.2) h
  subst ee0
  subst ee1
  subst ee2
  rw [← hQ]
  exact retI hx hb hr hlk hK hP hD hS dX8_tells_19 ⟨Nat.le_of_ble_eq_true rfl, Nat.le_of_ble_eq_true rfl⟩

def fX8_shines_k2 (x : Int32) (vspoon : Int32) (vcount : Int32) (vbodies : Nat → Int32) : Option (Int32 × Int32 × (Nat → Int32)) :=
  bd (fX10_begins (10 : Int32) vcount vbodies) fun (vcount_1, vbodies_2) => some ((x + vspoon), vcount_1, vbodies_2)
set_option maxHeartbeats 4000000 in
set_option maxRecDepth 100000 in
theorem c_X8_shines_k2 (l : Launch) (G : Nat → Nat) (D : va_G) (cA : Nat → ClassId) (o : Nat) (vd : Nat → Nat) (sz : Nat) (vspoon : Int32) (vmark : Int32) (vcount : Int32) (vbodies : Nat → Int32) (x : Int32) (rR : Int32) (vcountR : Int32) (vbodiesR : Nat → Int32) (h : fX8_shines_k2 x vspoon vcount vbodies = some (rR, vcountR, vbodiesR)) : Met l yX8_shines wsX8_shines ({ frames := 1, cells := 0, slots := 0, locals := 21 } : Room) (PW G D (tyC cA) sz (wVO cA 2 o vd vspoon vmark vcount vbodies) [.ref o, .ref (vd 0), .int x]) (QI D (tyC cA) (va_A (wVO cA 2 o vd vspoon vmark vcount vbodies) sz) rR (wVO cA 2 o vd vspoon vmark vcountR vbodiesR)) 0 0 (va_A (wVO cA 2 o vd vspoon vmark vcount vbodies) sz) := by
  refine ent (cc := cX8_shines) (maxL := 3) (ret := (some .int)) (fun A => QI D (tyC cA) A rR (wVO cA 2 o vd vspoon vmark vcountR vbodiesR)) (by decide +kernel) rfl (Nat.le_of_ble_eq_true rfl) ?_
  intro p e s m args below meth c A ls H hx hb hml hr hlk hts hown hA hK hE hP hD hS hv hmm
  have hv : lv_has ls 3 [(0, .ref o), (1, .ref (vd 0)), (2, .int x)] := hv
  have in_10 : ∀ w ∈ u_ws RX10 TX10 4, w ∈ wsX8_shines := fun _ h => List.mem_cons_of_mem _ (List.mem_append_right _ h)
  have w_0 := hts (.fieldLink RX8 13 "SpoonsLast$Voice" "spoon" "I") (List.mem_of_getElem? (i := 1) rfl)
  generalize hQ : MQ below _ args s 0 0 A = Q
  have hP : va_P D vwCl (wVO cA 2 o vd vspoon vmark vcount vbodies) H := hP
  unfold fX8_shines_k2 at h
  refine lv_aload_n hx hb dX8_shines_0 rfl (lv_at hv 1 rfl) ?_
  refine lv_bipush (v := (10 : Int32)) hx hb dX8_shines_1 (by decide) ?_
  obtain ⟨⟨vcount_1, vbodies_2⟩, hf_3, h⟩ := bd_ex h
  have sb : Sb D A H (wV cA vd vspoon vmark vcount vbodies) := Sb.pl [1, 2] (by decide) rfl hP hD hS hA
  refine calV (va_runV (As := [.int (10 : Int32)]) (rest := []) ⟨hx, hb, hml, hown, hts⟩ (c_X10_begins l G D cA vd _ vspoon vmark vcount vbodies (10 : Int32) vcount_1 vbodies_2 hf_3) (cwV 1 hts gX8_shines_X10_begins rfl rfl rfl (by decide +kernel) ⟨Nat.le_of_ble_eq_true rfl, Nat.le_of_ble_eq_true rfl⟩) (pvV hE hK hS sb (va_recv hK hP (ci := 10) (q0 := 1) rfl rfl)) rfl rfl hv.1 rfl (lv_room (Nat.le_of_ble_eq_true rfl)) dX8_shines_3 ⟨Nat.le_of_ble_eq_true rfl, Nat.le_of_ble_eq_true rfl⟩) hS sb (Jn.pl (ws := (wVO cA 2 o vd vspoon vmark vcount vbodies)) (w1 := (wV cA vd vspoon vmark vcount_1 vbodies_2)) (ws' := (wVO cA 2 o vd vspoon vmark vcount_1 vbodies_2)) [1, 2] rfl rfl rfl rfl hP hD) (fun H locs hP hD hS => ?_)
  have hP : va_P D vwCl (wVO cA 2 o vd vspoon vmark vcount_1 vbodies_2) H := hP
  have hD : va_D A (wVO cA 2 o vd vspoon vmark vcount_1 vbodies_2) := hD
  refine lv_iload_n hx hb dX8_shines_6 rfl (lv_at hv 2 rfl) ?_
  refine lv_aload_n hx hb dX8_shines_7 rfl (lv_at hv 1 rfl) ?_
  refine va_get (D := D) (ci := 10) (v := .int vspoon) (C := RX10) (T := TX10) (N := 4) hx hb hts in_10 hown hK hP 1 rfl rfl 0 (by decide) w_0 (fun _ h9 => h9) rfl dX8_shines_8 ?_
  refine lv_iadd hx hb dX8_shines_11 ?_
  have h := Option.some.inj h
  have ee0 : (x + vspoon) = rR := congrArg (fun q => q.1) h
  have ee1 : vcount_1 = vcountR := congrArg (fun q => q.2.1) h
  have ee2 : vbodies_2 = vbodiesR := congrArg (fun q => q.2.2) h
  subst ee0
  subst ee1
  subst ee2
  rw [← hQ]
  exact retI hx hb hr hlk hK hP hD hS dX8_shines_12 ⟨Nat.le_of_ble_eq_true rfl, Nat.le_of_ble_eq_true rfl⟩

def fX2_shines_k2 (x : Int32) (vspoon : Int32) (vcount : Int32) (vbodies : Nat → Int32) : Option (Int32 × Int32 × (Nat → Int32)) :=
  bd (fX10_begins (20 : Int32) vcount vbodies) fun (vcount_1, vbodies_2) => bd (fX8_shines_k2 x vspoon vcount_1 vbodies_2) fun (r_4, vcount_5, vbodies_6) => some ((r_4 * (3 : Int32)), vcount_5, vbodies_6)
set_option maxHeartbeats 4000000 in
set_option maxRecDepth 100000 in
theorem c_X2_shines_k2 (l : Launch) (G : Nat → Nat) (D : va_G) (cA : Nat → ClassId) (o : Nat) (vd : Nat → Nat) (sz : Nat) (vspoon : Int32) (vmark : Int32) (vcount : Int32) (vbodies : Nat → Int32) (x : Int32) (rR : Int32) (vcountR : Int32) (vbodiesR : Nat → Int32) (h : fX2_shines_k2 x vspoon vcount vbodies = some (rR, vcountR, vbodiesR)) : Met l yX2_shines wsX2_shines ({ frames := 2, cells := 0, slots := 0, locals := 43 } : Room) (PW G D (tyC cA) sz (wVO cA 2 o vd vspoon vmark vcount vbodies) [.ref o, .ref (vd 0), .int x]) (QI D (tyC cA) (va_A (wVO cA 2 o vd vspoon vmark vcount vbodies) sz) rR (wVO cA 2 o vd vspoon vmark vcountR vbodiesR)) 0 0 (va_A (wVO cA 2 o vd vspoon vmark vcount vbodies) sz) := by
  refine ent (cc := cX2_shines) (maxL := 3) (ret := (some .int)) (fun A => QI D (tyC cA) A rR (wVO cA 2 o vd vspoon vmark vcountR vbodiesR)) (by decide +kernel) rfl (Nat.le_of_ble_eq_true rfl) ?_
  intro p e s m args below meth c A ls H hx hb hml hr hlk hts hown hA hK hE hP hD hS hv hmm
  have hv : lv_has ls 3 [(0, .ref o), (1, .ref (vd 0)), (2, .int x)] := hv
  generalize hQ : MQ below _ args s 0 0 A = Q
  have hP : va_P D vwCl (wVO cA 2 o vd vspoon vmark vcount vbodies) H := hP
  unfold fX2_shines_k2 at h
  refine lv_aload_n hx hb dX2_shines_0 rfl (lv_at hv 1 rfl) ?_
  refine lv_bipush (v := (20 : Int32)) hx hb dX2_shines_1 (by decide) ?_
  obtain ⟨⟨vcount_1, vbodies_2⟩, hf_3, h⟩ := bd_ex h
  have sb : Sb D A H (wV cA vd vspoon vmark vcount vbodies) := Sb.pl [1, 2] (by decide) rfl hP hD hS hA
  refine calV (va_runV (As := [.int (20 : Int32)]) (rest := []) ⟨hx, hb, hml, hown, hts⟩ (c_X10_begins l G D cA vd _ vspoon vmark vcount vbodies (20 : Int32) vcount_1 vbodies_2 hf_3) (cwV 1 hts gX2_shines_X10_begins rfl rfl rfl (by decide +kernel) ⟨Nat.le_of_ble_eq_true rfl, Nat.le_of_ble_eq_true rfl⟩) (pvV hE hK hS sb (va_recv hK hP (ci := 10) (q0 := 1) rfl rfl)) rfl rfl hv.1 rfl (lv_room (Nat.le_of_ble_eq_true rfl)) dX2_shines_3 ⟨Nat.le_of_ble_eq_true rfl, Nat.le_of_ble_eq_true rfl⟩) hS sb (Jn.pl (ws := (wVO cA 2 o vd vspoon vmark vcount vbodies)) (w1 := (wV cA vd vspoon vmark vcount_1 vbodies_2)) (ws' := (wVO cA 2 o vd vspoon vmark vcount_1 vbodies_2)) [1, 2] rfl rfl rfl rfl hP hD) (fun H locs hP hD hS => ?_)
  have hP : va_P D vwCl (wVO cA 2 o vd vspoon vmark vcount_1 vbodies_2) H := hP
  have hD : va_D A (wVO cA 2 o vd vspoon vmark vcount_1 vbodies_2) := hD
  refine lv_aload_n hx hb dX2_shines_6 rfl (lv_at hv 0 rfl) ?_
  refine lv_aload_n hx hb dX2_shines_7 rfl (lv_at hv 1 rfl) ?_
  refine lv_iload_n hx hb dX2_shines_8 rfl (lv_at hv 2 rfl) ?_
  obtain ⟨⟨r_4, vcount_5, vbodies_6⟩, hf_7, h⟩ := bd_ex h
  have sb := Sb.same hP hD hS hA
  refine calI (va_runSU (As := [.ref (vd 0), .int x]) (rest := []) (hK.1 2 _ rfl).2 ⟨hx, hb, hml, hown, hts⟩ (c_X8_shines_k2 l G D cA o vd _ vspoon vmark vcount_1 vbodies_2 x r_4 vcount_5 vbodies_6 hf_7) (va_cwSU 2 hts gX2_shines_X8_shines_s21 rfl rfl rfl (by decide +kernel) ⟨Nat.le_of_ble_eq_true rfl, Nat.le_of_ble_eq_true rfl⟩) (pvV hE hK hS sb (va_recv hK hP (ci := 2) (q0 := 0) rfl rfl)) rfl rfl hv.1 rfl (lv_room (Nat.le_of_ble_eq_true rfl)) dX2_shines_9 ⟨Nat.le_of_ble_eq_true rfl, Nat.le_of_ble_eq_true rfl⟩) hS sb (Jn.same sb) (fun H locs hP hD hS => ?_)
  have hP : va_P D vwCl (wVO cA 2 o vd vspoon vmark vcount_5 vbodies_6) H := hP
  have hD : va_D A (wVO cA 2 o vd vspoon vmark vcount_5 vbodies_6) := hD
  refine lv_iconst (v := (3 : Int32)) hx hb dX2_shines_12 (by decide) ?_
  refine lv_imul hx hb dX2_shines_13 ?_
  have h := Option.some.inj h
  have ee0 : (r_4 * (3 : Int32)) = rR := congrArg (fun q => q.1) h
  have ee1 : vcount_5 = vcountR := congrArg (fun q => q.2.1) h
  have ee2 : vbodies_6 = vbodiesR := congrArg (fun q => q.2.2) h
  subst ee0
  subst ee1
  subst ee2
  rw [← hQ]
  exact retI hx hb hr hlk hK hP hD hS dX2_shines_14 ⟨Nat.le_of_ble_eq_true rfl, Nat.le_of_ble_eq_true rfl⟩

def fX8_dulls_k2 (x : Int32) (vspoon : Int32) (vcount : Int32) (vbodies : Nat → Int32) : Option (Int32 × Int32 × (Nat → Int32)) :=
  bd (fX10_begins (11 : Int32) vcount vbodies) fun (vcount_1, vbodies_2) => bd (fX2_shines_k2 x vspoon vcount_1 vbodies_2) fun (r_4, vcount_5, vbodies_6) => some ((r_4 * (2 : Int32)), vcount_5, vbodies_6)
set_option maxHeartbeats 4000000 in
set_option maxRecDepth 100000 in
theorem c_X8_dulls_k2 (l : Launch) (G : Nat → Nat) (D : va_G) (cA : Nat → ClassId) (o : Nat) (vd : Nat → Nat) (sz : Nat) (vspoon : Int32) (vmark : Int32) (vcount : Int32) (vbodies : Nat → Int32) (x : Int32) (rR : Int32) (vcountR : Int32) (vbodiesR : Nat → Int32) (h : fX8_dulls_k2 x vspoon vcount vbodies = some (rR, vcountR, vbodiesR)) : Met l yX8_dulls wsX8_dulls ({ frames := 3, cells := 0, slots := 0, locals := 65 } : Room) (PW G D (tyC cA) sz (wVO cA 2 o vd vspoon vmark vcount vbodies) [.ref o, .ref (vd 0), .int x]) (QI D (tyC cA) (va_A (wVO cA 2 o vd vspoon vmark vcount vbodies) sz) rR (wVO cA 2 o vd vspoon vmark vcountR vbodiesR)) 0 0 (va_A (wVO cA 2 o vd vspoon vmark vcount vbodies) sz) := by
  refine ent (cc := cX8_dulls) (maxL := 3) (ret := (some .int)) (fun A => QI D (tyC cA) A rR (wVO cA 2 o vd vspoon vmark vcountR vbodiesR)) (by decide +kernel) rfl (Nat.le_of_ble_eq_true rfl) ?_
  intro p e s m args below meth c A ls H hx hb hml hr hlk hts hown hA hK hE hP hD hS hv hmm
  have hv : lv_has ls 3 [(0, .ref o), (1, .ref (vd 0)), (2, .int x)] := hv
  generalize hQ : MQ below _ args s 0 0 A = Q
  have hP : va_P D vwCl (wVO cA 2 o vd vspoon vmark vcount vbodies) H := hP
  unfold fX8_dulls_k2 at h
  refine lv_aload_n hx hb dX8_dulls_0 rfl (lv_at hv 1 rfl) ?_
  refine lv_bipush (v := (11 : Int32)) hx hb dX8_dulls_1 (by decide) ?_
  obtain ⟨⟨vcount_1, vbodies_2⟩, hf_3, h⟩ := bd_ex h
  have sb : Sb D A H (wV cA vd vspoon vmark vcount vbodies) := Sb.pl [1, 2] (by decide) rfl hP hD hS hA
  refine calV (va_runV (As := [.int (11 : Int32)]) (rest := []) ⟨hx, hb, hml, hown, hts⟩ (c_X10_begins l G D cA vd _ vspoon vmark vcount vbodies (11 : Int32) vcount_1 vbodies_2 hf_3) (cwV 1 hts gX8_dulls_X10_begins rfl rfl rfl (by decide +kernel) ⟨Nat.le_of_ble_eq_true rfl, Nat.le_of_ble_eq_true rfl⟩) (pvV hE hK hS sb (va_recv hK hP (ci := 10) (q0 := 1) rfl rfl)) rfl rfl hv.1 rfl (lv_room (Nat.le_of_ble_eq_true rfl)) dX8_dulls_3 ⟨Nat.le_of_ble_eq_true rfl, Nat.le_of_ble_eq_true rfl⟩) hS sb (Jn.pl (ws := (wVO cA 2 o vd vspoon vmark vcount vbodies)) (w1 := (wV cA vd vspoon vmark vcount_1 vbodies_2)) (ws' := (wVO cA 2 o vd vspoon vmark vcount_1 vbodies_2)) [1, 2] rfl rfl rfl rfl hP hD) (fun H locs hP hD hS => ?_)
  have hP : va_P D vwCl (wVO cA 2 o vd vspoon vmark vcount_1 vbodies_2) H := hP
  have hD : va_D A (wVO cA 2 o vd vspoon vmark vcount_1 vbodies_2) := hD
  refine lv_aload_n hx hb dX8_dulls_6 rfl (lv_at hv 0 rfl) ?_
  refine lv_aload_n hx hb dX8_dulls_7 rfl (lv_at hv 1 rfl) ?_
  refine lv_iload_n hx hb dX8_dulls_8 rfl (lv_at hv 2 rfl) ?_
  obtain ⟨⟨r_4, vcount_5, vbodies_6⟩, hf_7, h⟩ := bd_ex h
  have sb := Sb.same hP hD hS hA
  refine calI (va_runU (As := [.ref (vd 0), .int x]) (rest := []) ⟨hx, hb, hml, hown, hts⟩ (c_X2_shines_k2 l G D cA o vd _ vspoon vmark vcount_1 vbodies_2 x r_4 vcount_5 vbodies_6 hf_7) (va_cwO 2 hts gX8_dulls_X2_shines_u17X2 rfl rfl rfl (by decide +kernel : Cond.code yX8_shines cX8_shines 3 (some .int) ∈ wsX8_dulls) (by decide +kernel) ⟨Nat.le_of_ble_eq_true rfl, Nat.le_of_ble_eq_true rfl⟩) (pvV hE hK hS sb (va_recv hK hP (ci := 2) (q0 := 0) rfl rfl)) rfl rfl hv.1 rfl (lv_room (Nat.le_of_ble_eq_true rfl)) dX8_dulls_9 ⟨Nat.le_of_ble_eq_true rfl, Nat.le_of_ble_eq_true rfl⟩) hS sb (Jn.same sb) (fun H locs hP hD hS => ?_)
  have hP : va_P D vwCl (wVO cA 2 o vd vspoon vmark vcount_5 vbodies_6) H := hP
  have hD : va_D A (wVO cA 2 o vd vspoon vmark vcount_5 vbodies_6) := hD
  refine lv_iconst (v := (2 : Int32)) hx hb dX8_dulls_12 (by decide) ?_
  refine lv_imul hx hb dX8_dulls_13 ?_
  have h := Option.some.inj h
  have ee0 : (r_4 * (2 : Int32)) = rR := congrArg (fun q => q.1) h
  have ee1 : vcount_5 = vcountR := congrArg (fun q => q.2.1) h
  have ee2 : vbodies_6 = vbodiesR := congrArg (fun q => q.2.2) h
  subst ee0
  subst ee1
  subst ee2
  rw [← hQ]
  exact retI hx hb hr hlk hK hP hD hS dX8_dulls_14 ⟨Nat.le_of_ble_eq_true rfl, Nat.le_of_ble_eq_true rfl⟩

def fX8_holds_k2 (x : Int32) (vmark : Int32) (vcount : Int32) (vbodies : Nat → Int32) : Option (Int32 × Int32 × (Nat → Int32)) :=
  bd (fX10_begins (12 : Int32) vcount vbodies) fun (vcount_1, vbodies_2) => some ((x - vmark), vcount_1, vbodies_2)
set_option maxHeartbeats 4000000 in
set_option maxRecDepth 100000 in
theorem c_X8_holds_k2 (l : Launch) (G : Nat → Nat) (D : va_G) (cA : Nat → ClassId) (o : Nat) (vd : Nat → Nat) (sz : Nat) (vspoon : Int32) (vmark : Int32) (vcount : Int32) (vbodies : Nat → Int32) (x : Int32) (rR : Int32) (vcountR : Int32) (vbodiesR : Nat → Int32) (h : fX8_holds_k2 x vmark vcount vbodies = some (rR, vcountR, vbodiesR)) : Met l yX8_holds wsX8_holds ({ frames := 1, cells := 0, slots := 0, locals := 21 } : Room) (PW G D (tyC cA) sz (wVO cA 2 o vd vspoon vmark vcount vbodies) [.ref o, .ref (vd 0), .int x]) (QI D (tyC cA) (va_A (wVO cA 2 o vd vspoon vmark vcount vbodies) sz) rR (wVO cA 2 o vd vspoon vmark vcountR vbodiesR)) 0 0 (va_A (wVO cA 2 o vd vspoon vmark vcount vbodies) sz) := by
  refine ent (cc := cX8_holds) (maxL := 3) (ret := (some .int)) (fun A => QI D (tyC cA) A rR (wVO cA 2 o vd vspoon vmark vcountR vbodiesR)) (by decide +kernel) rfl (Nat.le_of_ble_eq_true rfl) ?_
  intro p e s m args below meth c A ls H hx hb hml hr hlk hts hown hA hK hE hP hD hS hv hmm
  have hv : lv_has ls 3 [(0, .ref o), (1, .ref (vd 0)), (2, .int x)] := hv
  have in_10 : ∀ w ∈ u_ws RX10 TX10 4, w ∈ wsX8_holds := fun _ h => List.mem_cons_of_mem _ (List.mem_append_right _ h)
  have w_0 := hts (.fieldLink RX8 23 "SpoonsLast$Voice" "mark" "I") (List.mem_of_getElem? (i := 1) rfl)
  generalize hQ : MQ below _ args s 0 0 A = Q
  have hP : va_P D vwCl (wVO cA 2 o vd vspoon vmark vcount vbodies) H := hP
  unfold fX8_holds_k2 at h
  refine lv_aload_n hx hb dX8_holds_0 rfl (lv_at hv 1 rfl) ?_
  refine lv_bipush (v := (12 : Int32)) hx hb dX8_holds_1 (by decide) ?_
  obtain ⟨⟨vcount_1, vbodies_2⟩, hf_3, h⟩ := bd_ex h
  have sb : Sb D A H (wV cA vd vspoon vmark vcount vbodies) := Sb.pl [1, 2] (by decide) rfl hP hD hS hA
  refine calV (va_runV (As := [.int (12 : Int32)]) (rest := []) ⟨hx, hb, hml, hown, hts⟩ (c_X10_begins l G D cA vd _ vspoon vmark vcount vbodies (12 : Int32) vcount_1 vbodies_2 hf_3) (cwV 1 hts gX8_holds_X10_begins rfl rfl rfl (by decide +kernel) ⟨Nat.le_of_ble_eq_true rfl, Nat.le_of_ble_eq_true rfl⟩) (pvV hE hK hS sb (va_recv hK hP (ci := 10) (q0 := 1) rfl rfl)) rfl rfl hv.1 rfl (lv_room (Nat.le_of_ble_eq_true rfl)) dX8_holds_3 ⟨Nat.le_of_ble_eq_true rfl, Nat.le_of_ble_eq_true rfl⟩) hS sb (Jn.pl (ws := (wVO cA 2 o vd vspoon vmark vcount vbodies)) (w1 := (wV cA vd vspoon vmark vcount_1 vbodies_2)) (ws' := (wVO cA 2 o vd vspoon vmark vcount_1 vbodies_2)) [1, 2] rfl rfl rfl rfl hP hD) (fun H locs hP hD hS => ?_)
  have hP : va_P D vwCl (wVO cA 2 o vd vspoon vmark vcount_1 vbodies_2) H := hP
  have hD : va_D A (wVO cA 2 o vd vspoon vmark vcount_1 vbodies_2) := hD
  refine lv_iload_n hx hb dX8_holds_6 rfl (lv_at hv 2 rfl) ?_
  refine lv_aload_n hx hb dX8_holds_7 rfl (lv_at hv 1 rfl) ?_
  refine va_get (D := D) (ci := 10) (v := .int vmark) (C := RX10) (T := TX10) (N := 4) hx hb hts in_10 hown hK hP 1 rfl rfl 1 (by decide) w_0 (fun _ h9 => h9) rfl dX8_holds_8 ?_
  refine lv_isub hx hb dX8_holds_11 ?_
  have h := Option.some.inj h
  have ee0 : (x - vmark) = rR := congrArg (fun q => q.1) h
  have ee1 : vcount_1 = vcountR := congrArg (fun q => q.2.1) h
  have ee2 : vbodies_2 = vbodiesR := congrArg (fun q => q.2.2) h
  subst ee0
  subst ee1
  subst ee2
  rw [← hQ]
  exact retI hx hb hr hlk hK hP hD hS dX8_holds_12 ⟨Nat.le_of_ble_eq_true rfl, Nat.le_of_ble_eq_true rfl⟩

def fX8_tells_k2 (x : Int32) (vspoon : Int32) (vmark : Int32) (vcount : Int32) (vbodies : Nat → Int32) : Option (Int32 × Int32 × (Nat → Int32)) :=
  bd (fX10_begins (13 : Int32) vcount vbodies) fun (vcount_1, vbodies_2) => bd (fX8_dulls_k2 x vspoon vcount_1 vbodies_2) fun (r_4, vcount_5, vbodies_6) => bd (fX8_holds_k2 x vmark vcount_5 vbodies_6) fun (r_8, vcount_9, vbodies_10) => some ((r_4 ^^^ r_8), vcount_9, vbodies_10)
set_option maxHeartbeats 4000000 in
set_option maxRecDepth 100000 in
theorem c_X8_tells_k2 (l : Launch) (G : Nat → Nat) (D : va_G) (cA : Nat → ClassId) (o : Nat) (vd : Nat → Nat) (sz : Nat) (vspoon : Int32) (vmark : Int32) (vcount : Int32) (vbodies : Nat → Int32) (x : Int32) (rR : Int32) (vcountR : Int32) (vbodiesR : Nat → Int32) (h : fX8_tells_k2 x vspoon vmark vcount vbodies = some (rR, vcountR, vbodiesR)) : Met l yX8_tells wsX8_tells ({ frames := 4, cells := 0, slots := 0, locals := 87 } : Room) (PW G D (tyC cA) sz (wVO cA 2 o vd vspoon vmark vcount vbodies) [.ref o, .ref (vd 0), .int x]) (QI D (tyC cA) (va_A (wVO cA 2 o vd vspoon vmark vcount vbodies) sz) rR (wVO cA 2 o vd vspoon vmark vcountR vbodiesR)) 0 0 (va_A (wVO cA 2 o vd vspoon vmark vcount vbodies) sz) := by
  refine ent (cc := cX8_tells) (maxL := 3) (ret := (some .int)) (fun A => QI D (tyC cA) A rR (wVO cA 2 o vd vspoon vmark vcountR vbodiesR)) (by decide +kernel) rfl (Nat.le_of_ble_eq_true rfl) ?_
  intro p e s m args below meth c A ls H hx hb hml hr hlk hts hown hA hK hE hP hD hS hv hmm
  have hv : lv_has ls 3 [(0, .ref o), (1, .ref (vd 0)), (2, .int x)] := hv
  generalize hQ : MQ below _ args s 0 0 A = Q
  have hP : va_P D vwCl (wVO cA 2 o vd vspoon vmark vcount vbodies) H := hP
  unfold fX8_tells_k2 at h
  refine lv_aload_n hx hb dX8_tells_0 rfl (lv_at hv 1 rfl) ?_
  refine lv_bipush (v := (13 : Int32)) hx hb dX8_tells_1 (by decide) ?_
  obtain ⟨⟨vcount_1, vbodies_2⟩, hf_3, h⟩ := bd_ex h
  have sb : Sb D A H (wV cA vd vspoon vmark vcount vbodies) := Sb.pl [1, 2] (by decide) rfl hP hD hS hA
  refine calV (va_runV (As := [.int (13 : Int32)]) (rest := []) ⟨hx, hb, hml, hown, hts⟩ (c_X10_begins l G D cA vd _ vspoon vmark vcount vbodies (13 : Int32) vcount_1 vbodies_2 hf_3) (cwV 1 hts gX8_tells_X10_begins rfl rfl rfl (by decide +kernel) ⟨Nat.le_of_ble_eq_true rfl, Nat.le_of_ble_eq_true rfl⟩) (pvV hE hK hS sb (va_recv hK hP (ci := 10) (q0 := 1) rfl rfl)) rfl rfl hv.1 rfl (lv_room (Nat.le_of_ble_eq_true rfl)) dX8_tells_3 ⟨Nat.le_of_ble_eq_true rfl, Nat.le_of_ble_eq_true rfl⟩) hS sb (Jn.pl (ws := (wVO cA 2 o vd vspoon vmark vcount vbodies)) (w1 := (wV cA vd vspoon vmark vcount_1 vbodies_2)) (ws' := (wVO cA 2 o vd vspoon vmark vcount_1 vbodies_2)) [1, 2] rfl rfl rfl rfl hP hD) (fun H locs hP hD hS => ?_)
  have hP : va_P D vwCl (wVO cA 2 o vd vspoon vmark vcount_1 vbodies_2) H := hP
  have hD : va_D A (wVO cA 2 o vd vspoon vmark vcount_1 vbodies_2) := hD
  refine lv_aload_n hx hb dX8_tells_6 rfl (lv_at hv 0 rfl) ?_
  refine lv_aload_n hx hb dX8_tells_7 rfl (lv_at hv 1 rfl) ?_
  refine lv_iload_n hx hb dX8_tells_8 rfl (lv_at hv 2 rfl) ?_
  obtain ⟨⟨r_4, vcount_5, vbodies_6⟩, hf_7, h⟩ := bd_ex h
  have sb := Sb.same hP hD hS hA
  refine calI (va_runU (As := [.ref (vd 0), .int x]) (rest := []) ⟨hx, hb, hml, hown, hts⟩ (c_X8_dulls_k2 l G D cA o vd _ vspoon vmark vcount_1 vbodies_2 x r_4 vcount_5 vbodies_6 hf_7) (va_cwU 2 hts gX8_tells_X8_dulls_u26X2 rfl rfl rfl rfl (by decide +kernel) ⟨Nat.le_of_ble_eq_true rfl, Nat.le_of_ble_eq_true rfl⟩) (pvV hE hK hS sb (va_recv hK hP (ci := 2) (q0 := 0) rfl rfl)) rfl rfl hv.1 rfl (lv_room (Nat.le_of_ble_eq_true rfl)) dX8_tells_9 ⟨Nat.le_of_ble_eq_true rfl, Nat.le_of_ble_eq_true rfl⟩) hS sb (Jn.same sb) (fun H locs hP hD hS => ?_)
  have hP : va_P D vwCl (wVO cA 2 o vd vspoon vmark vcount_5 vbodies_6) H := hP
  have hD : va_D A (wVO cA 2 o vd vspoon vmark vcount_5 vbodies_6) := hD
  refine lv_aload_n hx hb dX8_tells_12 rfl (lv_at hv 0 rfl) ?_
  refine lv_aload_n hx hb dX8_tells_13 rfl (lv_at hv 1 rfl) ?_
  refine lv_iload_n hx hb dX8_tells_14 rfl (lv_at hv 2 rfl) ?_
  obtain ⟨⟨r_8, vcount_9, vbodies_10⟩, hf_11, h⟩ := bd_ex h
  have sb := Sb.same hP hD hS hA
  refine calI (va_runU (As := [.ref (vd 0), .int x]) (rest := [.int r_4]) ⟨hx, hb, hml, hown, hts⟩ (c_X8_holds_k2 l G D cA o vd _ vspoon vmark vcount_5 vbodies_6 x r_8 vcount_9 vbodies_10 hf_11) (va_cwU 2 hts gX8_tells_X8_holds_u29X2 rfl rfl rfl rfl (by decide +kernel) ⟨Nat.le_of_ble_eq_true rfl, Nat.le_of_ble_eq_true rfl⟩) (pvV hE hK hS sb (va_recv hK hP (ci := 2) (q0 := 0) rfl rfl)) rfl rfl hv.1 rfl (lv_room (Nat.le_of_ble_eq_true rfl)) dX8_tells_15 ⟨Nat.le_of_ble_eq_true rfl, Nat.le_of_ble_eq_true rfl⟩) hS sb (Jn.same sb) (fun H locs hP hD hS => ?_)
  have hP : va_P D vwCl (wVO cA 2 o vd vspoon vmark vcount_9 vbodies_10) H := hP
  have hD : va_D A (wVO cA 2 o vd vspoon vmark vcount_9 vbodies_10) := hD
  refine lv_ixor hx hb dX8_tells_18 ?_
  have h := Option.some.inj h
  have ee0 : (r_4 ^^^ r_8) = rR := congrArg (fun q => q.1) h
  have ee1 : vcount_9 = vcountR := congrArg (fun q => q.2.1) h
  have ee2 : vbodies_10 = vbodiesR := congrArg (fun q => q.2.2) h
  subst ee0
  subst ee1
  subst ee2
  rw [← hQ]
  exact retI hx hb hr hlk hK hP hD hS dX8_tells_19 ⟨Nat.le_of_ble_eq_true rfl, Nat.le_of_ble_eq_true rfl⟩

def fX8_shines_k0 (x : Int32) (vspoon : Int32) (vcount : Int32) (vbodies : Nat → Int32) : Option (Int32 × Int32 × (Nat → Int32)) :=
  bd (fX10_begins (10 : Int32) vcount vbodies) fun (vcount_1, vbodies_2) => some ((x + vspoon), vcount_1, vbodies_2)
set_option maxHeartbeats 4000000 in
set_option maxRecDepth 100000 in
theorem c_X8_shines_k0 (l : Launch) (G : Nat → Nat) (D : va_G) (cA : Nat → ClassId) (o : Nat) (vd : Nat → Nat) (sz : Nat) (vspoon : Int32) (vmark : Int32) (vcount : Int32) (vbodies : Nat → Int32) (x : Int32) (rR : Int32) (vcountR : Int32) (vbodiesR : Nat → Int32) (h : fX8_shines_k0 x vspoon vcount vbodies = some (rR, vcountR, vbodiesR)) : Met l yX8_shines wsX8_shines ({ frames := 1, cells := 0, slots := 0, locals := 21 } : Room) (PW G D (tyC cA) sz (wVO cA 0 o vd vspoon vmark vcount vbodies) [.ref o, .ref (vd 0), .int x]) (QI D (tyC cA) (va_A (wVO cA 0 o vd vspoon vmark vcount vbodies) sz) rR (wVO cA 0 o vd vspoon vmark vcountR vbodiesR)) 0 0 (va_A (wVO cA 0 o vd vspoon vmark vcount vbodies) sz) := by
  refine ent (cc := cX8_shines) (maxL := 3) (ret := (some .int)) (fun A => QI D (tyC cA) A rR (wVO cA 0 o vd vspoon vmark vcountR vbodiesR)) (by decide +kernel) rfl (Nat.le_of_ble_eq_true rfl) ?_
  intro p e s m args below meth c A ls H hx hb hml hr hlk hts hown hA hK hE hP hD hS hv hmm
  have hv : lv_has ls 3 [(0, .ref o), (1, .ref (vd 0)), (2, .int x)] := hv
  have in_10 : ∀ w ∈ u_ws RX10 TX10 4, w ∈ wsX8_shines := fun _ h => List.mem_cons_of_mem _ (List.mem_append_right _ h)
  have w_0 := hts (.fieldLink RX8 13 "SpoonsLast$Voice" "spoon" "I") (List.mem_of_getElem? (i := 1) rfl)
  generalize hQ : MQ below _ args s 0 0 A = Q
  have hP : va_P D vwCl (wVO cA 0 o vd vspoon vmark vcount vbodies) H := hP
  unfold fX8_shines_k0 at h
  refine lv_aload_n hx hb dX8_shines_0 rfl (lv_at hv 1 rfl) ?_
  refine lv_bipush (v := (10 : Int32)) hx hb dX8_shines_1 (by decide) ?_
  obtain ⟨⟨vcount_1, vbodies_2⟩, hf_3, h⟩ := bd_ex h
  have sb : Sb D A H (wV cA vd vspoon vmark vcount vbodies) := Sb.pl [1, 2] (by decide) rfl hP hD hS hA
  refine calV (va_runV (As := [.int (10 : Int32)]) (rest := []) ⟨hx, hb, hml, hown, hts⟩ (c_X10_begins l G D cA vd _ vspoon vmark vcount vbodies (10 : Int32) vcount_1 vbodies_2 hf_3) (cwV 1 hts gX8_shines_X10_begins rfl rfl rfl (by decide +kernel) ⟨Nat.le_of_ble_eq_true rfl, Nat.le_of_ble_eq_true rfl⟩) (pvV hE hK hS sb (va_recv hK hP (ci := 10) (q0 := 1) rfl rfl)) rfl rfl hv.1 rfl (lv_room (Nat.le_of_ble_eq_true rfl)) dX8_shines_3 ⟨Nat.le_of_ble_eq_true rfl, Nat.le_of_ble_eq_true rfl⟩) hS sb (Jn.pl (ws := (wVO cA 0 o vd vspoon vmark vcount vbodies)) (w1 := (wV cA vd vspoon vmark vcount_1 vbodies_2)) (ws' := (wVO cA 0 o vd vspoon vmark vcount_1 vbodies_2)) [1, 2] rfl rfl rfl rfl hP hD) (fun H locs hP hD hS => ?_)
  have hP : va_P D vwCl (wVO cA 0 o vd vspoon vmark vcount_1 vbodies_2) H := hP
  have hD : va_D A (wVO cA 0 o vd vspoon vmark vcount_1 vbodies_2) := hD
  refine lv_iload_n hx hb dX8_shines_6 rfl (lv_at hv 2 rfl) ?_
  refine lv_aload_n hx hb dX8_shines_7 rfl (lv_at hv 1 rfl) ?_
  refine va_get (D := D) (ci := 10) (v := .int vspoon) (C := RX10) (T := TX10) (N := 4) hx hb hts in_10 hown hK hP 1 rfl rfl 0 (by decide) w_0 (fun _ h9 => h9) rfl dX8_shines_8 ?_
  refine lv_iadd hx hb dX8_shines_11 ?_
  have h := Option.some.inj h
  have ee0 : (x + vspoon) = rR := congrArg (fun q => q.1) h
  have ee1 : vcount_1 = vcountR := congrArg (fun q => q.2.1) h
  have ee2 : vbodies_2 = vbodiesR := congrArg (fun q => q.2.2) h
  subst ee0
  subst ee1
  subst ee2
  rw [← hQ]
  exact retI hx hb hr hlk hK hP hD hS dX8_shines_12 ⟨Nat.le_of_ble_eq_true rfl, Nat.le_of_ble_eq_true rfl⟩

def fX8_dulls_k0 (x : Int32) (vspoon : Int32) (vcount : Int32) (vbodies : Nat → Int32) : Option (Int32 × Int32 × (Nat → Int32)) :=
  bd (fX10_begins (11 : Int32) vcount vbodies) fun (vcount_1, vbodies_2) => bd (fX8_shines_k0 x vspoon vcount_1 vbodies_2) fun (r_4, vcount_5, vbodies_6) => some ((r_4 * (2 : Int32)), vcount_5, vbodies_6)
set_option maxHeartbeats 4000000 in
set_option maxRecDepth 100000 in
theorem c_X8_dulls_k0 (l : Launch) (G : Nat → Nat) (D : va_G) (cA : Nat → ClassId) (o : Nat) (vd : Nat → Nat) (sz : Nat) (vspoon : Int32) (vmark : Int32) (vcount : Int32) (vbodies : Nat → Int32) (x : Int32) (rR : Int32) (vcountR : Int32) (vbodiesR : Nat → Int32) (h : fX8_dulls_k0 x vspoon vcount vbodies = some (rR, vcountR, vbodiesR)) : Met l yX8_dulls wsX8_dulls ({ frames := 2, cells := 0, slots := 0, locals := 43 } : Room) (PW G D (tyC cA) sz (wVO cA 0 o vd vspoon vmark vcount vbodies) [.ref o, .ref (vd 0), .int x]) (QI D (tyC cA) (va_A (wVO cA 0 o vd vspoon vmark vcount vbodies) sz) rR (wVO cA 0 o vd vspoon vmark vcountR vbodiesR)) 0 0 (va_A (wVO cA 0 o vd vspoon vmark vcount vbodies) sz) := by
  refine ent (cc := cX8_dulls) (maxL := 3) (ret := (some .int)) (fun A => QI D (tyC cA) A rR (wVO cA 0 o vd vspoon vmark vcountR vbodiesR)) (by decide +kernel) rfl (Nat.le_of_ble_eq_true rfl) ?_
  intro p e s m args below meth c A ls H hx hb hml hr hlk hts hown hA hK hE hP hD hS hv hmm
  have hv : lv_has ls 3 [(0, .ref o), (1, .ref (vd 0)), (2, .int x)] := hv
  generalize hQ : MQ below _ args s 0 0 A = Q
  have hP : va_P D vwCl (wVO cA 0 o vd vspoon vmark vcount vbodies) H := hP
  unfold fX8_dulls_k0 at h
  refine lv_aload_n hx hb dX8_dulls_0 rfl (lv_at hv 1 rfl) ?_
  refine lv_bipush (v := (11 : Int32)) hx hb dX8_dulls_1 (by decide) ?_
  obtain ⟨⟨vcount_1, vbodies_2⟩, hf_3, h⟩ := bd_ex h
  have sb : Sb D A H (wV cA vd vspoon vmark vcount vbodies) := Sb.pl [1, 2] (by decide) rfl hP hD hS hA
  refine calV (va_runV (As := [.int (11 : Int32)]) (rest := []) ⟨hx, hb, hml, hown, hts⟩ (c_X10_begins l G D cA vd _ vspoon vmark vcount vbodies (11 : Int32) vcount_1 vbodies_2 hf_3) (cwV 1 hts gX8_dulls_X10_begins rfl rfl rfl (by decide +kernel) ⟨Nat.le_of_ble_eq_true rfl, Nat.le_of_ble_eq_true rfl⟩) (pvV hE hK hS sb (va_recv hK hP (ci := 10) (q0 := 1) rfl rfl)) rfl rfl hv.1 rfl (lv_room (Nat.le_of_ble_eq_true rfl)) dX8_dulls_3 ⟨Nat.le_of_ble_eq_true rfl, Nat.le_of_ble_eq_true rfl⟩) hS sb (Jn.pl (ws := (wVO cA 0 o vd vspoon vmark vcount vbodies)) (w1 := (wV cA vd vspoon vmark vcount_1 vbodies_2)) (ws' := (wVO cA 0 o vd vspoon vmark vcount_1 vbodies_2)) [1, 2] rfl rfl rfl rfl hP hD) (fun H locs hP hD hS => ?_)
  have hP : va_P D vwCl (wVO cA 0 o vd vspoon vmark vcount_1 vbodies_2) H := hP
  have hD : va_D A (wVO cA 0 o vd vspoon vmark vcount_1 vbodies_2) := hD
  refine lv_aload_n hx hb dX8_dulls_6 rfl (lv_at hv 0 rfl) ?_
  refine lv_aload_n hx hb dX8_dulls_7 rfl (lv_at hv 1 rfl) ?_
  refine lv_iload_n hx hb dX8_dulls_8 rfl (lv_at hv 2 rfl) ?_
  obtain ⟨⟨r_4, vcount_5, vbodies_6⟩, hf_7, h⟩ := bd_ex h
  have sb := Sb.same hP hD hS hA
  refine calI (va_runU (As := [.ref (vd 0), .int x]) (rest := []) ⟨hx, hb, hml, hown, hts⟩ (c_X8_shines_k0 l G D cA o vd _ vspoon vmark vcount_1 vbodies_2 x r_4 vcount_5 vbodies_6 hf_7) (va_cwU 2 hts gX8_dulls_X8_shines_u17X0 rfl rfl rfl rfl (by decide +kernel) ⟨Nat.le_of_ble_eq_true rfl, Nat.le_of_ble_eq_true rfl⟩) (pvV hE hK hS sb (va_recv hK hP (ci := 0) (q0 := 0) rfl rfl)) rfl rfl hv.1 rfl (lv_room (Nat.le_of_ble_eq_true rfl)) dX8_dulls_9 ⟨Nat.le_of_ble_eq_true rfl, Nat.le_of_ble_eq_true rfl⟩) hS sb (Jn.same sb) (fun H locs hP hD hS => ?_)
  have hP : va_P D vwCl (wVO cA 0 o vd vspoon vmark vcount_5 vbodies_6) H := hP
  have hD : va_D A (wVO cA 0 o vd vspoon vmark vcount_5 vbodies_6) := hD
  refine lv_iconst (v := (2 : Int32)) hx hb dX8_dulls_12 (by decide) ?_
  refine lv_imul hx hb dX8_dulls_13 ?_
  have h := Option.some.inj h
  have ee0 : (r_4 * (2 : Int32)) = rR := congrArg (fun q => q.1) h
  have ee1 : vcount_5 = vcountR := congrArg (fun q => q.2.1) h
  have ee2 : vbodies_6 = vbodiesR := congrArg (fun q => q.2.2) h
  subst ee0
  subst ee1
  subst ee2
  rw [← hQ]
  exact retI hx hb hr hlk hK hP hD hS dX8_dulls_14 ⟨Nat.le_of_ble_eq_true rfl, Nat.le_of_ble_eq_true rfl⟩

def fX8_holds_k0 (x : Int32) (vmark : Int32) (vcount : Int32) (vbodies : Nat → Int32) : Option (Int32 × Int32 × (Nat → Int32)) :=
  bd (fX10_begins (12 : Int32) vcount vbodies) fun (vcount_1, vbodies_2) => some ((x - vmark), vcount_1, vbodies_2)
set_option maxHeartbeats 4000000 in
set_option maxRecDepth 100000 in
theorem c_X8_holds_k0 (l : Launch) (G : Nat → Nat) (D : va_G) (cA : Nat → ClassId) (o : Nat) (vd : Nat → Nat) (sz : Nat) (vspoon : Int32) (vmark : Int32) (vcount : Int32) (vbodies : Nat → Int32) (x : Int32) (rR : Int32) (vcountR : Int32) (vbodiesR : Nat → Int32) (h : fX8_holds_k0 x vmark vcount vbodies = some (rR, vcountR, vbodiesR)) : Met l yX8_holds wsX8_holds ({ frames := 1, cells := 0, slots := 0, locals := 21 } : Room) (PW G D (tyC cA) sz (wVO cA 0 o vd vspoon vmark vcount vbodies) [.ref o, .ref (vd 0), .int x]) (QI D (tyC cA) (va_A (wVO cA 0 o vd vspoon vmark vcount vbodies) sz) rR (wVO cA 0 o vd vspoon vmark vcountR vbodiesR)) 0 0 (va_A (wVO cA 0 o vd vspoon vmark vcount vbodies) sz) := by
  refine ent (cc := cX8_holds) (maxL := 3) (ret := (some .int)) (fun A => QI D (tyC cA) A rR (wVO cA 0 o vd vspoon vmark vcountR vbodiesR)) (by decide +kernel) rfl (Nat.le_of_ble_eq_true rfl) ?_
  intro p e s m args below meth c A ls H hx hb hml hr hlk hts hown hA hK hE hP hD hS hv hmm
  have hv : lv_has ls 3 [(0, .ref o), (1, .ref (vd 0)), (2, .int x)] := hv
  have in_10 : ∀ w ∈ u_ws RX10 TX10 4, w ∈ wsX8_holds := fun _ h => List.mem_cons_of_mem _ (List.mem_append_right _ h)
  have w_0 := hts (.fieldLink RX8 23 "SpoonsLast$Voice" "mark" "I") (List.mem_of_getElem? (i := 1) rfl)
  generalize hQ : MQ below _ args s 0 0 A = Q
  have hP : va_P D vwCl (wVO cA 0 o vd vspoon vmark vcount vbodies) H := hP
  unfold fX8_holds_k0 at h
  refine lv_aload_n hx hb dX8_holds_0 rfl (lv_at hv 1 rfl) ?_
  refine lv_bipush (v := (12 : Int32)) hx hb dX8_holds_1 (by decide) ?_
  obtain ⟨⟨vcount_1, vbodies_2⟩, hf_3, h⟩ := bd_ex h
  have sb : Sb D A H (wV cA vd vspoon vmark vcount vbodies) := Sb.pl [1, 2] (by decide) rfl hP hD hS hA
  refine calV (va_runV (As := [.int (12 : Int32)]) (rest := []) ⟨hx, hb, hml, hown, hts⟩ (c_X10_begins l G D cA vd _ vspoon vmark vcount vbodies (12 : Int32) vcount_1 vbodies_2 hf_3) (cwV 1 hts gX8_holds_X10_begins rfl rfl rfl (by decide +kernel) ⟨Nat.le_of_ble_eq_true rfl, Nat.le_of_ble_eq_true rfl⟩) (pvV hE hK hS sb (va_recv hK hP (ci := 10) (q0 := 1) rfl rfl)) rfl rfl hv.1 rfl (lv_room (Nat.le_of_ble_eq_true rfl)) dX8_holds_3 ⟨Nat.le_of_ble_eq_true rfl, Nat.le_of_ble_eq_true rfl⟩) hS sb (Jn.pl (ws := (wVO cA 0 o vd vspoon vmark vcount vbodies)) (w1 := (wV cA vd vspoon vmark vcount_1 vbodies_2)) (ws' := (wVO cA 0 o vd vspoon vmark vcount_1 vbodies_2)) [1, 2] rfl rfl rfl rfl hP hD) (fun H locs hP hD hS => ?_)
  have hP : va_P D vwCl (wVO cA 0 o vd vspoon vmark vcount_1 vbodies_2) H := hP
  have hD : va_D A (wVO cA 0 o vd vspoon vmark vcount_1 vbodies_2) := hD
  refine lv_iload_n hx hb dX8_holds_6 rfl (lv_at hv 2 rfl) ?_
  refine lv_aload_n hx hb dX8_holds_7 rfl (lv_at hv 1 rfl) ?_
  refine va_get (D := D) (ci := 10) (v := .int vmark) (C := RX10) (T := TX10) (N := 4) hx hb hts in_10 hown hK hP 1 rfl rfl 1 (by decide) w_0 (fun _ h9 => h9) rfl dX8_holds_8 ?_
  refine lv_isub hx hb dX8_holds_11 ?_
  have h := Option.some.inj h
  have ee0 : (x - vmark) = rR := congrArg (fun q => q.1) h
  have ee1 : vcount_1 = vcountR := congrArg (fun q => q.2.1) h
  have ee2 : vbodies_2 = vbodiesR := congrArg (fun q => q.2.2) h
  subst ee0
  subst ee1
  subst ee2
  rw [← hQ]
  exact retI hx hb hr hlk hK hP hD hS dX8_holds_12 ⟨Nat.le_of_ble_eq_true rfl, Nat.le_of_ble_eq_true rfl⟩

def fX0_dulls_k0 (x : Int32) (vspoon : Int32) (vmark : Int32) (vcount : Int32) (vbodies : Nat → Int32) : Option (Int32 × Int32 × (Nat → Int32)) :=
  bd (fX10_begins (30 : Int32) vcount vbodies) fun (vcount_1, vbodies_2) => bd (fX8_dulls_k0 x vspoon vcount_1 vbodies_2) fun (r_4, vcount_5, vbodies_6) => bd (fX8_holds_k0 (1 : Int32) vmark vcount_5 vbodies_6) fun (r_8, vcount_9, vbodies_10) => some ((r_4 - r_8), vcount_9, vbodies_10)
set_option maxHeartbeats 4000000 in
set_option maxRecDepth 100000 in
theorem c_X0_dulls_k0 (l : Launch) (G : Nat → Nat) (D : va_G) (cA : Nat → ClassId) (o : Nat) (vd : Nat → Nat) (sz : Nat) (vspoon : Int32) (vmark : Int32) (vcount : Int32) (vbodies : Nat → Int32) (x : Int32) (rR : Int32) (vcountR : Int32) (vbodiesR : Nat → Int32) (h : fX0_dulls_k0 x vspoon vmark vcount vbodies = some (rR, vcountR, vbodiesR)) : Met l yX0_dulls wsX0_dulls ({ frames := 3, cells := 0, slots := 0, locals := 65 } : Room) (PW G D (tyC cA) sz (wVO cA 0 o vd vspoon vmark vcount vbodies) [.ref o, .ref (vd 0), .int x]) (QI D (tyC cA) (va_A (wVO cA 0 o vd vspoon vmark vcount vbodies) sz) rR (wVO cA 0 o vd vspoon vmark vcountR vbodiesR)) 0 0 (va_A (wVO cA 0 o vd vspoon vmark vcount vbodies) sz) := by
  refine ent (cc := cX0_dulls) (maxL := 3) (ret := (some .int)) (fun A => QI D (tyC cA) A rR (wVO cA 0 o vd vspoon vmark vcountR vbodiesR)) (by decide +kernel) rfl (Nat.le_of_ble_eq_true rfl) ?_
  intro p e s m args below meth c A ls H hx hb hml hr hlk hts hown hA hK hE hP hD hS hv hmm
  have hv : lv_has ls 3 [(0, .ref o), (1, .ref (vd 0)), (2, .int x)] := hv
  generalize hQ : MQ below _ args s 0 0 A = Q
  have hP : va_P D vwCl (wVO cA 0 o vd vspoon vmark vcount vbodies) H := hP
  unfold fX0_dulls_k0 at h
  refine lv_aload_n hx hb dX0_dulls_0 rfl (lv_at hv 1 rfl) ?_
  refine lv_bipush (v := (30 : Int32)) hx hb dX0_dulls_1 (by decide) ?_
  obtain ⟨⟨vcount_1, vbodies_2⟩, hf_3, h⟩ := bd_ex h
  have sb : Sb D A H (wV cA vd vspoon vmark vcount vbodies) := Sb.pl [1, 2] (by decide) rfl hP hD hS hA
  refine calV (va_runV (As := [.int (30 : Int32)]) (rest := []) ⟨hx, hb, hml, hown, hts⟩ (c_X10_begins l G D cA vd _ vspoon vmark vcount vbodies (30 : Int32) vcount_1 vbodies_2 hf_3) (cwV 1 hts gX0_dulls_X10_begins rfl rfl rfl (by decide +kernel) ⟨Nat.le_of_ble_eq_true rfl, Nat.le_of_ble_eq_true rfl⟩) (pvV hE hK hS sb (va_recv hK hP (ci := 10) (q0 := 1) rfl rfl)) rfl rfl hv.1 rfl (lv_room (Nat.le_of_ble_eq_true rfl)) dX0_dulls_3 ⟨Nat.le_of_ble_eq_true rfl, Nat.le_of_ble_eq_true rfl⟩) hS sb (Jn.pl (ws := (wVO cA 0 o vd vspoon vmark vcount vbodies)) (w1 := (wV cA vd vspoon vmark vcount_1 vbodies_2)) (ws' := (wVO cA 0 o vd vspoon vmark vcount_1 vbodies_2)) [1, 2] rfl rfl rfl rfl hP hD) (fun H locs hP hD hS => ?_)
  have hP : va_P D vwCl (wVO cA 0 o vd vspoon vmark vcount_1 vbodies_2) H := hP
  have hD : va_D A (wVO cA 0 o vd vspoon vmark vcount_1 vbodies_2) := hD
  refine lv_aload_n hx hb dX0_dulls_6 rfl (lv_at hv 0 rfl) ?_
  refine lv_aload_n hx hb dX0_dulls_7 rfl (lv_at hv 1 rfl) ?_
  refine lv_iload_n hx hb dX0_dulls_8 rfl (lv_at hv 2 rfl) ?_
  obtain ⟨⟨r_4, vcount_5, vbodies_6⟩, hf_7, h⟩ := bd_ex h
  have sb := Sb.same hP hD hS hA
  refine calI (va_runSU (As := [.ref (vd 0), .int x]) (rest := []) (hK.1 0 _ rfl).2 ⟨hx, hb, hml, hown, hts⟩ (c_X8_dulls_k0 l G D cA o vd _ vspoon vmark vcount_1 vbodies_2 x r_4 vcount_5 vbodies_6 hf_7) (va_cwSU 2 hts gX0_dulls_X8_dulls_s13 rfl rfl rfl (by decide +kernel) ⟨Nat.le_of_ble_eq_true rfl, Nat.le_of_ble_eq_true rfl⟩) (pvV hE hK hS sb (va_recv hK hP (ci := 0) (q0 := 0) rfl rfl)) rfl rfl hv.1 rfl (lv_room (Nat.le_of_ble_eq_true rfl)) dX0_dulls_9 ⟨Nat.le_of_ble_eq_true rfl, Nat.le_of_ble_eq_true rfl⟩) hS sb (Jn.same sb) (fun H locs hP hD hS => ?_)
  have hP : va_P D vwCl (wVO cA 0 o vd vspoon vmark vcount_5 vbodies_6) H := hP
  have hD : va_D A (wVO cA 0 o vd vspoon vmark vcount_5 vbodies_6) := hD
  refine lv_aload_n hx hb dX0_dulls_12 rfl (lv_at hv 0 rfl) ?_
  refine lv_aload_n hx hb dX0_dulls_13 rfl (lv_at hv 1 rfl) ?_
  refine lv_iconst (v := (1 : Int32)) hx hb dX0_dulls_14 (by decide) ?_
  obtain ⟨⟨r_8, vcount_9, vbodies_10⟩, hf_11, h⟩ := bd_ex h
  have sb := Sb.same hP hD hS hA
  refine calI (va_runU (As := [.ref (vd 0), .int (1 : Int32)]) (rest := [.int r_4]) ⟨hx, hb, hml, hown, hts⟩ (c_X8_holds_k0 l G D cA o vd _ vspoon vmark vcount_5 vbodies_6 (1 : Int32) r_8 vcount_9 vbodies_10 hf_11) (va_cwU 2 hts gX0_dulls_X8_holds_u17X0 rfl rfl rfl rfl (by decide +kernel) ⟨Nat.le_of_ble_eq_true rfl, Nat.le_of_ble_eq_true rfl⟩) (pvV hE hK hS sb (va_recv hK hP (ci := 0) (q0 := 0) rfl rfl)) rfl rfl hv.1 rfl (lv_room (Nat.le_of_ble_eq_true rfl)) dX0_dulls_15 ⟨Nat.le_of_ble_eq_true rfl, Nat.le_of_ble_eq_true rfl⟩) hS sb (Jn.same sb) (fun H locs hP hD hS => ?_)
  have hP : va_P D vwCl (wVO cA 0 o vd vspoon vmark vcount_9 vbodies_10) H := hP
  have hD : va_D A (wVO cA 0 o vd vspoon vmark vcount_9 vbodies_10) := hD
  refine lv_isub hx hb dX0_dulls_18 ?_
  have h := Option.some.inj h
  have ee0 : (r_4 - r_8) = rR := congrArg (fun q => q.1) h
  have ee1 : vcount_9 = vcountR := congrArg (fun q => q.2.1) h
  have ee2 : vbodies_10 = vbodiesR := congrArg (fun q => q.2.2) h
  subst ee0
  subst ee1
  subst ee2
  rw [← hQ]
  exact retI hx hb hr hlk hK hP hD hS dX0_dulls_19 ⟨Nat.le_of_ble_eq_true rfl, Nat.le_of_ble_eq_true rfl⟩

def fX8_tells_k0 (x : Int32) (vspoon : Int32) (vmark : Int32) (vcount : Int32) (vbodies : Nat → Int32) : Option (Int32 × Int32 × (Nat → Int32)) :=
  bd (fX10_begins (13 : Int32) vcount vbodies) fun (vcount_1, vbodies_2) => bd (fX0_dulls_k0 x vspoon vmark vcount_1 vbodies_2) fun (r_4, vcount_5, vbodies_6) => bd (fX8_holds_k0 x vmark vcount_5 vbodies_6) fun (r_8, vcount_9, vbodies_10) => some ((r_4 ^^^ r_8), vcount_9, vbodies_10)
set_option maxHeartbeats 4000000 in
set_option maxRecDepth 100000 in
theorem c_X8_tells_k0 (l : Launch) (G : Nat → Nat) (D : va_G) (cA : Nat → ClassId) (o : Nat) (vd : Nat → Nat) (sz : Nat) (vspoon : Int32) (vmark : Int32) (vcount : Int32) (vbodies : Nat → Int32) (x : Int32) (rR : Int32) (vcountR : Int32) (vbodiesR : Nat → Int32) (h : fX8_tells_k0 x vspoon vmark vcount vbodies = some (rR, vcountR, vbodiesR)) : Met l yX8_tells wsX8_tells ({ frames := 4, cells := 0, slots := 0, locals := 87 } : Room) (PW G D (tyC cA) sz (wVO cA 0 o vd vspoon vmark vcount vbodies) [.ref o, .ref (vd 0), .int x]) (QI D (tyC cA) (va_A (wVO cA 0 o vd vspoon vmark vcount vbodies) sz) rR (wVO cA 0 o vd vspoon vmark vcountR vbodiesR)) 0 0 (va_A (wVO cA 0 o vd vspoon vmark vcount vbodies) sz) := by
  refine ent (cc := cX8_tells) (maxL := 3) (ret := (some .int)) (fun A => QI D (tyC cA) A rR (wVO cA 0 o vd vspoon vmark vcountR vbodiesR)) (by decide +kernel) rfl (Nat.le_of_ble_eq_true rfl) ?_
  intro p e s m args below meth c A ls H hx hb hml hr hlk hts hown hA hK hE hP hD hS hv hmm
  have hv : lv_has ls 3 [(0, .ref o), (1, .ref (vd 0)), (2, .int x)] := hv
  generalize hQ : MQ below _ args s 0 0 A = Q
  have hP : va_P D vwCl (wVO cA 0 o vd vspoon vmark vcount vbodies) H := hP
  unfold fX8_tells_k0 at h
  refine lv_aload_n hx hb dX8_tells_0 rfl (lv_at hv 1 rfl) ?_
  refine lv_bipush (v := (13 : Int32)) hx hb dX8_tells_1 (by decide) ?_
  obtain ⟨⟨vcount_1, vbodies_2⟩, hf_3, h⟩ := bd_ex h
  have sb : Sb D A H (wV cA vd vspoon vmark vcount vbodies) := Sb.pl [1, 2] (by decide) rfl hP hD hS hA
  refine calV (va_runV (As := [.int (13 : Int32)]) (rest := []) ⟨hx, hb, hml, hown, hts⟩ (c_X10_begins l G D cA vd _ vspoon vmark vcount vbodies (13 : Int32) vcount_1 vbodies_2 hf_3) (cwV 1 hts gX8_tells_X10_begins rfl rfl rfl (by decide +kernel) ⟨Nat.le_of_ble_eq_true rfl, Nat.le_of_ble_eq_true rfl⟩) (pvV hE hK hS sb (va_recv hK hP (ci := 10) (q0 := 1) rfl rfl)) rfl rfl hv.1 rfl (lv_room (Nat.le_of_ble_eq_true rfl)) dX8_tells_3 ⟨Nat.le_of_ble_eq_true rfl, Nat.le_of_ble_eq_true rfl⟩) hS sb (Jn.pl (ws := (wVO cA 0 o vd vspoon vmark vcount vbodies)) (w1 := (wV cA vd vspoon vmark vcount_1 vbodies_2)) (ws' := (wVO cA 0 o vd vspoon vmark vcount_1 vbodies_2)) [1, 2] rfl rfl rfl rfl hP hD) (fun H locs hP hD hS => ?_)
  have hP : va_P D vwCl (wVO cA 0 o vd vspoon vmark vcount_1 vbodies_2) H := hP
  have hD : va_D A (wVO cA 0 o vd vspoon vmark vcount_1 vbodies_2) := hD
  refine lv_aload_n hx hb dX8_tells_6 rfl (lv_at hv 0 rfl) ?_
  refine lv_aload_n hx hb dX8_tells_7 rfl (lv_at hv 1 rfl) ?_
  refine lv_iload_n hx hb dX8_tells_8 rfl (lv_at hv 2 rfl) ?_
  obtain ⟨⟨r_4, vcount_5, vbodies_6⟩, hf_7, h⟩ := bd_ex h
  have sb := Sb.same hP hD hS hA
  refine calI (va_runU (As := [.ref (vd 0), .int x]) (rest := []) ⟨hx, hb, hml, hown, hts⟩ (c_X0_dulls_k0 l G D cA o vd _ vspoon vmark vcount_1 vbodies_2 x r_4 vcount_5 vbodies_6 hf_7) (va_cwO 2 hts gX8_tells_X0_dulls_u26X0 rfl rfl rfl (by decide +kernel : Cond.code yX8_dulls cX8_dulls 3 (some .int) ∈ wsX8_tells) (by decide +kernel) ⟨Nat.le_of_ble_eq_true rfl, Nat.le_of_ble_eq_true rfl⟩) (pvV hE hK hS sb (va_recv hK hP (ci := 0) (q0 := 0) rfl rfl)) rfl rfl hv.1 rfl (lv_room (Nat.le_of_ble_eq_true rfl)) dX8_tells_9 ⟨Nat.le_of_ble_eq_true rfl, Nat.le_of_ble_eq_true rfl⟩) hS sb (Jn.same sb) (fun H locs hP hD hS => ?_)
  have hP : va_P D vwCl (wVO cA 0 o vd vspoon vmark vcount_5 vbodies_6) H := hP
  have hD : va_D A (wVO cA 0 o vd vspoon vmark vcount_5 vbodies_6) := hD
  refine lv_aload_n hx hb dX8_tells_12 rfl (lv_at hv 0 rfl) ?_
  refine lv_aload_n hx hb dX8_tells_13 rfl (lv_at hv 1 rfl) ?_
  refine lv_iload_n hx hb dX8_tells_14 rfl (lv_at hv 2 rfl) ?_
  obtain ⟨⟨r_8, vcount_9, vbodies_10⟩, hf_11, h⟩ := bd_ex h
  have sb := Sb.same hP hD hS hA
  refine calI (va_runU (As := [.ref (vd 0), .int x]) (rest := [.int r_4]) ⟨hx, hb, hml, hown, hts⟩ (c_X8_holds_k0 l G D cA o vd _ vspoon vmark vcount_5 vbodies_6 x r_8 vcount_9 vbodies_10 hf_11) (va_cwU 2 hts gX8_tells_X8_holds_u29X0 rfl rfl rfl rfl (by decide +kernel) ⟨Nat.le_of_ble_eq_true rfl, Nat.le_of_ble_eq_true rfl⟩) (pvV hE hK hS sb (va_recv hK hP (ci := 0) (q0 := 0) rfl rfl)) rfl rfl hv.1 rfl (lv_room (Nat.le_of_ble_eq_true rfl)) dX8_tells_15 ⟨Nat.le_of_ble_eq_true rfl, Nat.le_of_ble_eq_true rfl⟩) hS sb (Jn.same sb) (fun H locs hP hD hS => ?_)
  have hP : va_P D vwCl (wVO cA 0 o vd vspoon vmark vcount_9 vbodies_10) H := hP
  have hD : va_D A (wVO cA 0 o vd vspoon vmark vcount_9 vbodies_10) := hD
  refine lv_ixor hx hb dX8_tells_18 ?_
  have h := Option.some.inj h
  have ee0 : (r_4 ^^^ r_8) = rR := congrArg (fun q => q.1) h
  have ee1 : vcount_9 = vcountR := congrArg (fun q => q.2.1) h
  have ee2 : vbodies_10 = vbodiesR := congrArg (fun q => q.2.2) h
  subst ee0
  subst ee1
  subst ee2
  rw [← hQ]
  exact retI hx hb hr hlk hK hP hD hS dX8_tells_19 ⟨Nat.le_of_ble_eq_true rfl, Nat.le_of_ble_eq_true rfl⟩

def fX8_shines_k5 (x : Int32) (vspoon : Int32) (vcount : Int32) (vbodies : Nat → Int32) : Option (Int32 × Int32 × (Nat → Int32)) :=
  bd (fX10_begins (10 : Int32) vcount vbodies) fun (vcount_1, vbodies_2) => some ((x + vspoon), vcount_1, vbodies_2)
set_option maxHeartbeats 4000000 in
set_option maxRecDepth 100000 in
theorem c_X8_shines_k5 (l : Launch) (G : Nat → Nat) (D : va_G) (cA : Nat → ClassId) (o : Nat) (vd : Nat → Nat) (sz : Nat) (vspoon : Int32) (vmark : Int32) (vcount : Int32) (vbodies : Nat → Int32) (x : Int32) (rR : Int32) (vcountR : Int32) (vbodiesR : Nat → Int32) (h : fX8_shines_k5 x vspoon vcount vbodies = some (rR, vcountR, vbodiesR)) : Met l yX8_shines wsX8_shines ({ frames := 1, cells := 0, slots := 0, locals := 21 } : Room) (PW G D (tyC cA) sz (wVO cA 5 o vd vspoon vmark vcount vbodies) [.ref o, .ref (vd 0), .int x]) (QI D (tyC cA) (va_A (wVO cA 5 o vd vspoon vmark vcount vbodies) sz) rR (wVO cA 5 o vd vspoon vmark vcountR vbodiesR)) 0 0 (va_A (wVO cA 5 o vd vspoon vmark vcount vbodies) sz) := by
  refine ent (cc := cX8_shines) (maxL := 3) (ret := (some .int)) (fun A => QI D (tyC cA) A rR (wVO cA 5 o vd vspoon vmark vcountR vbodiesR)) (by decide +kernel) rfl (Nat.le_of_ble_eq_true rfl) ?_
  intro p e s m args below meth c A ls H hx hb hml hr hlk hts hown hA hK hE hP hD hS hv hmm
  have hv : lv_has ls 3 [(0, .ref o), (1, .ref (vd 0)), (2, .int x)] := hv
  have in_10 : ∀ w ∈ u_ws RX10 TX10 4, w ∈ wsX8_shines := fun _ h => List.mem_cons_of_mem _ (List.mem_append_right _ h)
  have w_0 := hts (.fieldLink RX8 13 "SpoonsLast$Voice" "spoon" "I") (List.mem_of_getElem? (i := 1) rfl)
  generalize hQ : MQ below _ args s 0 0 A = Q
  have hP : va_P D vwCl (wVO cA 5 o vd vspoon vmark vcount vbodies) H := hP
  unfold fX8_shines_k5 at h
  refine lv_aload_n hx hb dX8_shines_0 rfl (lv_at hv 1 rfl) ?_
  refine lv_bipush (v := (10 : Int32)) hx hb dX8_shines_1 (by decide) ?_
  obtain ⟨⟨vcount_1, vbodies_2⟩, hf_3, h⟩ := bd_ex h
  have sb : Sb D A H (wV cA vd vspoon vmark vcount vbodies) := Sb.pl [1, 2] (by decide) rfl hP hD hS hA
  refine calV (va_runV (As := [.int (10 : Int32)]) (rest := []) ⟨hx, hb, hml, hown, hts⟩ (c_X10_begins l G D cA vd _ vspoon vmark vcount vbodies (10 : Int32) vcount_1 vbodies_2 hf_3) (cwV 1 hts gX8_shines_X10_begins rfl rfl rfl (by decide +kernel) ⟨Nat.le_of_ble_eq_true rfl, Nat.le_of_ble_eq_true rfl⟩) (pvV hE hK hS sb (va_recv hK hP (ci := 10) (q0 := 1) rfl rfl)) rfl rfl hv.1 rfl (lv_room (Nat.le_of_ble_eq_true rfl)) dX8_shines_3 ⟨Nat.le_of_ble_eq_true rfl, Nat.le_of_ble_eq_true rfl⟩) hS sb (Jn.pl (ws := (wVO cA 5 o vd vspoon vmark vcount vbodies)) (w1 := (wV cA vd vspoon vmark vcount_1 vbodies_2)) (ws' := (wVO cA 5 o vd vspoon vmark vcount_1 vbodies_2)) [1, 2] rfl rfl rfl rfl hP hD) (fun H locs hP hD hS => ?_)
  have hP : va_P D vwCl (wVO cA 5 o vd vspoon vmark vcount_1 vbodies_2) H := hP
  have hD : va_D A (wVO cA 5 o vd vspoon vmark vcount_1 vbodies_2) := hD
  refine lv_iload_n hx hb dX8_shines_6 rfl (lv_at hv 2 rfl) ?_
  refine lv_aload_n hx hb dX8_shines_7 rfl (lv_at hv 1 rfl) ?_
  refine va_get (D := D) (ci := 10) (v := .int vspoon) (C := RX10) (T := TX10) (N := 4) hx hb hts in_10 hown hK hP 1 rfl rfl 0 (by decide) w_0 (fun _ h9 => h9) rfl dX8_shines_8 ?_
  refine lv_iadd hx hb dX8_shines_11 ?_
  have h := Option.some.inj h
  have ee0 : (x + vspoon) = rR := congrArg (fun q => q.1) h
  have ee1 : vcount_1 = vcountR := congrArg (fun q => q.2.1) h
  have ee2 : vbodies_2 = vbodiesR := congrArg (fun q => q.2.2) h
  subst ee0
  subst ee1
  subst ee2
  rw [← hQ]
  exact retI hx hb hr hlk hK hP hD hS dX8_shines_12 ⟨Nat.le_of_ble_eq_true rfl, Nat.le_of_ble_eq_true rfl⟩

def fX8_dulls_k5 (x : Int32) (vspoon : Int32) (vcount : Int32) (vbodies : Nat → Int32) : Option (Int32 × Int32 × (Nat → Int32)) :=
  bd (fX10_begins (11 : Int32) vcount vbodies) fun (vcount_1, vbodies_2) => bd (fX8_shines_k5 x vspoon vcount_1 vbodies_2) fun (r_4, vcount_5, vbodies_6) => some ((r_4 * (2 : Int32)), vcount_5, vbodies_6)
set_option maxHeartbeats 4000000 in
set_option maxRecDepth 100000 in
theorem c_X8_dulls_k5 (l : Launch) (G : Nat → Nat) (D : va_G) (cA : Nat → ClassId) (o : Nat) (vd : Nat → Nat) (sz : Nat) (vspoon : Int32) (vmark : Int32) (vcount : Int32) (vbodies : Nat → Int32) (x : Int32) (rR : Int32) (vcountR : Int32) (vbodiesR : Nat → Int32) (h : fX8_dulls_k5 x vspoon vcount vbodies = some (rR, vcountR, vbodiesR)) : Met l yX8_dulls wsX8_dulls ({ frames := 2, cells := 0, slots := 0, locals := 43 } : Room) (PW G D (tyC cA) sz (wVO cA 5 o vd vspoon vmark vcount vbodies) [.ref o, .ref (vd 0), .int x]) (QI D (tyC cA) (va_A (wVO cA 5 o vd vspoon vmark vcount vbodies) sz) rR (wVO cA 5 o vd vspoon vmark vcountR vbodiesR)) 0 0 (va_A (wVO cA 5 o vd vspoon vmark vcount vbodies) sz) := by
  refine ent (cc := cX8_dulls) (maxL := 3) (ret := (some .int)) (fun A => QI D (tyC cA) A rR (wVO cA 5 o vd vspoon vmark vcountR vbodiesR)) (by decide +kernel) rfl (Nat.le_of_ble_eq_true rfl) ?_
  intro p e s m args below meth c A ls H hx hb hml hr hlk hts hown hA hK hE hP hD hS hv hmm
  have hv : lv_has ls 3 [(0, .ref o), (1, .ref (vd 0)), (2, .int x)] := hv
  generalize hQ : MQ below _ args s 0 0 A = Q
  have hP : va_P D vwCl (wVO cA 5 o vd vspoon vmark vcount vbodies) H := hP
  unfold fX8_dulls_k5 at h
  refine lv_aload_n hx hb dX8_dulls_0 rfl (lv_at hv 1 rfl) ?_
  refine lv_bipush (v := (11 : Int32)) hx hb dX8_dulls_1 (by decide) ?_
  obtain ⟨⟨vcount_1, vbodies_2⟩, hf_3, h⟩ := bd_ex h
  have sb : Sb D A H (wV cA vd vspoon vmark vcount vbodies) := Sb.pl [1, 2] (by decide) rfl hP hD hS hA
  refine calV (va_runV (As := [.int (11 : Int32)]) (rest := []) ⟨hx, hb, hml, hown, hts⟩ (c_X10_begins l G D cA vd _ vspoon vmark vcount vbodies (11 : Int32) vcount_1 vbodies_2 hf_3) (cwV 1 hts gX8_dulls_X10_begins rfl rfl rfl (by decide +kernel) ⟨Nat.le_of_ble_eq_true rfl, Nat.le_of_ble_eq_true rfl⟩) (pvV hE hK hS sb (va_recv hK hP (ci := 10) (q0 := 1) rfl rfl)) rfl rfl hv.1 rfl (lv_room (Nat.le_of_ble_eq_true rfl)) dX8_dulls_3 ⟨Nat.le_of_ble_eq_true rfl, Nat.le_of_ble_eq_true rfl⟩) hS sb (Jn.pl (ws := (wVO cA 5 o vd vspoon vmark vcount vbodies)) (w1 := (wV cA vd vspoon vmark vcount_1 vbodies_2)) (ws' := (wVO cA 5 o vd vspoon vmark vcount_1 vbodies_2)) [1, 2] rfl rfl rfl rfl hP hD) (fun H locs hP hD hS => ?_)
  have hP : va_P D vwCl (wVO cA 5 o vd vspoon vmark vcount_1 vbodies_2) H := hP
  have hD : va_D A (wVO cA 5 o vd vspoon vmark vcount_1 vbodies_2) := hD
  refine lv_aload_n hx hb dX8_dulls_6 rfl (lv_at hv 0 rfl) ?_
  refine lv_aload_n hx hb dX8_dulls_7 rfl (lv_at hv 1 rfl) ?_
  refine lv_iload_n hx hb dX8_dulls_8 rfl (lv_at hv 2 rfl) ?_
  obtain ⟨⟨r_4, vcount_5, vbodies_6⟩, hf_7, h⟩ := bd_ex h
  have sb := Sb.same hP hD hS hA
  refine calI (va_runU (As := [.ref (vd 0), .int x]) (rest := []) ⟨hx, hb, hml, hown, hts⟩ (c_X8_shines_k5 l G D cA o vd _ vspoon vmark vcount_1 vbodies_2 x r_4 vcount_5 vbodies_6 hf_7) (va_cwU 2 hts gX8_dulls_X8_shines_u17X5 rfl rfl rfl rfl (by decide +kernel) ⟨Nat.le_of_ble_eq_true rfl, Nat.le_of_ble_eq_true rfl⟩) (pvV hE hK hS sb (va_recv hK hP (ci := 5) (q0 := 0) rfl rfl)) rfl rfl hv.1 rfl (lv_room (Nat.le_of_ble_eq_true rfl)) dX8_dulls_9 ⟨Nat.le_of_ble_eq_true rfl, Nat.le_of_ble_eq_true rfl⟩) hS sb (Jn.same sb) (fun H locs hP hD hS => ?_)
  have hP : va_P D vwCl (wVO cA 5 o vd vspoon vmark vcount_5 vbodies_6) H := hP
  have hD : va_D A (wVO cA 5 o vd vspoon vmark vcount_5 vbodies_6) := hD
  refine lv_iconst (v := (2 : Int32)) hx hb dX8_dulls_12 (by decide) ?_
  refine lv_imul hx hb dX8_dulls_13 ?_
  have h := Option.some.inj h
  have ee0 : (r_4 * (2 : Int32)) = rR := congrArg (fun q => q.1) h
  have ee1 : vcount_5 = vcountR := congrArg (fun q => q.2.1) h
  have ee2 : vbodies_6 = vbodiesR := congrArg (fun q => q.2.2) h
  subst ee0
  subst ee1
  subst ee2
  rw [← hQ]
  exact retI hx hb hr hlk hK hP hD hS dX8_dulls_14 ⟨Nat.le_of_ble_eq_true rfl, Nat.le_of_ble_eq_true rfl⟩

def fX8_holds_k5 (x : Int32) (vmark : Int32) (vcount : Int32) (vbodies : Nat → Int32) : Option (Int32 × Int32 × (Nat → Int32)) :=
  bd (fX10_begins (12 : Int32) vcount vbodies) fun (vcount_1, vbodies_2) => some ((x - vmark), vcount_1, vbodies_2)
set_option maxHeartbeats 4000000 in
set_option maxRecDepth 100000 in
theorem c_X8_holds_k5 (l : Launch) (G : Nat → Nat) (D : va_G) (cA : Nat → ClassId) (o : Nat) (vd : Nat → Nat) (sz : Nat) (vspoon : Int32) (vmark : Int32) (vcount : Int32) (vbodies : Nat → Int32) (x : Int32) (rR : Int32) (vcountR : Int32) (vbodiesR : Nat → Int32) (h : fX8_holds_k5 x vmark vcount vbodies = some (rR, vcountR, vbodiesR)) : Met l yX8_holds wsX8_holds ({ frames := 1, cells := 0, slots := 0, locals := 21 } : Room) (PW G D (tyC cA) sz (wVO cA 5 o vd vspoon vmark vcount vbodies) [.ref o, .ref (vd 0), .int x]) (QI D (tyC cA) (va_A (wVO cA 5 o vd vspoon vmark vcount vbodies) sz) rR (wVO cA 5 o vd vspoon vmark vcountR vbodiesR)) 0 0 (va_A (wVO cA 5 o vd vspoon vmark vcount vbodies) sz) := by
  refine ent (cc := cX8_holds) (maxL := 3) (ret := (some .int)) (fun A => QI D (tyC cA) A rR (wVO cA 5 o vd vspoon vmark vcountR vbodiesR)) (by decide +kernel) rfl (Nat.le_of_ble_eq_true rfl) ?_
  intro p e s m args below meth c A ls H hx hb hml hr hlk hts hown hA hK hE hP hD hS hv hmm
  have hv : lv_has ls 3 [(0, .ref o), (1, .ref (vd 0)), (2, .int x)] := hv
  have in_10 : ∀ w ∈ u_ws RX10 TX10 4, w ∈ wsX8_holds := fun _ h => List.mem_cons_of_mem _ (List.mem_append_right _ h)
  have w_0 := hts (.fieldLink RX8 23 "SpoonsLast$Voice" "mark" "I") (List.mem_of_getElem? (i := 1) rfl)
  generalize hQ : MQ below _ args s 0 0 A = Q
  have hP : va_P D vwCl (wVO cA 5 o vd vspoon vmark vcount vbodies) H := hP
  unfold fX8_holds_k5 at h
  refine lv_aload_n hx hb dX8_holds_0 rfl (lv_at hv 1 rfl) ?_
  refine lv_bipush (v := (12 : Int32)) hx hb dX8_holds_1 (by decide) ?_
  obtain ⟨⟨vcount_1, vbodies_2⟩, hf_3, h⟩ := bd_ex h
  have sb : Sb D A H (wV cA vd vspoon vmark vcount vbodies) := Sb.pl [1, 2] (by decide) rfl hP hD hS hA
  refine calV (va_runV (As := [.int (12 : Int32)]) (rest := []) ⟨hx, hb, hml, hown, hts⟩ (c_X10_begins l G D cA vd _ vspoon vmark vcount vbodies (12 : Int32) vcount_1 vbodies_2 hf_3) (cwV 1 hts gX8_holds_X10_begins rfl rfl rfl (by decide +kernel) ⟨Nat.le_of_ble_eq_true rfl, Nat.le_of_ble_eq_true rfl⟩) (pvV hE hK hS sb (va_recv hK hP (ci := 10) (q0 := 1) rfl rfl)) rfl rfl hv.1 rfl (lv_room (Nat.le_of_ble_eq_true rfl)) dX8_holds_3 ⟨Nat.le_of_ble_eq_true rfl, Nat.le_of_ble_eq_true rfl⟩) hS sb (Jn.pl (ws := (wVO cA 5 o vd vspoon vmark vcount vbodies)) (w1 := (wV cA vd vspoon vmark vcount_1 vbodies_2)) (ws' := (wVO cA 5 o vd vspoon vmark vcount_1 vbodies_2)) [1, 2] rfl rfl rfl rfl hP hD) (fun H locs hP hD hS => ?_)
  have hP : va_P D vwCl (wVO cA 5 o vd vspoon vmark vcount_1 vbodies_2) H := hP
  have hD : va_D A (wVO cA 5 o vd vspoon vmark vcount_1 vbodies_2) := hD
  refine lv_iload_n hx hb dX8_holds_6 rfl (lv_at hv 2 rfl) ?_
  refine lv_aload_n hx hb dX8_holds_7 rfl (lv_at hv 1 rfl) ?_
  refine va_get (D := D) (ci := 10) (v := .int vmark) (C := RX10) (T := TX10) (N := 4) hx hb hts in_10 hown hK hP 1 rfl rfl 1 (by decide) w_0 (fun _ h9 => h9) rfl dX8_holds_8 ?_
  refine lv_isub hx hb dX8_holds_11 ?_
  have h := Option.some.inj h
  have ee0 : (x - vmark) = rR := congrArg (fun q => q.1) h
  have ee1 : vcount_1 = vcountR := congrArg (fun q => q.2.1) h
  have ee2 : vbodies_2 = vbodiesR := congrArg (fun q => q.2.2) h
  subst ee0
  subst ee1
  subst ee2
  rw [← hQ]
  exact retI hx hb hr hlk hK hP hD hS dX8_holds_12 ⟨Nat.le_of_ble_eq_true rfl, Nat.le_of_ble_eq_true rfl⟩

def fX5_holds_k5 (x : Int32) (vmark : Int32) (vcount : Int32) (vbodies : Nat → Int32) : Option (Int32 × Int32 × (Nat → Int32)) :=
  bd (fX10_begins (40 : Int32) vcount vbodies) fun (vcount_1, vbodies_2) => bd (fX8_holds_k5 x vmark vcount_1 vbodies_2) fun (r_4, vcount_5, vbodies_6) => some ((-r_4), vcount_5, vbodies_6)
set_option maxHeartbeats 4000000 in
set_option maxRecDepth 100000 in
theorem c_X5_holds_k5 (l : Launch) (G : Nat → Nat) (D : va_G) (cA : Nat → ClassId) (o : Nat) (vd : Nat → Nat) (sz : Nat) (vspoon : Int32) (vmark : Int32) (vcount : Int32) (vbodies : Nat → Int32) (x : Int32) (rR : Int32) (vcountR : Int32) (vbodiesR : Nat → Int32) (h : fX5_holds_k5 x vmark vcount vbodies = some (rR, vcountR, vbodiesR)) : Met l yX5_holds wsX5_holds ({ frames := 2, cells := 0, slots := 0, locals := 43 } : Room) (PW G D (tyC cA) sz (wVO cA 5 o vd vspoon vmark vcount vbodies) [.ref o, .ref (vd 0), .int x]) (QI D (tyC cA) (va_A (wVO cA 5 o vd vspoon vmark vcount vbodies) sz) rR (wVO cA 5 o vd vspoon vmark vcountR vbodiesR)) 0 0 (va_A (wVO cA 5 o vd vspoon vmark vcount vbodies) sz) := by
  refine ent (cc := cX5_holds) (maxL := 3) (ret := (some .int)) (fun A => QI D (tyC cA) A rR (wVO cA 5 o vd vspoon vmark vcountR vbodiesR)) (by decide +kernel) rfl (Nat.le_of_ble_eq_true rfl) ?_
  intro p e s m args below meth c A ls H hx hb hml hr hlk hts hown hA hK hE hP hD hS hv hmm
  have hv : lv_has ls 3 [(0, .ref o), (1, .ref (vd 0)), (2, .int x)] := hv
  generalize hQ : MQ below _ args s 0 0 A = Q
  have hP : va_P D vwCl (wVO cA 5 o vd vspoon vmark vcount vbodies) H := hP
  unfold fX5_holds_k5 at h
  refine lv_aload_n hx hb dX5_holds_0 rfl (lv_at hv 1 rfl) ?_
  refine lv_bipush (v := (40 : Int32)) hx hb dX5_holds_1 (by decide) ?_
  obtain ⟨⟨vcount_1, vbodies_2⟩, hf_3, h⟩ := bd_ex h
  have sb : Sb D A H (wV cA vd vspoon vmark vcount vbodies) := Sb.pl [1, 2] (by decide) rfl hP hD hS hA
  refine calV (va_runV (As := [.int (40 : Int32)]) (rest := []) ⟨hx, hb, hml, hown, hts⟩ (c_X10_begins l G D cA vd _ vspoon vmark vcount vbodies (40 : Int32) vcount_1 vbodies_2 hf_3) (cwV 1 hts gX5_holds_X10_begins rfl rfl rfl (by decide +kernel) ⟨Nat.le_of_ble_eq_true rfl, Nat.le_of_ble_eq_true rfl⟩) (pvV hE hK hS sb (va_recv hK hP (ci := 10) (q0 := 1) rfl rfl)) rfl rfl hv.1 rfl (lv_room (Nat.le_of_ble_eq_true rfl)) dX5_holds_3 ⟨Nat.le_of_ble_eq_true rfl, Nat.le_of_ble_eq_true rfl⟩) hS sb (Jn.pl (ws := (wVO cA 5 o vd vspoon vmark vcount vbodies)) (w1 := (wV cA vd vspoon vmark vcount_1 vbodies_2)) (ws' := (wVO cA 5 o vd vspoon vmark vcount_1 vbodies_2)) [1, 2] rfl rfl rfl rfl hP hD) (fun H locs hP hD hS => ?_)
  have hP : va_P D vwCl (wVO cA 5 o vd vspoon vmark vcount_1 vbodies_2) H := hP
  have hD : va_D A (wVO cA 5 o vd vspoon vmark vcount_1 vbodies_2) := hD
  refine lv_aload_n hx hb dX5_holds_6 rfl (lv_at hv 0 rfl) ?_
  refine lv_aload_n hx hb dX5_holds_7 rfl (lv_at hv 1 rfl) ?_
  refine lv_iload_n hx hb dX5_holds_8 rfl (lv_at hv 2 rfl) ?_
  obtain ⟨⟨r_4, vcount_5, vbodies_6⟩, hf_7, h⟩ := bd_ex h
  have sb := Sb.same hP hD hS hA
  refine calI (va_runSU (As := [.ref (vd 0), .int x]) (rest := []) (hK.1 5 _ rfl).2 ⟨hx, hb, hml, hown, hts⟩ (c_X8_holds_k5 l G D cA o vd _ vspoon vmark vcount_1 vbodies_2 x r_4 vcount_5 vbodies_6 hf_7) (va_cwSU 2 hts gX5_holds_X8_holds_s13 rfl rfl rfl (by decide +kernel) ⟨Nat.le_of_ble_eq_true rfl, Nat.le_of_ble_eq_true rfl⟩) (pvV hE hK hS sb (va_recv hK hP (ci := 5) (q0 := 0) rfl rfl)) rfl rfl hv.1 rfl (lv_room (Nat.le_of_ble_eq_true rfl)) dX5_holds_9 ⟨Nat.le_of_ble_eq_true rfl, Nat.le_of_ble_eq_true rfl⟩) hS sb (Jn.same sb) (fun H locs hP hD hS => ?_)
  have hP : va_P D vwCl (wVO cA 5 o vd vspoon vmark vcount_5 vbodies_6) H := hP
  have hD : va_D A (wVO cA 5 o vd vspoon vmark vcount_5 vbodies_6) := hD
  refine lv_ineg hx hb dX5_holds_12 ?_
  have h := Option.some.inj h
  have ee0 : (-r_4) = rR := congrArg (fun q => q.1) h
  have ee1 : vcount_5 = vcountR := congrArg (fun q => q.2.1) h
  have ee2 : vbodies_6 = vbodiesR := congrArg (fun q => q.2.2) h
  subst ee0
  subst ee1
  subst ee2
  rw [← hQ]
  exact retI hx hb hr hlk hK hP hD hS dX5_holds_13 ⟨Nat.le_of_ble_eq_true rfl, Nat.le_of_ble_eq_true rfl⟩

def fX8_tells_k5 (x : Int32) (vspoon : Int32) (vmark : Int32) (vcount : Int32) (vbodies : Nat → Int32) : Option (Int32 × Int32 × (Nat → Int32)) :=
  bd (fX10_begins (13 : Int32) vcount vbodies) fun (vcount_1, vbodies_2) => bd (fX8_dulls_k5 x vspoon vcount_1 vbodies_2) fun (r_4, vcount_5, vbodies_6) => bd (fX5_holds_k5 x vmark vcount_5 vbodies_6) fun (r_8, vcount_9, vbodies_10) => some ((r_4 ^^^ r_8), vcount_9, vbodies_10)
set_option maxHeartbeats 4000000 in
set_option maxRecDepth 100000 in
theorem c_X8_tells_k5 (l : Launch) (G : Nat → Nat) (D : va_G) (cA : Nat → ClassId) (o : Nat) (vd : Nat → Nat) (sz : Nat) (vspoon : Int32) (vmark : Int32) (vcount : Int32) (vbodies : Nat → Int32) (x : Int32) (rR : Int32) (vcountR : Int32) (vbodiesR : Nat → Int32) (h : fX8_tells_k5 x vspoon vmark vcount vbodies = some (rR, vcountR, vbodiesR)) : Met l yX8_tells wsX8_tells ({ frames := 3, cells := 0, slots := 0, locals := 65 } : Room) (PW G D (tyC cA) sz (wVO cA 5 o vd vspoon vmark vcount vbodies) [.ref o, .ref (vd 0), .int x]) (QI D (tyC cA) (va_A (wVO cA 5 o vd vspoon vmark vcount vbodies) sz) rR (wVO cA 5 o vd vspoon vmark vcountR vbodiesR)) 0 0 (va_A (wVO cA 5 o vd vspoon vmark vcount vbodies) sz) := by
  refine ent (cc := cX8_tells) (maxL := 3) (ret := (some .int)) (fun A => QI D (tyC cA) A rR (wVO cA 5 o vd vspoon vmark vcountR vbodiesR)) (by decide +kernel) rfl (Nat.le_of_ble_eq_true rfl) ?_
  intro p e s m args below meth c A ls H hx hb hml hr hlk hts hown hA hK hE hP hD hS hv hmm
  have hv : lv_has ls 3 [(0, .ref o), (1, .ref (vd 0)), (2, .int x)] := hv
  generalize hQ : MQ below _ args s 0 0 A = Q
  have hP : va_P D vwCl (wVO cA 5 o vd vspoon vmark vcount vbodies) H := hP
  unfold fX8_tells_k5 at h
  refine lv_aload_n hx hb dX8_tells_0 rfl (lv_at hv 1 rfl) ?_
  refine lv_bipush (v := (13 : Int32)) hx hb dX8_tells_1 (by decide) ?_
  obtain ⟨⟨vcount_1, vbodies_2⟩, hf_3, h⟩ := bd_ex h
  have sb : Sb D A H (wV cA vd vspoon vmark vcount vbodies) := Sb.pl [1, 2] (by decide) rfl hP hD hS hA
  refine calV (va_runV (As := [.int (13 : Int32)]) (rest := []) ⟨hx, hb, hml, hown, hts⟩ (c_X10_begins l G D cA vd _ vspoon vmark vcount vbodies (13 : Int32) vcount_1 vbodies_2 hf_3) (cwV 1 hts gX8_tells_X10_begins rfl rfl rfl (by decide +kernel) ⟨Nat.le_of_ble_eq_true rfl, Nat.le_of_ble_eq_true rfl⟩) (pvV hE hK hS sb (va_recv hK hP (ci := 10) (q0 := 1) rfl rfl)) rfl rfl hv.1 rfl (lv_room (Nat.le_of_ble_eq_true rfl)) dX8_tells_3 ⟨Nat.le_of_ble_eq_true rfl, Nat.le_of_ble_eq_true rfl⟩) hS sb (Jn.pl (ws := (wVO cA 5 o vd vspoon vmark vcount vbodies)) (w1 := (wV cA vd vspoon vmark vcount_1 vbodies_2)) (ws' := (wVO cA 5 o vd vspoon vmark vcount_1 vbodies_2)) [1, 2] rfl rfl rfl rfl hP hD) (fun H locs hP hD hS => ?_)
  have hP : va_P D vwCl (wVO cA 5 o vd vspoon vmark vcount_1 vbodies_2) H := hP
  have hD : va_D A (wVO cA 5 o vd vspoon vmark vcount_1 vbodies_2) := hD
  refine lv_aload_n hx hb dX8_tells_6 rfl (lv_at hv 0 rfl) ?_
  refine lv_aload_n hx hb dX8_tells_7 rfl (lv_at hv 1 rfl) ?_
  refine lv_iload_n hx hb dX8_tells_8 rfl (lv_at hv 2 rfl) ?_
  obtain ⟨⟨r_4, vcount_5, vbodies_6⟩, hf_7, h⟩ := bd_ex h
  have sb := Sb.same hP hD hS hA
  refine calI (va_runU (As := [.ref (vd 0), .int x]) (rest := []) ⟨hx, hb, hml, hown, hts⟩ (c_X8_dulls_k5 l G D cA o vd _ vspoon vmark vcount_1 vbodies_2 x r_4 vcount_5 vbodies_6 hf_7) (va_cwU 2 hts gX8_tells_X8_dulls_u26X5 rfl rfl rfl rfl (by decide +kernel) ⟨Nat.le_of_ble_eq_true rfl, Nat.le_of_ble_eq_true rfl⟩) (pvV hE hK hS sb (va_recv hK hP (ci := 5) (q0 := 0) rfl rfl)) rfl rfl hv.1 rfl (lv_room (Nat.le_of_ble_eq_true rfl)) dX8_tells_9 ⟨Nat.le_of_ble_eq_true rfl, Nat.le_of_ble_eq_true rfl⟩) hS sb (Jn.same sb) (fun H locs hP hD hS => ?_)
  have hP : va_P D vwCl (wVO cA 5 o vd vspoon vmark vcount_5 vbodies_6) H := hP
  have hD : va_D A (wVO cA 5 o vd vspoon vmark vcount_5 vbodies_6) := hD
  refine lv_aload_n hx hb dX8_tells_12 rfl (lv_at hv 0 rfl) ?_
  refine lv_aload_n hx hb dX8_tells_13 rfl (lv_at hv 1 rfl) ?_
  refine lv_iload_n hx hb dX8_tells_14 rfl (lv_at hv 2 rfl) ?_
  obtain ⟨⟨r_8, vcount_9, vbodies_10⟩, hf_11, h⟩ := bd_ex h
  have sb := Sb.same hP hD hS hA
  refine calI (va_runU (As := [.ref (vd 0), .int x]) (rest := [.int r_4]) ⟨hx, hb, hml, hown, hts⟩ (c_X5_holds_k5 l G D cA o vd _ vspoon vmark vcount_5 vbodies_6 x r_8 vcount_9 vbodies_10 hf_11) (va_cwO 2 hts gX8_tells_X5_holds_u29X5 rfl rfl rfl (by decide +kernel : Cond.code yX8_holds cX8_holds 3 (some .int) ∈ wsX8_tells) (by decide +kernel) ⟨Nat.le_of_ble_eq_true rfl, Nat.le_of_ble_eq_true rfl⟩) (pvV hE hK hS sb (va_recv hK hP (ci := 5) (q0 := 0) rfl rfl)) rfl rfl hv.1 rfl (lv_room (Nat.le_of_ble_eq_true rfl)) dX8_tells_15 ⟨Nat.le_of_ble_eq_true rfl, Nat.le_of_ble_eq_true rfl⟩) hS sb (Jn.same sb) (fun H locs hP hD hS => ?_)
  have hP : va_P D vwCl (wVO cA 5 o vd vspoon vmark vcount_9 vbodies_10) H := hP
  have hD : va_D A (wVO cA 5 o vd vspoon vmark vcount_9 vbodies_10) := hD
  refine lv_ixor hx hb dX8_tells_18 ?_
  have h := Option.some.inj h
  have ee0 : (r_4 ^^^ r_8) = rR := congrArg (fun q => q.1) h
  have ee1 : vcount_9 = vcountR := congrArg (fun q => q.2.1) h
  have ee2 : vbodies_10 = vbodiesR := congrArg (fun q => q.2.2) h
  subst ee0
  subst ee1
  subst ee2
  rw [← hQ]
  exact retI hx hb hr hlk hK hP hD hS dX8_tells_19 ⟨Nat.le_of_ble_eq_true rfl, Nat.le_of_ble_eq_true rfl⟩

def fX8_shines_k6 (x : Int32) (vspoon : Int32) (vcount : Int32) (vbodies : Nat → Int32) : Option (Int32 × Int32 × (Nat → Int32)) :=
  bd (fX10_begins (10 : Int32) vcount vbodies) fun (vcount_1, vbodies_2) => some ((x + vspoon), vcount_1, vbodies_2)
set_option maxHeartbeats 4000000 in
set_option maxRecDepth 100000 in
theorem c_X8_shines_k6 (l : Launch) (G : Nat → Nat) (D : va_G) (cA : Nat → ClassId) (o : Nat) (vd : Nat → Nat) (sz : Nat) (vspoon : Int32) (vmark : Int32) (vcount : Int32) (vbodies : Nat → Int32) (x : Int32) (rR : Int32) (vcountR : Int32) (vbodiesR : Nat → Int32) (h : fX8_shines_k6 x vspoon vcount vbodies = some (rR, vcountR, vbodiesR)) : Met l yX8_shines wsX8_shines ({ frames := 1, cells := 0, slots := 0, locals := 21 } : Room) (PW G D (tyC cA) sz (wVO cA 6 o vd vspoon vmark vcount vbodies) [.ref o, .ref (vd 0), .int x]) (QI D (tyC cA) (va_A (wVO cA 6 o vd vspoon vmark vcount vbodies) sz) rR (wVO cA 6 o vd vspoon vmark vcountR vbodiesR)) 0 0 (va_A (wVO cA 6 o vd vspoon vmark vcount vbodies) sz) := by
  refine ent (cc := cX8_shines) (maxL := 3) (ret := (some .int)) (fun A => QI D (tyC cA) A rR (wVO cA 6 o vd vspoon vmark vcountR vbodiesR)) (by decide +kernel) rfl (Nat.le_of_ble_eq_true rfl) ?_
  intro p e s m args below meth c A ls H hx hb hml hr hlk hts hown hA hK hE hP hD hS hv hmm
  have hv : lv_has ls 3 [(0, .ref o), (1, .ref (vd 0)), (2, .int x)] := hv
  have in_10 : ∀ w ∈ u_ws RX10 TX10 4, w ∈ wsX8_shines := fun _ h => List.mem_cons_of_mem _ (List.mem_append_right _ h)
  have w_0 := hts (.fieldLink RX8 13 "SpoonsLast$Voice" "spoon" "I") (List.mem_of_getElem? (i := 1) rfl)
  generalize hQ : MQ below _ args s 0 0 A = Q
  have hP : va_P D vwCl (wVO cA 6 o vd vspoon vmark vcount vbodies) H := hP
  unfold fX8_shines_k6 at h
  refine lv_aload_n hx hb dX8_shines_0 rfl (lv_at hv 1 rfl) ?_
  refine lv_bipush (v := (10 : Int32)) hx hb dX8_shines_1 (by decide) ?_
  obtain ⟨⟨vcount_1, vbodies_2⟩, hf_3, h⟩ := bd_ex h
  have sb : Sb D A H (wV cA vd vspoon vmark vcount vbodies) := Sb.pl [1, 2] (by decide) rfl hP hD hS hA
  refine calV (va_runV (As := [.int (10 : Int32)]) (rest := []) ⟨hx, hb, hml, hown, hts⟩ (c_X10_begins l G D cA vd _ vspoon vmark vcount vbodies (10 : Int32) vcount_1 vbodies_2 hf_3) (cwV 1 hts gX8_shines_X10_begins rfl rfl rfl (by decide +kernel) ⟨Nat.le_of_ble_eq_true rfl, Nat.le_of_ble_eq_true rfl⟩) (pvV hE hK hS sb (va_recv hK hP (ci := 10) (q0 := 1) rfl rfl)) rfl rfl hv.1 rfl (lv_room (Nat.le_of_ble_eq_true rfl)) dX8_shines_3 ⟨Nat.le_of_ble_eq_true rfl, Nat.le_of_ble_eq_true rfl⟩) hS sb (Jn.pl (ws := (wVO cA 6 o vd vspoon vmark vcount vbodies)) (w1 := (wV cA vd vspoon vmark vcount_1 vbodies_2)) (ws' := (wVO cA 6 o vd vspoon vmark vcount_1 vbodies_2)) [1, 2] rfl rfl rfl rfl hP hD) (fun H locs hP hD hS => ?_)
  have hP : va_P D vwCl (wVO cA 6 o vd vspoon vmark vcount_1 vbodies_2) H := hP
  have hD : va_D A (wVO cA 6 o vd vspoon vmark vcount_1 vbodies_2) := hD
  refine lv_iload_n hx hb dX8_shines_6 rfl (lv_at hv 2 rfl) ?_
  refine lv_aload_n hx hb dX8_shines_7 rfl (lv_at hv 1 rfl) ?_
  refine va_get (D := D) (ci := 10) (v := .int vspoon) (C := RX10) (T := TX10) (N := 4) hx hb hts in_10 hown hK hP 1 rfl rfl 0 (by decide) w_0 (fun _ h9 => h9) rfl dX8_shines_8 ?_
  refine lv_iadd hx hb dX8_shines_11 ?_
  have h := Option.some.inj h
  have ee0 : (x + vspoon) = rR := congrArg (fun q => q.1) h
  have ee1 : vcount_1 = vcountR := congrArg (fun q => q.2.1) h
  have ee2 : vbodies_2 = vbodiesR := congrArg (fun q => q.2.2) h
  subst ee0
  subst ee1
  subst ee2
  rw [← hQ]
  exact retI hx hb hr hlk hK hP hD hS dX8_shines_12 ⟨Nat.le_of_ble_eq_true rfl, Nat.le_of_ble_eq_true rfl⟩

def fX2_shines_k6 (x : Int32) (vspoon : Int32) (vcount : Int32) (vbodies : Nat → Int32) : Option (Int32 × Int32 × (Nat → Int32)) :=
  bd (fX10_begins (20 : Int32) vcount vbodies) fun (vcount_1, vbodies_2) => bd (fX8_shines_k6 x vspoon vcount_1 vbodies_2) fun (r_4, vcount_5, vbodies_6) => some ((r_4 * (3 : Int32)), vcount_5, vbodies_6)
set_option maxHeartbeats 4000000 in
set_option maxRecDepth 100000 in
theorem c_X2_shines_k6 (l : Launch) (G : Nat → Nat) (D : va_G) (cA : Nat → ClassId) (o : Nat) (vd : Nat → Nat) (sz : Nat) (vspoon : Int32) (vmark : Int32) (vcount : Int32) (vbodies : Nat → Int32) (x : Int32) (rR : Int32) (vcountR : Int32) (vbodiesR : Nat → Int32) (h : fX2_shines_k6 x vspoon vcount vbodies = some (rR, vcountR, vbodiesR)) : Met l yX2_shines wsX2_shines ({ frames := 2, cells := 0, slots := 0, locals := 43 } : Room) (PW G D (tyC cA) sz (wVO cA 6 o vd vspoon vmark vcount vbodies) [.ref o, .ref (vd 0), .int x]) (QI D (tyC cA) (va_A (wVO cA 6 o vd vspoon vmark vcount vbodies) sz) rR (wVO cA 6 o vd vspoon vmark vcountR vbodiesR)) 0 0 (va_A (wVO cA 6 o vd vspoon vmark vcount vbodies) sz) := by
  refine ent (cc := cX2_shines) (maxL := 3) (ret := (some .int)) (fun A => QI D (tyC cA) A rR (wVO cA 6 o vd vspoon vmark vcountR vbodiesR)) (by decide +kernel) rfl (Nat.le_of_ble_eq_true rfl) ?_
  intro p e s m args below meth c A ls H hx hb hml hr hlk hts hown hA hK hE hP hD hS hv hmm
  have hv : lv_has ls 3 [(0, .ref o), (1, .ref (vd 0)), (2, .int x)] := hv
  generalize hQ : MQ below _ args s 0 0 A = Q
  have hP : va_P D vwCl (wVO cA 6 o vd vspoon vmark vcount vbodies) H := hP
  unfold fX2_shines_k6 at h
  refine lv_aload_n hx hb dX2_shines_0 rfl (lv_at hv 1 rfl) ?_
  refine lv_bipush (v := (20 : Int32)) hx hb dX2_shines_1 (by decide) ?_
  obtain ⟨⟨vcount_1, vbodies_2⟩, hf_3, h⟩ := bd_ex h
  have sb : Sb D A H (wV cA vd vspoon vmark vcount vbodies) := Sb.pl [1, 2] (by decide) rfl hP hD hS hA
  refine calV (va_runV (As := [.int (20 : Int32)]) (rest := []) ⟨hx, hb, hml, hown, hts⟩ (c_X10_begins l G D cA vd _ vspoon vmark vcount vbodies (20 : Int32) vcount_1 vbodies_2 hf_3) (cwV 1 hts gX2_shines_X10_begins rfl rfl rfl (by decide +kernel) ⟨Nat.le_of_ble_eq_true rfl, Nat.le_of_ble_eq_true rfl⟩) (pvV hE hK hS sb (va_recv hK hP (ci := 10) (q0 := 1) rfl rfl)) rfl rfl hv.1 rfl (lv_room (Nat.le_of_ble_eq_true rfl)) dX2_shines_3 ⟨Nat.le_of_ble_eq_true rfl, Nat.le_of_ble_eq_true rfl⟩) hS sb (Jn.pl (ws := (wVO cA 6 o vd vspoon vmark vcount vbodies)) (w1 := (wV cA vd vspoon vmark vcount_1 vbodies_2)) (ws' := (wVO cA 6 o vd vspoon vmark vcount_1 vbodies_2)) [1, 2] rfl rfl rfl rfl hP hD) (fun H locs hP hD hS => ?_)
  have hP : va_P D vwCl (wVO cA 6 o vd vspoon vmark vcount_1 vbodies_2) H := hP
  have hD : va_D A (wVO cA 6 o vd vspoon vmark vcount_1 vbodies_2) := hD
  refine lv_aload_n hx hb dX2_shines_6 rfl (lv_at hv 0 rfl) ?_
  refine lv_aload_n hx hb dX2_shines_7 rfl (lv_at hv 1 rfl) ?_
  refine lv_iload_n hx hb dX2_shines_8 rfl (lv_at hv 2 rfl) ?_
  obtain ⟨⟨r_4, vcount_5, vbodies_6⟩, hf_7, h⟩ := bd_ex h
  have sb := Sb.same hP hD hS hA
  refine calI (va_runSU (As := [.ref (vd 0), .int x]) (rest := []) (hK.1 6 _ rfl).2 ⟨hx, hb, hml, hown, hts⟩ (c_X8_shines_k6 l G D cA o vd _ vspoon vmark vcount_1 vbodies_2 x r_4 vcount_5 vbodies_6 hf_7) (va_cwSU 2 hts gX2_shines_X8_shines_s21 rfl rfl rfl (by decide +kernel) ⟨Nat.le_of_ble_eq_true rfl, Nat.le_of_ble_eq_true rfl⟩) (pvV hE hK hS sb (va_recv hK hP (ci := 6) (q0 := 0) rfl rfl)) rfl rfl hv.1 rfl (lv_room (Nat.le_of_ble_eq_true rfl)) dX2_shines_9 ⟨Nat.le_of_ble_eq_true rfl, Nat.le_of_ble_eq_true rfl⟩) hS sb (Jn.same sb) (fun H locs hP hD hS => ?_)
  have hP : va_P D vwCl (wVO cA 6 o vd vspoon vmark vcount_5 vbodies_6) H := hP
  have hD : va_D A (wVO cA 6 o vd vspoon vmark vcount_5 vbodies_6) := hD
  refine lv_iconst (v := (3 : Int32)) hx hb dX2_shines_12 (by decide) ?_
  refine lv_imul hx hb dX2_shines_13 ?_
  have h := Option.some.inj h
  have ee0 : (r_4 * (3 : Int32)) = rR := congrArg (fun q => q.1) h
  have ee1 : vcount_5 = vcountR := congrArg (fun q => q.2.1) h
  have ee2 : vbodies_6 = vbodiesR := congrArg (fun q => q.2.2) h
  subst ee0
  subst ee1
  subst ee2
  rw [← hQ]
  exact retI hx hb hr hlk hK hP hD hS dX2_shines_14 ⟨Nat.le_of_ble_eq_true rfl, Nat.le_of_ble_eq_true rfl⟩

def fX8_dulls_k6 (x : Int32) (vspoon : Int32) (vcount : Int32) (vbodies : Nat → Int32) : Option (Int32 × Int32 × (Nat → Int32)) :=
  bd (fX10_begins (11 : Int32) vcount vbodies) fun (vcount_1, vbodies_2) => bd (fX2_shines_k6 x vspoon vcount_1 vbodies_2) fun (r_4, vcount_5, vbodies_6) => some ((r_4 * (2 : Int32)), vcount_5, vbodies_6)
set_option maxHeartbeats 4000000 in
set_option maxRecDepth 100000 in
theorem c_X8_dulls_k6 (l : Launch) (G : Nat → Nat) (D : va_G) (cA : Nat → ClassId) (o : Nat) (vd : Nat → Nat) (sz : Nat) (vspoon : Int32) (vmark : Int32) (vcount : Int32) (vbodies : Nat → Int32) (x : Int32) (rR : Int32) (vcountR : Int32) (vbodiesR : Nat → Int32) (h : fX8_dulls_k6 x vspoon vcount vbodies = some (rR, vcountR, vbodiesR)) : Met l yX8_dulls wsX8_dulls ({ frames := 3, cells := 0, slots := 0, locals := 65 } : Room) (PW G D (tyC cA) sz (wVO cA 6 o vd vspoon vmark vcount vbodies) [.ref o, .ref (vd 0), .int x]) (QI D (tyC cA) (va_A (wVO cA 6 o vd vspoon vmark vcount vbodies) sz) rR (wVO cA 6 o vd vspoon vmark vcountR vbodiesR)) 0 0 (va_A (wVO cA 6 o vd vspoon vmark vcount vbodies) sz) := by
  refine ent (cc := cX8_dulls) (maxL := 3) (ret := (some .int)) (fun A => QI D (tyC cA) A rR (wVO cA 6 o vd vspoon vmark vcountR vbodiesR)) (by decide +kernel) rfl (Nat.le_of_ble_eq_true rfl) ?_
  intro p e s m args below meth c A ls H hx hb hml hr hlk hts hown hA hK hE hP hD hS hv hmm
  have hv : lv_has ls 3 [(0, .ref o), (1, .ref (vd 0)), (2, .int x)] := hv
  generalize hQ : MQ below _ args s 0 0 A = Q
  have hP : va_P D vwCl (wVO cA 6 o vd vspoon vmark vcount vbodies) H := hP
  unfold fX8_dulls_k6 at h
  refine lv_aload_n hx hb dX8_dulls_0 rfl (lv_at hv 1 rfl) ?_
  refine lv_bipush (v := (11 : Int32)) hx hb dX8_dulls_1 (by decide) ?_
  obtain ⟨⟨vcount_1, vbodies_2⟩, hf_3, h⟩ := bd_ex h
  have sb : Sb D A H (wV cA vd vspoon vmark vcount vbodies) := Sb.pl [1, 2] (by decide) rfl hP hD hS hA
  refine calV (va_runV (As := [.int (11 : Int32)]) (rest := []) ⟨hx, hb, hml, hown, hts⟩ (c_X10_begins l G D cA vd _ vspoon vmark vcount vbodies (11 : Int32) vcount_1 vbodies_2 hf_3) (cwV 1 hts gX8_dulls_X10_begins rfl rfl rfl (by decide +kernel) ⟨Nat.le_of_ble_eq_true rfl, Nat.le_of_ble_eq_true rfl⟩) (pvV hE hK hS sb (va_recv hK hP (ci := 10) (q0 := 1) rfl rfl)) rfl rfl hv.1 rfl (lv_room (Nat.le_of_ble_eq_true rfl)) dX8_dulls_3 ⟨Nat.le_of_ble_eq_true rfl, Nat.le_of_ble_eq_true rfl⟩) hS sb (Jn.pl (ws := (wVO cA 6 o vd vspoon vmark vcount vbodies)) (w1 := (wV cA vd vspoon vmark vcount_1 vbodies_2)) (ws' := (wVO cA 6 o vd vspoon vmark vcount_1 vbodies_2)) [1, 2] rfl rfl rfl rfl hP hD) (fun H locs hP hD hS => ?_)
  have hP : va_P D vwCl (wVO cA 6 o vd vspoon vmark vcount_1 vbodies_2) H := hP
  have hD : va_D A (wVO cA 6 o vd vspoon vmark vcount_1 vbodies_2) := hD
  refine lv_aload_n hx hb dX8_dulls_6 rfl (lv_at hv 0 rfl) ?_
  refine lv_aload_n hx hb dX8_dulls_7 rfl (lv_at hv 1 rfl) ?_
  refine lv_iload_n hx hb dX8_dulls_8 rfl (lv_at hv 2 rfl) ?_
  obtain ⟨⟨r_4, vcount_5, vbodies_6⟩, hf_7, h⟩ := bd_ex h
  have sb := Sb.same hP hD hS hA
  refine calI (va_runU (As := [.ref (vd 0), .int x]) (rest := []) ⟨hx, hb, hml, hown, hts⟩ (c_X2_shines_k6 l G D cA o vd _ vspoon vmark vcount_1 vbodies_2 x r_4 vcount_5 vbodies_6 hf_7) (va_cwO 2 hts gX8_dulls_X2_shines_u17X6 rfl rfl rfl (by decide +kernel : Cond.code yX8_shines cX8_shines 3 (some .int) ∈ wsX8_dulls) (by decide +kernel) ⟨Nat.le_of_ble_eq_true rfl, Nat.le_of_ble_eq_true rfl⟩) (pvV hE hK hS sb (va_recv hK hP (ci := 6) (q0 := 0) rfl rfl)) rfl rfl hv.1 rfl (lv_room (Nat.le_of_ble_eq_true rfl)) dX8_dulls_9 ⟨Nat.le_of_ble_eq_true rfl, Nat.le_of_ble_eq_true rfl⟩) hS sb (Jn.same sb) (fun H locs hP hD hS => ?_)
  have hP : va_P D vwCl (wVO cA 6 o vd vspoon vmark vcount_5 vbodies_6) H := hP
  have hD : va_D A (wVO cA 6 o vd vspoon vmark vcount_5 vbodies_6) := hD
  refine lv_iconst (v := (2 : Int32)) hx hb dX8_dulls_12 (by decide) ?_
  refine lv_imul hx hb dX8_dulls_13 ?_
  have h := Option.some.inj h
  have ee0 : (r_4 * (2 : Int32)) = rR := congrArg (fun q => q.1) h
  have ee1 : vcount_5 = vcountR := congrArg (fun q => q.2.1) h
  have ee2 : vbodies_6 = vbodiesR := congrArg (fun q => q.2.2) h
  subst ee0
  subst ee1
  subst ee2
  rw [← hQ]
  exact retI hx hb hr hlk hK hP hD hS dX8_dulls_14 ⟨Nat.le_of_ble_eq_true rfl, Nat.le_of_ble_eq_true rfl⟩

def fX8_holds_k6 (x : Int32) (vmark : Int32) (vcount : Int32) (vbodies : Nat → Int32) : Option (Int32 × Int32 × (Nat → Int32)) :=
  bd (fX10_begins (12 : Int32) vcount vbodies) fun (vcount_1, vbodies_2) => some ((x - vmark), vcount_1, vbodies_2)
set_option maxHeartbeats 4000000 in
set_option maxRecDepth 100000 in
theorem c_X8_holds_k6 (l : Launch) (G : Nat → Nat) (D : va_G) (cA : Nat → ClassId) (o : Nat) (vd : Nat → Nat) (sz : Nat) (vspoon : Int32) (vmark : Int32) (vcount : Int32) (vbodies : Nat → Int32) (x : Int32) (rR : Int32) (vcountR : Int32) (vbodiesR : Nat → Int32) (h : fX8_holds_k6 x vmark vcount vbodies = some (rR, vcountR, vbodiesR)) : Met l yX8_holds wsX8_holds ({ frames := 1, cells := 0, slots := 0, locals := 21 } : Room) (PW G D (tyC cA) sz (wVO cA 6 o vd vspoon vmark vcount vbodies) [.ref o, .ref (vd 0), .int x]) (QI D (tyC cA) (va_A (wVO cA 6 o vd vspoon vmark vcount vbodies) sz) rR (wVO cA 6 o vd vspoon vmark vcountR vbodiesR)) 0 0 (va_A (wVO cA 6 o vd vspoon vmark vcount vbodies) sz) := by
  refine ent (cc := cX8_holds) (maxL := 3) (ret := (some .int)) (fun A => QI D (tyC cA) A rR (wVO cA 6 o vd vspoon vmark vcountR vbodiesR)) (by decide +kernel) rfl (Nat.le_of_ble_eq_true rfl) ?_
  intro p e s m args below meth c A ls H hx hb hml hr hlk hts hown hA hK hE hP hD hS hv hmm
  have hv : lv_has ls 3 [(0, .ref o), (1, .ref (vd 0)), (2, .int x)] := hv
  have in_10 : ∀ w ∈ u_ws RX10 TX10 4, w ∈ wsX8_holds := fun _ h => List.mem_cons_of_mem _ (List.mem_append_right _ h)
  have w_0 := hts (.fieldLink RX8 23 "SpoonsLast$Voice" "mark" "I") (List.mem_of_getElem? (i := 1) rfl)
  generalize hQ : MQ below _ args s 0 0 A = Q
  have hP : va_P D vwCl (wVO cA 6 o vd vspoon vmark vcount vbodies) H := hP
  unfold fX8_holds_k6 at h
  refine lv_aload_n hx hb dX8_holds_0 rfl (lv_at hv 1 rfl) ?_
  refine lv_bipush (v := (12 : Int32)) hx hb dX8_holds_1 (by decide) ?_
  obtain ⟨⟨vcount_1, vbodies_2⟩, hf_3, h⟩ := bd_ex h
  have sb : Sb D A H (wV cA vd vspoon vmark vcount vbodies) := Sb.pl [1, 2] (by decide) rfl hP hD hS hA
  refine calV (va_runV (As := [.int (12 : Int32)]) (rest := []) ⟨hx, hb, hml, hown, hts⟩ (c_X10_begins l G D cA vd _ vspoon vmark vcount vbodies (12 : Int32) vcount_1 vbodies_2 hf_3) (cwV 1 hts gX8_holds_X10_begins rfl rfl rfl (by decide +kernel) ⟨Nat.le_of_ble_eq_true rfl, Nat.le_of_ble_eq_true rfl⟩) (pvV hE hK hS sb (va_recv hK hP (ci := 10) (q0 := 1) rfl rfl)) rfl rfl hv.1 rfl (lv_room (Nat.le_of_ble_eq_true rfl)) dX8_holds_3 ⟨Nat.le_of_ble_eq_true rfl, Nat.le_of_ble_eq_true rfl⟩) hS sb (Jn.pl (ws := (wVO cA 6 o vd vspoon vmark vcount vbodies)) (w1 := (wV cA vd vspoon vmark vcount_1 vbodies_2)) (ws' := (wVO cA 6 o vd vspoon vmark vcount_1 vbodies_2)) [1, 2] rfl rfl rfl rfl hP hD) (fun H locs hP hD hS => ?_)
  have hP : va_P D vwCl (wVO cA 6 o vd vspoon vmark vcount_1 vbodies_2) H := hP
  have hD : va_D A (wVO cA 6 o vd vspoon vmark vcount_1 vbodies_2) := hD
  refine lv_iload_n hx hb dX8_holds_6 rfl (lv_at hv 2 rfl) ?_
  refine lv_aload_n hx hb dX8_holds_7 rfl (lv_at hv 1 rfl) ?_
  refine va_get (D := D) (ci := 10) (v := .int vmark) (C := RX10) (T := TX10) (N := 4) hx hb hts in_10 hown hK hP 1 rfl rfl 1 (by decide) w_0 (fun _ h9 => h9) rfl dX8_holds_8 ?_
  refine lv_isub hx hb dX8_holds_11 ?_
  have h := Option.some.inj h
  have ee0 : (x - vmark) = rR := congrArg (fun q => q.1) h
  have ee1 : vcount_1 = vcountR := congrArg (fun q => q.2.1) h
  have ee2 : vbodies_2 = vbodiesR := congrArg (fun q => q.2.2) h
  subst ee0
  subst ee1
  subst ee2
  rw [← hQ]
  exact retI hx hb hr hlk hK hP hD hS dX8_holds_12 ⟨Nat.le_of_ble_eq_true rfl, Nat.le_of_ble_eq_true rfl⟩

def fX8_tells_k6 (x : Int32) (vspoon : Int32) (vmark : Int32) (vcount : Int32) (vbodies : Nat → Int32) : Option (Int32 × Int32 × (Nat → Int32)) :=
  bd (fX10_begins (13 : Int32) vcount vbodies) fun (vcount_1, vbodies_2) => bd (fX8_dulls_k6 x vspoon vcount_1 vbodies_2) fun (r_4, vcount_5, vbodies_6) => bd (fX8_holds_k6 x vmark vcount_5 vbodies_6) fun (r_8, vcount_9, vbodies_10) => some ((r_4 ^^^ r_8), vcount_9, vbodies_10)
set_option maxHeartbeats 4000000 in
set_option maxRecDepth 100000 in
theorem c_X8_tells_k6 (l : Launch) (G : Nat → Nat) (D : va_G) (cA : Nat → ClassId) (o : Nat) (vd : Nat → Nat) (sz : Nat) (vspoon : Int32) (vmark : Int32) (vcount : Int32) (vbodies : Nat → Int32) (x : Int32) (rR : Int32) (vcountR : Int32) (vbodiesR : Nat → Int32) (h : fX8_tells_k6 x vspoon vmark vcount vbodies = some (rR, vcountR, vbodiesR)) : Met l yX8_tells wsX8_tells ({ frames := 4, cells := 0, slots := 0, locals := 87 } : Room) (PW G D (tyC cA) sz (wVO cA 6 o vd vspoon vmark vcount vbodies) [.ref o, .ref (vd 0), .int x]) (QI D (tyC cA) (va_A (wVO cA 6 o vd vspoon vmark vcount vbodies) sz) rR (wVO cA 6 o vd vspoon vmark vcountR vbodiesR)) 0 0 (va_A (wVO cA 6 o vd vspoon vmark vcount vbodies) sz) := by
  refine ent (cc := cX8_tells) (maxL := 3) (ret := (some .int)) (fun A => QI D (tyC cA) A rR (wVO cA 6 o vd vspoon vmark vcountR vbodiesR)) (by decide +kernel) rfl (Nat.le_of_ble_eq_true rfl) ?_
  intro p e s m args below meth c A ls H hx hb hml hr hlk hts hown hA hK hE hP hD hS hv hmm
  have hv : lv_has ls 3 [(0, .ref o), (1, .ref (vd 0)), (2, .int x)] := hv
  generalize hQ : MQ below _ args s 0 0 A = Q
  have hP : va_P D vwCl (wVO cA 6 o vd vspoon vmark vcount vbodies) H := hP
  unfold fX8_tells_k6 at h
  refine lv_aload_n hx hb dX8_tells_0 rfl (lv_at hv 1 rfl) ?_
  refine lv_bipush (v := (13 : Int32)) hx hb dX8_tells_1 (by decide) ?_
  obtain ⟨⟨vcount_1, vbodies_2⟩, hf_3, h⟩ := bd_ex h
  have sb : Sb D A H (wV cA vd vspoon vmark vcount vbodies) := Sb.pl [1, 2] (by decide) rfl hP hD hS hA
  refine calV (va_runV (As := [.int (13 : Int32)]) (rest := []) ⟨hx, hb, hml, hown, hts⟩ (c_X10_begins l G D cA vd _ vspoon vmark vcount vbodies (13 : Int32) vcount_1 vbodies_2 hf_3) (cwV 1 hts gX8_tells_X10_begins rfl rfl rfl (by decide +kernel) ⟨Nat.le_of_ble_eq_true rfl, Nat.le_of_ble_eq_true rfl⟩) (pvV hE hK hS sb (va_recv hK hP (ci := 10) (q0 := 1) rfl rfl)) rfl rfl hv.1 rfl (lv_room (Nat.le_of_ble_eq_true rfl)) dX8_tells_3 ⟨Nat.le_of_ble_eq_true rfl, Nat.le_of_ble_eq_true rfl⟩) hS sb (Jn.pl (ws := (wVO cA 6 o vd vspoon vmark vcount vbodies)) (w1 := (wV cA vd vspoon vmark vcount_1 vbodies_2)) (ws' := (wVO cA 6 o vd vspoon vmark vcount_1 vbodies_2)) [1, 2] rfl rfl rfl rfl hP hD) (fun H locs hP hD hS => ?_)
  have hP : va_P D vwCl (wVO cA 6 o vd vspoon vmark vcount_1 vbodies_2) H := hP
  have hD : va_D A (wVO cA 6 o vd vspoon vmark vcount_1 vbodies_2) := hD
  refine lv_aload_n hx hb dX8_tells_6 rfl (lv_at hv 0 rfl) ?_
  refine lv_aload_n hx hb dX8_tells_7 rfl (lv_at hv 1 rfl) ?_
  refine lv_iload_n hx hb dX8_tells_8 rfl (lv_at hv 2 rfl) ?_
  obtain ⟨⟨r_4, vcount_5, vbodies_6⟩, hf_7, h⟩ := bd_ex h
  have sb := Sb.same hP hD hS hA
  refine calI (va_runU (As := [.ref (vd 0), .int x]) (rest := []) ⟨hx, hb, hml, hown, hts⟩ (c_X8_dulls_k6 l G D cA o vd _ vspoon vmark vcount_1 vbodies_2 x r_4 vcount_5 vbodies_6 hf_7) (va_cwU 2 hts gX8_tells_X8_dulls_u26X6 rfl rfl rfl rfl (by decide +kernel) ⟨Nat.le_of_ble_eq_true rfl, Nat.le_of_ble_eq_true rfl⟩) (pvV hE hK hS sb (va_recv hK hP (ci := 6) (q0 := 0) rfl rfl)) rfl rfl hv.1 rfl (lv_room (Nat.le_of_ble_eq_true rfl)) dX8_tells_9 ⟨Nat.le_of_ble_eq_true rfl, Nat.le_of_ble_eq_true rfl⟩) hS sb (Jn.same sb) (fun H locs hP hD hS => ?_)
  have hP : va_P D vwCl (wVO cA 6 o vd vspoon vmark vcount_5 vbodies_6) H := hP
  have hD : va_D A (wVO cA 6 o vd vspoon vmark vcount_5 vbodies_6) := hD
  refine lv_aload_n hx hb dX8_tells_12 rfl (lv_at hv 0 rfl) ?_
  refine lv_aload_n hx hb dX8_tells_13 rfl (lv_at hv 1 rfl) ?_
  refine lv_iload_n hx hb dX8_tells_14 rfl (lv_at hv 2 rfl) ?_
  obtain ⟨⟨r_8, vcount_9, vbodies_10⟩, hf_11, h⟩ := bd_ex h
  have sb := Sb.same hP hD hS hA
  refine calI (va_runU (As := [.ref (vd 0), .int x]) (rest := [.int r_4]) ⟨hx, hb, hml, hown, hts⟩ (c_X8_holds_k6 l G D cA o vd _ vspoon vmark vcount_5 vbodies_6 x r_8 vcount_9 vbodies_10 hf_11) (va_cwU 2 hts gX8_tells_X8_holds_u29X6 rfl rfl rfl rfl (by decide +kernel) ⟨Nat.le_of_ble_eq_true rfl, Nat.le_of_ble_eq_true rfl⟩) (pvV hE hK hS sb (va_recv hK hP (ci := 6) (q0 := 0) rfl rfl)) rfl rfl hv.1 rfl (lv_room (Nat.le_of_ble_eq_true rfl)) dX8_tells_15 ⟨Nat.le_of_ble_eq_true rfl, Nat.le_of_ble_eq_true rfl⟩) hS sb (Jn.same sb) (fun H locs hP hD hS => ?_)
  have hP : va_P D vwCl (wVO cA 6 o vd vspoon vmark vcount_9 vbodies_10) H := hP
  have hD : va_D A (wVO cA 6 o vd vspoon vmark vcount_9 vbodies_10) := hD
  refine lv_ixor hx hb dX8_tells_18 ?_
  have h := Option.some.inj h
  have ee0 : (r_4 ^^^ r_8) = rR := congrArg (fun q => q.1) h
  have ee1 : vcount_9 = vcountR := congrArg (fun q => q.2.1) h
  have ee2 : vbodies_10 = vbodiesR := congrArg (fun q => q.2.2) h
  subst ee0
  subst ee1
  subst ee2
  rw [← hQ]
  exact retI hx hb hr hlk hK hP hD hS dX8_tells_19 ⟨Nat.le_of_ble_eq_true rfl, Nat.le_of_ble_eq_true rfl⟩

def fX6_tells_k6 (x : Int32) (vspoon : Int32) (vmark : Int32) (vcount : Int32) (vbodies : Nat → Int32) : Option (Int32 × Int32 × (Nat → Int32)) :=
  bd (fX10_begins (50 : Int32) vcount vbodies) fun (vcount_1, vbodies_2) => bd (fX8_tells_k6 x vspoon vmark vcount_1 vbodies_2) fun (r_4, vcount_5, vbodies_6) => bd (fX2_shines_k6 (2 : Int32) vspoon vcount_5 vbodies_6) fun (r_8, vcount_9, vbodies_10) => some ((r_4 - r_8), vcount_9, vbodies_10)
set_option maxHeartbeats 4000000 in
set_option maxRecDepth 100000 in
theorem c_X6_tells_k6 (l : Launch) (G : Nat → Nat) (D : va_G) (cA : Nat → ClassId) (o : Nat) (vd : Nat → Nat) (sz : Nat) (vspoon : Int32) (vmark : Int32) (vcount : Int32) (vbodies : Nat → Int32) (x : Int32) (rR : Int32) (vcountR : Int32) (vbodiesR : Nat → Int32) (h : fX6_tells_k6 x vspoon vmark vcount vbodies = some (rR, vcountR, vbodiesR)) : Met l yX6_tells wsX6_tells ({ frames := 5, cells := 0, slots := 0, locals := 109 } : Room) (PW G D (tyC cA) sz (wVO cA 6 o vd vspoon vmark vcount vbodies) [.ref o, .ref (vd 0), .int x]) (QI D (tyC cA) (va_A (wVO cA 6 o vd vspoon vmark vcount vbodies) sz) rR (wVO cA 6 o vd vspoon vmark vcountR vbodiesR)) 0 0 (va_A (wVO cA 6 o vd vspoon vmark vcount vbodies) sz) := by
  refine ent (cc := cX6_tells) (maxL := 3) (ret := (some .int)) (fun A => QI D (tyC cA) A rR (wVO cA 6 o vd vspoon vmark vcountR vbodiesR)) (by decide +kernel) rfl (Nat.le_of_ble_eq_true rfl) ?_
  intro p e s m args below meth c A ls H hx hb hml hr hlk hts hown hA hK hE hP hD hS hv hmm
  have hv : lv_has ls 3 [(0, .ref o), (1, .ref (vd 0)), (2, .int x)] := hv
  generalize hQ : MQ below _ args s 0 0 A = Q
  have hP : va_P D vwCl (wVO cA 6 o vd vspoon vmark vcount vbodies) H := hP
  unfold fX6_tells_k6 at h
  refine lv_aload_n hx hb dX6_tells_0 rfl (lv_at hv 1 rfl) ?_
  refine lv_bipush (v := (50 : Int32)) hx hb dX6_tells_1 (by decide) ?_
  obtain ⟨⟨vcount_1, vbodies_2⟩, hf_3, h⟩ := bd_ex h
  have sb : Sb D A H (wV cA vd vspoon vmark vcount vbodies) := Sb.pl [1, 2] (by decide) rfl hP hD hS hA
  refine calV (va_runV (As := [.int (50 : Int32)]) (rest := []) ⟨hx, hb, hml, hown, hts⟩ (c_X10_begins l G D cA vd _ vspoon vmark vcount vbodies (50 : Int32) vcount_1 vbodies_2 hf_3) (cwV 1 hts gX6_tells_X10_begins rfl rfl rfl (by decide +kernel) ⟨Nat.le_of_ble_eq_true rfl, Nat.le_of_ble_eq_true rfl⟩) (pvV hE hK hS sb (va_recv hK hP (ci := 10) (q0 := 1) rfl rfl)) rfl rfl hv.1 rfl (lv_room (Nat.le_of_ble_eq_true rfl)) dX6_tells_3 ⟨Nat.le_of_ble_eq_true rfl, Nat.le_of_ble_eq_true rfl⟩) hS sb (Jn.pl (ws := (wVO cA 6 o vd vspoon vmark vcount vbodies)) (w1 := (wV cA vd vspoon vmark vcount_1 vbodies_2)) (ws' := (wVO cA 6 o vd vspoon vmark vcount_1 vbodies_2)) [1, 2] rfl rfl rfl rfl hP hD) (fun H locs hP hD hS => ?_)
  have hP : va_P D vwCl (wVO cA 6 o vd vspoon vmark vcount_1 vbodies_2) H := hP
  have hD : va_D A (wVO cA 6 o vd vspoon vmark vcount_1 vbodies_2) := hD
  refine lv_aload_n hx hb dX6_tells_6 rfl (lv_at hv 0 rfl) ?_
  refine lv_aload_n hx hb dX6_tells_7 rfl (lv_at hv 1 rfl) ?_
  refine lv_iload_n hx hb dX6_tells_8 rfl (lv_at hv 2 rfl) ?_
  obtain ⟨⟨r_4, vcount_5, vbodies_6⟩, hf_7, h⟩ := bd_ex h
  have sb := Sb.same hP hD hS hA
  refine calI (runSU2 (n := 2) (x := ⟨RX2, "tells", "(LSpoonsLast$Voice;I)I"⟩) (y := yX8_tells) (As := [.ref (vd 0), .int x]) (rest := []) hE (hK.1 6 _ rfl).2 ⟨hx, hb, hml, hown, hts⟩ (c_X8_tells_k6 l G D cA o vd _ vspoon vmark vcount_1 vbodies_2 x r_4 vcount_5 vbodies_6 hf_7) rfl (by decide +kernel) (by decide +kernel) (by decide +kernel) (by decide +kernel) (by decide +kernel) (by decide +kernel) (fun _ h => List.mem_append_right _ (List.mem_append_right _ (List.mem_append_right _ h))) List.mem_cons_self (by decide +kernel) (by decide +kernel) ⟨rfl, rfl⟩ ⟨Nat.le_of_ble_eq_true rfl, Nat.le_of_ble_eq_true rfl⟩ (pvV hE hK hS sb (va_recv hK hP (ci := 6) (q0 := 0) rfl rfl)) rfl rfl hv.1 rfl (lv_room (Nat.le_of_ble_eq_true rfl)) dX6_tells_9 ⟨Nat.le_of_ble_eq_true rfl, Nat.le_of_ble_eq_true rfl⟩) hS sb (Jn.same sb) (fun H locs hP hD hS => ?_)
  have hP : va_P D vwCl (wVO cA 6 o vd vspoon vmark vcount_5 vbodies_6) H := hP
  have hD : va_D A (wVO cA 6 o vd vspoon vmark vcount_5 vbodies_6) := hD
  refine lv_aload_n hx hb dX6_tells_12 rfl (lv_at hv 0 rfl) ?_
  refine lv_aload_n hx hb dX6_tells_13 rfl (lv_at hv 1 rfl) ?_
  refine lv_iconst (v := (2 : Int32)) hx hb dX6_tells_14 (by decide) ?_
  obtain ⟨⟨r_8, vcount_9, vbodies_10⟩, hf_11, h⟩ := bd_ex h
  have sb := Sb.same hP hD hS hA
  refine calI (va_runU (As := [.ref (vd 0), .int (2 : Int32)]) (rest := [.int r_4]) ⟨hx, hb, hml, hown, hts⟩ (c_X2_shines_k6 l G D cA o vd _ vspoon vmark vcount_5 vbodies_6 (2 : Int32) r_8 vcount_9 vbodies_10 hf_11) (va_cwU 2 hts gX6_tells_X2_shines_u25X6 rfl rfl rfl rfl (by decide +kernel) ⟨Nat.le_of_ble_eq_true rfl, Nat.le_of_ble_eq_true rfl⟩) (pvV hE hK hS sb (va_recv hK hP (ci := 6) (q0 := 0) rfl rfl)) rfl rfl hv.1 rfl (lv_room (Nat.le_of_ble_eq_true rfl)) dX6_tells_15 ⟨Nat.le_of_ble_eq_true rfl, Nat.le_of_ble_eq_true rfl⟩) hS sb (Jn.same sb) (fun H locs hP hD hS => ?_)
  have hP : va_P D vwCl (wVO cA 6 o vd vspoon vmark vcount_9 vbodies_10) H := hP
  have hD : va_D A (wVO cA 6 o vd vspoon vmark vcount_9 vbodies_10) := hD
  refine lv_isub hx hb dX6_tells_18 ?_
  have h := Option.some.inj h
  have ee0 : (r_4 - r_8) = rR := congrArg (fun q => q.1) h
  have ee1 : vcount_9 = vcountR := congrArg (fun q => q.2.1) h
  have ee2 : vbodies_10 = vbodiesR := congrArg (fun q => q.2.2) h
  subst ee0
  subst ee1
  subst ee2
  rw [← hQ]
  exact retI hx hb hr hlk hK hP hD hS dX6_tells_19 ⟨Nat.le_of_ble_eq_true rfl, Nat.le_of_ble_eq_true rfl⟩

def fX8_shines_k4 (x : Int32) (vspoon : Int32) (vcount : Int32) (vbodies : Nat → Int32) : Option (Int32 × Int32 × (Nat → Int32)) :=
  bd (fX10_begins (10 : Int32) vcount vbodies) fun (vcount_1, vbodies_2) => some ((x + vspoon), vcount_1, vbodies_2)
set_option maxHeartbeats 4000000 in
set_option maxRecDepth 100000 in
theorem c_X8_shines_k4 (l : Launch) (G : Nat → Nat) (D : va_G) (cA : Nat → ClassId) (o : Nat) (vd : Nat → Nat) (sz : Nat) (vspoon : Int32) (vmark : Int32) (vcount : Int32) (vbodies : Nat → Int32) (x : Int32) (rR : Int32) (vcountR : Int32) (vbodiesR : Nat → Int32) (h : fX8_shines_k4 x vspoon vcount vbodies = some (rR, vcountR, vbodiesR)) : Met l yX8_shines wsX8_shines ({ frames := 1, cells := 0, slots := 0, locals := 21 } : Room) (PW G D (tyC cA) sz (wVO cA 4 o vd vspoon vmark vcount vbodies) [.ref o, .ref (vd 0), .int x]) (QI D (tyC cA) (va_A (wVO cA 4 o vd vspoon vmark vcount vbodies) sz) rR (wVO cA 4 o vd vspoon vmark vcountR vbodiesR)) 0 0 (va_A (wVO cA 4 o vd vspoon vmark vcount vbodies) sz) := by
  refine ent (cc := cX8_shines) (maxL := 3) (ret := (some .int)) (fun A => QI D (tyC cA) A rR (wVO cA 4 o vd vspoon vmark vcountR vbodiesR)) (by decide +kernel) rfl (Nat.le_of_ble_eq_true rfl) ?_
  intro p e s m args below meth c A ls H hx hb hml hr hlk hts hown hA hK hE hP hD hS hv hmm
  have hv : lv_has ls 3 [(0, .ref o), (1, .ref (vd 0)), (2, .int x)] := hv
  have in_10 : ∀ w ∈ u_ws RX10 TX10 4, w ∈ wsX8_shines := fun _ h => List.mem_cons_of_mem _ (List.mem_append_right _ h)
  have w_0 := hts (.fieldLink RX8 13 "SpoonsLast$Voice" "spoon" "I") (List.mem_of_getElem? (i := 1) rfl)
  generalize hQ : MQ below _ args s 0 0 A = Q
  have hP : va_P D vwCl (wVO cA 4 o vd vspoon vmark vcount vbodies) H := hP
  unfold fX8_shines_k4 at h
  refine lv_aload_n hx hb dX8_shines_0 rfl (lv_at hv 1 rfl) ?_
  refine lv_bipush (v := (10 : Int32)) hx hb dX8_shines_1 (by decide) ?_
  obtain ⟨⟨vcount_1, vbodies_2⟩, hf_3, h⟩ := bd_ex h
  have sb : Sb D A H (wV cA vd vspoon vmark vcount vbodies) := Sb.pl [1, 2] (by decide) rfl hP hD hS hA
  refine calV (va_runV (As := [.int (10 : Int32)]) (rest := []) ⟨hx, hb, hml, hown, hts⟩ (c_X10_begins l G D cA vd _ vspoon vmark vcount vbodies (10 : Int32) vcount_1 vbodies_2 hf_3) (cwV 1 hts gX8_shines_X10_begins rfl rfl rfl (by decide +kernel) ⟨Nat.le_of_ble_eq_true rfl, Nat.le_of_ble_eq_true rfl⟩) (pvV hE hK hS sb (va_recv hK hP (ci := 10) (q0 := 1) rfl rfl)) rfl rfl hv.1 rfl (lv_room (Nat.le_of_ble_eq_true rfl)) dX8_shines_3 ⟨Nat.le_of_ble_eq_true rfl, Nat.le_of_ble_eq_true rfl⟩) hS sb (Jn.pl (ws := (wVO cA 4 o vd vspoon vmark vcount vbodies)) (w1 := (wV cA vd vspoon vmark vcount_1 vbodies_2)) (ws' := (wVO cA 4 o vd vspoon vmark vcount_1 vbodies_2)) [1, 2] rfl rfl rfl rfl hP hD) (fun H locs hP hD hS => ?_)
  have hP : va_P D vwCl (wVO cA 4 o vd vspoon vmark vcount_1 vbodies_2) H := hP
  have hD : va_D A (wVO cA 4 o vd vspoon vmark vcount_1 vbodies_2) := hD
  refine lv_iload_n hx hb dX8_shines_6 rfl (lv_at hv 2 rfl) ?_
  refine lv_aload_n hx hb dX8_shines_7 rfl (lv_at hv 1 rfl) ?_
  refine va_get (D := D) (ci := 10) (v := .int vspoon) (C := RX10) (T := TX10) (N := 4) hx hb hts in_10 hown hK hP 1 rfl rfl 0 (by decide) w_0 (fun _ h9 => h9) rfl dX8_shines_8 ?_
  refine lv_iadd hx hb dX8_shines_11 ?_
  have h := Option.some.inj h
  have ee0 : (x + vspoon) = rR := congrArg (fun q => q.1) h
  have ee1 : vcount_1 = vcountR := congrArg (fun q => q.2.1) h
  have ee2 : vbodies_2 = vbodiesR := congrArg (fun q => q.2.2) h
  subst ee0
  subst ee1
  subst ee2
  rw [← hQ]
  exact retI hx hb hr hlk hK hP hD hS dX8_shines_12 ⟨Nat.le_of_ble_eq_true rfl, Nat.le_of_ble_eq_true rfl⟩

def fX8_dulls_k4 (x : Int32) (vspoon : Int32) (vcount : Int32) (vbodies : Nat → Int32) : Option (Int32 × Int32 × (Nat → Int32)) :=
  bd (fX10_begins (11 : Int32) vcount vbodies) fun (vcount_1, vbodies_2) => bd (fX8_shines_k4 x vspoon vcount_1 vbodies_2) fun (r_4, vcount_5, vbodies_6) => some ((r_4 * (2 : Int32)), vcount_5, vbodies_6)
set_option maxHeartbeats 4000000 in
set_option maxRecDepth 100000 in
theorem c_X8_dulls_k4 (l : Launch) (G : Nat → Nat) (D : va_G) (cA : Nat → ClassId) (o : Nat) (vd : Nat → Nat) (sz : Nat) (vspoon : Int32) (vmark : Int32) (vcount : Int32) (vbodies : Nat → Int32) (x : Int32) (rR : Int32) (vcountR : Int32) (vbodiesR : Nat → Int32) (h : fX8_dulls_k4 x vspoon vcount vbodies = some (rR, vcountR, vbodiesR)) : Met l yX8_dulls wsX8_dulls ({ frames := 2, cells := 0, slots := 0, locals := 43 } : Room) (PW G D (tyC cA) sz (wVO cA 4 o vd vspoon vmark vcount vbodies) [.ref o, .ref (vd 0), .int x]) (QI D (tyC cA) (va_A (wVO cA 4 o vd vspoon vmark vcount vbodies) sz) rR (wVO cA 4 o vd vspoon vmark vcountR vbodiesR)) 0 0 (va_A (wVO cA 4 o vd vspoon vmark vcount vbodies) sz) := by
  refine ent (cc := cX8_dulls) (maxL := 3) (ret := (some .int)) (fun A => QI D (tyC cA) A rR (wVO cA 4 o vd vspoon vmark vcountR vbodiesR)) (by decide +kernel) rfl (Nat.le_of_ble_eq_true rfl) ?_
  intro p e s m args below meth c A ls H hx hb hml hr hlk hts hown hA hK hE hP hD hS hv hmm
  have hv : lv_has ls 3 [(0, .ref o), (1, .ref (vd 0)), (2, .int x)] := hv
  generalize hQ : MQ below _ args s 0 0 A = Q
  have hP : va_P D vwCl (wVO cA 4 o vd vspoon vmark vcount vbodies) H := hP
  unfold fX8_dulls_k4 at h
  refine lv_aload_n hx hb dX8_dulls_0 rfl (lv_at hv 1 rfl) ?_
  refine lv_bipush (v := (11 : Int32)) hx hb dX8_dulls_1 (by decide) ?_
  obtain ⟨⟨vcount_1, vbodies_2⟩, hf_3, h⟩ := bd_ex h
  have sb : Sb D A H (wV cA vd vspoon vmark vcount vbodies) := Sb.pl [1, 2] (by decide) rfl hP hD hS hA
  refine calV (va_runV (As := [.int (11 : Int32)]) (rest := []) ⟨hx, hb, hml, hown, hts⟩ (c_X10_begins l G D cA vd _ vspoon vmark vcount vbodies (11 : Int32) vcount_1 vbodies_2 hf_3) (cwV 1 hts gX8_dulls_X10_begins rfl rfl rfl (by decide +kernel) ⟨Nat.le_of_ble_eq_true rfl, Nat.le_of_ble_eq_true rfl⟩) (pvV hE hK hS sb (va_recv hK hP (ci := 10) (q0 := 1) rfl rfl)) rfl rfl hv.1 rfl (lv_room (Nat.le_of_ble_eq_true rfl)) dX8_dulls_3 ⟨Nat.le_of_ble_eq_true rfl, Nat.le_of_ble_eq_true rfl⟩) hS sb (Jn.pl (ws := (wVO cA 4 o vd vspoon vmark vcount vbodies)) (w1 := (wV cA vd vspoon vmark vcount_1 vbodies_2)) (ws' := (wVO cA 4 o vd vspoon vmark vcount_1 vbodies_2)) [1, 2] rfl rfl rfl rfl hP hD) (fun H locs hP hD hS => ?_)
  have hP : va_P D vwCl (wVO cA 4 o vd vspoon vmark vcount_1 vbodies_2) H := hP
  have hD : va_D A (wVO cA 4 o vd vspoon vmark vcount_1 vbodies_2) := hD
  refine lv_aload_n hx hb dX8_dulls_6 rfl (lv_at hv 0 rfl) ?_
  refine lv_aload_n hx hb dX8_dulls_7 rfl (lv_at hv 1 rfl) ?_
  refine lv_iload_n hx hb dX8_dulls_8 rfl (lv_at hv 2 rfl) ?_
  obtain ⟨⟨r_4, vcount_5, vbodies_6⟩, hf_7, h⟩ := bd_ex h
  have sb := Sb.same hP hD hS hA
  refine calI (va_runU (As := [.ref (vd 0), .int x]) (rest := []) ⟨hx, hb, hml, hown, hts⟩ (c_X8_shines_k4 l G D cA o vd _ vspoon vmark vcount_1 vbodies_2 x r_4 vcount_5 vbodies_6 hf_7) (va_cwU 2 hts gX8_dulls_X8_shines_u17X4 rfl rfl rfl rfl (by decide +kernel) ⟨Nat.le_of_ble_eq_true rfl, Nat.le_of_ble_eq_true rfl⟩) (pvV hE hK hS sb (va_recv hK hP (ci := 4) (q0 := 0) rfl rfl)) rfl rfl hv.1 rfl (lv_room (Nat.le_of_ble_eq_true rfl)) dX8_dulls_9 ⟨Nat.le_of_ble_eq_true rfl, Nat.le_of_ble_eq_true rfl⟩) hS sb (Jn.same sb) (fun H locs hP hD hS => ?_)
  have hP : va_P D vwCl (wVO cA 4 o vd vspoon vmark vcount_5 vbodies_6) H := hP
  have hD : va_D A (wVO cA 4 o vd vspoon vmark vcount_5 vbodies_6) := hD
  refine lv_iconst (v := (2 : Int32)) hx hb dX8_dulls_12 (by decide) ?_
  refine lv_imul hx hb dX8_dulls_13 ?_
  have h := Option.some.inj h
  have ee0 : (r_4 * (2 : Int32)) = rR := congrArg (fun q => q.1) h
  have ee1 : vcount_5 = vcountR := congrArg (fun q => q.2.1) h
  have ee2 : vbodies_6 = vbodiesR := congrArg (fun q => q.2.2) h
  subst ee0
  subst ee1
  subst ee2
  rw [← hQ]
  exact retI hx hb hr hlk hK hP hD hS dX8_dulls_14 ⟨Nat.le_of_ble_eq_true rfl, Nat.le_of_ble_eq_true rfl⟩

def fX8_holds_k4 (x : Int32) (vmark : Int32) (vcount : Int32) (vbodies : Nat → Int32) : Option (Int32 × Int32 × (Nat → Int32)) :=
  bd (fX10_begins (12 : Int32) vcount vbodies) fun (vcount_1, vbodies_2) => some ((x - vmark), vcount_1, vbodies_2)
set_option maxHeartbeats 4000000 in
set_option maxRecDepth 100000 in
theorem c_X8_holds_k4 (l : Launch) (G : Nat → Nat) (D : va_G) (cA : Nat → ClassId) (o : Nat) (vd : Nat → Nat) (sz : Nat) (vspoon : Int32) (vmark : Int32) (vcount : Int32) (vbodies : Nat → Int32) (x : Int32) (rR : Int32) (vcountR : Int32) (vbodiesR : Nat → Int32) (h : fX8_holds_k4 x vmark vcount vbodies = some (rR, vcountR, vbodiesR)) : Met l yX8_holds wsX8_holds ({ frames := 1, cells := 0, slots := 0, locals := 21 } : Room) (PW G D (tyC cA) sz (wVO cA 4 o vd vspoon vmark vcount vbodies) [.ref o, .ref (vd 0), .int x]) (QI D (tyC cA) (va_A (wVO cA 4 o vd vspoon vmark vcount vbodies) sz) rR (wVO cA 4 o vd vspoon vmark vcountR vbodiesR)) 0 0 (va_A (wVO cA 4 o vd vspoon vmark vcount vbodies) sz) := by
  refine ent (cc := cX8_holds) (maxL := 3) (ret := (some .int)) (fun A => QI D (tyC cA) A rR (wVO cA 4 o vd vspoon vmark vcountR vbodiesR)) (by decide +kernel) rfl (Nat.le_of_ble_eq_true rfl) ?_
  intro p e s m args below meth c A ls H hx hb hml hr hlk hts hown hA hK hE hP hD hS hv hmm
  have hv : lv_has ls 3 [(0, .ref o), (1, .ref (vd 0)), (2, .int x)] := hv
  have in_10 : ∀ w ∈ u_ws RX10 TX10 4, w ∈ wsX8_holds := fun _ h => List.mem_cons_of_mem _ (List.mem_append_right _ h)
  have w_0 := hts (.fieldLink RX8 23 "SpoonsLast$Voice" "mark" "I") (List.mem_of_getElem? (i := 1) rfl)
  generalize hQ : MQ below _ args s 0 0 A = Q
  have hP : va_P D vwCl (wVO cA 4 o vd vspoon vmark vcount vbodies) H := hP
  unfold fX8_holds_k4 at h
  refine lv_aload_n hx hb dX8_holds_0 rfl (lv_at hv 1 rfl) ?_
  refine lv_bipush (v := (12 : Int32)) hx hb dX8_holds_1 (by decide) ?_
  obtain ⟨⟨vcount_1, vbodies_2⟩, hf_3, h⟩ := bd_ex h
  have sb : Sb D A H (wV cA vd vspoon vmark vcount vbodies) := Sb.pl [1, 2] (by decide) rfl hP hD hS hA
  refine calV (va_runV (As := [.int (12 : Int32)]) (rest := []) ⟨hx, hb, hml, hown, hts⟩ (c_X10_begins l G D cA vd _ vspoon vmark vcount vbodies (12 : Int32) vcount_1 vbodies_2 hf_3) (cwV 1 hts gX8_holds_X10_begins rfl rfl rfl (by decide +kernel) ⟨Nat.le_of_ble_eq_true rfl, Nat.le_of_ble_eq_true rfl⟩) (pvV hE hK hS sb (va_recv hK hP (ci := 10) (q0 := 1) rfl rfl)) rfl rfl hv.1 rfl (lv_room (Nat.le_of_ble_eq_true rfl)) dX8_holds_3 ⟨Nat.le_of_ble_eq_true rfl, Nat.le_of_ble_eq_true rfl⟩) hS sb (Jn.pl (ws := (wVO cA 4 o vd vspoon vmark vcount vbodies)) (w1 := (wV cA vd vspoon vmark vcount_1 vbodies_2)) (ws' := (wVO cA 4 o vd vspoon vmark vcount_1 vbodies_2)) [1, 2] rfl rfl rfl rfl hP hD) (fun H locs hP hD hS => ?_)
  have hP : va_P D vwCl (wVO cA 4 o vd vspoon vmark vcount_1 vbodies_2) H := hP
  have hD : va_D A (wVO cA 4 o vd vspoon vmark vcount_1 vbodies_2) := hD
  refine lv_iload_n hx hb dX8_holds_6 rfl (lv_at hv 2 rfl) ?_
  refine lv_aload_n hx hb dX8_holds_7 rfl (lv_at hv 1 rfl) ?_
  refine va_get (D := D) (ci := 10) (v := .int vmark) (C := RX10) (T := TX10) (N := 4) hx hb hts in_10 hown hK hP 1 rfl rfl 1 (by decide) w_0 (fun _ h9 => h9) rfl dX8_holds_8 ?_
  refine lv_isub hx hb dX8_holds_11 ?_
  have h := Option.some.inj h
  have ee0 : (x - vmark) = rR := congrArg (fun q => q.1) h
  have ee1 : vcount_1 = vcountR := congrArg (fun q => q.2.1) h
  have ee2 : vbodies_2 = vbodiesR := congrArg (fun q => q.2.2) h
  subst ee0
  subst ee1
  subst ee2
  rw [← hQ]
  exact retI hx hb hr hlk hK hP hD hS dX8_holds_12 ⟨Nat.le_of_ble_eq_true rfl, Nat.le_of_ble_eq_true rfl⟩

def fX0_dulls_k4 (x : Int32) (vspoon : Int32) (vmark : Int32) (vcount : Int32) (vbodies : Nat → Int32) : Option (Int32 × Int32 × (Nat → Int32)) :=
  bd (fX10_begins (30 : Int32) vcount vbodies) fun (vcount_1, vbodies_2) => bd (fX8_dulls_k4 x vspoon vcount_1 vbodies_2) fun (r_4, vcount_5, vbodies_6) => bd (fX8_holds_k4 (1 : Int32) vmark vcount_5 vbodies_6) fun (r_8, vcount_9, vbodies_10) => some ((r_4 - r_8), vcount_9, vbodies_10)
set_option maxHeartbeats 4000000 in
set_option maxRecDepth 100000 in
theorem c_X0_dulls_k4 (l : Launch) (G : Nat → Nat) (D : va_G) (cA : Nat → ClassId) (o : Nat) (vd : Nat → Nat) (sz : Nat) (vspoon : Int32) (vmark : Int32) (vcount : Int32) (vbodies : Nat → Int32) (x : Int32) (rR : Int32) (vcountR : Int32) (vbodiesR : Nat → Int32) (h : fX0_dulls_k4 x vspoon vmark vcount vbodies = some (rR, vcountR, vbodiesR)) : Met l yX0_dulls wsX0_dulls ({ frames := 3, cells := 0, slots := 0, locals := 65 } : Room) (PW G D (tyC cA) sz (wVO cA 4 o vd vspoon vmark vcount vbodies) [.ref o, .ref (vd 0), .int x]) (QI D (tyC cA) (va_A (wVO cA 4 o vd vspoon vmark vcount vbodies) sz) rR (wVO cA 4 o vd vspoon vmark vcountR vbodiesR)) 0 0 (va_A (wVO cA 4 o vd vspoon vmark vcount vbodies) sz) := by
  refine ent (cc := cX0_dulls) (maxL := 3) (ret := (some .int)) (fun A => QI D (tyC cA) A rR (wVO cA 4 o vd vspoon vmark vcountR vbodiesR)) (by decide +kernel) rfl (Nat.le_of_ble_eq_true rfl) ?_
  intro p e s m args below meth c A ls H hx hb hml hr hlk hts hown hA hK hE hP hD hS hv hmm
  have hv : lv_has ls 3 [(0, .ref o), (1, .ref (vd 0)), (2, .int x)] := hv
  generalize hQ : MQ below _ args s 0 0 A = Q
  have hP : va_P D vwCl (wVO cA 4 o vd vspoon vmark vcount vbodies) H := hP
  unfold fX0_dulls_k4 at h
  refine lv_aload_n hx hb dX0_dulls_0 rfl (lv_at hv 1 rfl) ?_
  refine lv_bipush (v := (30 : Int32)) hx hb dX0_dulls_1 (by decide) ?_
  obtain ⟨⟨vcount_1, vbodies_2⟩, hf_3, h⟩ := bd_ex h
  have sb : Sb D A H (wV cA vd vspoon vmark vcount vbodies) := Sb.pl [1, 2] (by decide) rfl hP hD hS hA
  refine calV (va_runV (As := [.int (30 : Int32)]) (rest := []) ⟨hx, hb, hml, hown, hts⟩ (c_X10_begins l G D cA vd _ vspoon vmark vcount vbodies (30 : Int32) vcount_1 vbodies_2 hf_3) (cwV 1 hts gX0_dulls_X10_begins rfl rfl rfl (by decide +kernel) ⟨Nat.le_of_ble_eq_true rfl, Nat.le_of_ble_eq_true rfl⟩) (pvV hE hK hS sb (va_recv hK hP (ci := 10) (q0 := 1) rfl rfl)) rfl rfl hv.1 rfl (lv_room (Nat.le_of_ble_eq_true rfl)) dX0_dulls_3 ⟨Nat.le_of_ble_eq_true rfl, Nat.le_of_ble_eq_true rfl⟩) hS sb (Jn.pl (ws := (wVO cA 4 o vd vspoon vmark vcount vbodies)) (w1 := (wV cA vd vspoon vmark vcount_1 vbodies_2)) (ws' := (wVO cA 4 o vd vspoon vmark vcount_1 vbodies_2)) [1, 2] rfl rfl rfl rfl hP hD) (fun H locs hP hD hS => ?_)
  have hP : va_P D vwCl (wVO cA 4 o vd vspoon vmark vcount_1 vbodies_2) H := hP
  have hD : va_D A (wVO cA 4 o vd vspoon vmark vcount_1 vbodies_2) := hD
  refine lv_aload_n hx hb dX0_dulls_6 rfl (lv_at hv 0 rfl) ?_
  refine lv_aload_n hx hb dX0_dulls_7 rfl (lv_at hv 1 rfl) ?_
  refine lv_iload_n hx hb dX0_dulls_8 rfl (lv_at hv 2 rfl) ?_
  obtain ⟨⟨r_4, vcount_5, vbodies_6⟩, hf_7, h⟩ := bd_ex h
  have sb := Sb.same hP hD hS hA
  refine calI (va_runSU (As := [.ref (vd 0), .int x]) (rest := []) (hK.1 4 _ rfl).2 ⟨hx, hb, hml, hown, hts⟩ (c_X8_dulls_k4 l G D cA o vd _ vspoon vmark vcount_1 vbodies_2 x r_4 vcount_5 vbodies_6 hf_7) (va_cwSU 2 hts gX0_dulls_X8_dulls_s13 rfl rfl rfl (by decide +kernel) ⟨Nat.le_of_ble_eq_true rfl, Nat.le_of_ble_eq_true rfl⟩) (pvV hE hK hS sb (va_recv hK hP (ci := 4) (q0 := 0) rfl rfl)) rfl rfl hv.1 rfl (lv_room (Nat.le_of_ble_eq_true rfl)) dX0_dulls_9 ⟨Nat.le_of_ble_eq_true rfl, Nat.le_of_ble_eq_true rfl⟩) hS sb (Jn.same sb) (fun H locs hP hD hS => ?_)
  have hP : va_P D vwCl (wVO cA 4 o vd vspoon vmark vcount_5 vbodies_6) H := hP
  have hD : va_D A (wVO cA 4 o vd vspoon vmark vcount_5 vbodies_6) := hD
  refine lv_aload_n hx hb dX0_dulls_12 rfl (lv_at hv 0 rfl) ?_
  refine lv_aload_n hx hb dX0_dulls_13 rfl (lv_at hv 1 rfl) ?_
  refine lv_iconst (v := (1 : Int32)) hx hb dX0_dulls_14 (by decide) ?_
  obtain ⟨⟨r_8, vcount_9, vbodies_10⟩, hf_11, h⟩ := bd_ex h
  have sb := Sb.same hP hD hS hA
  refine calI (va_runU (As := [.ref (vd 0), .int (1 : Int32)]) (rest := [.int r_4]) ⟨hx, hb, hml, hown, hts⟩ (c_X8_holds_k4 l G D cA o vd _ vspoon vmark vcount_5 vbodies_6 (1 : Int32) r_8 vcount_9 vbodies_10 hf_11) (va_cwU 2 hts gX0_dulls_X8_holds_u17X4 rfl rfl rfl rfl (by decide +kernel) ⟨Nat.le_of_ble_eq_true rfl, Nat.le_of_ble_eq_true rfl⟩) (pvV hE hK hS sb (va_recv hK hP (ci := 4) (q0 := 0) rfl rfl)) rfl rfl hv.1 rfl (lv_room (Nat.le_of_ble_eq_true rfl)) dX0_dulls_15 ⟨Nat.le_of_ble_eq_true rfl, Nat.le_of_ble_eq_true rfl⟩) hS sb (Jn.same sb) (fun H locs hP hD hS => ?_)
  have hP : va_P D vwCl (wVO cA 4 o vd vspoon vmark vcount_9 vbodies_10) H := hP
  have hD : va_D A (wVO cA 4 o vd vspoon vmark vcount_9 vbodies_10) := hD
  refine lv_isub hx hb dX0_dulls_18 ?_
  have h := Option.some.inj h
  have ee0 : (r_4 - r_8) = rR := congrArg (fun q => q.1) h
  have ee1 : vcount_9 = vcountR := congrArg (fun q => q.2.1) h
  have ee2 : vbodies_10 = vbodiesR := congrArg (fun q => q.2.2) h
  subst ee0
  subst ee1
  subst ee2
  rw [← hQ]
  exact retI hx hb hr hlk hK hP hD hS dX0_dulls_19 ⟨Nat.le_of_ble_eq_true rfl, Nat.le_of_ble_eq_true rfl⟩

def fX4_dulls_k4 (x : Int32) (vspoon : Int32) (vmark : Int32) (vcount : Int32) (vbodies : Nat → Int32) : Option (Int32 × Int32 × (Nat → Int32)) :=
  bd (fX10_begins (60 : Int32) vcount vbodies) fun (vcount_1, vbodies_2) => bd (fX0_dulls_k4 (x + (1 : Int32)) vspoon vmark vcount_1 vbodies_2) fun (r_4, vcount_5, vbodies_6) => some (r_4, vcount_5, vbodies_6)
set_option maxHeartbeats 4000000 in
set_option maxRecDepth 100000 in
theorem c_X4_dulls_k4 (l : Launch) (G : Nat → Nat) (D : va_G) (cA : Nat → ClassId) (o : Nat) (vd : Nat → Nat) (sz : Nat) (vspoon : Int32) (vmark : Int32) (vcount : Int32) (vbodies : Nat → Int32) (x : Int32) (rR : Int32) (vcountR : Int32) (vbodiesR : Nat → Int32) (h : fX4_dulls_k4 x vspoon vmark vcount vbodies = some (rR, vcountR, vbodiesR)) : Met l yX4_dulls wsX4_dulls ({ frames := 4, cells := 0, slots := 0, locals := 87 } : Room) (PW G D (tyC cA) sz (wVO cA 4 o vd vspoon vmark vcount vbodies) [.ref o, .ref (vd 0), .int x]) (QI D (tyC cA) (va_A (wVO cA 4 o vd vspoon vmark vcount vbodies) sz) rR (wVO cA 4 o vd vspoon vmark vcountR vbodiesR)) 0 0 (va_A (wVO cA 4 o vd vspoon vmark vcount vbodies) sz) := by
  refine ent (cc := cX4_dulls) (maxL := 3) (ret := (some .int)) (fun A => QI D (tyC cA) A rR (wVO cA 4 o vd vspoon vmark vcountR vbodiesR)) (by decide +kernel) rfl (Nat.le_of_ble_eq_true rfl) ?_
  intro p e s m args below meth c A ls H hx hb hml hr hlk hts hown hA hK hE hP hD hS hv hmm
  have hv : lv_has ls 3 [(0, .ref o), (1, .ref (vd 0)), (2, .int x)] := hv
  generalize hQ : MQ below _ args s 0 0 A = Q
  have hP : va_P D vwCl (wVO cA 4 o vd vspoon vmark vcount vbodies) H := hP
  unfold fX4_dulls_k4 at h
  refine lv_aload_n hx hb dX4_dulls_0 rfl (lv_at hv 1 rfl) ?_
  refine lv_bipush (v := (60 : Int32)) hx hb dX4_dulls_1 (by decide) ?_
  obtain ⟨⟨vcount_1, vbodies_2⟩, hf_3, h⟩ := bd_ex h
  have sb : Sb D A H (wV cA vd vspoon vmark vcount vbodies) := Sb.pl [1, 2] (by decide) rfl hP hD hS hA
  refine calV (va_runV (As := [.int (60 : Int32)]) (rest := []) ⟨hx, hb, hml, hown, hts⟩ (c_X10_begins l G D cA vd _ vspoon vmark vcount vbodies (60 : Int32) vcount_1 vbodies_2 hf_3) (cwV 1 hts gX4_dulls_X10_begins rfl rfl rfl (by decide +kernel) ⟨Nat.le_of_ble_eq_true rfl, Nat.le_of_ble_eq_true rfl⟩) (pvV hE hK hS sb (va_recv hK hP (ci := 10) (q0 := 1) rfl rfl)) rfl rfl hv.1 rfl (lv_room (Nat.le_of_ble_eq_true rfl)) dX4_dulls_3 ⟨Nat.le_of_ble_eq_true rfl, Nat.le_of_ble_eq_true rfl⟩) hS sb (Jn.pl (ws := (wVO cA 4 o vd vspoon vmark vcount vbodies)) (w1 := (wV cA vd vspoon vmark vcount_1 vbodies_2)) (ws' := (wVO cA 4 o vd vspoon vmark vcount_1 vbodies_2)) [1, 2] rfl rfl rfl rfl hP hD) (fun H locs hP hD hS => ?_)
  have hP : va_P D vwCl (wVO cA 4 o vd vspoon vmark vcount_1 vbodies_2) H := hP
  have hD : va_D A (wVO cA 4 o vd vspoon vmark vcount_1 vbodies_2) := hD
  refine lv_aload_n hx hb dX4_dulls_6 rfl (lv_at hv 0 rfl) ?_
  refine lv_aload_n hx hb dX4_dulls_7 rfl (lv_at hv 1 rfl) ?_
  refine lv_iload_n hx hb dX4_dulls_8 rfl (lv_at hv 2 rfl) ?_
  refine lv_iconst (v := (1 : Int32)) hx hb dX4_dulls_9 (by decide) ?_
  refine lv_iadd hx hb dX4_dulls_10 ?_
  obtain ⟨⟨r_4, vcount_5, vbodies_6⟩, hf_7, h⟩ := bd_ex h
  have sb := Sb.same hP hD hS hA
  refine calI (va_runSU (As := [.ref (vd 0), .int (x + (1 : Int32))]) (rest := []) (hK.1 4 _ rfl).2 ⟨hx, hb, hml, hown, hts⟩ (c_X0_dulls_k4 l G D cA o vd _ vspoon vmark vcount_1 vbodies_2 (x + (1 : Int32)) r_4 vcount_5 vbodies_6 hf_7) (va_cwSU 2 hts gX4_dulls_X0_dulls_s21 rfl rfl rfl (by decide +kernel) ⟨Nat.le_of_ble_eq_true rfl, Nat.le_of_ble_eq_true rfl⟩) (pvV hE hK hS sb (va_recv hK hP (ci := 4) (q0 := 0) rfl rfl)) rfl rfl hv.1 rfl (lv_room (Nat.le_of_ble_eq_true rfl)) dX4_dulls_11 ⟨Nat.le_of_ble_eq_true rfl, Nat.le_of_ble_eq_true rfl⟩) hS sb (Jn.same sb) (fun H locs hP hD hS => ?_)
  have hP : va_P D vwCl (wVO cA 4 o vd vspoon vmark vcount_5 vbodies_6) H := hP
  have hD : va_D A (wVO cA 4 o vd vspoon vmark vcount_5 vbodies_6) := hD
  have h := Option.some.inj h
  have ee0 : r_4 = rR := congrArg (fun q => q.1) h
  have ee1 : vcount_5 = vcountR := congrArg (fun q => q.2.1) h
  have ee2 : vbodies_6 = vbodiesR := congrArg (fun q => q.2.2) h
  subst ee0
  subst ee1
  subst ee2
  rw [← hQ]
  exact retI hx hb hr hlk hK hP hD hS dX4_dulls_14 ⟨Nat.le_of_ble_eq_true rfl, Nat.le_of_ble_eq_true rfl⟩

def fX8_tells_k4 (x : Int32) (vspoon : Int32) (vmark : Int32) (vcount : Int32) (vbodies : Nat → Int32) : Option (Int32 × Int32 × (Nat → Int32)) :=
  bd (fX10_begins (13 : Int32) vcount vbodies) fun (vcount_1, vbodies_2) => bd (fX4_dulls_k4 x vspoon vmark vcount_1 vbodies_2) fun (r_4, vcount_5, vbodies_6) => bd (fX8_holds_k4 x vmark vcount_5 vbodies_6) fun (r_8, vcount_9, vbodies_10) => some ((r_4 ^^^ r_8), vcount_9, vbodies_10)
set_option maxHeartbeats 4000000 in
set_option maxRecDepth 100000 in
theorem c_X8_tells_k4 (l : Launch) (G : Nat → Nat) (D : va_G) (cA : Nat → ClassId) (o : Nat) (vd : Nat → Nat) (sz : Nat) (vspoon : Int32) (vmark : Int32) (vcount : Int32) (vbodies : Nat → Int32) (x : Int32) (rR : Int32) (vcountR : Int32) (vbodiesR : Nat → Int32) (h : fX8_tells_k4 x vspoon vmark vcount vbodies = some (rR, vcountR, vbodiesR)) : Met l yX8_tells wsX8_tells ({ frames := 5, cells := 0, slots := 0, locals := 109 } : Room) (PW G D (tyC cA) sz (wVO cA 4 o vd vspoon vmark vcount vbodies) [.ref o, .ref (vd 0), .int x]) (QI D (tyC cA) (va_A (wVO cA 4 o vd vspoon vmark vcount vbodies) sz) rR (wVO cA 4 o vd vspoon vmark vcountR vbodiesR)) 0 0 (va_A (wVO cA 4 o vd vspoon vmark vcount vbodies) sz) := by
  refine ent (cc := cX8_tells) (maxL := 3) (ret := (some .int)) (fun A => QI D (tyC cA) A rR (wVO cA 4 o vd vspoon vmark vcountR vbodiesR)) (by decide +kernel) rfl (Nat.le_of_ble_eq_true rfl) ?_
  intro p e s m args below meth c A ls H hx hb hml hr hlk hts hown hA hK hE hP hD hS hv hmm
  have hv : lv_has ls 3 [(0, .ref o), (1, .ref (vd 0)), (2, .int x)] := hv
  generalize hQ : MQ below _ args s 0 0 A = Q
  have hP : va_P D vwCl (wVO cA 4 o vd vspoon vmark vcount vbodies) H := hP
  unfold fX8_tells_k4 at h
  refine lv_aload_n hx hb dX8_tells_0 rfl (lv_at hv 1 rfl) ?_
  refine lv_bipush (v := (13 : Int32)) hx hb dX8_tells_1 (by decide) ?_
  obtain ⟨⟨vcount_1, vbodies_2⟩, hf_3, h⟩ := bd_ex h
  have sb : Sb D A H (wV cA vd vspoon vmark vcount vbodies) := Sb.pl [1, 2] (by decide) rfl hP hD hS hA
  refine calV (va_runV (As := [.int (13 : Int32)]) (rest := []) ⟨hx, hb, hml, hown, hts⟩ (c_X10_begins l G D cA vd _ vspoon vmark vcount vbodies (13 : Int32) vcount_1 vbodies_2 hf_3) (cwV 1 hts gX8_tells_X10_begins rfl rfl rfl (by decide +kernel) ⟨Nat.le_of_ble_eq_true rfl, Nat.le_of_ble_eq_true rfl⟩) (pvV hE hK hS sb (va_recv hK hP (ci := 10) (q0 := 1) rfl rfl)) rfl rfl hv.1 rfl (lv_room (Nat.le_of_ble_eq_true rfl)) dX8_tells_3 ⟨Nat.le_of_ble_eq_true rfl, Nat.le_of_ble_eq_true rfl⟩) hS sb (Jn.pl (ws := (wVO cA 4 o vd vspoon vmark vcount vbodies)) (w1 := (wV cA vd vspoon vmark vcount_1 vbodies_2)) (ws' := (wVO cA 4 o vd vspoon vmark vcount_1 vbodies_2)) [1, 2] rfl rfl rfl rfl hP hD) (fun H locs hP hD hS => ?_)
  have hP : va_P D vwCl (wVO cA 4 o vd vspoon vmark vcount_1 vbodies_2) H := hP
  have hD : va_D A (wVO cA 4 o vd vspoon vmark vcount_1 vbodies_2) := hD
  refine lv_aload_n hx hb dX8_tells_6 rfl (lv_at hv 0 rfl) ?_
  refine lv_aload_n hx hb dX8_tells_7 rfl (lv_at hv 1 rfl) ?_
  refine lv_iload_n hx hb dX8_tells_8 rfl (lv_at hv 2 rfl) ?_
  obtain ⟨⟨r_4, vcount_5, vbodies_6⟩, hf_7, h⟩ := bd_ex h
  have sb := Sb.same hP hD hS hA
  refine calI (va_runU (As := [.ref (vd 0), .int x]) (rest := []) ⟨hx, hb, hml, hown, hts⟩ (c_X4_dulls_k4 l G D cA o vd _ vspoon vmark vcount_1 vbodies_2 x r_4 vcount_5 vbodies_6 hf_7) (va_cwO 2 hts gX8_tells_X4_dulls_u26X4 rfl rfl rfl (by decide +kernel : Cond.code yX8_dulls cX8_dulls 3 (some .int) ∈ wsX8_tells) (by decide +kernel) ⟨Nat.le_of_ble_eq_true rfl, Nat.le_of_ble_eq_true rfl⟩) (pvV hE hK hS sb (va_recv hK hP (ci := 4) (q0 := 0) rfl rfl)) rfl rfl hv.1 rfl (lv_room (Nat.le_of_ble_eq_true rfl)) dX8_tells_9 ⟨Nat.le_of_ble_eq_true rfl, Nat.le_of_ble_eq_true rfl⟩) hS sb (Jn.same sb) (fun H locs hP hD hS => ?_)
  have hP : va_P D vwCl (wVO cA 4 o vd vspoon vmark vcount_5 vbodies_6) H := hP
  have hD : va_D A (wVO cA 4 o vd vspoon vmark vcount_5 vbodies_6) := hD
  refine lv_aload_n hx hb dX8_tells_12 rfl (lv_at hv 0 rfl) ?_
  refine lv_aload_n hx hb dX8_tells_13 rfl (lv_at hv 1 rfl) ?_
  refine lv_iload_n hx hb dX8_tells_14 rfl (lv_at hv 2 rfl) ?_
  obtain ⟨⟨r_8, vcount_9, vbodies_10⟩, hf_11, h⟩ := bd_ex h
  have sb := Sb.same hP hD hS hA
  refine calI (va_runU (As := [.ref (vd 0), .int x]) (rest := [.int r_4]) ⟨hx, hb, hml, hown, hts⟩ (c_X8_holds_k4 l G D cA o vd _ vspoon vmark vcount_5 vbodies_6 x r_8 vcount_9 vbodies_10 hf_11) (va_cwU 2 hts gX8_tells_X8_holds_u29X4 rfl rfl rfl rfl (by decide +kernel) ⟨Nat.le_of_ble_eq_true rfl, Nat.le_of_ble_eq_true rfl⟩) (pvV hE hK hS sb (va_recv hK hP (ci := 4) (q0 := 0) rfl rfl)) rfl rfl hv.1 rfl (lv_room (Nat.le_of_ble_eq_true rfl)) dX8_tells_15 ⟨Nat.le_of_ble_eq_true rfl, Nat.le_of_ble_eq_true rfl⟩) hS sb (Jn.same sb) (fun H locs hP hD hS => ?_)
  have hP : va_P D vwCl (wVO cA 4 o vd vspoon vmark vcount_9 vbodies_10) H := hP
  have hD : va_D A (wVO cA 4 o vd vspoon vmark vcount_9 vbodies_10) := hD
  refine lv_ixor hx hb dX8_tells_18 ?_
  have h := Option.some.inj h
  have ee0 : (r_4 ^^^ r_8) = rR := congrArg (fun q => q.1) h
  have ee1 : vcount_9 = vcountR := congrArg (fun q => q.2.1) h
  have ee2 : vbodies_10 = vbodiesR := congrArg (fun q => q.2.2) h
  subst ee0
  subst ee1
  subst ee2
  rw [← hQ]
  exact retI hx hb hr hlk hK hP hD hS dX8_tells_19 ⟨Nat.le_of_ble_eq_true rfl, Nat.le_of_ble_eq_true rfl⟩

def fX8_shines_k1 (x : Int32) (vspoon : Int32) (vcount : Int32) (vbodies : Nat → Int32) : Option (Int32 × Int32 × (Nat → Int32)) :=
  bd (fX10_begins (10 : Int32) vcount vbodies) fun (vcount_1, vbodies_2) => some ((x + vspoon), vcount_1, vbodies_2)
set_option maxHeartbeats 4000000 in
set_option maxRecDepth 100000 in
theorem c_X8_shines_k1 (l : Launch) (G : Nat → Nat) (D : va_G) (cA : Nat → ClassId) (o : Nat) (vd : Nat → Nat) (sz : Nat) (vspoon : Int32) (vmark : Int32) (vcount : Int32) (vbodies : Nat → Int32) (x : Int32) (rR : Int32) (vcountR : Int32) (vbodiesR : Nat → Int32) (h : fX8_shines_k1 x vspoon vcount vbodies = some (rR, vcountR, vbodiesR)) : Met l yX8_shines wsX8_shines ({ frames := 1, cells := 0, slots := 0, locals := 21 } : Room) (PW G D (tyC cA) sz (wVO cA 1 o vd vspoon vmark vcount vbodies) [.ref o, .ref (vd 0), .int x]) (QI D (tyC cA) (va_A (wVO cA 1 o vd vspoon vmark vcount vbodies) sz) rR (wVO cA 1 o vd vspoon vmark vcountR vbodiesR)) 0 0 (va_A (wVO cA 1 o vd vspoon vmark vcount vbodies) sz) := by
  refine ent (cc := cX8_shines) (maxL := 3) (ret := (some .int)) (fun A => QI D (tyC cA) A rR (wVO cA 1 o vd vspoon vmark vcountR vbodiesR)) (by decide +kernel) rfl (Nat.le_of_ble_eq_true rfl) ?_
  intro p e s m args below meth c A ls H hx hb hml hr hlk hts hown hA hK hE hP hD hS hv hmm
  have hv : lv_has ls 3 [(0, .ref o), (1, .ref (vd 0)), (2, .int x)] := hv
  have in_10 : ∀ w ∈ u_ws RX10 TX10 4, w ∈ wsX8_shines := fun _ h => List.mem_cons_of_mem _ (List.mem_append_right _ h)
  have w_0 := hts (.fieldLink RX8 13 "SpoonsLast$Voice" "spoon" "I") (List.mem_of_getElem? (i := 1) rfl)
  generalize hQ : MQ below _ args s 0 0 A = Q
  have hP : va_P D vwCl (wVO cA 1 o vd vspoon vmark vcount vbodies) H := hP
  unfold fX8_shines_k1 at h
  refine lv_aload_n hx hb dX8_shines_0 rfl (lv_at hv 1 rfl) ?_
  refine lv_bipush (v := (10 : Int32)) hx hb dX8_shines_1 (by decide) ?_
  obtain ⟨⟨vcount_1, vbodies_2⟩, hf_3, h⟩ := bd_ex h
  have sb : Sb D A H (wV cA vd vspoon vmark vcount vbodies) := Sb.pl [1, 2] (by decide) rfl hP hD hS hA
  refine calV (va_runV (As := [.int (10 : Int32)]) (rest := []) ⟨hx, hb, hml, hown, hts⟩ (c_X10_begins l G D cA vd _ vspoon vmark vcount vbodies (10 : Int32) vcount_1 vbodies_2 hf_3) (cwV 1 hts gX8_shines_X10_begins rfl rfl rfl (by decide +kernel) ⟨Nat.le_of_ble_eq_true rfl, Nat.le_of_ble_eq_true rfl⟩) (pvV hE hK hS sb (va_recv hK hP (ci := 10) (q0 := 1) rfl rfl)) rfl rfl hv.1 rfl (lv_room (Nat.le_of_ble_eq_true rfl)) dX8_shines_3 ⟨Nat.le_of_ble_eq_true rfl, Nat.le_of_ble_eq_true rfl⟩) hS sb (Jn.pl (ws := (wVO cA 1 o vd vspoon vmark vcount vbodies)) (w1 := (wV cA vd vspoon vmark vcount_1 vbodies_2)) (ws' := (wVO cA 1 o vd vspoon vmark vcount_1 vbodies_2)) [1, 2] rfl rfl rfl rfl hP hD) (fun H locs hP hD hS => ?_)
  have hP : va_P D vwCl (wVO cA 1 o vd vspoon vmark vcount_1 vbodies_2) H := hP
  have hD : va_D A (wVO cA 1 o vd vspoon vmark vcount_1 vbodies_2) := hD
  refine lv_iload_n hx hb dX8_shines_6 rfl (lv_at hv 2 rfl) ?_
  refine lv_aload_n hx hb dX8_shines_7 rfl (lv_at hv 1 rfl) ?_
  refine va_get (D := D) (ci := 10) (v := .int vspoon) (C := RX10) (T := TX10) (N := 4) hx hb hts in_10 hown hK hP 1 rfl rfl 0 (by decide) w_0 (fun _ h9 => h9) rfl dX8_shines_8 ?_
  refine lv_iadd hx hb dX8_shines_11 ?_
  have h := Option.some.inj h
  have ee0 : (x + vspoon) = rR := congrArg (fun q => q.1) h
  have ee1 : vcount_1 = vcountR := congrArg (fun q => q.2.1) h
  have ee2 : vbodies_2 = vbodiesR := congrArg (fun q => q.2.2) h
  subst ee0
  subst ee1
  subst ee2
  rw [← hQ]
  exact retI hx hb hr hlk hK hP hD hS dX8_shines_12 ⟨Nat.le_of_ble_eq_true rfl, Nat.le_of_ble_eq_true rfl⟩

def fX8_dulls_k1 (x : Int32) (vspoon : Int32) (vcount : Int32) (vbodies : Nat → Int32) : Option (Int32 × Int32 × (Nat → Int32)) :=
  bd (fX10_begins (11 : Int32) vcount vbodies) fun (vcount_1, vbodies_2) => bd (fX8_shines_k1 x vspoon vcount_1 vbodies_2) fun (r_4, vcount_5, vbodies_6) => some ((r_4 * (2 : Int32)), vcount_5, vbodies_6)
set_option maxHeartbeats 4000000 in
set_option maxRecDepth 100000 in
theorem c_X8_dulls_k1 (l : Launch) (G : Nat → Nat) (D : va_G) (cA : Nat → ClassId) (o : Nat) (vd : Nat → Nat) (sz : Nat) (vspoon : Int32) (vmark : Int32) (vcount : Int32) (vbodies : Nat → Int32) (x : Int32) (rR : Int32) (vcountR : Int32) (vbodiesR : Nat → Int32) (h : fX8_dulls_k1 x vspoon vcount vbodies = some (rR, vcountR, vbodiesR)) : Met l yX8_dulls wsX8_dulls ({ frames := 2, cells := 0, slots := 0, locals := 43 } : Room) (PW G D (tyC cA) sz (wVO cA 1 o vd vspoon vmark vcount vbodies) [.ref o, .ref (vd 0), .int x]) (QI D (tyC cA) (va_A (wVO cA 1 o vd vspoon vmark vcount vbodies) sz) rR (wVO cA 1 o vd vspoon vmark vcountR vbodiesR)) 0 0 (va_A (wVO cA 1 o vd vspoon vmark vcount vbodies) sz) := by
  refine ent (cc := cX8_dulls) (maxL := 3) (ret := (some .int)) (fun A => QI D (tyC cA) A rR (wVO cA 1 o vd vspoon vmark vcountR vbodiesR)) (by decide +kernel) rfl (Nat.le_of_ble_eq_true rfl) ?_
  intro p e s m args below meth c A ls H hx hb hml hr hlk hts hown hA hK hE hP hD hS hv hmm
  have hv : lv_has ls 3 [(0, .ref o), (1, .ref (vd 0)), (2, .int x)] := hv
  generalize hQ : MQ below _ args s 0 0 A = Q
  have hP : va_P D vwCl (wVO cA 1 o vd vspoon vmark vcount vbodies) H := hP
  unfold fX8_dulls_k1 at h
  refine lv_aload_n hx hb dX8_dulls_0 rfl (lv_at hv 1 rfl) ?_
  refine lv_bipush (v := (11 : Int32)) hx hb dX8_dulls_1 (by decide) ?_
  obtain ⟨⟨vcount_1, vbodies_2⟩, hf_3, h⟩ := bd_ex h
  have sb : Sb D A H (wV cA vd vspoon vmark vcount vbodies) := Sb.pl [1, 2] (by decide) rfl hP hD hS hA
  refine calV (va_runV (As := [.int (11 : Int32)]) (rest := []) ⟨hx, hb, hml, hown, hts⟩ (c_X10_begins l G D cA vd _ vspoon vmark vcount vbodies (11 : Int32) vcount_1 vbodies_2 hf_3) (cwV 1 hts gX8_dulls_X10_begins rfl rfl rfl (by decide +kernel) ⟨Nat.le_of_ble_eq_true rfl, Nat.le_of_ble_eq_true rfl⟩) (pvV hE hK hS sb (va_recv hK hP (ci := 10) (q0 := 1) rfl rfl)) rfl rfl hv.1 rfl (lv_room (Nat.le_of_ble_eq_true rfl)) dX8_dulls_3 ⟨Nat.le_of_ble_eq_true rfl, Nat.le_of_ble_eq_true rfl⟩) hS sb (Jn.pl (ws := (wVO cA 1 o vd vspoon vmark vcount vbodies)) (w1 := (wV cA vd vspoon vmark vcount_1 vbodies_2)) (ws' := (wVO cA 1 o vd vspoon vmark vcount_1 vbodies_2)) [1, 2] rfl rfl rfl rfl hP hD) (fun H locs hP hD hS => ?_)
  have hP : va_P D vwCl (wVO cA 1 o vd vspoon vmark vcount_1 vbodies_2) H := hP
  have hD : va_D A (wVO cA 1 o vd vspoon vmark vcount_1 vbodies_2) := hD
  refine lv_aload_n hx hb dX8_dulls_6 rfl (lv_at hv 0 rfl) ?_
  refine lv_aload_n hx hb dX8_dulls_7 rfl (lv_at hv 1 rfl) ?_
  refine lv_iload_n hx hb dX8_dulls_8 rfl (lv_at hv 2 rfl) ?_
  obtain ⟨⟨r_4, vcount_5, vbodies_6⟩, hf_7, h⟩ := bd_ex h
  have sb := Sb.same hP hD hS hA
  refine calI (va_runU (As := [.ref (vd 0), .int x]) (rest := []) ⟨hx, hb, hml, hown, hts⟩ (c_X8_shines_k1 l G D cA o vd _ vspoon vmark vcount_1 vbodies_2 x r_4 vcount_5 vbodies_6 hf_7) (va_cwU 2 hts gX8_dulls_X8_shines_u17X1 rfl rfl rfl rfl (by decide +kernel) ⟨Nat.le_of_ble_eq_true rfl, Nat.le_of_ble_eq_true rfl⟩) (pvV hE hK hS sb (va_recv hK hP (ci := 1) (q0 := 0) rfl rfl)) rfl rfl hv.1 rfl (lv_room (Nat.le_of_ble_eq_true rfl)) dX8_dulls_9 ⟨Nat.le_of_ble_eq_true rfl, Nat.le_of_ble_eq_true rfl⟩) hS sb (Jn.same sb) (fun H locs hP hD hS => ?_)
  have hP : va_P D vwCl (wVO cA 1 o vd vspoon vmark vcount_5 vbodies_6) H := hP
  have hD : va_D A (wVO cA 1 o vd vspoon vmark vcount_5 vbodies_6) := hD
  refine lv_iconst (v := (2 : Int32)) hx hb dX8_dulls_12 (by decide) ?_
  refine lv_imul hx hb dX8_dulls_13 ?_
  have h := Option.some.inj h
  have ee0 : (r_4 * (2 : Int32)) = rR := congrArg (fun q => q.1) h
  have ee1 : vcount_5 = vcountR := congrArg (fun q => q.2.1) h
  have ee2 : vbodies_6 = vbodiesR := congrArg (fun q => q.2.2) h
  subst ee0
  subst ee1
  subst ee2
  rw [← hQ]
  exact retI hx hb hr hlk hK hP hD hS dX8_dulls_14 ⟨Nat.le_of_ble_eq_true rfl, Nat.le_of_ble_eq_true rfl⟩

def fX8_holds_k1 (x : Int32) (vmark : Int32) (vcount : Int32) (vbodies : Nat → Int32) : Option (Int32 × Int32 × (Nat → Int32)) :=
  bd (fX10_begins (12 : Int32) vcount vbodies) fun (vcount_1, vbodies_2) => some ((x - vmark), vcount_1, vbodies_2)
set_option maxHeartbeats 4000000 in
set_option maxRecDepth 100000 in
theorem c_X8_holds_k1 (l : Launch) (G : Nat → Nat) (D : va_G) (cA : Nat → ClassId) (o : Nat) (vd : Nat → Nat) (sz : Nat) (vspoon : Int32) (vmark : Int32) (vcount : Int32) (vbodies : Nat → Int32) (x : Int32) (rR : Int32) (vcountR : Int32) (vbodiesR : Nat → Int32) (h : fX8_holds_k1 x vmark vcount vbodies = some (rR, vcountR, vbodiesR)) : Met l yX8_holds wsX8_holds ({ frames := 1, cells := 0, slots := 0, locals := 21 } : Room) (PW G D (tyC cA) sz (wVO cA 1 o vd vspoon vmark vcount vbodies) [.ref o, .ref (vd 0), .int x]) (QI D (tyC cA) (va_A (wVO cA 1 o vd vspoon vmark vcount vbodies) sz) rR (wVO cA 1 o vd vspoon vmark vcountR vbodiesR)) 0 0 (va_A (wVO cA 1 o vd vspoon vmark vcount vbodies) sz) := by
  refine ent (cc := cX8_holds) (maxL := 3) (ret := (some .int)) (fun A => QI D (tyC cA) A rR (wVO cA 1 o vd vspoon vmark vcountR vbodiesR)) (by decide +kernel) rfl (Nat.le_of_ble_eq_true rfl) ?_
  intro p e s m args below meth c A ls H hx hb hml hr hlk hts hown hA hK hE hP hD hS hv hmm
  have hv : lv_has ls 3 [(0, .ref o), (1, .ref (vd 0)), (2, .int x)] := hv
  have in_10 : ∀ w ∈ u_ws RX10 TX10 4, w ∈ wsX8_holds := fun _ h => List.mem_cons_of_mem _ (List.mem_append_right _ h)
  have w_0 := hts (.fieldLink RX8 23 "SpoonsLast$Voice" "mark" "I") (List.mem_of_getElem? (i := 1) rfl)
  generalize hQ : MQ below _ args s 0 0 A = Q
  have hP : va_P D vwCl (wVO cA 1 o vd vspoon vmark vcount vbodies) H := hP
  unfold fX8_holds_k1 at h
  refine lv_aload_n hx hb dX8_holds_0 rfl (lv_at hv 1 rfl) ?_
  refine lv_bipush (v := (12 : Int32)) hx hb dX8_holds_1 (by decide) ?_
  obtain ⟨⟨vcount_1, vbodies_2⟩, hf_3, h⟩ := bd_ex h
  have sb : Sb D A H (wV cA vd vspoon vmark vcount vbodies) := Sb.pl [1, 2] (by decide) rfl hP hD hS hA
  refine calV (va_runV (As := [.int (12 : Int32)]) (rest := []) ⟨hx, hb, hml, hown, hts⟩ (c_X10_begins l G D cA vd _ vspoon vmark vcount vbodies (12 : Int32) vcount_1 vbodies_2 hf_3) (cwV 1 hts gX8_holds_X10_begins rfl rfl rfl (by decide +kernel) ⟨Nat.le_of_ble_eq_true rfl, Nat.le_of_ble_eq_true rfl⟩) (pvV hE hK hS sb (va_recv hK hP (ci := 10) (q0 := 1) rfl rfl)) rfl rfl hv.1 rfl (lv_room (Nat.le_of_ble_eq_true rfl)) dX8_holds_3 ⟨Nat.le_of_ble_eq_true rfl, Nat.le_of_ble_eq_true rfl⟩) hS sb (Jn.pl (ws := (wVO cA 1 o vd vspoon vmark vcount vbodies)) (w1 := (wV cA vd vspoon vmark vcount_1 vbodies_2)) (ws' := (wVO cA 1 o vd vspoon vmark vcount_1 vbodies_2)) [1, 2] rfl rfl rfl rfl hP hD) (fun H locs hP hD hS => ?_)
  have hP : va_P D vwCl (wVO cA 1 o vd vspoon vmark vcount_1 vbodies_2) H := hP
  have hD : va_D A (wVO cA 1 o vd vspoon vmark vcount_1 vbodies_2) := hD
  refine lv_iload_n hx hb dX8_holds_6 rfl (lv_at hv 2 rfl) ?_
  refine lv_aload_n hx hb dX8_holds_7 rfl (lv_at hv 1 rfl) ?_
  refine va_get (D := D) (ci := 10) (v := .int vmark) (C := RX10) (T := TX10) (N := 4) hx hb hts in_10 hown hK hP 1 rfl rfl 1 (by decide) w_0 (fun _ h9 => h9) rfl dX8_holds_8 ?_
  refine lv_isub hx hb dX8_holds_11 ?_
  have h := Option.some.inj h
  have ee0 : (x - vmark) = rR := congrArg (fun q => q.1) h
  have ee1 : vcount_1 = vcountR := congrArg (fun q => q.2.1) h
  have ee2 : vbodies_2 = vbodiesR := congrArg (fun q => q.2.2) h
  subst ee0
  subst ee1
  subst ee2
  rw [← hQ]
  exact retI hx hb hr hlk hK hP hD hS dX8_holds_12 ⟨Nat.le_of_ble_eq_true rfl, Nat.le_of_ble_eq_true rfl⟩

def fX5_holds_k1 (x : Int32) (vmark : Int32) (vcount : Int32) (vbodies : Nat → Int32) : Option (Int32 × Int32 × (Nat → Int32)) :=
  bd (fX10_begins (40 : Int32) vcount vbodies) fun (vcount_1, vbodies_2) => bd (fX8_holds_k1 x vmark vcount_1 vbodies_2) fun (r_4, vcount_5, vbodies_6) => some ((-r_4), vcount_5, vbodies_6)
set_option maxHeartbeats 4000000 in
set_option maxRecDepth 100000 in
theorem c_X5_holds_k1 (l : Launch) (G : Nat → Nat) (D : va_G) (cA : Nat → ClassId) (o : Nat) (vd : Nat → Nat) (sz : Nat) (vspoon : Int32) (vmark : Int32) (vcount : Int32) (vbodies : Nat → Int32) (x : Int32) (rR : Int32) (vcountR : Int32) (vbodiesR : Nat → Int32) (h : fX5_holds_k1 x vmark vcount vbodies = some (rR, vcountR, vbodiesR)) : Met l yX5_holds wsX5_holds ({ frames := 2, cells := 0, slots := 0, locals := 43 } : Room) (PW G D (tyC cA) sz (wVO cA 1 o vd vspoon vmark vcount vbodies) [.ref o, .ref (vd 0), .int x]) (QI D (tyC cA) (va_A (wVO cA 1 o vd vspoon vmark vcount vbodies) sz) rR (wVO cA 1 o vd vspoon vmark vcountR vbodiesR)) 0 0 (va_A (wVO cA 1 o vd vspoon vmark vcount vbodies) sz) := by
  refine ent (cc := cX5_holds) (maxL := 3) (ret := (some .int)) (fun A => QI D (tyC cA) A rR (wVO cA 1 o vd vspoon vmark vcountR vbodiesR)) (by decide +kernel) rfl (Nat.le_of_ble_eq_true rfl) ?_
  intro p e s m args below meth c A ls H hx hb hml hr hlk hts hown hA hK hE hP hD hS hv hmm
  have hv : lv_has ls 3 [(0, .ref o), (1, .ref (vd 0)), (2, .int x)] := hv
  generalize hQ : MQ below _ args s 0 0 A = Q
  have hP : va_P D vwCl (wVO cA 1 o vd vspoon vmark vcount vbodies) H := hP
  unfold fX5_holds_k1 at h
  refine lv_aload_n hx hb dX5_holds_0 rfl (lv_at hv 1 rfl) ?_
  refine lv_bipush (v := (40 : Int32)) hx hb dX5_holds_1 (by decide) ?_
  obtain ⟨⟨vcount_1, vbodies_2⟩, hf_3, h⟩ := bd_ex h
  have sb : Sb D A H (wV cA vd vspoon vmark vcount vbodies) := Sb.pl [1, 2] (by decide) rfl hP hD hS hA
  refine calV (va_runV (As := [.int (40 : Int32)]) (rest := []) ⟨hx, hb, hml, hown, hts⟩ (c_X10_begins l G D cA vd _ vspoon vmark vcount vbodies (40 : Int32) vcount_1 vbodies_2 hf_3) (cwV 1 hts gX5_holds_X10_begins rfl rfl rfl (by decide +kernel) ⟨Nat.le_of_ble_eq_true rfl, Nat.le_of_ble_eq_true rfl⟩) (pvV hE hK hS sb (va_recv hK hP (ci := 10) (q0 := 1) rfl rfl)) rfl rfl hv.1 rfl (lv_room (Nat.le_of_ble_eq_true rfl)) dX5_holds_3 ⟨Nat.le_of_ble_eq_true rfl, Nat.le_of_ble_eq_true rfl⟩) hS sb (Jn.pl (ws := (wVO cA 1 o vd vspoon vmark vcount vbodies)) (w1 := (wV cA vd vspoon vmark vcount_1 vbodies_2)) (ws' := (wVO cA 1 o vd vspoon vmark vcount_1 vbodies_2)) [1, 2] rfl rfl rfl rfl hP hD) (fun H locs hP hD hS => ?_)
  have hP : va_P D vwCl (wVO cA 1 o vd vspoon vmark vcount_1 vbodies_2) H := hP
  have hD : va_D A (wVO cA 1 o vd vspoon vmark vcount_1 vbodies_2) := hD
  refine lv_aload_n hx hb dX5_holds_6 rfl (lv_at hv 0 rfl) ?_
  refine lv_aload_n hx hb dX5_holds_7 rfl (lv_at hv 1 rfl) ?_
  refine lv_iload_n hx hb dX5_holds_8 rfl (lv_at hv 2 rfl) ?_
  obtain ⟨⟨r_4, vcount_5, vbodies_6⟩, hf_7, h⟩ := bd_ex h
  have sb := Sb.same hP hD hS hA
  refine calI (va_runSU (As := [.ref (vd 0), .int x]) (rest := []) (hK.1 1 _ rfl).2 ⟨hx, hb, hml, hown, hts⟩ (c_X8_holds_k1 l G D cA o vd _ vspoon vmark vcount_1 vbodies_2 x r_4 vcount_5 vbodies_6 hf_7) (va_cwSU 2 hts gX5_holds_X8_holds_s13 rfl rfl rfl (by decide +kernel) ⟨Nat.le_of_ble_eq_true rfl, Nat.le_of_ble_eq_true rfl⟩) (pvV hE hK hS sb (va_recv hK hP (ci := 1) (q0 := 0) rfl rfl)) rfl rfl hv.1 rfl (lv_room (Nat.le_of_ble_eq_true rfl)) dX5_holds_9 ⟨Nat.le_of_ble_eq_true rfl, Nat.le_of_ble_eq_true rfl⟩) hS sb (Jn.same sb) (fun H locs hP hD hS => ?_)
  have hP : va_P D vwCl (wVO cA 1 o vd vspoon vmark vcount_5 vbodies_6) H := hP
  have hD : va_D A (wVO cA 1 o vd vspoon vmark vcount_5 vbodies_6) := hD
  refine lv_ineg hx hb dX5_holds_12 ?_
  have h := Option.some.inj h
  have ee0 : (-r_4) = rR := congrArg (fun q => q.1) h
  have ee1 : vcount_5 = vcountR := congrArg (fun q => q.2.1) h
  have ee2 : vbodies_6 = vbodiesR := congrArg (fun q => q.2.2) h
  subst ee0
  subst ee1
  subst ee2
  rw [← hQ]
  exact retI hx hb hr hlk hK hP hD hS dX5_holds_13 ⟨Nat.le_of_ble_eq_true rfl, Nat.le_of_ble_eq_true rfl⟩

def fX1_holds_k1 (x : Int32) (vspoon : Int32) (vmark : Int32) (vcount : Int32) (vbodies : Nat → Int32) : Option (Int32 × Int32 × (Nat → Int32)) :=
  bd (fX10_begins (70 : Int32) vcount vbodies) fun (vcount_1, vbodies_2) => bd (fX5_holds_k1 x vmark vcount_1 vbodies_2) fun (r_4, vcount_5, vbodies_6) => some ((r_4 ^^^ vspoon), vcount_5, vbodies_6)
set_option maxHeartbeats 4000000 in
set_option maxRecDepth 100000 in
theorem c_X1_holds_k1 (l : Launch) (G : Nat → Nat) (D : va_G) (cA : Nat → ClassId) (o : Nat) (vd : Nat → Nat) (sz : Nat) (vspoon : Int32) (vmark : Int32) (vcount : Int32) (vbodies : Nat → Int32) (x : Int32) (rR : Int32) (vcountR : Int32) (vbodiesR : Nat → Int32) (h : fX1_holds_k1 x vspoon vmark vcount vbodies = some (rR, vcountR, vbodiesR)) : Met l yX1_holds wsX1_holds ({ frames := 3, cells := 0, slots := 0, locals := 65 } : Room) (PW G D (tyC cA) sz (wVO cA 1 o vd vspoon vmark vcount vbodies) [.ref o, .ref (vd 0), .int x]) (QI D (tyC cA) (va_A (wVO cA 1 o vd vspoon vmark vcount vbodies) sz) rR (wVO cA 1 o vd vspoon vmark vcountR vbodiesR)) 0 0 (va_A (wVO cA 1 o vd vspoon vmark vcount vbodies) sz) := by
  refine ent (cc := cX1_holds) (maxL := 3) (ret := (some .int)) (fun A => QI D (tyC cA) A rR (wVO cA 1 o vd vspoon vmark vcountR vbodiesR)) (by decide +kernel) rfl (Nat.le_of_ble_eq_true rfl) ?_
  intro p e s m args below meth c A ls H hx hb hml hr hlk hts hown hA hK hE hP hD hS hv hmm
  have hv : lv_has ls 3 [(0, .ref o), (1, .ref (vd 0)), (2, .int x)] := hv
  have in_10 : ∀ w ∈ u_ws RX10 TX10 4, w ∈ wsX1_holds := fun _ h => List.mem_cons_of_mem _ (List.mem_append_right _ h)
  have w_0 := hts (.fieldLink RX1 25 "SpoonsLast$Voice" "spoon" "I") (List.mem_of_getElem? (i := 1) rfl)
  generalize hQ : MQ below _ args s 0 0 A = Q
  have hP : va_P D vwCl (wVO cA 1 o vd vspoon vmark vcount vbodies) H := hP
  unfold fX1_holds_k1 at h
  refine lv_aload_n hx hb dX1_holds_0 rfl (lv_at hv 1 rfl) ?_
  refine lv_bipush (v := (70 : Int32)) hx hb dX1_holds_1 (by decide) ?_
  obtain ⟨⟨vcount_1, vbodies_2⟩, hf_3, h⟩ := bd_ex h
  have sb : Sb D A H (wV cA vd vspoon vmark vcount vbodies) := Sb.pl [1, 2] (by decide) rfl hP hD hS hA
  refine calV (va_runV (As := [.int (70 : Int32)]) (rest := []) ⟨hx, hb, hml, hown, hts⟩ (c_X10_begins l G D cA vd _ vspoon vmark vcount vbodies (70 : Int32) vcount_1 vbodies_2 hf_3) (cwV 1 hts gX1_holds_X10_begins rfl rfl rfl (by decide +kernel) ⟨Nat.le_of_ble_eq_true rfl, Nat.le_of_ble_eq_true rfl⟩) (pvV hE hK hS sb (va_recv hK hP (ci := 10) (q0 := 1) rfl rfl)) rfl rfl hv.1 rfl (lv_room (Nat.le_of_ble_eq_true rfl)) dX1_holds_3 ⟨Nat.le_of_ble_eq_true rfl, Nat.le_of_ble_eq_true rfl⟩) hS sb (Jn.pl (ws := (wVO cA 1 o vd vspoon vmark vcount vbodies)) (w1 := (wV cA vd vspoon vmark vcount_1 vbodies_2)) (ws' := (wVO cA 1 o vd vspoon vmark vcount_1 vbodies_2)) [1, 2] rfl rfl rfl rfl hP hD) (fun H locs hP hD hS => ?_)
  have hP : va_P D vwCl (wVO cA 1 o vd vspoon vmark vcount_1 vbodies_2) H := hP
  have hD : va_D A (wVO cA 1 o vd vspoon vmark vcount_1 vbodies_2) := hD
  refine lv_aload_n hx hb dX1_holds_6 rfl (lv_at hv 0 rfl) ?_
  refine lv_aload_n hx hb dX1_holds_7 rfl (lv_at hv 1 rfl) ?_
  refine lv_iload_n hx hb dX1_holds_8 rfl (lv_at hv 2 rfl) ?_
  obtain ⟨⟨r_4, vcount_5, vbodies_6⟩, hf_7, h⟩ := bd_ex h
  have sb := Sb.same hP hD hS hA
  refine calI (va_runSU (As := [.ref (vd 0), .int x]) (rest := []) (hK.1 1 _ rfl).2 ⟨hx, hb, hml, hown, hts⟩ (c_X5_holds_k1 l G D cA o vd _ vspoon vmark vcount_1 vbodies_2 x r_4 vcount_5 vbodies_6 hf_7) (va_cwSU 2 hts gX1_holds_X5_holds_s21 rfl rfl rfl (by decide +kernel) ⟨Nat.le_of_ble_eq_true rfl, Nat.le_of_ble_eq_true rfl⟩) (pvV hE hK hS sb (va_recv hK hP (ci := 1) (q0 := 0) rfl rfl)) rfl rfl hv.1 rfl (lv_room (Nat.le_of_ble_eq_true rfl)) dX1_holds_9 ⟨Nat.le_of_ble_eq_true rfl, Nat.le_of_ble_eq_true rfl⟩) hS sb (Jn.same sb) (fun H locs hP hD hS => ?_)
  have hP : va_P D vwCl (wVO cA 1 o vd vspoon vmark vcount_5 vbodies_6) H := hP
  have hD : va_D A (wVO cA 1 o vd vspoon vmark vcount_5 vbodies_6) := hD
  refine lv_aload_n hx hb dX1_holds_12 rfl (lv_at hv 1 rfl) ?_
  refine va_get (D := D) (ci := 10) (v := .int vspoon) (C := RX10) (T := TX10) (N := 4) hx hb hts in_10 hown hK hP 1 rfl rfl 0 (by decide) w_0 (fun _ h9 => h9) rfl dX1_holds_13 ?_
  refine lv_ixor hx hb dX1_holds_16 ?_
  have h := Option.some.inj h
  have ee0 : (r_4 ^^^ vspoon) = rR := congrArg (fun q => q.1) h
  have ee1 : vcount_5 = vcountR := congrArg (fun q => q.2.1) h
  have ee2 : vbodies_6 = vbodiesR := congrArg (fun q => q.2.2) h
  subst ee0
  subst ee1
  subst ee2
  rw [← hQ]
  exact retI hx hb hr hlk hK hP hD hS dX1_holds_17 ⟨Nat.le_of_ble_eq_true rfl, Nat.le_of_ble_eq_true rfl⟩

def fX8_tells_k1 (x : Int32) (vspoon : Int32) (vmark : Int32) (vcount : Int32) (vbodies : Nat → Int32) : Option (Int32 × Int32 × (Nat → Int32)) :=
  bd (fX10_begins (13 : Int32) vcount vbodies) fun (vcount_1, vbodies_2) => bd (fX8_dulls_k1 x vspoon vcount_1 vbodies_2) fun (r_4, vcount_5, vbodies_6) => bd (fX1_holds_k1 x vspoon vmark vcount_5 vbodies_6) fun (r_8, vcount_9, vbodies_10) => some ((r_4 ^^^ r_8), vcount_9, vbodies_10)
set_option maxHeartbeats 4000000 in
set_option maxRecDepth 100000 in
theorem c_X8_tells_k1 (l : Launch) (G : Nat → Nat) (D : va_G) (cA : Nat → ClassId) (o : Nat) (vd : Nat → Nat) (sz : Nat) (vspoon : Int32) (vmark : Int32) (vcount : Int32) (vbodies : Nat → Int32) (x : Int32) (rR : Int32) (vcountR : Int32) (vbodiesR : Nat → Int32) (h : fX8_tells_k1 x vspoon vmark vcount vbodies = some (rR, vcountR, vbodiesR)) : Met l yX8_tells wsX8_tells ({ frames := 4, cells := 0, slots := 0, locals := 87 } : Room) (PW G D (tyC cA) sz (wVO cA 1 o vd vspoon vmark vcount vbodies) [.ref o, .ref (vd 0), .int x]) (QI D (tyC cA) (va_A (wVO cA 1 o vd vspoon vmark vcount vbodies) sz) rR (wVO cA 1 o vd vspoon vmark vcountR vbodiesR)) 0 0 (va_A (wVO cA 1 o vd vspoon vmark vcount vbodies) sz) := by
  refine ent (cc := cX8_tells) (maxL := 3) (ret := (some .int)) (fun A => QI D (tyC cA) A rR (wVO cA 1 o vd vspoon vmark vcountR vbodiesR)) (by decide +kernel) rfl (Nat.le_of_ble_eq_true rfl) ?_
  intro p e s m args below meth c A ls H hx hb hml hr hlk hts hown hA hK hE hP hD hS hv hmm
  have hv : lv_has ls 3 [(0, .ref o), (1, .ref (vd 0)), (2, .int x)] := hv
  generalize hQ : MQ below _ args s 0 0 A = Q
  have hP : va_P D vwCl (wVO cA 1 o vd vspoon vmark vcount vbodies) H := hP
  unfold fX8_tells_k1 at h
  refine lv_aload_n hx hb dX8_tells_0 rfl (lv_at hv 1 rfl) ?_
  refine lv_bipush (v := (13 : Int32)) hx hb dX8_tells_1 (by decide) ?_
  obtain ⟨⟨vcount_1, vbodies_2⟩, hf_3, h⟩ := bd_ex h
  have sb : Sb D A H (wV cA vd vspoon vmark vcount vbodies) := Sb.pl [1, 2] (by decide) rfl hP hD hS hA
  refine calV (va_runV (As := [.int (13 : Int32)]) (rest := []) ⟨hx, hb, hml, hown, hts⟩ (c_X10_begins l G D cA vd _ vspoon vmark vcount vbodies (13 : Int32) vcount_1 vbodies_2 hf_3) (cwV 1 hts gX8_tells_X10_begins rfl rfl rfl (by decide +kernel) ⟨Nat.le_of_ble_eq_true rfl, Nat.le_of_ble_eq_true rfl⟩) (pvV hE hK hS sb (va_recv hK hP (ci := 10) (q0 := 1) rfl rfl)) rfl rfl hv.1 rfl (lv_room (Nat.le_of_ble_eq_true rfl)) dX8_tells_3 ⟨Nat.le_of_ble_eq_true rfl, Nat.le_of_ble_eq_true rfl⟩) hS sb (Jn.pl (ws := (wVO cA 1 o vd vspoon vmark vcount vbodies)) (w1 := (wV cA vd vspoon vmark vcount_1 vbodies_2)) (ws' := (wVO cA 1 o vd vspoon vmark vcount_1 vbodies_2)) [1, 2] rfl rfl rfl rfl hP hD) (fun H locs hP hD hS => ?_)
  have hP : va_P D vwCl (wVO cA 1 o vd vspoon vmark vcount_1 vbodies_2) H := hP
  have hD : va_D A (wVO cA 1 o vd vspoon vmark vcount_1 vbodies_2) := hD
  refine lv_aload_n hx hb dX8_tells_6 rfl (lv_at hv 0 rfl) ?_
  refine lv_aload_n hx hb dX8_tells_7 rfl (lv_at hv 1 rfl) ?_
  refine lv_iload_n hx hb dX8_tells_8 rfl (lv_at hv 2 rfl) ?_
  obtain ⟨⟨r_4, vcount_5, vbodies_6⟩, hf_7, h⟩ := bd_ex h
  have sb := Sb.same hP hD hS hA
  refine calI (va_runU (As := [.ref (vd 0), .int x]) (rest := []) ⟨hx, hb, hml, hown, hts⟩ (c_X8_dulls_k1 l G D cA o vd _ vspoon vmark vcount_1 vbodies_2 x r_4 vcount_5 vbodies_6 hf_7) (va_cwU 2 hts gX8_tells_X8_dulls_u26X1 rfl rfl rfl rfl (by decide +kernel) ⟨Nat.le_of_ble_eq_true rfl, Nat.le_of_ble_eq_true rfl⟩) (pvV hE hK hS sb (va_recv hK hP (ci := 1) (q0 := 0) rfl rfl)) rfl rfl hv.1 rfl (lv_room (Nat.le_of_ble_eq_true rfl)) dX8_tells_9 ⟨Nat.le_of_ble_eq_true rfl, Nat.le_of_ble_eq_true rfl⟩) hS sb (Jn.same sb) (fun H locs hP hD hS => ?_)
  have hP : va_P D vwCl (wVO cA 1 o vd vspoon vmark vcount_5 vbodies_6) H := hP
  have hD : va_D A (wVO cA 1 o vd vspoon vmark vcount_5 vbodies_6) := hD
  refine lv_aload_n hx hb dX8_tells_12 rfl (lv_at hv 0 rfl) ?_
  refine lv_aload_n hx hb dX8_tells_13 rfl (lv_at hv 1 rfl) ?_
  refine lv_iload_n hx hb dX8_tells_14 rfl (lv_at hv 2 rfl) ?_
  obtain ⟨⟨r_8, vcount_9, vbodies_10⟩, hf_11, h⟩ := bd_ex h
  have sb := Sb.same hP hD hS hA
  refine calI (va_runU (As := [.ref (vd 0), .int x]) (rest := [.int r_4]) ⟨hx, hb, hml, hown, hts⟩ (c_X1_holds_k1 l G D cA o vd _ vspoon vmark vcount_5 vbodies_6 x r_8 vcount_9 vbodies_10 hf_11) (va_cwO 2 hts gX8_tells_X1_holds_u29X1 rfl rfl rfl (by decide +kernel : Cond.code yX8_holds cX8_holds 3 (some .int) ∈ wsX8_tells) (by decide +kernel) ⟨Nat.le_of_ble_eq_true rfl, Nat.le_of_ble_eq_true rfl⟩) (pvV hE hK hS sb (va_recv hK hP (ci := 1) (q0 := 0) rfl rfl)) rfl rfl hv.1 rfl (lv_room (Nat.le_of_ble_eq_true rfl)) dX8_tells_15 ⟨Nat.le_of_ble_eq_true rfl, Nat.le_of_ble_eq_true rfl⟩) hS sb (Jn.same sb) (fun H locs hP hD hS => ?_)
  have hP : va_P D vwCl (wVO cA 1 o vd vspoon vmark vcount_9 vbodies_10) H := hP
  have hD : va_D A (wVO cA 1 o vd vspoon vmark vcount_9 vbodies_10) := hD
  refine lv_ixor hx hb dX8_tells_18 ?_
  have h := Option.some.inj h
  have ee0 : (r_4 ^^^ r_8) = rR := congrArg (fun q => q.1) h
  have ee1 : vcount_9 = vcountR := congrArg (fun q => q.2.1) h
  have ee2 : vbodies_10 = vbodiesR := congrArg (fun q => q.2.2) h
  subst ee0
  subst ee1
  subst ee2
  rw [← hQ]
  exact retI hx hb hr hlk hK hP hD hS dX8_tells_19 ⟨Nat.le_of_ble_eq_true rfl, Nat.le_of_ble_eq_true rfl⟩

def fX1_tells_k1 (x : Int32) (vspoon : Int32) (vmark : Int32) (vcount : Int32) (vbodies : Nat → Int32) : Option (Int32 × Int32 × (Nat → Int32)) :=
  bd (fX10_begins (71 : Int32) vcount vbodies) fun (vcount_1, vbodies_2) => bd (fX8_dulls_k1 x vspoon vcount_1 vbodies_2) fun (r_4, vcount_5, vbodies_6) => bd (fX8_tells_k1 x vspoon vmark vcount_5 vbodies_6) fun (r_8, vcount_9, vbodies_10) => some ((r_4 - r_8), vcount_9, vbodies_10)
set_option maxHeartbeats 4000000 in
set_option maxRecDepth 100000 in
theorem c_X1_tells_k1 (l : Launch) (G : Nat → Nat) (D : va_G) (cA : Nat → ClassId) (o : Nat) (vd : Nat → Nat) (sz : Nat) (vspoon : Int32) (vmark : Int32) (vcount : Int32) (vbodies : Nat → Int32) (x : Int32) (rR : Int32) (vcountR : Int32) (vbodiesR : Nat → Int32) (h : fX1_tells_k1 x vspoon vmark vcount vbodies = some (rR, vcountR, vbodiesR)) : Met l yX1_tells wsX1_tells ({ frames := 5, cells := 0, slots := 0, locals := 109 } : Room) (PW G D (tyC cA) sz (wVO cA 1 o vd vspoon vmark vcount vbodies) [.ref o, .ref (vd 0), .int x]) (QI D (tyC cA) (va_A (wVO cA 1 o vd vspoon vmark vcount vbodies) sz) rR (wVO cA 1 o vd vspoon vmark vcountR vbodiesR)) 0 0 (va_A (wVO cA 1 o vd vspoon vmark vcount vbodies) sz) := by
  refine ent (cc := cX1_tells) (maxL := 3) (ret := (some .int)) (fun A => QI D (tyC cA) A rR (wVO cA 1 o vd vspoon vmark vcountR vbodiesR)) (by decide +kernel) rfl (Nat.le_of_ble_eq_true rfl) ?_
  intro p e s m args below meth c A ls H hx hb hml hr hlk hts hown hA hK hE hP hD hS hv hmm
  have hv : lv_has ls 3 [(0, .ref o), (1, .ref (vd 0)), (2, .int x)] := hv
  generalize hQ : MQ below _ args s 0 0 A = Q
  have hP : va_P D vwCl (wVO cA 1 o vd vspoon vmark vcount vbodies) H := hP
  unfold fX1_tells_k1 at h
  refine lv_aload_n hx hb dX1_tells_0 rfl (lv_at hv 1 rfl) ?_
  refine lv_bipush (v := (71 : Int32)) hx hb dX1_tells_1 (by decide) ?_
  obtain ⟨⟨vcount_1, vbodies_2⟩, hf_3, h⟩ := bd_ex h
  have sb : Sb D A H (wV cA vd vspoon vmark vcount vbodies) := Sb.pl [1, 2] (by decide) rfl hP hD hS hA
  refine calV (va_runV (As := [.int (71 : Int32)]) (rest := []) ⟨hx, hb, hml, hown, hts⟩ (c_X10_begins l G D cA vd _ vspoon vmark vcount vbodies (71 : Int32) vcount_1 vbodies_2 hf_3) (cwV 1 hts gX1_tells_X10_begins rfl rfl rfl (by decide +kernel) ⟨Nat.le_of_ble_eq_true rfl, Nat.le_of_ble_eq_true rfl⟩) (pvV hE hK hS sb (va_recv hK hP (ci := 10) (q0 := 1) rfl rfl)) rfl rfl hv.1 rfl (lv_room (Nat.le_of_ble_eq_true rfl)) dX1_tells_3 ⟨Nat.le_of_ble_eq_true rfl, Nat.le_of_ble_eq_true rfl⟩) hS sb (Jn.pl (ws := (wVO cA 1 o vd vspoon vmark vcount vbodies)) (w1 := (wV cA vd vspoon vmark vcount_1 vbodies_2)) (ws' := (wVO cA 1 o vd vspoon vmark vcount_1 vbodies_2)) [1, 2] rfl rfl rfl rfl hP hD) (fun H locs hP hD hS => ?_)
  have hP : va_P D vwCl (wVO cA 1 o vd vspoon vmark vcount_1 vbodies_2) H := hP
  have hD : va_D A (wVO cA 1 o vd vspoon vmark vcount_1 vbodies_2) := hD
  refine lv_aload_n hx hb dX1_tells_6 rfl (lv_at hv 0 rfl) ?_
  refine lv_aload_n hx hb dX1_tells_7 rfl (lv_at hv 1 rfl) ?_
  refine lv_iload_n hx hb dX1_tells_8 rfl (lv_at hv 2 rfl) ?_
  obtain ⟨⟨r_4, vcount_5, vbodies_6⟩, hf_7, h⟩ := bd_ex h
  have sb := Sb.same hP hD hS hA
  refine calI (va_runU (As := [.ref (vd 0), .int x]) (rest := []) ⟨hx, hb, hml, hown, hts⟩ (c_X8_dulls_k1 l G D cA o vd _ vspoon vmark vcount_1 vbodies_2 x r_4 vcount_5 vbodies_6 hf_7) (va_cwU 2 hts gX1_tells_X8_dulls_u29X1 rfl rfl rfl rfl (by decide +kernel) ⟨Nat.le_of_ble_eq_true rfl, Nat.le_of_ble_eq_true rfl⟩) (pvV hE hK hS sb (va_recv hK hP (ci := 1) (q0 := 0) rfl rfl)) rfl rfl hv.1 rfl (lv_room (Nat.le_of_ble_eq_true rfl)) dX1_tells_9 ⟨Nat.le_of_ble_eq_true rfl, Nat.le_of_ble_eq_true rfl⟩) hS sb (Jn.same sb) (fun H locs hP hD hS => ?_)
  have hP : va_P D vwCl (wVO cA 1 o vd vspoon vmark vcount_5 vbodies_6) H := hP
  have hD : va_D A (wVO cA 1 o vd vspoon vmark vcount_5 vbodies_6) := hD
  refine lv_aload_n hx hb dX1_tells_12 rfl (lv_at hv 0 rfl) ?_
  refine lv_aload_n hx hb dX1_tells_13 rfl (lv_at hv 1 rfl) ?_
  refine lv_iload_n hx hb dX1_tells_14 rfl (lv_at hv 2 rfl) ?_
  obtain ⟨⟨r_8, vcount_9, vbodies_10⟩, hf_11, h⟩ := bd_ex h
  have sb := Sb.same hP hD hS hA
  refine calI (runSU2 (n := 2) (x := ⟨RX5, "tells", "(LSpoonsLast$Voice;I)I"⟩) (y := yX8_tells) (As := [.ref (vd 0), .int x]) (rest := [.int r_4]) hE (hK.1 1 _ rfl).2 ⟨hx, hb, hml, hown, hts⟩ (c_X8_tells_k1 l G D cA o vd _ vspoon vmark vcount_5 vbodies_6 x r_8 vcount_9 vbodies_10 hf_11) rfl (by decide +kernel) (by decide +kernel) (by decide +kernel) (by decide +kernel) (by decide +kernel) (by decide +kernel) (fun _ h => List.mem_append_right _ (List.mem_append_right _ (List.mem_append_right _ h))) List.mem_cons_self (by decide +kernel) (by decide +kernel) ⟨rfl, rfl⟩ ⟨Nat.le_of_ble_eq_true rfl, Nat.le_of_ble_eq_true rfl⟩ (pvV hE hK hS sb (va_recv hK hP (ci := 1) (q0 := 0) rfl rfl)) rfl rfl hv.1 rfl (lv_room (Nat.le_of_ble_eq_true rfl)) dX1_tells_15 ⟨Nat.le_of_ble_eq_true rfl, Nat.le_of_ble_eq_true rfl⟩) hS sb (Jn.same sb) (fun H locs hP hD hS => ?_)
  have hP : va_P D vwCl (wVO cA 1 o vd vspoon vmark vcount_9 vbodies_10) H := hP
  have hD : va_D A (wVO cA 1 o vd vspoon vmark vcount_9 vbodies_10) := hD
  refine lv_isub hx hb dX1_tells_18 ?_
  have h := Option.some.inj h
  have ee0 : (r_4 - r_8) = rR := congrArg (fun q => q.1) h
  have ee1 : vcount_9 = vcountR := congrArg (fun q => q.2.1) h
  have ee2 : vbodies_10 = vbodiesR := congrArg (fun q => q.2.2) h
  subst ee0
  subst ee1
  subst ee2
  rw [← hQ]
  exact retI hx hb hr hlk hK hP hD hS dX1_tells_19 ⟨Nat.le_of_ble_eq_true rfl, Nat.le_of_ble_eq_true rfl⟩

