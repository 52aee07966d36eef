theorem K_prim {args : Array Value} {s : State} (h : (Cond.arrayClass .int).before args s = true) : ∃ cA : ClassId, ArrOfT s cA .int ∧ va_RA s cA .int := by
  obtain ⟨cA, kA, comp, h1, h2, h3⟩ := Cond.arrayClass_spec h
  exact ⟨cA, fun N z => ⟨(fun k h => by cases h), kA, h2, comp, h3⟩, h1⟩
theorem K_long {args : Array Value} {s : State} (h : (Cond.arrayClass .long).before args s = true) : ∃ cA : ClassId, ArrOfT s cA .long ∧ va_RA s cA .long := by
  obtain ⟨cA, kA, comp, h1, h2, h3⟩ := Cond.arrayClass_spec h
  exact ⟨cA, fun N z => ⟨(fun k h => by cases h), kA, h2, comp, h3⟩, h1⟩
theorem K_obj {args : Array Value} {s : State} {C : String} (h : (Cond.arrayOver (.object C)).before args s = true) : ∃ cA : ClassId, ArrOfT s cA (.object C) ∧ va_RA s cA (.object C) := by
  obtain ⟨comp, cA, kA, f1, f2, f3, f4, f5⟩ := Cond.arrayOver_spec h
  exact ⟨cA, fun N z => ⟨(fun k h => by cases h), kA, f3, comp, f4⟩, kA, comp, f3, f4, f1, f5⟩
theorem K_cls {args : Array Value} {s : State} (hts : ∀ w ∈ lw_tbl, w.before args s = true) : ∀ k : Nat, ∃ z : ClassId × (Nat → Nat), ∀ q : vw_C, vwCl[k]? = some q → u_Kn s q.1 q.2.1 q.2.2 z.1 z.2 := by
  intro k
  match k with
  | 0 =>
    obtain ⟨c1, c2, c3⟩ := u_known (C := RX0) (T := TX0) (N := 0) (n := 0) hts in_wsX00 (hts _ wl14)
    exact ⟨(c1, c2), fun q hq => by cases hq; exact c3⟩
  | 1 =>
    obtain ⟨c1, c2, c3⟩ := u_known (C := RX1) (T := TX1) (N := 0) (n := 0) hts in_wsX10 (hts _ wl2)
    exact ⟨(c1, c2), fun q hq => by cases hq; exact c3⟩
  | 2 =>
    obtain ⟨c1, c2, c3⟩ := u_known (C := RX2) (T := TX2) (N := 0) (n := 0) hts in_wsX20 (hts _ wl17)
    exact ⟨(c1, c2), fun q hq => by cases hq; exact c3⟩
  | 3 =>
    obtain ⟨c1, c2, c3⟩ := u_known (C := RX3) (T := TX3) (N := 18) (n := 18) hts in_wsX30 (hts _ wl46)
    exact ⟨(c1, c2), fun q hq => by cases hq; exact c3⟩
  | 4 =>
    obtain ⟨c1, c2, c3⟩ := u_known (C := RX4) (T := TX4) (N := 0) (n := 0) hts in_wsX40 (hts _ wl5)
    exact ⟨(c1, c2), fun q hq => by cases hq; exact c3⟩
  | 5 =>
    obtain ⟨c1, c2, c3⟩ := u_known (C := RX5) (T := TX5) (N := 0) (n := 0) hts in_wsX50 (hts _ wl11)
    exact ⟨(c1, c2), fun q hq => by cases hq; exact c3⟩
  | 6 =>
    obtain ⟨c1, c2, c3⟩ := u_known (C := RX6) (T := TX6) (N := 0) (n := 0) hts in_wsX60 (hts _ wl8)
    exact ⟨(c1, c2), fun q hq => by cases hq; exact c3⟩
  | 7 =>
    obtain ⟨c1, c2, c3⟩ := u_known (C := RX7) (T := TX7) (N := 3) (n := 3) hts in_wsX70 (hts _ wl35)
    exact ⟨(c1, c2), fun q hq => by cases hq; exact c3⟩
  | 8 =>
    obtain ⟨c1, c2, c3⟩ := u_known (C := RX8) (T := TX8) (N := 0) (n := 0) hts in_wsX80 (hts _ wl20)
    exact ⟨(c1, c2), fun q hq => by cases hq; exact c3⟩
  | 9 =>
    obtain ⟨c1, c2, c3⟩ := u_known (C := RX9) (T := TX9) (N := 7) (n := 7) hts in_wsX90 (hts _ wl490)
    exact ⟨(c1, c2), fun q hq => by cases hq; exact c3⟩
  | 10 =>
    obtain ⟨c1, c2, c3⟩ := u_known (C := RX10) (T := TX10) (N := 4) (n := 4) hts in_wsX100 (hts _ wl40)
    exact ⟨(c1, c2), fun q hq => by cases hq; exact c3⟩
  | 11 =>
    obtain ⟨c1, c2, c3⟩ := u_known (C := RX11) (T := TX11) (N := 9) (n := 9) hts in_wsX110 (hts _ wl1381)
    exact ⟨(c1, c2), fun q hq => by cases hq; exact c3⟩
  | 12 =>
    obtain ⟨c1, c2, c3⟩ := u_known (C := RX12) (T := TX12) (N := 23) (n := 23) hts in_wsX120 (hts _ wl1382)
    exact ⟨(c1, c2), fun q hq => by cases hq; exact c3⟩
  | n + 13 => exact ⟨(0, fun _ => 0), fun q hq => absurd (List.getElem?_eq_some_iff.mp hq).1 (Nat.not_lt.mpr (Nat.le_add_left 13 n))⟩
theorem K_start {args : Array Value} {s : State} (hts : ∀ w ∈ lw_tbl, w.before args s = true) : ∃ (D : va_G) (cA : Nat → ClassId), va_K D vwCl (tyC cA) s := by
  obtain ⟨z, hz⟩ := Classical.axiomOfChoice (K_cls hts)
  obtain ⟨c0, a0⟩ := K_prim (hts _ wl33)
  obtain ⟨c1, a1⟩ := K_long (hts _ wl52)
  obtain ⟨c2, a2⟩ := K_obj (C := "SpoonsLast$Spoon") (hts _ wl1380)
  obtain ⟨c3, a3⟩ := K_obj (C := "SpoonsLast$Text") (hts _ wl1379)
  obtain ⟨c4, a4⟩ := K_obj (C := "SpoonsLast$Sheet") (hts _ wl1378)
  refine ⟨(fun k => (z k).1, fun k => (z k).2), fun k => match k with | 0 => c0 | 1 => c1 | 2 => c2 | 3 => c3 | _ => c4, fun k q hq => hz k q hq, fun k q hq => ?_⟩
  match k, hq with
  | 0, hq => cases hq; exact a0
  | 1, hq => cases hq; exact a1
  | 2, hq => cases hq; exact a2
  | 3, hq => cases hq; exact a3
  | 4, hq => cases hq; exact a4
  | n + 5, hq => exact absurd (List.getElem?_eq_some_iff.mp hq).1 (Nat.not_lt.mpr (Nat.le_add_left 5 n))
/-! the start -/
theorem vk_Scong {N : Nat} {len : List Nat} {byt : List (List Int32)} {a1 v1 a2 v2 : Nat → Nat} {A : Nat → Prop} {U : State} {H : Heap} (h : vk_S N len byt a1 v1 A U H) (e1 : ∀ i, i < N → a2 i = a1 i) (e2 : ∀ i, i < N → v2 i = v1 i) : vk_S N len byt a2 v2 A U H := ⟨fun i hi => by rw [e1 i hi, e2 i hi]; exact h.1 i hi, fun i j hi hj e => h.2 i j hi hj (by rw [e1 i hi, e1 j hj] at e; exact e)⟩
def narC : Cond := Jvm.Cond.and given_1 narrow_1
def nTm (i : Nat) : Term := .string (sow.getD i ("", 0)).1 (sow.getD i ("", 0)).2
def nB (i : Nat) : Nat := [52, 59, 67, 83, 91, 100, 110, 123, 136, 151, 165].getD i 0
def nPl (i : Nat) : Nat := [0, 66, 81, 88, 96, 105, 117, 129, 143, 156, 170].getD i 0
theorem nar_e : ∀ i, i < 11 → (flatC narC)[nB i]? = some (Cond.exactly (nTm i) "java/lang/String") := by decide +kernel
theorem nar_c : ∀ i, i < 11 → (flatC narC)[nB i + 1]? = some (Cond.eq (.field (nTm i) "java/lang/String" "coder" "B") (.int 0)) := by decide +kernel
theorem nar_a : ∀ i, i < 11 → (flatC narC)[nB i + 2]? = some (Cond.arrayOf (.field (nTm i) "java/lang/String" "value" "[B") .byte) := by decide +kernel
theorem nar_l : ∀ i, i < 11 → (flatC narC)[nB i + 3]? = some (Cond.eq (.length (.field (nTm i) "java/lang/String" "value" "[B")) (.int (Int32.ofNat (slen.getD i 0)))) := by decide +kernel
theorem nar_j : ∀ i, i < 11 → ∀ j, j < slen.getD i 0 → (flatC narC)[nB i + 4 + j]? = some (Cond.eq (.elem (.field (nTm i) "java/lang/String" "value" "[B") (.int (Int32.ofNat j))) (.int ((sbyt.getD i []).getD j 0))) := by decide +kernel
theorem nar_n : ∀ i, i < 11 → ∀ j, j < i → (flatC narC)[nPl i + j]? = some (Cond.not (Cond.eq (nTm j) (nTm i))) := by decide +kernel
theorem nar_A : (flatC narC)[5]? = some (Cond.arrayOf (.static RX11 "ABOVE" "[I") .int) := by decide +kernel
theorem nar_L : (flatC narC)[6]? = some (Cond.eq (.length (.static RX11 "ABOVE" "[I")) (.int (Int32.ofNat 7))) := by decide +kernel
theorem nar_J : ∀ j, j < 7 → (flatC narC)[7 + j]? = some (Cond.eq (.elem (.static RX11 "ABOVE" "[I") (.int (Int32.ofNat j))) (.int (abv j))) := by decide +kernel
theorem nar_Z : (flatC narC)[14]? = some (Cond.eq (.static RJ0 "COMPACT_STRINGS" "Z") (.int 1)) := by decide +kernel
def Gof (a v : Nat → Nat) (t n : Nat) : Nat := if n < 11 then a n else if n < 22 then v (n - 11) else t
theorem Gof_a {a v : Nat → Nat} {t i : Nat} (h : i < 11) : Gof a v t i = a i := if_pos h
theorem Gof_v {a v : Nat → Nat} {t i : Nat} (h : i < 11) : Gof a v t (11 + i) = v i := by
  unfold Gof
  rw [if_neg (by omega), if_pos (by omega), Nat.add_sub_cancel_left]
theorem Gof_t {a v : Nat → Nat} {t : Nat} : Gof a v t 22 = t := rfl
set_option maxHeartbeats 4000000 in
theorem EV_start {args : Array Value} {s : State} (hts : ∀ w ∈ lw_tbl, w.before args s = true) (hgv : (Jvm.Cond.and given_1 narrow_1).before args s = true) : ∃ G : Nat → Nat, EV G (LA s) s s.heap := by
  have at_ : ∀ (k : Nat) (c : Cond), (flatC narC)[k]? = some c → c.before args s = true := fun k c h => flat_of_before _ hgv c (List.mem_of_getElem? h)
  have hA : ∀ a : Nat, a < s.heap.size → ¬ LA s a := fun a h => Nat.not_le.mpr h
  obtain ⟨a, v, hS, hK⟩ := vk_Sof (N := 11) (tm := nTm) (len := slen) (byt := sbyt) (A := LA s) (by decide) (fun i hi => at_ _ _ (nar_e i hi)) (fun i hi => at_ _ _ (nar_c i hi)) (fun i hi => at_ _ _ (nar_a i hi)) (fun i hi => at_ _ _ (nar_l i hi)) (fun i hi j hj => at_ _ _ (nar_j i hi j hj)) (fun i j hi hj hn => (Nat.lt_or_gt_of_ne hn).elim (fun h => Or.inl (at_ _ _ (nar_n j hj i h))) (fun h => Or.inr (at_ _ _ (nar_n i hi j h)))) hA
  obtain ⟨t, ht, hT⟩ := va_Tof (tm := .static RX11 "ABOVE" "[I") (ty := .int) (N := 7) (f := fun j => .int (abv j)) (A := LA s) (by decide) (at_ 5 _ nar_A) (va_eqt (at_ 6 _ nar_L)) (fun j hj => va_eqt (at_ _ _ (nar_J j hj))) hA
  refine ⟨Gof a v t, ⟨fun w hw => va_Nw.of (nwl_on w hw) (hts w (in_nwl w hw)), fun w hw => va_tabs (Bool.and_eq_true_iff.mp (xwl_on w hw)).1 rfl (hts w (in_xwl w hw)), w_ao hts, w_cast hts⟩, ?_, ?_, ?_, ?_, ?_⟩
  · exact vk_Scong hS (fun i hi => Gof_a hi) (fun i hi => Gof_v hi)
  · intro i hi
    rw [Gof_a hi]
    exact vk_R.of (hts _ (w_sr i hi)) (hK i hi)
  · exact va_Zref (hts _ wl1383) (hts _ wl171) ht hA
  · exact hT
  · exact va_Zof (hts _ wl1384) (hts _ wl512) (va_eqt (at_ 14 _ nar_Z)) hA
