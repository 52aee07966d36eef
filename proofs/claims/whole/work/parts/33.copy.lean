/-! a method that answers a new array; Arrays.copyOf -/
def QR (D : va_G) (tys : List (ClassId × FieldType)) (A : Nat → Prop) (WS : va_W → Nat → Prop) : Array Value → State → Outcome → State → Prop :=
  va_Qr (fun _ : va_W => True) (fun w q t => WS w q ∧ va_P D vwCl w t.heap ∧ va_K D vwCl tys t ∧ va_D A w) A
section COPYS
variable {p : Program} {l : Launch} {e : Env} {R : Room} {s : State} {m : MethodId} {args : Array Value} {below : List Frame} {meth : Method} {c : Code} {H : Heap} {locs : List Loc} {cells slots mc ms : Nat} {Q : State → Prop}
variable {cc : ByteArray} {pc : Nat} {ls : Array Slot} {rest st0 : List Value} {D : va_G} {A : Nat → Prop} {tys : List (ClassId × FieldType)} {w1 wc : va_W} {WS : va_W → Nat → Prop} {a : Array Value}
theorem retR {q : Nat} {rt : FieldType} (hw : WS w1 q) (hrt : (∃ n, rt = .object n) ∨ ∃ t, rt = .array t) (hx : p.tables.exec = Jvm.exec) (hb : c.code = cc) (hr : meth.sig.returnType = some rt) (hlocks : meth.locks = false) (hK : va_K D vwCl tys s) (hP : va_P D vwCl w1 H) (hD : va_D A w1) (hS : va_S A s.heap H locs) (hdg : decode cc pc = .ok (.areturn, 1)) (hm : cells ≤ mc ∧ slots ≤ ms) : W p l e R s m args below meth c H locs cells slots (MQ below (QR D tys A WS) args s mc ms A) (F0 m pc ls [.ref q]) :=
  W.widen hm.1 hm.2 (W.aret hx hb hr hrt (Or.inr ⟨q, rfl⟩) (fun t ht hW => ⟨⟨w1, q, rfl, trivial, hw, by rw [ht]; exact hP, va_K.moved hW.alike hK, hD⟩, hS.F ht⟩) hS.2.2 hdg hlocks)
theorem calR (hr : va_Run p l e R s m args below meth c H locs cells slots mc ms (F0 m pc ls st0) rest (QR D tys (va_A wc H.size) WS a) (va_A wc H.size)) (hS : va_S A s.heap H locs) (hsb : Sb D A H wc)
    (kk : ∀ (w1 : va_W) (q : Nat) (H1 : Heap) (locs1 : List Loc), WS w1 q → va_P D vwCl w1 H1 → va_D (va_A wc H.size) w1 → (∀ q : Nat, q < H.size → ¬ va_A wc H.size q → H1[q]? = H[q]?) → va_S A s.heap H1 locs1 → W p l e R s m args below meth c H1 locs1 (cells + mc) (slots + ms) Q (F0 m (pc + 3) ls (.ref q :: rest))) : W p l e R s m args below meth c H locs cells slots Q (F0 m pc ls st0) :=
  va_callr hr hS (fun q _ h => hsb.2.2 q h) hsb.2.2 (fun u q t H1 locs1 ht hvm hw hB hz hk hS1 => by
    obtain ⟨hW, hP1, -, hD1⟩ := hB
    rw [ht] at hP1
    exact kk u q H1 locs1 hW hP1 hD1 hk hS1)
end COPYS
def cpyOf (arr : Nat → Int32) (k : Int32) : Nat → Int32 := if k = 50 then arr else va_cpy arr (fun _ => 0) 0 0 k.toNatClampNeg
theorem jmin_lo {k : Int32} (h : ¬ k = 50) (hk2 : k.toNatClampNeg ≤ 50) : jmin 50 k = k := by
  unfold jmin
  by_cases h2 : k < 50
  · rw [if_pos h2]
  · exfalso
    rw [Int32.lt_iff_toInt_lt] at h2
    have e : (50 : Int32).toInt = 50 := by decide
    have h3 : k.toInt.toNat ≤ 50 := hk2
    exact h (Int32.toInt_inj.mp (by omega))
theorem fits_i {cA : ClassId} {n : Nat} {f : Nat → Int32} (i : Nat) (v : Value) (h : (vp_cell cA (n, .inl f)).slots[i]? = some v) : fits .int v = true := by
  rw [vp_cell_i] at h
  by_cases hi : i < n
  · rw [arrV_read _ _ hi] at h
    cases h
    rfl
  · have h2 := (Array.getElem?_eq_some_iff.mp h).1
    rw [arrV_size] at h2
    exact absurd h2 hi
set_option maxHeartbeats 4000000 in
theorem c_J7_copyOf_59c91 (l : Launch) (G : Nat → Nat) (D : va_G) (cA : Nat → ClassId) (sz a : Nat) (arr : Nat → Int32) (k : Int32) (hk : ¬ k < 0) (hk2 : k.toNatClampNeg ≤ 50) : Met l yJ7_copyOf_59c91 wsJ7_copyOf_59c91 ({ frames := 1, cells := 1, slots := 50, locals := 60 } : Room) (PW G D (tyC cA) sz (wA cA a 50 arr) [.ref a, .int k]) (QR D (tyC cA) (va_A (wA cA a 50 arr) sz) (fun w q => w = wA cA a 50 arr ++ [(q, .inl (cA 0, k.toNatClampNeg, .inl (cpyOf arr k)))])) 1 50 (va_A (wA cA a 50 arr) sz) := by
  refine ent (y := yJ7_copyOf_59c91) (av := [.ref a, .int k]) (w0 := wA cA a 50 arr) (cc := cJ7_copyOf_59c91) (maxL := 3) (ret := some (.array .int)) (fun A => QR D (tyC cA) A (fun w q => w = wA cA a 50 arr ++ [(q, .inl (cA 0, k.toNatClampNeg, .inl (cpyOf arr k)))])) (by decide +kernel) rfl (Nat.le_of_ble_eq_true rfl) ?_
  intro p e s m args below meth c A ls H hx hb hml hr hlk hts hown hA hK hE hP hD hS hv hmm
  have hv : lv_has ls 3 [(0, .ref a), (1, .int k)] := hv
  have w_0 := hts (.methodLink RJ7 316 ⟨"[I", "clone", "()Ljava/lang/Object;"⟩) (by decide +kernel)
  have w_1 := hts (.sameMethod "[I" "java/lang/Object" "clone" "()Ljava/lang/Object;") (by decide +kernel)
  have w_2 := hts (.native ⟨"java/lang/Object", "clone", "()Ljava/lang/Object;"⟩) (by decide +kernel)
  have w_3 := hts (.instanceMethod ⟨"java/lang/Object", "clone", "()Ljava/lang/Object;"⟩) (by decide +kernel)
  have w_4 := hts (.selects "[I" ⟨"[I", "clone", "()Ljava/lang/Object;"⟩ ⟨"java/lang/Object", "clone", "()Ljava/lang/Object;"⟩) (by decide +kernel)
  have w_5 := hts (.classLink RJ7 317 "[I") (by decide +kernel)
  have w_6 := hts (.arrayClass .int) (by decide +kernel)
  have w_7 := hts (.methodLink RJ7 304 Lib.Math.min.name) (by decide +kernel)
  have w_8 := hts (.static Lib.Math.min.name) (by decide +kernel)
  have w_9 := hts (.initialized "java/lang/Math") (by decide +kernel)
  have w_10 := hts (.code Lib.Math.min.name Lib.Math.min.code 2 (some .int)) (by decide +kernel)
  have w_11 := hts (.methodLink RJ7 150 arraycopyName) (by decide +kernel)
  have w_12 := hts (.native arraycopyName) (by decide +kernel)
  have w_13 := hts (.static arraycopyName) (by decide +kernel)
  have w_14 := hts (.initialized "java/lang/System") (by decide +kernel)
  have hnm : s.vm.findClass "[I" = some (cA 0) := (hK.2 0 _ rfl).2
  generalize hQ : MQ below _ args s 1 50 A = Q
  have hP : va_P D vwCl (wA cA a 50 arr) H := hP
  have hD : va_D A (wA cA a 50 arr) := hD
  refine lv_iload_n hx hb dJ7_copyOf_59c91_0 rfl (lv_at hv 1 rfl) ?_
  refine lv_aload_n hx hb dJ7_copyOf_59c91_1 rfl (lv_at hv 0 rfl) ?_
  refine va_alen (D := D) (v := (50 : Int32)) hx hb hK hP 0 0 rfl rfl rfl dJ7_copyOf_59c91_2 ?_
  refine lv_icmp_ne (tgt := 14) hx hb dJ7_copyOf_59c91_3 (by decide) (fun c_1 => ?_) (fun c_1 => ?_)
  · refine lv_iload_n hx hb dJ7_copyOf_59c91_14 rfl (lv_at hv 1 rfl) ?_
    refine nwI hx hb hA w_6 rfl hK hP hD hS (n := k) (N' := k.toNatClampNeg) hk rfl (by omega) (Nat.le_of_ble_eq_true rfl) (by show 0 + _ ≤ 50; omega) dJ7_copyOf_59c91_15 ?_
    intro q1 H hP hD hS
    refine lv_astore_n (lv' := [(2, .ref q1), (0, .ref a), (1, .int k)]) hx hb dJ7_copyOf_59c91_17 rfl hv (by decide) rfl (fun ls hv => ?_)
    refine lv_aload_n hx hb dJ7_copyOf_59c91_18 rfl (lv_at hv 1 rfl) ?_
    refine lv_iconst (v := (0 : Int32)) hx hb dJ7_copyOf_59c91_19 (by decide) ?_
    refine lv_aload_n hx hb dJ7_copyOf_59c91_20 rfl (lv_at hv 0 rfl) ?_
    refine lv_iconst (v := (0 : Int32)) hx hb dJ7_copyOf_59c91_21 (by decide) ?_
    refine lv_aload_n hx hb dJ7_copyOf_59c91_22 rfl (lv_at hv 1 rfl) ?_
    refine va_alen (D := D) (v := (50 : Int32)) hx hb hK hP 0 0 rfl rfl rfl dJ7_copyOf_59c91_23 ?_
    refine lv_iload_n hx hb dJ7_copyOf_59c91_24 rfl (lv_at hv 2 rfl) ?_
    refine va_mmin hx hb (hml.trans hv.1.symm) hown w_7 w_8 w_9 w_10 (by first | exact Nat.le_of_ble_eq_true rfl | (show 0 + _ ≤ 50; omega)) (by first | exact Nat.le_of_ble_eq_true rfl | (show 0 + _ ≤ 50; omega)) (by first | exact Nat.le_of_ble_eq_true rfl | (show 0 + _ ≤ 50; omega)) (by first | exact Nat.le_of_ble_eq_true rfl | (show 0 + _ ≤ 50; omega)) dJ7_copyOf_59c91_25 ?_
    refine lv_nm (y := k) (jmin_lo c_1 hk2).symm ?_
    refine va_copyi (D := D) hx hb (hml.trans hv.1.symm) hown w_11 w_12 w_13 w_14 hK hP hD hS 0 1 0 0 rfl rfl rfl rfl rfl (by decide) (by decide) hk (by show 0 + _ ≤ 50; omega) (by show 0 + _ ≤ _; omega) (fun _ _ => rfl) (Nat.le_of_ble_eq_true rfl) (by decide +kernel) dJ7_copyOf_59c91_28 (fun H locs hP hD hS => ?_)
    refine lv_aload_n hx hb dJ7_copyOf_59c91_31 rfl (lv_at hv 0 rfl) ?_
    rw [← hQ]
    exact retR (by rw [show cpyOf arr k = va_cpy arr (fun _ => 0) 0 0 k.toNatClampNeg from if_neg c_1]; rfl) (Or.inr ⟨_, rfl⟩) hx hb hr hlk hK hP hD hS dJ7_copyOf_59c91_32 ⟨Nat.le_of_ble_eq_true rfl, by show 0 + _ ≤ 50; omega⟩
  · have c_2 : k = 50 := by first | exact c_1 | exact Decidable.of_not_not c_1
    subst c_2
    refine lv_aload_n hx hb dJ7_copyOf_59c91_6 rfl (lv_at hv 0 rfl) ?_
    refine va_clone hx hb (hml.trans hv.1.symm) hown w_0 w_1 w_2 w_3 w_4 (hE.1.2.2.2 ("[I", "java/lang/Cloneable") (by decide)) hK hP hD hS hA 0 0 rfl rfl hnm fits_i (Nat.le_of_ble_eq_true rfl) (by decide +kernel) (Nat.le_of_ble_eq_true rfl) (Nat.le_of_ble_eq_true rfl) dJ7_copyOf_59c91_7 ?_
    intro q1 H hK1 hP hD hS
    refine va_castA hx hb hown w_5 hP 1 rfl hnm dJ7_copyOf_59c91_10 ?_
    rw [← hQ]
    exact retR rfl (Or.inr ⟨_, rfl⟩) hx hb hr hlk hK hP hD hS dJ7_copyOf_59c91_13 ⟨Nat.le_of_ble_eq_true rfl, Nat.le_of_ble_eq_true rfl⟩
theorem cpyOf_at {arr : Nat → Int32} {k : Int32} {j : Nat} (hj : j < k.toNatClampNeg) : cpyOf arr k j = arr j := by
  unfold cpyOf
  by_cases h : k = 50
  · rw [if_pos h]
  · rw [if_neg h]
    unfold va_cpy
    rw [if_pos ⟨Nat.zero_le _, by omega⟩, Nat.zero_add, Nat.sub_zero]
