/-! the base of the walks: checks, loops, the form of every contract, entering, returning, calling -/
def bnd {α β : Type} (e : α) (k : α → β) : β := k e
def bd {α β : Type} (o : Option α) (k : α → Option β) : Option β := match o with
  | none => none
  | some a => k a
def ck {β : Type} (c : Prop) [Decidable c] (k : Option β) : Option β := if c then k else none
def inB (i : Int32) (n : Nat) : Bool := decide (0 ≤ i.toInt ∧ i.toInt < n)
def ckI {β : Type} (i : Int32) (n : Nat) (k : Option β) : Option β := if inB i n = true then k else none
def lp {σ ρ : Type} (b : σ → Option (σ ⊕ ρ)) : Nat → σ → Option ρ
  | 0, _ => none
  | n + 1, s => bd (b s) fun x => match x with
    | .inl s' => lp b n s'
    | .inr r => some r
def FU : Nat := 1000000
theorem bnd_ex {α β : Type} {e : α} {k : α → β} {r : β} (h : bnd e k = r) : ∃ y, y = e ∧ k y = r := ⟨e, rfl, h⟩
theorem bd_ex {α β : Type} {o : Option α} {k : α → Option β} {r : β} (h : bd o k = some r) : ∃ a, o = some a ∧ k a = some r := by
  cases o with
  | none => cases h
  | some a => exact ⟨a, rfl, h⟩
theorem ck_ex {β : Type} {c : Prop} [Decidable c] {k : Option β} {r : β} (h : ck c k = some r) : c ∧ k = some r := by
  unfold ck at h
  split at h
  · exact ⟨by assumption, h⟩
  · cases h
theorem inB_iff {i : Int32} {n : Nat} : inB i n = true ↔ 0 ≤ i.toInt ∧ i.toInt < n := by simp [inB]
theorem ckI_ex {β : Type} {i : Int32} {n : Nat} {k : Option β} {r : β} (h : ckI i n k = some r) : vp_in i n ∧ k = some r := by
  unfold ckI at h
  split at h
  · exact ⟨vp_in_iff.mpr (inB_iff.mp (by assumption)), h⟩
  · cases h
theorem ite_t {α : Type} {c : Prop} [Decidable c] {a b r : α} (hc : c) (h : (if c then a else b) = r) : a = r := by rw [if_pos hc] at h; exact h
theorem ite_f {α : Type} {c : Prop} [Decidable c] {a b r : α} (hc : ¬ c) (h : (if c then a else b) = r) : b = r := by rw [if_neg hc] at h; exact h
/-- 0 or 1: what a boolean may be -/
def isZ (r : Int32) : Bool := decide (r = 0) || decide (r = 1)
theorem isZ_n {r : Int32} (h : isZ r = true) : narrow .boolean (.int r) = .int r := by
  simp only [isZ, Bool.or_eq_true, decide_eq_true_eq] at h
  rcases h with rfl | rfl <;> rfl
-- what stands still: String constants, the nest's words, static fields
def stx : List String := ["kws", "rsn", "0123456789", "!", "(", ")", "*/%", "+-", "<=>", "&", "|"]
def sow : List (String × Nat) := [("SpoonsLast", 160), ("SpoonsLast", 162), ("SpoonsLast$Text", 78), ("SpoonsLast$Text", 89), ("SpoonsLast$Text", 91), ("SpoonsLast$Text", 93), ("SpoonsLast$Text", 76), ("SpoonsLast$Text", 71), ("SpoonsLast$Text", 66), ("SpoonsLast$Text", 61), ("SpoonsLast$Text", 45)]
def slen : List Nat := [3, 3, 10, 1, 1, 1, 3, 2, 3, 1, 1]
def sbyt : List (List Int32) := [[107, 119, 115], [114, 115, 110], [48, 49, 50, 51, 52, 53, 54, 55, 56, 57], [33], [40], [41], [42, 47, 37], [43, 45], [60, 61, 62], [38], [124]]
def nwl : List Cond := [.methodLinkNest RX11 11 yX8_init RX11, .methodLinkNest RX11 14 yX2_init RX11, .methodLinkNest RX2 1 yX8_init RX11, .methodLinkNest RX11 17 yX0_init RX11, .methodLinkNest RX0 1 yX8_init RX11, .methodLinkNest RX11 20 yX5_init RX11, .methodLinkNest RX5 1 yX8_init RX11, .methodLinkNest RX11 23 yX6_init RX11, .methodLinkNest RX6 1 yX2_init RX11, .methodLinkNest RX11 26 yX4_init RX11, .methodLinkNest RX4 1 yX0_init RX11, .methodLinkNest RX11 29 yX1_init RX11, .methodLinkNest RX1 1 yX5_init RX11, .methodLinkNest RX11 51 yX10_init RX11, .methodLinkNest RX11 62 yX7_init RX11, .methodLinkNest RX3 171 yX11_within RX11]
/-- the words of those super.m(..) whose methods lie two classes up -/
def xwl : List Cond := [.methodLink RX4 7 ⟨RX0, "stays", "(III)I"⟩, .sameMethod RX0 RX8 "stays" "(III)I", .superclass RX4 RX0, .superclass RX0 RX8, .instanceMethod yX8_stays, .initialized RX8, .methodLink RX4 11 ⟨RX0, "wears", "(I)I"⟩, .sameMethod RX0 RX8 "wears" "(I)I", .instanceMethod yX8_wears, .methodLink RX6 21 ⟨RX2, "tells", "(LSpoonsLast$Voice;I)I"⟩, .sameMethod RX2 RX8 "tells" "(LSpoonsLast$Voice;I)I", .superclass RX6 RX2, .superclass RX2 RX8, .instanceMethod yX8_tells, .methodLink RX1 34 ⟨RX5, "tells", "(LSpoonsLast$Voice;I)I"⟩, .sameMethod RX5 RX8 "tells" "(LSpoonsLast$Voice;I)I", .superclass RX1 RX5, .superclass RX5 RX8] ++ (wsX8_stays ++ (wsX8_wears ++ wsX8_tells))
def abv (j : Nat) : Int32 := match j with
  | 0 => -1
  | 1 => 0
  | 2 => 0
  | 3 => 0
  | 4 => 1
  | 5 => 2
  | _ => 3
/-- what may be cast to what -/
def cwl : List (String × String) := [("[I", "java/lang/Cloneable"), (RX2, RX8), (RX0, RX8), (RX5, RX8), (RX6, RX8), (RX4, RX8), (RX1, RX8)]
def EV (G : Nat → Nat) (A : Nat → Prop) (U : State) (H : Heap) : Prop :=
  ((∀ w ∈ nwl, va_Nw w U) ∧ (∀ w ∈ xwl, w.before #[] U = true) ∧ (∀ C ∈ [RX8, RX9, RX7], va_AO C U) ∧ ∀ x ∈ cwl, va_Nw (.castable x.1 x.2) U) ∧ vk_S 11 slen sbyt G (fun i => G (11 + i)) A U H ∧ (∀ i : Nat, i < 11 → vk_R (sow.getD i ("", 0)).1 (sow.getD i ("", 0)).2 (stx.getD i "") (G i) U) ∧
  va_Z RX11 "ABOVE" "[I" (.ref (G 22)) A U H ∧ va_T .int (G 22) 7 (fun j => .int (abv j)) A U H ∧ va_Z RJ0 "COMPACT_STRINGS" "Z" (.int 1) A U H
theorem nwl_on : ∀ w ∈ nwl, w.onTables = true := by decide +kernel
theorem xwl_on : ∀ w ∈ xwl, (w.onTables && w.keeps) = true := by decide +kernel
theorem EV.same {G : Nat → Nat} {A : Nat → Prop} {u U : State} {H : Heap} (hv : U.vm = u.vm) (h : EV G A u H) : EV G A U H := by
  have ha : u.vm.Alike U.vm := by rw [hv]; exact Vm.Alike.refl _
  exact ⟨⟨fun w hw => (h.1.1 w hw).same (nwl_on w hw) hv.symm, fun w hw => va_tabs (Bool.and_eq_true_iff.mp (xwl_on w hw)).1 hv.symm (h.1.2.1 w hw), fun C hC => (h.1.2.2.1 C hC).moved ha, fun x hx => (h.1.2.2.2 x hx).same rfl hv.symm⟩, h.2.1.moved ha, fun i hi => (h.2.2.1 i hi).same hv, h.2.2.2.1.moved ha, h.2.2.2.2.1.moved ha, h.2.2.2.2.2.moved ha⟩
theorem nwl_warm {s U : State} (hW : s.WarmedH U.vm) (h : ∀ w ∈ nwl, va_Nw w s) : ∀ w ∈ nwl, va_Nw w U := by
  have k : ∀ (a : String) (i : Nat) (x : MethodName) (b : String), Cond.methodLinkNest a i x b ∈ nwl → va_Nw (.methodLinkNest a i x b) U := fun a i x b hm => (h _ hm).warmM hW
  intro w hw
  have hw2 := hw
  unfold nwl at hw
  simp only [List.mem_cons, List.not_mem_nil, or_false] at hw
  rcases hw with rfl | rfl | rfl | rfl | rfl | rfl | rfl | rfl | rfl | rfl | rfl | rfl | rfl | rfl | rfl | rfl <;> exact k _ _ _ _ hw2
theorem EV.warm {G : Nat → Nat} {A : Nat → Prop} {s U : State} {H : Heap} (hW : s.WarmedH U.vm) (h : EV G A s H) : EV G A U H :=
  ⟨⟨nwl_warm hW h.1.1, fun w hw => word_at hW (Or.inl (xwl_on w hw)) (h.1.2.1 w hw), fun C hC => (h.1.2.2.1 C hC).moved hW.alike, fun x hx => (h.1.2.2.2 x hx).warmC hW⟩, h.2.1.moved hW.alike, fun i hi => (h.2.2.1 i hi).warm hW, h.2.2.2.1.moved hW.alike, h.2.2.2.2.1.moved hW.alike, h.2.2.2.2.2.moved hW.alike⟩
theorem EV.kept {G : Nat → Nat} {A : Nat → Prop} {U : State} {H H1 : Heap} (h : EV G A U H) (hq : ∀ a : Nat, a < H.size → ¬ A a → H1[a]? = H[a]?) : EV G A U H1 :=
  ⟨h.1, h.2.1.kept hq, h.2.2.1, h.2.2.2.1.kept hq, h.2.2.2.2.1.kept hq, h.2.2.2.2.2.kept hq⟩
theorem EV.narrow {G : Nat → Nat} {A B : Nat → Prop} {U : State} {H : Heap} (h : EV G A U H) (hAB : ∀ q, B q → A q) : EV G B U H :=
  ⟨h.1, h.2.1.narrow hAB, h.2.2.1, h.2.2.2.1.narrow hAB, h.2.2.2.2.1.narrow hAB, h.2.2.2.2.2.narrow hAB⟩
-- the contracts' form
def PW (G : Nat → Nat) (D : va_G) (tys : List (ClassId × FieldType)) (sz : Nat) (w0 : va_W) (av : List Value) : Array Value → State → Prop :=
  va_Pc av (fun U => U.heap.size = sz ∧ va_P D vwCl w0 U.heap ∧ va_K D vwCl tys U ∧ va_D (fun _ => True) w0 ∧ EV G (va_A w0 sz) U U.heap)
theorem PW.blind {G : Nat → Nat} {D : va_G} {tys : List (ClassId × FieldType)} {sz : Nat} {w0 : va_W} {av : List Value} : FrameBlind (PW G D tys sz w0 av) := by
  intro a U g mk h
  obtain ⟨h0, h1, h2, h3, h4, h5⟩ := h
  exact ⟨h0, h1, h2, va_K.moved (u := U) (U := U.calling g mk a) (Vm.Alike.refl U.vm) h3, h4, EV.same (u := U) (U := U.calling g mk a) rfl h5⟩
def QI (D : va_G) (tys : List (ClassId × FieldType)) (A : Nat → Prop) (r : Int32) (w1 : va_W) : Array Value → State → Outcome → State → Prop :=
  va_Qi (fun (x : Int32) (_ : Unit) => x = r) (fun _ t => va_P D vwCl w1 t.heap ∧ va_K D vwCl tys t ∧ va_D A w1) A
def QL (D : va_G) (tys : List (ClassId × FieldType)) (A : Nat → Prop) (r : Int64) (w1 : va_W) : Array Value → State → Outcome → State → Prop :=
  va_Ql (fun (x : Int64) (_ : Unit) => x = r) (fun _ t => va_P D vwCl w1 t.heap ∧ va_K D vwCl tys t ∧ va_D A w1) A
def QV (D : va_G) (tys : List (ClassId × FieldType)) (A : Nat → Prop) (w1 : va_W) : Array Value → State → Outcome → State → Prop :=
  va_Qv (fun (_ : Unit) => True) (fun _ t => va_P D vwCl w1 t.heap ∧ va_K D vwCl tys t ∧ va_D A w1) A
section ENT
variable {l : Launch} {y : MethodName} {wsY ws' : List Cond} {rm : Room} {G : Nat → Nat} {D : va_G} {tys : List (ClassId × FieldType)} {sz mc ms : Nat} {w0 w1 : va_W} {av : List Value} {cc : ByteArray} {maxL : Nat} {ret : Option FieldType}
/-- entering: the walk of a body gives the contract -/
theorem ent (Q : (Nat → Prop) → Array Value → State → Outcome → State → Prop) (hy : plainFor y = true) (hw : wsY = .code y cc maxL ret :: ws') (hlen : (lg_sl av).length ≤ maxL)
    (body : ∀ (p : Program) (e : Env) (s : State) (m : MethodId) (args : Array Value) (below : List Frame) (meth : Method) (c : Code) (A : Nat → Prop) (ls : Array Slot) (H : Heap), p.tables.exec = Jvm.exec → c.code = cc → c.maxLocals = maxL → meth.sig.returnType = ret → meth.locks = false → (∀ w ∈ wsY, w.before args s = true) → s.vm.findClass y.cls = some m.cls → (∀ q : Nat, s.heap.size ≤ q → A q) → va_K D vwCl tys s → EV G A s s.heap → va_P D vwCl w0 H → va_D A w0 → va_S A s.heap H [] → lv_has ls maxL (lv_args 0 av) → (s.methodNamed? y = some m ∧ s.vm.method? m = some meth) →
      W p l e rm s m args below meth c H [] 0 0 (MQ below (Q A) args s mc ms A) (F0 m 0 ls [])) :
    Met l y wsY rm (PW G D tys sz w0 av) (Q (va_A w0 sz)) mc ms (va_A w0 sz) := by
  refine va_MetF (cc := cc) (maxL := maxL) (ret := ret) hy hw ?_
  intro p e s m args below meth c s₁ B hml hv
  obtain ⟨rfl, hsz, hP, hK, hD0, hE⟩ := hv
  subst hsz
  rw [lg_entry_eq]
  exact body p e s m _ below meth c (va_A w0 s.heap.size) _ s.heap B.exec B.bytes hml B.returns B.notSynchronized (atoms_spec (ws := wsY) B.pre) (findClass_of_methodNamed B.named) (fun q h => Or.inr h) hK hE hP hD0.self va_S.rf (lv_entry av hlen) ⟨B.named, B.method⟩
end ENT
section RET
variable {p : Program} {l : Launch} {e : Env} {R : Room} {s : State} {m : MethodId} {args : Array Value} {below : List Frame} {meth : Method} {c : Code} {H : Heap} {locs : List Loc} {cells slots mc ms : Nat} {Q : State → Prop}
variable {cc : ByteArray} {pc : Nat} {ls : Array Slot} {rest : List Value} {D : va_G} {A : Nat → Prop} {tys : List (ClassId × FieldType)} {w1 : va_W}
theorem retI {r : Int32} (hx : p.tables.exec = Jvm.exec) (hb : c.code = cc) (hr : meth.sig.returnType = some .int) (hlocks : meth.locks = false) (hK : va_K D vwCl tys s) (hP : va_P D vwCl w1 H) (hD : va_D A w1) (hS : va_S A s.heap H locs) (hdg : decode cc pc = .ok (.ireturn, 1)) (hm : cells ≤ mc ∧ slots ≤ ms) : W p l e R s m args below meth c H locs cells slots (MQ below (QI D tys A r w1) args s mc ms A) (F0 m pc ls [.int r]) :=
  W.widen hm.1 hm.2 (W.iret hx hb hr (fun t ht hW => ⟨⟨r, (), rfl, rfl, by rw [ht]; exact hP, va_K.moved hW.alike hK, hD⟩, hS.F ht⟩) hS.2.2 hdg hlocks)
theorem retZ {r : Int32} (hz : isZ r = true) (hx : p.tables.exec = Jvm.exec) (hb : c.code = cc) (hr : meth.sig.returnType = some .boolean) (hlocks : meth.locks = false) (hK : va_K D vwCl tys s) (hP : va_P D vwCl w1 H) (hD : va_D A w1) (hS : va_S A s.heap H locs) (hdg : decode cc pc = .ok (.ireturn, 1)) (hm : cells ≤ mc ∧ slots ≤ ms) : W p l e R s m args below meth c H locs cells slots (MQ below (QI D tys A r w1) args s mc ms A) (F0 m pc ls [.int r]) :=
  W.widen hm.1 hm.2 (W.zret hx hb hr (isZ_n hz) (fun t ht hW => ⟨⟨r, (), rfl, rfl, by rw [ht]; exact hP, va_K.moved hW.alike hK, hD⟩, hS.F ht⟩) hS.2.2 hdg hlocks)
theorem retL {r : Int64} (hx : p.tables.exec = Jvm.exec) (hb : c.code = cc) (hr : meth.sig.returnType = some .long) (hlocks : meth.locks = false) (hK : va_K D vwCl tys s) (hP : va_P D vwCl w1 H) (hD : va_D A w1) (hS : va_S A s.heap H locs) (hdg : decode cc pc = .ok (.lreturn, 1)) (hm : cells ≤ mc ∧ slots ≤ ms) : W p l e R s m args below meth c H locs cells slots (MQ below (QL D tys A r w1) args s mc ms A) (F0 m pc ls [.long r]) :=
  W.widen hm.1 hm.2 (W.lret hx hb hr (fun t ht hW => ⟨⟨r, (), rfl, rfl, by rw [ht]; exact hP, va_K.moved hW.alike hK, hD⟩, hS.F ht⟩) hS.2.2 hdg hlocks)
theorem retV (hx : p.tables.exec = Jvm.exec) (hb : c.code = cc) (hr : meth.sig.returnType = none) (hlocks : meth.locks = false) (hK : va_K D vwCl tys s) (hP : va_P D vwCl w1 H) (hD : va_D A w1) (hS : va_S A s.heap H locs) (hdg : decode cc pc = .ok (.return_, 1)) (hm : cells ≤ mc ∧ slots ≤ ms) : W p l e R s m args below meth c H locs cells slots (MQ below (QV D tys A w1) args s mc ms A) (F0 m pc ls []) :=
  W.widen hm.1 hm.2 (W.vret hx hb hr (fun t ht hW => ⟨⟨(), rfl, trivial, by rw [ht]; exact hP, va_K.moved hW.alike hK, hD⟩, hS.F ht⟩) hS.2.2 hdg hlocks)
theorem lv_nm {x y : Int32} (hy : y = x) (k : W p l e R s m args below meth c H locs cells slots Q (F0 m pc ls (.int y :: rest))) : W p l e R s m args below meth c H locs cells slots Q (F0 m pc ls (.int x :: rest)) := by subst hy; exact k
theorem lv_nml {x y : Int64} (hy : y = x) (k : W p l e R s m args below meth c H locs cells slots Q (F0 m pc ls (.long y :: rest))) : W p l e R s m args below meth c H locs cells slots Q (F0 m pc ls (.long x :: rest)) := by subst hy; exact k
end RET
-- joining behind a call: the callee's cells, by their places, hold new things at their old addresses
def upl (l : va_W) : List (Nat × (Nat × va_E)) → va_W
  | [] => l
  | (i, q) :: r => upl (l.set i q) r
theorem upl_mem {r : List (Nat × (Nat × va_E))} : ∀ {l : va_W} {k : Nat} {q : Nat × va_E}, (upl l r)[k]? = some q → (∃ i, (i, q) ∈ r) ∨ (l[k]? = some q ∧ ∀ x ∈ r, x.1 ≠ k) := by
  induction r with
  | nil => intro l k q h; exact Or.inr ⟨h, fun x hx => by cases hx⟩
  | cons a r ih =>
    intro l k q h
    obtain ⟨i, q2⟩ := a
    rcases ih h with ⟨j, hj⟩ | ⟨h1, h2⟩
    · exact Or.inl ⟨j, List.mem_cons_of_mem _ hj⟩
    · by_cases hik : i = k
      · subst hik
        rw [List.getElem?_set] at h1
        simp only [if_true] at h1
        split at h1
        · cases h1
          exact Or.inl ⟨i, List.mem_cons_self⟩
        · cases h1
      · rw [List.getElem?_set, if_neg hik] at h1
        refine Or.inr ⟨h1, fun x hx => ?_⟩
        rcases List.mem_cons.mp hx with rfl | hx
        · exact hik
        · exact h2 x hx
theorem va_D_addr {A : Nat → Prop} {ws ws' : va_W} (h : va_D A ws) (e : ws'.map Prod.fst = ws.map Prod.fst) : va_D A ws' := by
  have g : ∀ (k : Nat) (q : Nat × va_E), ws'[k]? = some q → ∃ q2 : Nat × va_E, ws[k]? = some q2 ∧ q2.1 = q.1 := by
    intro k q hq
    have h1 : (ws'.map Prod.fst)[k]? = some q.1 := by rw [List.getElem?_map, hq]; rfl
    rw [e, List.getElem?_map] at h1
    cases hw : ws[k]? with
    | none => rw [hw] at h1; cases h1
    | some q2 => rw [hw] at h1; exact ⟨q2, rfl, Option.some.inj h1⟩
  refine ⟨fun i j p q hp hq hpq => ?_, fun k q hq => ?_⟩
  · obtain ⟨p2, hp2, ep⟩ := g i p hp
    obtain ⟨q2, hq2, eq⟩ := g j q hq
    exact h.1 i j p2 q2 hp2 hq2 (by rw [ep, eq, hpq])
  · obtain ⟨q2, hq2, eq⟩ := g k q hq
    rw [← eq]
    exact h.2 k q2 hq2
section CAL
variable {p : Program} {l : Launch} {e : Env} {R : Room} {s : State} {m : MethodId} {args : Array Value} {below : List Frame} {meth : Method} {c : Code} {H : Heap} {locs : List Loc} {cells slots : Nat} {Q : State → Prop}
variable {pc : Nat} {ls : Array Slot} {rest st0 : List Value} {a : Array Value} {D : va_G} {A : Nat → Prop} {tys : List (ClassId × FieldType)} {ws wc w1 ws' lit pool litc pool1 : va_W} {mc ms : Nat} {G : Nat → Nat} {b : Addr} {As av : List Value} {C : String}
/-- the callee's cells are among the caller's -/
def Sb (D : va_G) (A : Nat → Prop) (H : Heap) (wc : va_W) : Prop := va_P D vwCl wc H ∧ va_D (fun _ => True) wc ∧ ∀ q, va_A wc H.size q → A q
/-- what stands behind the call, of the caller's cells -/
def Jn (D : va_G) (A : Nat → Prop) (H : Heap) (wc w1 ws' : va_W) : Prop := ∀ H1 : Heap, va_P D vwCl w1 H1 → va_D (va_A wc H.size) w1 → (∀ q : Nat, q < H.size → ¬ va_A wc H.size q → H1[q]? = H[q]?) → va_P D vwCl ws' H1 ∧ va_D A ws'
theorem Sb.of_sub (hP : va_P D vwCl ws H) (hD : va_D A ws) (hS : va_S A s.heap H locs) (hA : ∀ q, s.heap.size ≤ q → A q) (hm : ∀ (k : Nat) (q : Nat × va_E), wc[k]? = some q → ∃ i : Nat, ws[i]? = some q) (hd : va_D (fun _ => True) wc) : Sb D A H wc := by
  refine ⟨fun k q hq => ?_, hd, fun q h => ?_⟩
  · obtain ⟨i, hi⟩ := hm k q hq
    exact hP i q hi
  · rcases h with ⟨k, e, h⟩ | h
    · obtain ⟨i, hi⟩ := hm k _ h
      exact hD.2 i _ hi
    · exact hA q (Nat.le_trans hS.1 h)
theorem Sb.same (hP : va_P D vwCl ws H) (hD : va_D A ws) (hS : va_S A s.heap H locs) (hA : ∀ q, s.heap.size ≤ q → A q) : Sb D A H ws :=
  Sb.of_sub hP hD hS hA (fun k _ hq => ⟨k, hq⟩) (hD.weaken (fun _ _ _ _ => trivial))
theorem Sb.nil (hP : va_P D vwCl ws H) (hD : va_D A ws) (hS : va_S A s.heap H locs) (hA : ∀ q, s.heap.size ≤ q → A q) : Sb D A H [] :=
  Sb.of_sub hP hD hS hA (fun k q hq => (by cases hq)) ⟨fun i j p q hp => (by cases hp), fun k q hq => (by cases hq)⟩
theorem Jn.same (hsb : Sb D A H ws) : Jn D A H ws w1 w1 := fun _ h1 h2 _ => ⟨h1, h2.weaken (fun _ _ _ h => hsb.2.2 _ h)⟩
/-- the callee's cells lie at the places Cp of the caller's -/
theorem Jn.of_places (Cp : Nat → Prop) (hP : va_P D vwCl ws H) (hD : va_D A ws) (h1 : ∀ (k : Nat) (q : Nat × va_E), wc[k]? = some q → ∃ i : Nat, Cp i ∧ ws[i]? = some q) (h2 : ∀ (k : Nat) (q : Nat × va_E), ws'[k]? = some q → (∃ i : Nat, w1[i]? = some q) ∨ (ws[k]? = some q ∧ ¬ Cp k)) (h3 : ws'.map Prod.fst = ws.map Prod.fst) : Jn D A H wc w1 ws' := by
  intro H1 hP1 hD1 hk
  refine ⟨fun k q hq => ?_, va_D_addr hD h3⟩
  rcases h2 k q hq with ⟨i, hi⟩ | ⟨h4, h5⟩
  · exact hP1 i q hi
  · have hl := (hP k q h4).lt
    refine (hP k q h4).kept (hk q.1 hl fun h6 => ?_)
    rcases h6 with ⟨j, e, h6⟩ | h6
    · obtain ⟨i, h7, h8⟩ := h1 j _ h6
      have hij := hD.1 k i q (q.1, e) h4 h8 rfl
      subst hij
      exact h5 h7
    · omega
theorem Jn.nil (hP : va_P D vwCl ws H) (hD : va_D A ws) : Jn D A H [] [] ws :=
  Jn.of_places (fun _ => False) hP hD (fun k q h => by cases h) (fun k q h => Or.inr ⟨h, fun x => x⟩) rfl
theorem at_places {is : List Nat} {w ws : va_W} (hs : is.map (fun i => ws[i]?) = w.map some) (k : Nat) (q : Nat × va_E) (hq : w[k]? = some q) : ∃ i, is[k]? = some i ∧ ws[i]? = some q := by
  have h1 : (is.map (fun i => ws[i]?))[k]? = some (some q) := by rw [hs, List.getElem?_map, hq]; rfl
  rw [List.getElem?_map] at h1
  cases hi : is[k]? with
  | none => rw [hi] at h1; cases h1
  | some i => rw [hi] at h1; exact ⟨i, rfl, Option.some.inj h1⟩
theorem va_D_places (isC : List Nat) (hn : va_nd isC = true) (hD : va_D A ws) (hC : isC.map (fun i => ws[i]?) = wc.map some) : va_D (fun _ => True) wc :=
  (hD.sub isC hn hC).weaken (fun _ _ _ _ => trivial)
theorem pre_ok (hE : EV G A s s.heap) (hK : va_K D vwCl tys s) (hS : va_S A s.heap H locs) (hsb : Sb D A H wc) (U : State) (hU : U.heap = H) (hW : s.WarmedH U.vm) : PW G D tys H.size wc av av.toArray U := by
  subst hU
  exact ⟨rfl, rfl, hsb.1, va_K.moved hW.alike hK, hsb.2.1, (((hE.kept hS.2.1).narrow hsb.2.2)).warm hW⟩
theorem pvV (hE : EV G A s s.heap) (hK : va_K D vwCl tys s) (hS : va_S A s.heap H locs) (hsb : Sb D A H wc) (hr : ∃ cellB : Cell, H[b]? = some cellB ∧ cellB.vm.isStatics = false ∧ s.vm.findClass C = some cellB.cls) : PreV s H C b (PW G D tys H.size wc (Value.ref b :: As)) As :=
  ⟨PW.blind, hr, fun U hU hW => pre_ok hE hK hS hsb U hU hW⟩
theorem pvS (hE : EV G A s s.heap) (hK : va_K D vwCl tys s) (hS : va_S A s.heap H locs) (hsb : Sb D A H wc) : PreS s H (PW G D tys H.size wc As) As :=
  ⟨PW.blind, fun U hU hW => pre_ok hE hK hS hsb U hU hW⟩
theorem calI {r : Int32} (hr : va_Run p l e R s m args below meth c H locs cells slots 0 0 (F0 m pc ls st0) rest (QI D tys (va_A wc H.size) r w1 a) (va_A wc H.size)) (hS : va_S A s.heap H locs) (hsb : Sb D A H wc) (hj : Jn D A H wc w1 ws')
    (kk : ∀ (H1 : Heap) (locs1 : List Loc), va_P D vwCl ws' H1 → va_D A ws' → va_S A s.heap H1 locs1 → W p l e R s m args below meth c H1 locs1 cells slots Q (F0 m (pc + 3) ls (.int r :: rest))) : W p l e R s m args below meth c H locs cells slots Q (F0 m pc ls st0) :=
  va_calli hr hS (fun q _ h => hsb.2.2 q h) hsb.2.2 (fun r2 u t H1 locs1 ht hvm hw hB hz hk hS1 => by
    obtain ⟨hP1, -, hD1⟩ := hB
    rw [ht] at hP1
    obtain ⟨hP2, hD2⟩ := hj H1 hP1 hD1 hk
    have e : r2 = r := hw
    subst e
    exact kk H1 locs1 hP2 hD2 hS1)
theorem calL {r : Int64} (hr : va_Run p l e R s m args below meth c H locs cells slots 0 0 (F0 m pc ls st0) rest (QL D tys (va_A wc H.size) r w1 a) (va_A wc H.size)) (hS : va_S A s.heap H locs) (hsb : Sb D A H wc) (hj : Jn D A H wc w1 ws')
    (kk : ∀ (H1 : Heap) (locs1 : List Loc), va_P D vwCl ws' H1 → va_D A ws' → va_S A s.heap H1 locs1 → W p l e R s m args below meth c H1 locs1 cells slots Q (F0 m (pc + 3) ls (.long r :: rest))) : W p l e R s m args below meth c H locs cells slots Q (F0 m pc ls st0) :=
  va_calll hr hS (fun q _ h => hsb.2.2 q h) hsb.2.2 (fun r2 u t H1 locs1 ht hvm hw hB hz hk hS1 => by
    obtain ⟨hP1, -, hD1⟩ := hB
    rw [ht] at hP1
    obtain ⟨hP2, hD2⟩ := hj H1 hP1 hD1 hk
    have e : r2 = r := hw
    subst e
    exact kk H1 locs1 hP2 hD2 hS1)
theorem calV (hr : va_Run p l e R s m args below meth c H locs cells slots 0 0 (F0 m pc ls st0) rest (QV D tys (va_A wc H.size) w1 a) (va_A wc H.size)) (hS : va_S A s.heap H locs) (hsb : Sb D A H wc) (hj : Jn D A H wc w1 ws')
    (kk : ∀ (H1 : Heap) (locs1 : List Loc), va_P D vwCl ws' H1 → va_D A ws' → va_S A s.heap H1 locs1 → W p l e R s m args below meth c H1 locs1 cells slots Q (F0 m (pc + 3) ls rest)) : W p l e R s m args below meth c H locs cells slots Q (F0 m pc ls st0) :=
  va_callv hr hS (fun q _ h => hsb.2.2 q h) hsb.2.2 (fun u t H1 locs1 ht hvm hw hB hz hk hS1 => by
    obtain ⟨hP1, -, hD1⟩ := hB
    rw [ht] at hP1
    obtain ⟨hP2, hD2⟩ := hj H1 hP1 hD1 hk
    exact kk H1 locs1 hP2 hD2 hS1)
end CAL
/-- from a cut of the code on, over any heap that holds the world -/
def WW (p : Program) (l : Launch) (e : Env) (R : Room) (s : State) (m : MethodId) (args : Array Value) (below : List Frame) (meth : Method) (c : Code) (D : va_G) (A : Nat → Prop) (cells slots : Nat) (Q : State → Prop) (w : va_W) (nL : Nat) (lo : List (Nat × Value)) (pc : Nat) (st : List Value) : Prop :=
  ∀ (H : Heap) (locs : List Loc) (ls : Array Slot), va_P D vwCl w H → va_D A w → va_S A s.heap H locs → lv_has ls nL lo → W p l e R s m args below meth c H locs cells slots Q (F0 m pc ls st)
def lpk {σ ρ : Type} (b : σ → Option (σ ⊕ ρ)) (n : Nat) (x : σ ⊕ ρ) : Option ρ := match x with
  | .inl s' => lp b n s'
  | .inr r => some r
theorem lp_ex {σ ρ : Type} {b : σ → Option (σ ⊕ ρ)} {n : Nat} {s : σ} {r : ρ} (h : lp b (n + 1) s = some r) : ∃ x, b s = some x ∧ lpk b n x = some r := bd_ex h
def iushr (x y : Int32) : Int32 := (x.toUInt32 >>> (y.toUInt32 &&& Int32.toUInt32 31)).toInt32
def lshlJ (x : Int64) (y : Int32) : Int64 := x <<< (y.toInt64 &&& 63)
def lshrJ (x : Int64) (y : Int32) : Int64 := x >>> (y.toInt64 &&& 63)
def lushrJ (x : Int64) (y : Int32) : Int64 := (x.toUInt64 >>> (y.toInt64.toUInt64 &&& Int64.toUInt64 63)).toInt64
def irem (x y : Int32) : Int32 := x - x / y * y
def i2cJ (x : Int32) : Int32 := (x.toUInt32 % 65536).toInt32
abbrev tyC (cA : Nat → ClassId) : List (ClassId × FieldType) := [(cA 0, .int), (cA 1, .long), (cA 2, .object "SpoonsLast$Spoon"), (cA 3, .object "SpoonsLast$Text"), (cA 4, .object "SpoonsLast$Sheet")]
def jmax (x y : Int32) : Int32 := if x < y then y else x
def jmin (x y : Int32) : Int32 := if y < x then y else x
