/-! cells by their places: what a call takes of the caller's world, and puts back -/
section PLC
variable {s : State} {H : Heap} {locs : List Loc} {D : va_G} {A : Nat → Prop} {ws wc w1 ws' lit lit' pool pool' litc lit1 : va_W}
theorem Sb.pl (isC : List Nat) (hn : va_nd isC = true) (hC : isC.map (fun i => ws[i]?) = wc.map some) (hP : va_P D vwCl ws H) (hD : va_D A ws) (hS : va_S A s.heap H locs) (hA : ∀ q, s.heap.size ≤ q → A q) : Sb D A H wc :=
  Sb.of_sub hP hD hS hA (fun k q hq => by obtain ⟨i, -, h⟩ := at_places hC k q hq; exact ⟨i, h⟩) (va_D_places isC hn hD hC)
theorem zip_mem {is : List Nat} {w : va_W} {i : Nat} {q : Nat × va_E} (h : (i, q) ∈ is.zip w) : ∃ k : Nat, w[k]? = some q := List.getElem?_of_mem (List.of_mem_zip h).2
theorem zip_no {k : Nat} : ∀ {is : List Nat} {w : va_W}, w.length = is.length → (∀ x ∈ is.zip w, x.1 ≠ k) → k ∉ is := by
  intro is
  induction is with
  | nil => intro w _ _ h; cases h
  | cons i is ih =>
    intro w hl h hk
    cases w with
    | nil => cases hl
    | cons q w =>
      rcases List.mem_cons.mp hk with e | hk
      · exact h (i, q) List.mem_cons_self e.symm
      · exact ih (Nat.succ.inj hl) (fun x hx => h x (List.mem_cons_of_mem _ hx)) hk
theorem Jn.pl (isC : List Nat) (hC : isC.map (fun i => ws[i]?) = wc.map some) (hw : ws' = upl ws (isC.zip w1)) (hl : w1.length = isC.length) (hf : ws'.map Prod.fst = ws.map Prod.fst) (hP : va_P D vwCl ws H) (hD : va_D A ws) : Jn D A H wc w1 ws' := by
  refine Jn.of_places (fun i => i ∈ isC) hP hD (fun k q hq => ?_) (fun k q hq => ?_) hf
  · obtain ⟨i, h1, h2⟩ := at_places hC k q hq
    exact ⟨i, List.mem_of_getElem? h1, h2⟩
  · rw [hw] at hq
    rcases upl_mem hq with ⟨i, h⟩ | ⟨h1, h2⟩
    · exact Or.inl (zip_mem h)
    · exact Or.inr ⟨h1, zip_no hl h2⟩
theorem Sb.plp (isC : List Nat) (hn : va_nd isC = true) (hC : isC.map (fun i => lit[i]?) = litc.map some) (hP : va_P D vwCl (lit ++ pool) H) (hD : va_D A (lit ++ pool)) (hS : va_S A s.heap H locs) (hA : ∀ q, s.heap.size ≤ q → A q) : Sb D A H (litc ++ pool) := by
  have hDl : va_D A lit := ⟨fun i j p q hi hj e => hD.1 i j p q (by rw [List.getElem?_append_left (List.getElem?_eq_some_iff.mp hi).1]; exact hi) (by rw [List.getElem?_append_left (List.getElem?_eq_some_iff.mp hj).1]; exact hj) e, fun k q hk => hD.2 k q (by rw [List.getElem?_append_left (List.getElem?_eq_some_iff.mp hk).1]; exact hk)⟩
  have hat : ∀ (k : Nat) (q : Nat × va_E), (litc ++ pool)[k]? = some q → ∃ i : Nat, (lit ++ pool)[i]? = some q ∧ ((k < litc.length ∧ isC[k]? = some i ∧ i < lit.length) ∨ (litc.length ≤ k ∧ i = lit.length + (k - litc.length))) := by
    intro k q hq
    by_cases hk : k < litc.length
    · rw [List.getElem?_append_left hk] at hq
      obtain ⟨i, h1, h2⟩ := at_places hC k q hq
      have hi := (List.getElem?_eq_some_iff.mp h2).1
      exact ⟨i, by rw [List.getElem?_append_left hi]; exact h2, Or.inl ⟨hk, h1, hi⟩⟩
    · have hk' := Nat.not_lt.mp hk
      rw [List.getElem?_append_right hk'] at hq
      exact ⟨lit.length + (k - litc.length), by rw [List.getElem?_append_right (by omega), Nat.add_sub_cancel_left]; exact hq, Or.inr ⟨hk', rfl⟩⟩
  have hnd := (va_D_places isC hn hDl hC).1
  refine Sb.of_sub hP hD hS hA (fun k q hq => by obtain ⟨i, h, -⟩ := hat k q hq; exact ⟨i, h⟩) ⟨fun k j x y hx hy e => ?_, fun _ _ _ => trivial⟩
  obtain ⟨i1, a1, b1⟩ := hat k x hx
  obtain ⟨i2, a2, b2⟩ := hat j y hy
  have h12 := hD.1 i1 i2 x y a1 a2 e
  rcases b1 with ⟨p1, p2, p3⟩ | ⟨p1, p2⟩ <;> rcases b2 with ⟨q1, q2, q3⟩ | ⟨q1, q2⟩
  · rw [List.getElem?_append_left p1] at hx
    rw [List.getElem?_append_left q1] at hy
    exact hnd k j x y hx hy e
  · omega
  · omega
  · omega
theorem Jn.plp (isC : List Nat) (hC : isC.map (fun i => lit[i]?) = litc.map some) (hw : lit' = upl lit (isC.zip lit1)) (hl : lit1.length = isC.length) (hll : lit'.length = lit.length) (hf : lit'.map Prod.fst = lit.map Prod.fst) (hpf : pool'.map Prod.fst = pool.map Prod.fst) (hP : va_P D vwCl (lit ++ pool) H) (hD : va_D A (lit ++ pool)) : Jn D A H (litc ++ pool) (lit1 ++ pool') (lit' ++ pool') := by
  refine Jn.of_places (fun i => i ∈ isC ∨ lit.length ≤ i) hP hD (fun k q hq => ?_) (fun k q hq => ?_) (by rw [List.map_append, List.map_append, hf, hpf])
  · by_cases hk : k < litc.length
    · rw [List.getElem?_append_left hk] at hq
      obtain ⟨i, h1, h2⟩ := at_places hC k q hq
      have hi := (List.getElem?_eq_some_iff.mp h2).1
      exact ⟨i, Or.inl (List.mem_of_getElem? h1), by rw [List.getElem?_append_left hi]; exact h2⟩
    · have hk' := Nat.not_lt.mp hk
      rw [List.getElem?_append_right hk'] at hq
      exact ⟨lit.length + (k - litc.length), Or.inr (by omega), by rw [List.getElem?_append_right (by omega), Nat.add_sub_cancel_left]; exact hq⟩
  · by_cases hk : k < lit'.length
    · rw [List.getElem?_append_left hk, hw] at hq
      rcases upl_mem hq with ⟨i, h⟩ | ⟨h1, h2⟩
      · obtain ⟨j, hj⟩ := zip_mem h
        exact Or.inl ⟨j, by rw [List.getElem?_append_left (List.getElem?_eq_some_iff.mp hj).1]; exact hj⟩
      · refine Or.inr ⟨by rw [List.getElem?_append_left (by omega)]; exact h1, fun h => ?_⟩
        rcases h with h | h
        · exact zip_no hl h2 h
        · omega
    · have hk' := Nat.not_lt.mp hk
      rw [List.getElem?_append_right hk'] at hq
      exact Or.inl ⟨lit1.length + (k - lit'.length), by rw [List.getElem?_append_right (by omega), Nat.add_sub_cancel_left]; exact hq⟩
end PLC
theorem isZ_f {r : Int32} (h : isZ r = true) : fits .boolean (.int r) = true := by
  simp only [isZ, Bool.or_eq_true, decide_eq_true_eq] at h
  rcases h with rfl | rfl <;> rfl
def onO {β : Type} (o : Option Nat) (n : Option β) (k : Nat → Option β) : Option β := match o with
  | none => n
  | some a => k a
theorem onO_ex {β : Type} {o : Option Nat} {n : Option β} {k : Nat → Option β} {r : β} (h : onO o n k = some r) : (o = none ∧ n = some r) ∨ ∃ a, o = some a ∧ k a = some r := by
  cases o with
  | none => exact Or.inl ⟨rfl, h⟩
  | some a => exact Or.inr ⟨a, rfl, h⟩
section SU2
variable {p : Program} {l : Launch} {e : Env} {R : Room} {s : State} {m : MethodId} {args : Array Value} {below : List Frame} {meth : Method} {c : Code}
/-- super.m(..) where the method lies two classes up -/
theorem callSU2 {T : State} {locs : List Loc} {cells slots : Nat} (X : Stand p l e R s m args below meth c T locs cells slots) (hexec : p.tables.exec = Jvm.exec) {own : String} {index : Nat} {x y : MethodName} {bytes : ByteArray} {maxL : Nat} {ret : Option FieldType}
    (hown : s.vm.findClass own = some m.cls) (hyx : y = ⟨y.cls, x.name, x.desc⟩) (hlink : (Cond.methodLink own index x).before args s = true) (hsame : (Cond.sameMethod x.cls y.cls x.name x.desc).before args s = true) (hsup : (Cond.superclass own x.cls).before args s = true) (hsup2 : (Cond.superclass x.cls y.cls).before args s = true)
    (hinst : (Cond.instanceMethod y).before args s = true) (hcode : (Cond.code y bytes maxL ret).before args s = true) (hno : x.name ≠ "<init>")
    {W : Nat} {Pre : Pt → Array Value → Prop} {Post : Pt → Array Value → Option Value → Pt → Prop} (hK : Back l R p e below s args y 3 W Pre Post)
    {b : Addr} {cellB : Cell} {kB : Class} (hcell : T.heap[b]? = some cellB) (hobj : cellB.vm.isStatics = false) (hkB : s.vm.classes[cellB.cls]? = some kB)
    {g : JFrame} (hg : g.method = m) (hsize : g.locals.size = c.maxLocals) {argsL rest : List Value} (hlen : ∀ sig, parseMethodDescriptor y.desc = some sig → argsL.length = sig.parameters.length)
    (hstack : g.stack = argsL.reverse ++ .ref b :: rest) (hW : 2 * g.monitorRoom + (rest.map fun v => v.category).sum ≤ W) (hdg : decode c.code g.pc = .ok (.invokespecial index, 3))
    (hpre : ∀ vm₁, s.WarmedH vm₁ → Pre ⟨T.setVm vm₁, locs, cells, slots⟩ (Value.ref b :: argsL).toArray) :
    ∃ (v : Option Value) (vm₁ : Vm) (B : Pt), s.WarmedH vm₁ ∧ Stand p l e R s m args below meth c B.U B.locs B.cells B.slots ∧ Post ⟨T.setVm vm₁, locs, cells, slots⟩ (Value.ref b :: argsL).toArray v B ∧
      ∀ target, Steps p.tables e below (B.U.setTop { g with pc := g.pc + 3, stack := v.toList ++ rest }) target → Steps p.tables e below (T.setTop g) target := by
  obtain ⟨mk, methM, hnamed, hmethM, hstM, habM⟩ := Cond.instanceMethod_spec hinst
  obtain ⟨methM', cM, hmethM', -, -, -, -, -, -, hsigM⟩ := Cond.code_spec hnamed hcode
  cases hmethM.symm.trans hmethM'
  obtain ⟨ps, dk, kp, hps, hdk, hkp, hsuper, -, -, hnid⟩ := Cond.superclass_spec hown hsup
  obtain ⟨pt, dk2, kp2, hpt, hdk2, hkp2, hsuper2, -, -, -⟩ := Cond.superclass_spec hps hsup2
  have hn : s.methodNamed? ⟨y.cls, x.name, x.desc⟩ = some mk := by rw [← hyx]; exact hnamed
  have hpm : pt = mk.cls := Option.some.inj (hpt.symm.trans (findClass_of_methodNamed hnamed))
  have hsub : s.vm.isSubclass ps mk.cls = true := by
    rw [← hpm]
    have hsz : ps < s.vm.classes.size := (Array.getElem?_eq_some_iff.mp hdk2).1
    obtain ⟨n9, hn9⟩ : ∃ n9, s.vm.classes.size = n9 + 1 := Nat.exists_eq_succ_of_ne_zero (Nat.ne_of_gt (Nat.lt_of_le_of_lt (Nat.zero_le _) hsz))
    simp [Vm.isSubclass, hn9, Vm.isSubclassAux, hdk2, hsuper2]
  obtain ⟨vm₁, X₁, hstep₁⟩ := X.invokespecialUp hexec hown hlink hsame hn hmethM hstM habM hno hdk hnid hps hsuper hsub (a := b) (cell := cellB) hcell
    (fun z h => by rw [h] at hobj; cases hobj) hkB (g := g) hg (argsL := argsL) (rest := rest) (hlen _ hsigM) hstack hdg
  obtain ⟨v, B, X', hpost, hsteps⟩ := hK m meth c ⟨T.setVm vm₁, locs, cells, slots⟩ { g with stack := rest } (.invokespecial index) mk (Value.ref b :: argsL).toArray X₁ hg hsize hdg hW (X₁.named hnamed) (hpre vm₁ X₁.warmed)
  exact ⟨v, vm₁, B, X₁.warmed, X', hpost, fun target h => hstep₁ _ (by rw [doInvoke_state]; exact hsteps.trans h)⟩
variable {H : Heap} {locs : List Loc} {cells slots : Nat}
theorem runSU2 {x y : MethodName} {bytes cc : ByteArray} {maxL nL n index : Nat} {ret : Option FieldType} {ws : List Cond} {rm : Room} {Pc : Array Value → State → Prop} {Qc : Array Value → State → Outcome → State → Prop} {free : Addr → Prop} {Ts : List Cond} {own C : String} {cC : ClassId} {b : Addr} {As rest : List Value} {g : JFrame} {G : Nat → Nat} {A : Nat → Prop}
    (hE : EV G A s s.heap) (hat : ClassAt s C cC) (S : CallFix p m c cc nL s args Ts own) (hM : Met l y ws rm Pc Qc 0 0 free)
    (hyx : y = ⟨y.cls, x.name, x.desc⟩) (h1 : Cond.methodLink own index x ∈ xwl) (h2 : Cond.sameMethod x.cls y.cls x.name x.desc ∈ xwl) (h3 : Cond.superclass own x.cls ∈ xwl) (h4 : Cond.superclass x.cls y.cls ∈ xwl) (h5 : Cond.instanceMethod y ∈ xwl) (h6 : Cond.initialized y.cls ∈ xwl) (h7 : ∀ w ∈ ws, w ∈ xwl) (h8 : Cond.code y bytes maxL ret ∈ ws) (hno : x.name ≠ "<init>")
    (hlen : (parseMethodDescriptor y.desc).map (fun d => d.parameters.length) = some n) (hrc : rm.cells = 0 ∧ rm.slots = 0) (hR : rm.frames + 1 ≤ R.frames ∧ 8 + (maxL + 11) + rm.locals ≤ R.locals) (hp : PreV s H C b Pc As)
    (hg : g.method = m) (hn : As.length = n) (hsize : g.locals.size = nL) (hstack : g.stack = As.reverse ++ .ref b :: rest) (hW : 2 * g.monitorRoom + (rest.map fun v => v.category).sum ≤ 8) (hdg : decode cc g.pc = .ok (.invokespecial index, 3)) (hf : cells + 0 ≤ R.cells ∧ slots + 0 ≤ R.slots) :
    va_Run p l e R s m args below meth c H locs cells slots 0 0 g rest (Qc (Value.ref b :: As).toArray) (free) := by
  have tb : ∀ w ∈ xwl, w.before args s = true := fun w hw => va_tabs (Bool.and_eq_true_iff.mp (xwl_on w hw)).1 rfl (hE.1.2.1 w hw)
  have hws : ∀ w ∈ ws, ∀ (a' : Array Value) (U : State), s.WarmedH U.vm → w.before a' U = true := by
    intro w hw a' U hWm
    exact word_at hWm (Or.inl (xwl_on _ (h7 w hw))) (hE.1.2.1 _ (h7 w hw))
  have hK : Back l R p e below s args y 3 8 (PreOf R 0 0 Pc) (PostOf Qc 0 0 free) := back_of (bytes := bytes) (maxL := maxL) (ret := ret) hM hp.1 hrc.1 hrc.2 hR.1 hR.2 hws h8 (fun a' U hW => word_at hW (Or.inl (by first | rfl | simp [Cond.onTables, Cond.keeps, Cond.steady])) (tb _ h6))
  obtain ⟨hx, hb, hml, ho, -⟩ := S
  obtain ⟨-, ⟨cellB, hcB, hoB, hclB⟩, hPc⟩ := hp
  obtain ⟨hfc, kB, hkB, -⟩ := hat
  cases hfc.symm.trans hclB
  intro T hT X
  have hlen2 : ∀ sig, parseMethodDescriptor y.desc = some sig → As.length = sig.parameters.length := by
    intro sig h
    rw [h] at hlen
    rw [hn]
    exact (Option.some.inj hlen).symm
  obtain ⟨v, vm₁, ⟨U', l2, c2, s2⟩, hW₁, X', ⟨g', mk, t, L, e1, e2, hq, h1', hL, h2', h3'⟩, st⟩ := callSU2 X hx (bytes := bytes) (maxL := maxL) (ret := ret) ho hyx (tb _ h1) (tb _ h2) (tb _ h3) (tb _ h4) (tb _ h5) (tb _ (h7 _ h8)) hno hK (by rw [hT]; exact hcB) hoB hkB hg (hsize.trans hml.symm) (argsL := As) (rest := rest) hlen2 hstack hW (by rw [hb]; exact hdg)
    (fun vm₁ hW₁ => ⟨hf.1, hf.2, hPc (T.setVm vm₁) hT hW₁⟩)
  dsimp only [Pt.U, Pt.locs, Pt.cells, Pt.slots] at X' e1 e2 h1' h2' h3' st
  subst h1'; subst h2'; subst h3'
  exact ⟨v, (T.setVm vm₁).calling g' mk (Value.ref b :: As).toArray, t, U', L, hT, X', hL, e1, e2, hq, st⟩
end SU2
