/-! a number with a world that comes with new addresses; cells that agree where they count -/
def QIX (D : va_G) (tys : List (ClassId × FieldType)) (A : Nat → Prop) (r : Int32) (WS : va_W → Prop) : Array Value → State → Outcome → State → Prop :=
  va_Qi (fun (x : Int32) (w : va_W) => x = r ∧ WS w) (fun w t => va_P D vwCl w t.heap ∧ va_K D vwCl tys t ∧ va_D A w) A
section QIXS
variable {p : Program} {l : Launch} {e : Env} {R : Room} {s : State} {m : MethodId} {args : Array Value} {below : List Frame} {meth : Method} {c : Code} {H : Heap} {locs : List Loc} {cells slots mc ms : Nat} {Q : State → Prop}
variable {cc : ByteArray} {pc : Nat} {ls : Array Slot} {rest st0 : List Value} {D : va_G} {A : Nat → Prop} {tys : List (ClassId × FieldType)} {w1 wc : va_W} {WS : va_W → Prop} {a : Array Value}
theorem retIX {r : Int32} (hw : WS w1) (hx : p.tables.exec = Jvm.exec) (hb : c.code = cc) (hr : meth.sig.returnType = some .int) (hlocks : meth.locks = false) (hK : va_K D vwCl tys s) (hP : va_P D vwCl w1 H) (hD : va_D A w1) (hS : va_S A s.heap H locs) (hdg : decode cc pc = .ok (.ireturn, 1)) (hm : cells ≤ mc ∧ slots ≤ ms) : W p l e R s m args below meth c H locs cells slots (MQ below (QIX D tys A r WS) args s mc ms A) (F0 m pc ls [.int r]) :=
  W.widen hm.1 hm.2 (W.iret hx hb hr (fun t ht hW => ⟨⟨r, w1, rfl, ⟨rfl, hw⟩, by rw [ht]; exact hP, va_K.moved hW.alike hK, hD⟩, hS.F ht⟩) hS.2.2 hdg hlocks)
theorem calIX {r : Int32} (hr : va_Run p l e R s m args below meth c H locs cells slots mc ms (F0 m pc ls st0) rest (QIX D tys (va_A wc H.size) r WS a) (va_A wc H.size)) (hS : va_S A s.heap H locs) (hsb : Sb D A H wc)
    (kk : ∀ (w1 : va_W) (H1 : Heap) (locs1 : List Loc), WS w1 → va_P D vwCl w1 H1 → va_D (va_A wc H.size) w1 → (∀ q : Nat, q < H.size → ¬ va_A wc H.size q → H1[q]? = H[q]?) → va_S A s.heap H1 locs1 → W p l e R s m args below meth c H1 locs1 (cells + mc) (slots + ms) Q (F0 m (pc + 3) ls (.int r :: rest))) : W p l e R s m args below meth c H locs cells slots Q (F0 m pc ls st0) :=
  va_calli hr hS (fun q _ h => hsb.2.2 q h) hsb.2.2 (fun r2 u t H1 locs1 ht hvm hw hB hz hk hS1 => by
    obtain ⟨hP1, -, hD1⟩ := hB
    rw [ht] at hP1
    obtain ⟨e1, hw1⟩ := hw
    subst e1
    exact kk u H1 locs1 hw1 hP1 hD1 hk hS1)
end QIXS
theorem arrV_cong {cI : ClassId} {N : Nat} {f g : Nat → Value} (h : ∀ j, j < N → f j = g j) : arrV cI N f = arrV cI N g := by
  unfold arrV
  have e : (fun j : Fin N => f j.val) = fun j : Fin N => g j.val := funext fun j => h j.val j.isLt
  rw [e]
theorem cell_cong_i {cI : ClassId} {N : Nat} {f g : Nat → Int32} (h : ∀ j, j < N → f j = g j) : vp_cell cI (N, .inl f) = vp_cell cI (N, .inl g) := by
  rw [vp_cell_i, vp_cell_i]
  exact arrV_cong fun j hj => by rw [h j hj]
theorem cell_cong_q {cI : ClassId} {N : Nat} {f g : Nat → Option Nat} (h : ∀ j, j < N → f j = g j) : vp_cell cI (N, .inr (.inr (.inr (.inr f)))) = vp_cell cI (N, .inr (.inr (.inr (.inr g)))) := by
  rw [vp_cell_q, vp_cell_q]
  exact arrV_cong fun j hj => by rw [h j hj]
/-- a cell may be exchanged for one that agrees with it -/
theorem P_cell {D : va_G} {ws : va_W} {H : Heap} {i a : Nat} {cI : ClassId} {x y : vp_A} (hP : va_P D vwCl ws H) (hi : ws[i]? = some (a, .inl (cI, x))) (h : vp_cell cI x = vp_cell cI y) : va_P D vwCl (ws.set i (a, .inl (cI, y))) H := by
  intro k q hq
  by_cases hk : i = k
  · subst hk
    have hl := (List.getElem?_eq_some_iff.mp hi).1
    rw [List.getElem?_set_self hl] at hq
    have e := Option.some.inj hq
    subst e
    have h2 := hP i _ hi
    show H[a]? = some (vp_cell cI y)
    rw [← h]
    exact h2
  · rw [List.getElem?_set_ne hk] at hq
    exact hP k q hq
theorem D_cell {A : Nat → Prop} {ws : va_W} {i a : Nat} {x y : va_E} (hD : va_D A ws) (hi : ws[i]? = some (a, x)) : va_D A (ws.set i (a, y)) := by
  refine va_D_addr hD ?_
  rw [List.map_set]
  refine List.ext_getElem? fun k => ?_
  by_cases hk : i = k
  · subst hk
    have hl := (List.getElem?_eq_some_iff.mp hi).1
    rw [List.getElem?_set_self (by rw [List.length_map]; exact hl), List.getElem?_map, hi]
    rfl
  · rw [List.getElem?_set_ne hk]
