/-! the texts of the pool: three cells each -/
theorem flat3_at (f : Nat → va_W) (hf : ∀ a, (f a).length = 3) : ∀ (L : List Nat) (k : Nat), (L.flatMap f)[k]? = (L[k / 3]?).bind (fun a => (f a)[k % 3]?) := by
  intro L
  induction L with
  | nil => intro k; simp
  | cons a L ih =>
    intro k
    rw [List.flatMap_cons]
    by_cases hk : k < 3
    · rw [List.getElem?_append_left (by rw [hf]; exact hk), Nat.div_eq_of_lt hk, Nat.mod_eq_of_lt hk]
      rfl
    · obtain ⟨j, rfl⟩ : ∃ j, k = j + 3 := ⟨k - 3, by omega⟩
      rw [List.getElem?_append_right (by rw [hf]; omega), hf, Nat.add_sub_cancel, ih j, show (j + 3) / 3 = j / 3 + 1 by omega, show (j + 3) % 3 = j % 3 by omega]
      rfl
theorem wTx_at (cA : Nat → ClassId) (L : List Nat) (tx : Nat → TXc) (tst : Nat → Nat → Int32) (k : Nat) : (wTx cA L tx tst)[k]? = (L[k / 3]?).bind (fun a => (wTW cA a (tx a) (tst a))[k % 3]?) :=
  flat3_at (fun a => wTW cA a (tx a) (tst a)) (fun _ => rfl) L k
theorem wTx_fst (cA : Nat → ClassId) (L : List Nat) (tx : Nat → TXc) (t1 t2 : Nat → Nat → Int32) : (wTx cA L tx t1).map Prod.fst = (wTx cA L tx t2).map Prod.fst := by
  unfold wTx
  rw [List.map_flatMap, List.map_flatMap]
  rfl
section POOL
variable {s : State} {H : Heap} {locs : List Loc} {D : va_G} {A : Nat → Prop} {lit : va_W} {cA : Nat → ClassId} {L : List Nat} {tx : Nat → TXc} {tst : Nat → Nat → Int32} {a : Nat}
theorem pool_mem (ha : a ∈ L) : ∃ j, L[j]? = some a ∧ ∀ r, r < 3 → (lit ++ wTx cA L tx tst)[lit.length + (3 * j + r)]? = (wTW cA a (tx a) (tst a))[r]? := by
  obtain ⟨j, hj⟩ := List.getElem?_of_mem ha
  refine ⟨j, hj, fun r hr => ?_⟩
  rw [List.getElem?_append_right (by omega), Nat.add_sub_cancel_left, wTx_at, show (3 * j + r) / 3 = j by omega, show (3 * j + r) % 3 = r by omega, hj]
  rfl
theorem pool_at (ha : a ∈ L) : ∃ k : Nat, (lit ++ wTx cA L tx tst)[k]? = some (a, .inr (9, [.ref (tB (tx a)), .ref (tN (tx a)), .int (tA (tx a)), .ref (tC (tx a)), .int (tL (tx a)), .ref (tS (tx a)), .int (tF (tx a))])) := by
  obtain ⟨j, -, h⟩ := pool_mem (lit := lit) (cA := cA) (tx := tx) (tst := tst) ha
  exact ⟨_, h 0 (by decide)⟩
theorem Sb.txt (ha : a ∈ L) (hP : va_P D vwCl (lit ++ wTx cA L tx tst) H) (hD : va_D A (lit ++ wTx cA L tx tst)) (hS : va_S A s.heap H locs) (hA : ∀ q, s.heap.size ≤ q → A q) : Sb D A H (wTW cA a (tx a) (tst a)) := by
  obtain ⟨j, hj, h⟩ := pool_mem (lit := lit) (cA := cA) (tx := tx) (tst := tst) ha
  have hlen : (wTW cA a (tx a) (tst a)).length = 3 := rfl
  have hm : ∀ (k : Nat) (q : Nat × va_E), (wTW cA a (tx a) (tst a))[k]? = some q → k < 3 ∧ (lit ++ wTx cA L tx tst)[lit.length + (3 * j + k)]? = some q := by
    intro k q hq
    have hk : k < 3 := by
      have := (List.getElem?_eq_some_iff.mp hq).1
      omega
    exact ⟨hk, by rw [h k hk]; exact hq⟩
  refine Sb.of_sub hP hD hS hA (fun k q hq => ⟨_, (hm k q hq).2⟩) ⟨fun x y p q hp hq e => ?_, fun _ _ _ => trivial⟩
  have := hD.1 _ _ p q (hm x p hp).2 (hm y q hq).2 e
  omega
theorem Jn.txt (s2 : Nat → Int32) (ha : a ∈ L) (hP : va_P D vwCl (lit ++ wTx cA L tx tst) H) (hD : va_D A (lit ++ wTx cA L tx tst)) : Jn D A H (wTW cA a (tx a) (tst a)) (wTW cA a (tx a) s2) (lit ++ wTx cA L tx (va_up tst a s2)) := by
  obtain ⟨j, hj, h⟩ := pool_mem (lit := lit) (cA := cA) (tx := tx) (tst := tst) ha
  have hlen : (wTW cA a (tx a) (tst a)).length = 3 := rfl
  refine Jn.of_places (fun i => lit.length + 3 * j ≤ i ∧ i < lit.length + (3 * j + 3)) hP hD (fun k q hq => ?_) (fun k q hq => ?_) (by rw [List.map_append, List.map_append, wTx_fst])
  · have hk : k < 3 := by
      have := (List.getElem?_eq_some_iff.mp hq).1
      omega
    exact ⟨lit.length + (3 * j + k), ⟨by omega, by omega⟩, by rw [h k hk]; exact hq⟩
  · by_cases hk : k < lit.length
    · rw [List.getElem?_append_left hk] at hq
      exact Or.inr ⟨by rw [List.getElem?_append_left hk]; exact hq, by omega⟩
    · have hk' := Nat.not_lt.mp hk
      rw [List.getElem?_append_right hk', wTx_at] at hq
      cases hj2 : L[(k - lit.length) / 3]? with
      | none => rw [hj2] at hq; cases hq
      | some a2 =>
        rw [hj2] at hq
        have hq : (wTW cA a2 (tx a2) (va_up tst a s2 a2))[(k - lit.length) % 3]? = some q := hq
        by_cases hjj : (k - lit.length) / 3 = j
        · rw [hjj, hj] at hj2
          cases hj2
          refine Or.inl ⟨(k - lit.length) % 3, ?_⟩
          have e : va_up tst a s2 a = s2 := by simp [va_up]
          rw [e] at hq
          exact hq
        · have hne : a2 ≠ a := by
            intro e
            subst e
            have p1 : (lit ++ wTx cA L tx tst)[lit.length + (3 * j + 0)]? = (wTW cA a2 (tx a2) (tst a2))[0]? := h 0 (by decide)
            have p2 : (lit ++ wTx cA L tx tst)[lit.length + (3 * ((k - lit.length) / 3) + 0)]? = (wTW cA a2 (tx a2) (tst a2))[0]? := by
              rw [List.getElem?_append_right (by omega), Nat.add_sub_cancel_left, wTx_at, show (3 * ((k - lit.length) / 3) + 0) / 3 = (k - lit.length) / 3 by omega, show (3 * ((k - lit.length) / 3) + 0) % 3 = 0 by omega, hj2]
              rfl
            have := hD.1 _ _ _ _ p1 p2 rfl
            omega
          have e : va_up tst a s2 a2 = tst a2 := by simp [va_up, hne]
          rw [e] at hq
          refine Or.inr ⟨?_, by omega⟩
          rw [List.getElem?_append_right hk', wTx_at, hj2]
          exact hq
end POOL
