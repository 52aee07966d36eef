/-! pieces of a world that lie behind each other -/
section SEG
variable {s : State} {H : Heap} {locs : List Loc} {D : va_G} {A : Nat → Prop} {ws wc w1 ws' P B B' Q K R pool pool' : va_W} {x : Nat × va_E}
theorem mem_nd (hD : va_D A ws) : ∀ (i j : Nat) (q r : Nat × va_E), ws[i]? = some q → ws[j]? = some r → i ≠ j → q.1 ≠ r.1 := fun i j q r h1 h2 hn e => hn (hD.1 i j q r h1 h2 e)
theorem nd_app (hD : va_D A (P ++ Q)) : ∀ q ∈ P, ∀ r ∈ Q, q.1 ≠ r.1 := by
  intro q hq r hr
  obtain ⟨i, hi⟩ := List.getElem?_of_mem hq
  obtain ⟨j, hj⟩ := List.getElem?_of_mem hr
  have hil : i < P.length := (List.getElem?_eq_some_iff.mp hi).1
  exact mem_nd hD i (P.length + j) q r (by rw [List.getElem?_append_left hil]; exact hi) (by rw [List.getElem?_append_right (by omega), Nat.add_sub_cancel_left]; exact hj) (by omega)
theorem D_left (hD : va_D A (P ++ Q)) : va_D A P :=
  ⟨fun i j p q hi hj e => hD.1 i j p q (by rw [List.getElem?_append_left (List.getElem?_eq_some_iff.mp hi).1]; exact hi) (by rw [List.getElem?_append_left (List.getElem?_eq_some_iff.mp hj).1]; exact hj) e, fun k q hk => hD.2 k q (by rw [List.getElem?_append_left (List.getElem?_eq_some_iff.mp hk).1]; exact hk)⟩
theorem D_right (hD : va_D A (P ++ Q)) : va_D A Q :=
  ⟨fun i j p q hi hj e => by
    have := hD.1 (P.length + i) (P.length + j) p q (by rw [List.getElem?_append_right (by omega), Nat.add_sub_cancel_left]; exact hi) (by rw [List.getElem?_append_right (by omega), Nat.add_sub_cancel_left]; exact hj) e
    omega, fun k q hk => hD.2 (P.length + k) q (by rw [List.getElem?_append_right (by omega), Nat.add_sub_cancel_left]; exact hk)⟩
theorem D_join (h1 : va_D A P) (h2 : va_D A Q) (h : ∀ q ∈ P, ∀ r ∈ Q, q.1 ≠ r.1) : va_D A (P ++ Q) := va_D.app h1 h2 (fun _ _ x y hx hy e => h x (List.mem_of_getElem? hx) y (List.mem_of_getElem? hy) e)
theorem Sb.of_mem (hP : va_P D vwCl ws H) (hD : va_D A ws) (hS : va_S A s.heap H locs) (hA : ∀ q, s.heap.size ≤ q → A q) (hm : ∀ q ∈ wc, q ∈ ws) (hd : va_D A wc) : Sb D A H wc :=
  Sb.of_sub hP hD hS hA (fun k q hq => List.getElem?_of_mem (hm q (List.mem_of_getElem? hq))) (hd.weaken (fun _ _ _ _ => trivial))
theorem Jn.of_mem (hP : va_P D vwCl ws H) (hD : va_D A ws) (h2 : ∀ q ∈ ws', q ∈ w1 ∨ (q ∈ ws ∧ ∀ r ∈ wc, r.1 ≠ q.1)) (h3 : ws'.map Prod.fst = ws.map Prod.fst) : Jn D A H wc w1 ws' := by
  intro H1 hP1 hD1 hk
  refine ⟨fun k q hq => ?_, va_D_addr hD h3⟩
  rcases h2 q (List.mem_of_getElem? hq) with h | ⟨h4, h5⟩
  · obtain ⟨i, hi⟩ := List.getElem?_of_mem h
    exact hP1 i q hi
  · obtain ⟨i, hi⟩ := List.getElem?_of_mem h4
    have hl := (hP i q hi).lt
    refine (hP i q hi).kept (hk q.1 hl fun h6 => ?_)
    rcases h6 with ⟨j, e, h6⟩ | h6
    · exact h5 _ (List.mem_of_getElem? h6) rfl
    · omega
/-- a piece and the last one, with what is behind -/
theorem seg_sb (hP : va_P D vwCl ((P ++ (B ++ (Q ++ K))) ++ pool) H) (hD : va_D A ((P ++ (B ++ (Q ++ K))) ++ pool)) (hS : va_S A s.heap H locs) (hA : ∀ q, s.heap.size ≤ q → A q) : Sb D A H ((B ++ K) ++ pool) := by
  have d1 := D_right (D_left hD)
  refine Sb.of_mem hP hD hS hA (fun q hq => ?_) (D_join (D_join (D_left d1) (D_right (D_right d1)) (fun q hq r hr => nd_app d1 q hq r (List.mem_append_right _ hr))) (D_right hD) (fun q hq r hr => ?_))
  · simp only [List.mem_append] at hq ⊢
    rcases hq with (h | h) | h
    · exact Or.inl (Or.inr (Or.inl h))
    · exact Or.inl (Or.inr (Or.inr (Or.inr h)))
    · exact Or.inr h
  · refine nd_app hD q ?_ r hr
    simp only [List.mem_append] at hq ⊢
    rcases hq with h | h
    · exact Or.inr (Or.inl h)
    · exact Or.inr (Or.inr (Or.inr h))
theorem seg_jn (hf : B'.map Prod.fst = B.map Prod.fst) (hpf : pool'.map Prod.fst = pool.map Prod.fst) (hP : va_P D vwCl ((P ++ (B ++ (Q ++ K))) ++ pool) H) (hD : va_D A ((P ++ (B ++ (Q ++ K))) ++ pool)) : Jn D A H ((B ++ K) ++ pool) ((B' ++ K) ++ pool') ((P ++ (B' ++ (Q ++ K))) ++ pool') := by
  have d0 := D_left hD
  have d1 := D_right d0
  refine Jn.of_mem hP hD (fun q hq => ?_) (by simp only [List.map_append, hf, hpf])
  simp only [List.mem_append] at hq
  rcases hq with (h | h | h | h) | h
  · refine Or.inr ⟨by simp only [List.mem_append]; exact Or.inl (Or.inl h), fun r hr e => ?_⟩
    simp only [List.mem_append] at hr
    rcases hr with (h4 | h4) | h4
    · exact nd_app d0 q h r (List.mem_append_left _ h4) e.symm
    · exact nd_app d0 q h r (List.mem_append_right _ (List.mem_append_right _ h4)) e.symm
    · exact nd_app hD q (List.mem_append_left _ h) r h4 e.symm
  · exact Or.inl (by simp only [List.mem_append]; exact Or.inl (Or.inl h))
  · refine Or.inr ⟨by simp only [List.mem_append]; exact Or.inl (Or.inr (Or.inr (Or.inl h))), fun r hr e => ?_⟩
    simp only [List.mem_append] at hr
    rcases hr with (h4 | h4) | h4
    · exact nd_app d1 r h4 q (List.mem_append_left _ h) e
    · exact nd_app (D_right d1) q h r h4 e.symm
    · exact nd_app hD q (List.mem_append_right _ (List.mem_append_right _ (List.mem_append_left _ h))) r h4 e.symm
  · exact Or.inl (by simp only [List.mem_append]; exact Or.inl (Or.inr h))
  · exact Or.inl (by simp only [List.mem_append]; exact Or.inr h)
/-- two pieces, the first of which changes -/
theorem seg2_sb (hP : va_P D vwCl ((P ++ (B ++ (Q ++ (K ++ R)))) ++ pool) H) (hD : va_D A ((P ++ (B ++ (Q ++ (K ++ R)))) ++ pool)) (hS : va_S A s.heap H locs) (hA : ∀ q, s.heap.size ≤ q → A q) : Sb D A H ((B ++ K) ++ pool) := by
  have d1 := D_right (D_left hD)
  refine Sb.of_mem hP hD hS hA (fun q hq => ?_) (D_join (D_join (D_left d1) (D_left (D_right (D_right d1))) (fun q hq r hr => nd_app d1 q hq r (List.mem_append_right _ (List.mem_append_left _ hr)))) (D_right hD) (fun q hq r hr => ?_))
  · simp only [List.mem_append] at hq ⊢
    rcases hq with (h | h) | h
    · exact Or.inl (Or.inr (Or.inl h))
    · exact Or.inl (Or.inr (Or.inr (Or.inr (Or.inl h))))
    · exact Or.inr h
  · refine nd_app hD q ?_ r hr
    simp only [List.mem_append] at hq ⊢
    rcases hq with h | h
    · exact Or.inr (Or.inl h)
    · exact Or.inr (Or.inr (Or.inr (Or.inl h)))
theorem seg2_jn (hf : B'.map Prod.fst = B.map Prod.fst) (hP : va_P D vwCl ((P ++ (B ++ (Q ++ (K ++ R)))) ++ pool) H) (hD : va_D A ((P ++ (B ++ (Q ++ (K ++ R)))) ++ pool)) : Jn D A H ((B ++ K) ++ pool) ((B' ++ K) ++ pool) ((P ++ (B' ++ (Q ++ (K ++ R)))) ++ pool) := by
  have d0 := D_left hD
  have d1 := D_right d0
  refine Jn.of_mem hP hD (fun q hq => ?_) (by simp only [List.map_append, hf])
  simp only [List.mem_append] at hq
  rcases hq with (h | h | h | h | h) | h
  · refine Or.inr ⟨by simp only [List.mem_append]; exact Or.inl (Or.inl h), fun r hr e => ?_⟩
    simp only [List.mem_append] at hr
    rcases hr with (h4 | h4) | h4
    · exact nd_app d0 q h r (List.mem_append_left _ h4) e.symm
    · exact nd_app d0 q h r (List.mem_append_right _ (List.mem_append_right _ (List.mem_append_left _ h4))) e.symm
    · exact nd_app hD q (List.mem_append_left _ h) r h4 e.symm
  · exact Or.inl (by simp only [List.mem_append]; exact Or.inl (Or.inl h))
  · refine Or.inr ⟨by simp only [List.mem_append]; exact Or.inl (Or.inr (Or.inr (Or.inl h))), fun r hr e => ?_⟩
    simp only [List.mem_append] at hr
    rcases hr with (h4 | h4) | h4
    · exact nd_app d1 r h4 q (List.mem_append_left _ h) e
    · exact nd_app (D_right d1) q h r (List.mem_append_left _ h4) e.symm
    · exact nd_app hD q (List.mem_append_right _ (List.mem_append_right _ (List.mem_append_left _ h))) r h4 e.symm
  · exact Or.inl (by simp only [List.mem_append]; exact Or.inl (Or.inr h))
  · refine Or.inr ⟨by simp only [List.mem_append]; exact Or.inl (Or.inr (Or.inr (Or.inr (Or.inr h)))), fun r hr e => ?_⟩
    simp only [List.mem_append] at hr
    rcases hr with (h4 | h4) | h4
    · exact nd_app d1 r h4 q (List.mem_append_right _ (List.mem_append_right _ h)) e
    · exact nd_app (D_right (D_right d1)) r h4 q h e
    · exact nd_app hD q (List.mem_append_right _ (List.mem_append_right _ (List.mem_append_right _ (List.mem_append_right _ h)))) r h4 e.symm
  · exact Or.inl (by simp only [List.mem_append]; exact Or.inr h)
/-- two pieces, the second of which changes -/
theorem seg3_sb (hP : va_P D vwCl ((P ++ (K ++ (Q ++ (B ++ R)))) ++ pool) H) (hD : va_D A ((P ++ (K ++ (Q ++ (B ++ R)))) ++ pool)) (hS : va_S A s.heap H locs) (hA : ∀ q, s.heap.size ≤ q → A q) : Sb D A H ((B ++ K) ++ pool) := by
  have d1 := D_right (D_left hD)
  refine Sb.of_mem hP hD hS hA (fun q hq => ?_) (D_join (D_join (D_left (D_right (D_right d1))) (D_left d1) (fun q hq r hr e => nd_app d1 r hr q (List.mem_append_right _ (List.mem_append_left _ hq)) e.symm)) (D_right hD) (fun q hq r hr => ?_))
  · simp only [List.mem_append] at hq ⊢
    rcases hq with (h | h) | h
    · exact Or.inl (Or.inr (Or.inr (Or.inr (Or.inl h))))
    · exact Or.inl (Or.inr (Or.inl h))
    · exact Or.inr h
  · refine nd_app hD q ?_ r hr
    simp only [List.mem_append] at hq ⊢
    rcases hq with h | h
    · exact Or.inr (Or.inr (Or.inr (Or.inl h)))
    · exact Or.inr (Or.inl h)
theorem seg3_jn (hf : B'.map Prod.fst = B.map Prod.fst) (hP : va_P D vwCl ((P ++ (K ++ (Q ++ (B ++ R)))) ++ pool) H) (hD : va_D A ((P ++ (K ++ (Q ++ (B ++ R)))) ++ pool)) : Jn D A H ((B ++ K) ++ pool) ((B' ++ K) ++ pool) ((P ++ (K ++ (Q ++ (B' ++ R)))) ++ pool) := by
  have d0 := D_left hD
  have d1 := D_right d0
  refine Jn.of_mem hP hD (fun q hq => ?_) (by simp only [List.map_append, hf])
  simp only [List.mem_append] at hq
  rcases hq with (h | h | h | h | h) | h
  · refine Or.inr ⟨by simp only [List.mem_append]; exact Or.inl (Or.inl h), fun r hr e => ?_⟩
    simp only [List.mem_append] at hr
    rcases hr with (h4 | h4) | h4
    · exact nd_app d0 q h r (List.mem_append_right _ (List.mem_append_right _ (List.mem_append_left _ h4))) e.symm
    · exact nd_app d0 q h r (List.mem_append_left _ h4) e.symm
    · exact nd_app hD q (List.mem_append_left _ h) r h4 e.symm
  · exact Or.inl (by simp only [List.mem_append]; exact Or.inl (Or.inr h))
  · refine Or.inr ⟨by simp only [List.mem_append]; exact Or.inl (Or.inr (Or.inr (Or.inl h))), fun r hr e => ?_⟩
    simp only [List.mem_append] at hr
    rcases hr with (h4 | h4) | h4
    · exact nd_app (D_right d1) q h r (List.mem_append_left _ h4) e.symm
    · exact nd_app d1 r h4 q (List.mem_append_left _ h) e
    · exact nd_app hD q (List.mem_append_right _ (List.mem_append_right _ (List.mem_append_left _ h))) r h4 e.symm
  · exact Or.inl (by simp only [List.mem_append]; exact Or.inl (Or.inl h))
  · refine Or.inr ⟨by simp only [List.mem_append]; exact Or.inl (Or.inr (Or.inr (Or.inr (Or.inr h)))), fun r hr e => ?_⟩
    simp only [List.mem_append] at hr
    rcases hr with (h4 | h4) | h4
    · exact nd_app (D_right (D_right d1)) r h4 q h e
    · exact nd_app d1 r h4 q (List.mem_append_right _ (List.mem_append_right _ h)) e
    · exact nd_app hD q (List.mem_append_right _ (List.mem_append_right _ (List.mem_append_right _ (List.mem_append_right _ h)))) r h4 e.symm
  · exact Or.inl (by simp only [List.mem_append]; exact Or.inr h)
theorem D_one (hx : x ∈ P) (hD : va_D A P) : va_D A [x] := by
  obtain ⟨i, hi⟩ := List.getElem?_of_mem hx
  refine ⟨fun a b p q ha hb _ => ?_, fun k q hk => ?_⟩
  · match a, b, ha, hb with
    | 0, 0, _, _ => rfl
    | 0, b + 1, _, hb => cases hb
    | a + 1, _, ha, _ => cases ha
  · match k, hk with
    | 0, hk => exact Option.some.inj hk ▸ hD.2 i x hi
    | k + 1, hk => cases hk
/-- a piece, the last one, and one cell more that lies ahead of the piece -/
theorem seg4_sb (hx : x ∈ P) (hP : va_P D vwCl ((P ++ (B ++ (Q ++ K))) ++ pool) H) (hD : va_D A ((P ++ (B ++ (Q ++ K))) ++ pool)) (hS : va_S A s.heap H locs) (hA : ∀ q, s.heap.size ≤ q → A q) : Sb D A H (((B ++ K) ++ [x]) ++ pool) := by
  have d0 := D_left hD
  have d1 := D_right d0
  have dx : va_D A [x] := D_one hx (D_left d0)
  refine Sb.of_mem hP hD hS hA (fun q hq => ?_) (D_join (D_join (D_join (D_left d1) (D_right (D_right d1)) (fun q hq r hr => nd_app d1 q hq r (List.mem_append_right _ hr))) dx (fun q hq r hr e => ?_)) (D_right hD) (fun q hq r hr => ?_))
  · simp only [List.mem_append, List.mem_singleton] at hq ⊢
    rcases hq with ((h | h) | h) | h
    · exact Or.inl (Or.inr (Or.inl h))
    · exact Or.inl (Or.inr (Or.inr (Or.inr h)))
    · exact Or.inl (Or.inl (by rw [h]; exact hx))
    · exact Or.inr h
  · rw [List.mem_singleton.mp hr] at e
    refine nd_app d0 x hx q ?_ e.symm
    simp only [List.mem_append] at hq ⊢
    rcases hq with h | h
    · exact Or.inl h
    · exact Or.inr (Or.inr h)
  · refine nd_app hD q ?_ r hr
    simp only [List.mem_append, List.mem_singleton] at hq ⊢
    rcases hq with (h | h) | h
    · exact Or.inr (Or.inl h)
    · exact Or.inr (Or.inr (Or.inr h))
    · exact Or.inl (by rw [h]; exact hx)
theorem seg4_jn (hx : x ∈ P) (hf : B'.map Prod.fst = B.map Prod.fst) (hpf : pool'.map Prod.fst = pool.map Prod.fst) (hP : va_P D vwCl ((P ++ (B ++ (Q ++ K))) ++ pool) H) (hD : va_D A ((P ++ (B ++ (Q ++ K))) ++ pool)) : Jn D A H (((B ++ K) ++ [x]) ++ pool) (((B' ++ K) ++ [x]) ++ pool') ((P ++ (B' ++ (Q ++ K))) ++ pool') := by
  have d0 := D_left hD
  have d1 := D_right d0
  refine Jn.of_mem hP hD (fun q hq => ?_) (by simp only [List.map_append, hf, hpf])
  by_cases hqx : q = x
  · exact Or.inl (by simp only [List.mem_append, List.mem_singleton]; exact Or.inl (Or.inr hqx))
  simp only [List.mem_append] at hq
  rcases hq with (h | h | h | h) | h
  · refine Or.inr ⟨by simp only [List.mem_append]; exact Or.inl (Or.inl h), fun r hr e => ?_⟩
    simp only [List.mem_append, List.mem_singleton] at hr
    rcases hr with ((h4 | h4) | h4) | h4
    · exact nd_app d0 q h r (List.mem_append_left _ h4) e.symm
    · exact nd_app d0 q h r (List.mem_append_right _ (List.mem_append_right _ h4)) e.symm
    · obtain ⟨i, hi⟩ := List.getElem?_of_mem hx
      obtain ⟨j, hj⟩ := List.getElem?_of_mem h
      have hij := (D_left d0).1 i j x q hi hj (by rw [← h4]; exact e)
      subst hij
      rw [hi] at hj
      exact hqx (Option.some.inj hj).symm
    · exact nd_app hD q (List.mem_append_left _ h) r h4 e.symm
  · exact Or.inl (by simp only [List.mem_append]; exact Or.inl (Or.inl (Or.inl h)))
  · refine Or.inr ⟨by simp only [List.mem_append]; exact Or.inl (Or.inr (Or.inr (Or.inl h))), fun r hr e => ?_⟩
    simp only [List.mem_append, List.mem_singleton] at hr
    rcases hr with ((h4 | h4) | h4) | h4
    · exact nd_app d1 r h4 q (List.mem_append_left _ h) e
    · exact nd_app (D_right d1) q h r h4 e.symm
    · exact nd_app d0 x hx q (List.mem_append_right _ (List.mem_append_left _ h)) (by rw [← h4]; exact e)
    · exact nd_app hD q (List.mem_append_right _ (List.mem_append_right _ (List.mem_append_left _ h))) r h4 e.symm
  · exact Or.inl (by simp only [List.mem_append]; exact Or.inl (Or.inl (Or.inr h)))
  · exact Or.inl (by simp only [List.mem_append]; exact Or.inr h)
end SEG
