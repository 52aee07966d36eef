/-! a new text beside the world -/
section TXN
variable {H : Heap} {D : va_G} {A : Nat → Prop} {P Z Y : va_W} {b b' tp x : Nat × va_E}
/-- behind the making of a text: its cells come to the world's, one of which was read -/
theorem Jn.made (hP : va_P D vwCl (P ++ [b]) H) (hD : va_D A (P ++ [b])) (hA : ∀ q, va_A [b, tp] H.size q → A q) (ht : tp ∈ P) (hb : b'.1 = b.1) (H1 : Heap) (hP1 : va_P D vwCl (b' :: tp :: Z) H1) (hD1 : va_D (va_A [b, tp] H.size) (b' :: tp :: Z)) (hk : ∀ q : Nat, q < H.size → ¬ va_A [b, tp] H.size q → H1[q]? = H[q]?) : va_P D vwCl (P ++ (b' :: Z)) H1 ∧ va_D A (P ++ (b' :: Z)) := by
  have hat : ∀ q ∈ P, va_at D vwCl q H := fun q hq => by
    obtain ⟨i, hi⟩ := List.getElem?_of_mem hq
    exact hP i q (by rw [List.getElem?_append_left (List.getElem?_eq_some_iff.mp hi).1]; exact hi)
  have hat1 : ∀ q ∈ b' :: tp :: Z, va_at D vwCl q H1 := fun q hq => by
    obtain ⟨i, hi⟩ := List.getElem?_of_mem hq
    exact hP1 i q hi
  have hbn : ∀ q ∈ P, q.1 ≠ b.1 := fun q hq => nd_app hD q hq b (List.mem_singleton.mpr rfl)
  have hZ : ∀ r ∈ Z, H.size ≤ r.1 := fun r hr => by
    obtain ⟨j, hj⟩ := List.getElem?_of_mem hr
    rcases hD1.2 (j + 2) r hj with ⟨k, e, h6⟩ | h6
    · exfalso
      match k, h6 with
      | 0, h6 =>
        have e2 := Option.some.inj h6
        have := hD1.1 0 (j + 2) b' r rfl hj (by rw [hb, e2])
        omega
      | 1, h6 =>
        have e2 := Option.some.inj h6
        have := hD1.1 1 (j + 2) tp r rfl hj (by rw [e2])
        omega
      | k + 2, h6 => cases h6
    · exact h6
  have key : ∀ (i : Nat) (q : Nat × va_E), (b' :: Z)[i]? = some q → (b' :: tp :: Z)[if i = 0 then 0 else i + 1]? = some q := fun i q h => by
    match i, h with
    | 0, h => exact h
    | i + 1, h => exact h
  refine ⟨fun k q hq => ?_, D_join (D_left hD) ⟨fun i j p q hi hj e => ?_, fun k q hk2 => hA _ (hD1.2 _ q (key k q hk2))⟩ (fun q hq r hr e => ?_)⟩
  · rcases List.mem_append.mp (List.mem_of_getElem? hq) with h | h
    · by_cases hqt : q = tp
      · rw [hqt]
        exact hat1 tp (List.mem_cons_of_mem _ List.mem_cons_self)
      · have hl := (hat q h).lt
        refine (hat q h).kept (hk q.1 hl fun h6 => ?_)
        rcases h6 with ⟨j, e, h6⟩ | h6
        · match j, h6 with
          | 0, h6 => exact hbn q h (by rw [Option.some.inj h6])
          | 1, h6 =>
            obtain ⟨i1, hi1⟩ := List.getElem?_of_mem h
            obtain ⟨i2, hi2⟩ := List.getElem?_of_mem ht
            have := (D_left hD).1 i1 i2 q tp hi1 hi2 (by rw [Option.some.inj h6])
            subst this
            rw [hi1] at hi2
            exact hqt (Option.some.inj hi2)
          | j + 2, h6 => cases h6
        · omega
    · rcases List.mem_cons.mp h with h | h
      · rw [h]
        exact hat1 b' List.mem_cons_self
      · exact hat1 q (List.mem_cons_of_mem _ (List.mem_cons_of_mem _ h))
  · have h := hD1.1 _ _ p q (key i p hi) (key j q hj) e
    by_cases h1 : i = 0
    · by_cases h2 : j = 0
      · omega
      · rw [if_pos h1, if_neg h2] at h
        omega
    · by_cases h2 : j = 0
      · rw [if_neg h1, if_pos h2] at h
        omega
      · rw [if_neg h1, if_neg h2] at h
        omega
  · have hl := (hat q hq).lt
    rcases List.mem_cons.mp hr with h | h
    · rw [h, hb] at e
      exact hbn q hq e
    · have := hZ r h
      omega
end TXN
