/-! telling, washers, spoon -/
theorem i_rest0 (x : Int32) : x &&& (nI 0 ^^^ (-1 : Int32)) = x := by
  rw [show nI 0 ^^^ (-1 : Int32) = (-1 : Int32) by decide, Int32.and_neg_one]
theorem i_rest (x a b : Int32) : (x &&& (a ^^^ (-1 : Int32))) &&& (b ^^^ (-1 : Int32)) = x &&& ((a ||| b) ^^^ (-1 : Int32)) := by
  apply Int32.toBitVec_inj.1
  show (x.toBitVec &&& (a.toBitVec ^^^ (-1 : Int32).toBitVec)) &&& (b.toBitVec ^^^ (-1 : Int32).toBitVec) = x.toBitVec &&& ((a.toBitVec ||| b.toBitVec) ^^^ (-1 : Int32).toBitVec)
  rw [show (-1 : Int32).toBitVec = BitVec.allOnes 32 from by decide]
  apply BitVec.eq_of_getLsbD_eq
  intro i hi
  simp only [BitVec.getLsbD_and, BitVec.getLsbD_xor, BitVec.getLsbD_or, BitVec.getLsbD_allOnes, hi, decide_true]
  cases x.toBitVec.getLsbD i <;> cases a.toBitVec.getLsbD i <;> cases b.toBitVec.getLsbD i <;> rfl
theorem sub_x0 : ∀ i, i < 16 → ∀ j, j < 16 → ∀ v, v < 16 → ∀ w, w < 16 → (16 * v + w) &&& (16 * i + j) = 16 * v + w → (16 * i + j) ^^^ (16 * v + w) = 16 * i + j - (16 * v + w) := by decide +kernel
theorem sub_x {i v : Nat} (hi : i < 256) (hv : v < 256) (h : v &&& i = v) : i ^^^ v = i - v := by
  have := sub_x0 (i / 16) (by omega) (i % 16) (by omega) (v / 16) (by omega) (v % 16) (by omega)
  rw [show 16 * (i / 16) + i % 16 = i by omega, show 16 * (v / 16) + v % 16 = v by omega] at this
  exact this h
theorem i_without {i v : Nat} (h : v &&& i = v) : nI i &&& (nI v ^^^ (-1 : Int32)) = nI (i ^^^ v) := by
  rw [← q_xor]
  apply Int32.toBitVec_inj.1
  show (nI i).toBitVec &&& ((nI v).toBitVec ^^^ (-1 : Int32).toBitVec) = (nI i).toBitVec ^^^ (nI v).toBitVec
  have h2 : (nI v).toBitVec &&& (nI i).toBitVec = (nI v).toBitVec := by
    have := q_and v i
    rw [h] at this
    exact congrArg Int32.toBitVec this
  rw [show (-1 : Int32).toBitVec = BitVec.allOnes 32 from by decide]
  apply BitVec.eq_of_getLsbD_eq
  intro k hk
  have h3 := congrArg (fun b => b.getLsbD k) h2
  simp only [BitVec.getLsbD_and] at h3
  simp only [BitVec.getLsbD_and, BitVec.getLsbD_xor, BitVec.getLsbD_allOnes, hk, decide_true]
  revert h3
  cases (nI i).toBitVec.getLsbD k <;> cases (nI v).toBitVec.getLsbD k <;> decide
theorem two_n {n : Nat} (h : n ≤ 8) : 2 ^ n ≤ 256 := by
  have : 2 ^ n ≤ 2 ^ 8 := Nat.pow_le_pow_right (by decide) h
  exact this
section E10
variable {errors found : Nat → Int32} {h_weight : Nat → Int32} {h_known : Int32} {h_hour : Int32} {h_swS : Nat → Int32} {h_swW : Nat → Int32} {h_waS : Nat → Int32} {h_spoons : Int32} {h_kind : Nat → Int32} {h_mark : Nat → Int32} {h_silver : Nat → Int32} {h_fresh : Nat → Int64} {h_texts : Nat → Option Nat} {h_tape : Nat → Int32} {h_tapeCount : Int32} {h_z : Int32} {h_waiting : Nat → Int32} {h_waitingCount : Int32} {d : Nat → Int32} {L : List Nat} {tx : Nat → TXc}
theorem E_alone {A : AS} {k n : Nat} (hk : k < 256) (hn : n ≤ 8) (fF : ∀ s w, aF A s w ≤ 9) (qF : ∀ s, s < 8 → h_fresh s = lN (pk12 (aF A s))) (r0 : d 0 = nI n) (rF : ∀ s, s < 8 → ∀ w, w < 12 → d (34 + 15 * s + (3 + w)) = nI (aF A s w)) : (fX3_clashes (nI k) (nI n) h_fresh = some (0 : Int32) ∧ fX12_isAlone (nI k) d = some (1 : Int32)) ∨ (fX3_clashes (nI k) (nI n) h_fresh = some (1 : Int32) ∧ fX12_isAlone (nI k) d = some (0 : Int32)) := by
  obtain ⟨r, q, l1, l2, hQ⟩ := lpQ (fun σ : Int32 × Int32 => fX3_clashes_4B (nI k) (nI n) h_fresh (σ.1) (σ.2)) (fun σ : Int32 × Int32 => fX12_isAlone_4B (nI k) d (σ.1) (σ.2)) (fun i s u => ∃ acc, s = (acc, nI i) ∧ u = (acc, nI i)) (fun r q => (∃ x y, r = .inl x ∧ q = .inl y) ∨ (r = .inr (1 : Int32) ∧ q = .inr (0 : Int32))) n
    (fun i s u hi hI => by
      obtain ⟨acc, rfl, rfl⟩ := hI
      have h1 := c_on (A := A) (fresh := h_fresh) (s := i) (by omega) (fF i) (qF i (by omega))
      have h2 := m_on (s := i) (by omega) (fF i) (rF i (by omega))
      have e1 : ∀ z, (if nI (k / 2 ^ i % 2) = nI 1 then (if acc &&& nI (onN (aF A i)) = nI 0 then some (.inl (acc ||| nI (onN (aF A i)), nI (i + 1))) else some (.inr (.inr (nI 1)))) else some (.inl (acc, nI (i + 1)))) = z → fX3_clashes_4B (nI k) (nI n) h_fresh acc (nI i) = z := fun z hz => by
        unfold fX3_clashes_4B fX3_clashes_42
        rw [if_neg (by rw [nI_leI (by omega) (by omega)]; omega), show (31 : Int32) = nI 31 from rfl, o_1, q_shr (by omega) (by omega), q_bit, bd_of h1, o_0, bnd_q, bnd_q, nI_add]
        exact hz
      have e2 : ∀ z, (if nI (k / 2 ^ i % 2) = nI 1 then (if acc &&& nI (onN (aF A i)) = nI 0 then some (.inl (acc ||| nI (onN (aF A i)), nI (i + 1))) else some (.inr (.inr (nI 0)))) else some (.inl (acc, nI (i + 1)))) = z → fX12_isAlone_4B (nI k) d acc (nI i) = z := fun z hz => by
        unfold fX12_isAlone_4B fX12_isAlone_43
        rw [o_0, ckI_s (by decide) (by decide), nI_clamp (by decide), r0, if_neg (by rw [nI_leI (by omega) (by omega)]; omega), show (31 : Int32) = nI 31 from rfl, o_1, q_shr (by omega) (by omega), q_bit, bd_of h2, bd_of h2, bnd_q, bnd_q, nI_add]
        exact hz
      by_cases hb : nI (k / 2 ^ i % 2) = nI 1
      · by_cases hc : acc &&& nI (onN (aF A i)) = nI 0
        · exact Or.inl ⟨(acc ||| nI (onN (aF A i)), nI (i + 1)), (acc ||| nI (onN (aF A i)), nI (i + 1)), e1 _ (by rw [if_pos hb, if_pos hc]), e2 _ (by rw [if_pos hb, if_pos hc]), _, rfl, rfl⟩
        · exact Or.inr ⟨.inr (nI 1), .inr (nI 0), e1 _ (by rw [if_pos hb, if_neg hc]), e2 _ (by rw [if_pos hb, if_neg hc]), Or.inr ⟨rfl, rfl⟩⟩
      · exact Or.inl ⟨(acc, nI (i + 1)), (acc, nI (i + 1)), e1 _ (if_neg hb), e2 _ (if_neg hb), _, rfl, rfl⟩)
    (fun s u hI => by
      obtain ⟨acc, rfl, rfl⟩ := hI
      refine ⟨.inl (acc, nI n), .inl (acc, nI n), ?_, ?_, Or.inl ⟨_, _, rfl, rfl⟩⟩
      · show fX3_clashes_4B (nI k) (nI n) h_fresh acc (nI n) = _
        unfold fX3_clashes_4B
        rw [if_pos ((nI_leI (by omega) (by omega)).mpr (Nat.le_refl _))]
      · show fX12_isAlone_4B (nI k) d acc (nI n) = _
        unfold fX12_isAlone_4B
        rw [o_0, ckI_s (by decide) (by decide), nI_clamp (by decide), r0, if_pos ((nI_leI (by omega) (by omega)).mpr (Nat.le_refl _))])
    (FU_lt (by omega)) (nI 0, nI 0) (nI 0, nI 0) ⟨nI 0, rfl, rfl⟩
  rcases hQ with ⟨⟨x1, x2⟩, ⟨y1, y2⟩, rfl, rfl⟩ | ⟨rfl, rfl⟩
  · exact Or.inl ⟨(bd_of l1).trans rfl, (bd_of l2).trans rfl⟩
  · exact Or.inr ⟨(bd_of l1).trans rfl, (bd_of l2).trans rfl⟩
theorem E_telling (a : Int32) (he : Re errors found) (hh : Rh h_weight h_known h_hour h_swS h_swW h_waS h_spoons h_kind h_mark h_silver h_fresh h_texts h_tape h_tapeCount h_z h_waiting h_waitingCount d L tx) : ∃ (r : Int32) (errorsR foundR : Nat → Int32), fX11_telling a errors h_spoons h_fresh = some (r, errorsR) ∧ fX12_telling a d found = some (r, foundR) ∧ Re errorsR foundR := by
  obtain ⟨A, E, hW, hH, hM, hC, hT, hG, hO⟩ := hh
  obtain ⟨r0, r1, r2, rW, rB, rD, rS, rC, rM, rV, rF⟩ := hM
  obtain ⟨qW, qK, qH, qB, qD, qS, qN, qC, qM, qV, qF⟩ := hC
  obtain ⟨fN, fH, fK, fW, fB, fD, fS, fC, fM, fV, fF⟩ := hW
  have hp2 := two_n fN
  by_cases c0 : nI 0 ≤ a ∧ a ≤ nI 4095
  · obtain ⟨w, hw, rfl⟩ := bt_of (by decide) c0
    obtain ⟨r, q, l1, l2, hQ⟩ := lpQ (fun σ : Int32 × Int32 × Int32 => fX11_telling_22B (nI w) errors h_spoons h_fresh (σ.1) (σ.2.1) (σ.2.2)) (fun σ : Int32 × Int32 => fX12_telling_17B (nI w) d found (σ.1) (σ.2)) (fun i s u => ∃ q l, s = (q, l, nI i) ∧ u = (q, nI i) ∧ ((q = (-1 : Int32) ∧ l = nI 9) ∨ ∃ b, b < 256 ∧ q = nI b ∧ l = nI (pc b))) (fun r u => r.1 = u.1) (2 ^ aN A)
      (fun i s u hi hI => by
        obtain ⟨q, l, rfl, rfl, hql⟩ := hI
        have hi2 : i < 256 := by omega
        have hpi : pc i ≤ 8 := by
          have : ∀ a, a < 16 → ∀ b, b < 16 → pc (16 * a + b) ≤ 8 := by decide +kernel
          have := this (i / 16) (by omega) (i % 16) (by omega)
          rw [show 16 * (i / 16) + i % 16 = i by omega] at this
          exact this
        have e1 : ∀ z, (if l ≤ nI (pc i) then some (.inl (q, l, nI (i + 1))) else if nI w &&& (nI (anyN i (aF A) (aN A)) ^^^ (-1 : Int32)) = nI 0 then some (.inl (nI i, nI (pc i), nI (i + 1))) else some (.inl (q, l, nI (i + 1)))) = z → fX11_telling_22B (nI w) errors h_spoons h_fresh q l (nI i) = z := fun z hz => by
          unfold fX11_telling_22B fX11_telling_70
          rw [qN, show (1 : Int32) <<< (nI (aN A) &&& 31) = nI (2 ^ aN A) from q_shl1 _ (by omega), if_neg (by rw [nI_leI (by omega) (by omega)]; omega), bd_of (c_bc (by omega)), bd_of (c_anyW hi2 fN fF qF), bd_of (c_bc (by omega)), bnd_q, show nI i + (1 : Int32) = nI (i + 1) from nI_add _ 1]
          exact hz
        have e2 : ∀ z, (if nI w &&& (nI (anyN i (aF A) (aN A)) ^^^ (-1 : Int32)) = nI 0 then (if q < nI 0 then some (.inl (nI i, nI (i + 1))) else bd (fX12_ones (nI i)) fun r_13 => bd (fX12_ones q) fun r_15 => (if r_15 ≤ r_13 then some (.inl (q, nI (i + 1))) else some (.inl (nI i, nI (i + 1))))) else some (.inl (q, nI (i + 1)))) = z → fX12_telling_17B (nI w) d found q (nI i) = z := fun z hz => by
          have hl : lp (fun σ : Int32 × Int32 => fX12_telling_35B (nI w) q (nI i) d found (σ.1) (σ.2)) FU (nI w, nI 0) = some (nI w &&& (nI (anyN i (aF A) (aN A)) ^^^ (-1 : Int32)), nI (aN A)) := by
            have h := lpF (fun σ : Int32 × Int32 => fX12_telling_35B (nI w) q (nI i) d found (σ.1) (σ.2)) (fun j => (nI w &&& (nI (anyN i (aF A) j) ^^^ (-1 : Int32)), nI j)) (nI w &&& (nI (anyN i (aF A) (aN A)) ^^^ (-1 : Int32)), nI (aN A)) (aN A) (fun j hj => ?_) ?_ (FU_lt (by omega))
            · have h := h
              simp only [show anyN i (aF A) 0 = 0 from rfl, i_rest0] at h
              exact h
            · have h2 := m_on (s := j) (by omega) (fF j) (rF j (by omega))
              show fX12_telling_35B (nI w) q (nI i) d found (nI w &&& (nI (anyN i (aF A) j) ^^^ (-1 : Int32))) (nI j) = _
              unfold fX12_telling_35B fX12_telling_70
              rw [show (31 : Int32) = nI 31 from rfl, q_shr (by omega) (by omega), show (1 : Int32) = nI 1 from rfl, q_bit, o_0, ckI_s (by decide) (by decide), nI_clamp (by decide), r0, if_neg (by rw [nI_leI (by omega) (by omega)]; omega), bd_of h2, bnd_q, bnd_q, bnd_q, nI_add]
              rcases bit2 i j with h | h
              · have e : anyN i (aF A) (j + 1) = anyN i (aF A) j := by
                  show anyN i (aF A) j ||| _ = _
                  rw [if_neg (by omega), Nat.or_zero]
                rw [h, if_neg (by decide), e, show (-nI 1 : Int32) = -1 from rfl, Int32.and_neg_one, bnd_q]
              · have e : anyN i (aF A) (j + 1) = anyN i (aF A) j ||| onN (aF A j) := by
                  show anyN i (aF A) j ||| _ = _
                  rw [if_pos h]
                rw [h, if_pos rfl, e, show (-nI 1 : Int32) = -1 from rfl, i_rest, q_or]
            · show fX12_telling_35B (nI w) q (nI i) d found (nI w &&& (nI (anyN i (aF A) (aN A)) ^^^ (-1 : Int32))) (nI (aN A)) = _
              unfold fX12_telling_35B
              rw [o_0, ckI_s (by decide) (by decide), nI_clamp (by decide), r0, if_pos ((nI_leI (by omega) (by omega)).mpr (Nat.le_refl _))]
          unfold fX12_telling_17B
          rw [o_0, ckI_s (by decide) (by decide), nI_clamp (by decide), r0, show (1 : Int32) <<< (nI (aN A) &&& 31) = nI (2 ^ aN A) from q_shl1 _ (by omega), if_neg (by rw [nI_leI (by omega) (by omega)]; omega)]
          unfold fX12_telling_35
          refine (bd_of hl).trans ?_
          dsimp only
          unfold fX12_telling_99 fX12_telling_103 fX12_telling_104
          rw [bnd_q, show nI i + (1 : Int32) = nI (i + 1) from nI_add _ 1]
          exact hz
        by_cases hr : nI w &&& (nI (anyN i (aF A) (aN A)) ^^^ (-1 : Int32)) = nI 0
        · rcases hql with ⟨rfl, rfl⟩ | ⟨b, hb, rfl, rfl⟩
          · refine Or.inl ⟨(nI i, nI (pc i), nI (i + 1)), (nI i, nI (i + 1)), e1 _ ?_, e2 _ ?_, _, _, rfl, rfl, Or.inr ⟨i, hi2, rfl, rfl⟩⟩
            · rw [if_neg (by rw [nI_leI (by decide) (by omega)]; omega), if_pos hr]
            · rw [if_pos hr, if_pos (by decide)]
          · have hpb := pc_le b
            by_cases hle : pc b ≤ pc i
            · refine Or.inl ⟨(nI b, nI (pc b), nI (i + 1)), (nI b, nI (i + 1)), e1 _ ?_, e2 _ ?_, _, _, rfl, rfl, Or.inr ⟨b, hb, rfl, rfl⟩⟩
              · rw [if_pos ((nI_leI (by omega) (by omega)).mpr hle)]
              · rw [if_pos hr, if_neg (by rw [nI_ltI (by omega) (by decide)]; omega), bd_of (m_ones (by omega)), bd_of (m_ones (by omega)), if_pos ((nI_leI (by omega) (by omega)).mpr hle)]
            · refine Or.inl ⟨(nI i, nI (pc i), nI (i + 1)), (nI i, nI (i + 1)), e1 _ ?_, e2 _ ?_, _, _, rfl, rfl, Or.inr ⟨i, hi2, rfl, rfl⟩⟩
              · rw [if_neg (by rw [nI_leI (by omega) (by omega)]; exact hle), if_pos hr]
              · rw [if_pos hr, if_neg (by rw [nI_ltI (by omega) (by decide)]; omega), bd_of (m_ones (by omega)), bd_of (m_ones (by omega)), if_neg (by rw [nI_leI (by omega) (by omega)]; exact hle)]
        · refine Or.inl ⟨(q, l, nI (i + 1)), (q, nI (i + 1)), e1 _ ?_, e2 _ ?_, _, _, rfl, rfl, hql⟩
          · rw [if_neg hr]
            exact ite_self _
          · rw [if_neg hr])
      (fun s u hI => by
        obtain ⟨q, l, rfl, rfl, hql⟩ := hI
        refine ⟨(q, l, nI (2 ^ aN A)), (q, nI (2 ^ aN A)), ?_, ?_, rfl⟩
        · show fX11_telling_22B (nI w) errors h_spoons h_fresh q l (nI (2 ^ aN A)) = _
          unfold fX11_telling_22B
          rw [qN, show (1 : Int32) <<< (nI (aN A) &&& 31) = nI (2 ^ aN A) from q_shl1 _ (by omega), if_pos ((nI_leI (by omega) (by omega)).mpr (Nat.le_refl _))]
        · show fX12_telling_17B (nI w) d found q (nI (2 ^ aN A)) = _
          unfold fX12_telling_17B
          rw [o_0, ckI_s (by decide) (by decide), nI_clamp (by decide), r0, show (1 : Int32) <<< (nI (aN A) &&& 31) = nI (2 ^ aN A) from q_shl1 _ (by omega), if_pos ((nI_leI (by omega) (by omega)).mpr (Nat.le_refl _))])
      (FU_lt (by omega)) ((-1 : Int32), nI 9, nI 0) ((-1 : Int32), nI 0) ⟨_, _, rfl, rfl, Or.inl ⟨rfl, rfl⟩⟩
    obtain ⟨r1, r2, r3⟩ := r
    obtain ⟨q1, q2⟩ := q
    have hQ : r1 = q1 := hQ
    subst hQ
    have g11 : ∀ z, (if 0 ≤ r1 then some (r1, errors) else some ((-1000000002 : Int32), upd errors 2 (errors 2 + nI 1))) = z → fX11_telling (nI w) errors h_spoons h_fresh = z := fun z hz => by
      unfold fX11_telling
      rw [bd_of (c_isSetOfWords _), b2_t c0, if_neg (by decide)]
      unfold fX11_telling_22
      refine (bd_of l1).trans ?_
      dsimp only
      rw [bd_of (c_ref2 _)]
      exact hz
    have g12 : ∀ z, (if 0 ≤ r1 then some (r1, found) else some ((-1000000002 : Int32), upd found 2 (found 2 + nI 1))) = z → fX12_telling (nI w) d found = z := fun z hz => by
      unfold fX12_telling
      rw [bd_of (m_areWords _), b2_t c0, if_neg (by decide)]
      unfold fX12_telling_17
      refine (bd_of l2).trans ?_
      dsimp only
      rw [o_2, bd_of (m_fin2 _)]
      exact hz
    by_cases h0 : 0 ≤ r1
    · exact ⟨r1, errors, found, g11 _ (if_pos h0), g12 _ (if_pos h0), he⟩
    · exact ⟨_, _, _, g11 _ (if_neg h0), g12 _ (if_neg h0), Re_up he 2 (by decide)⟩
  · refine ⟨(-1000000001 : Int32), upd errors 1 (errors 1 + nI 1), upd found 1 (found 1 + nI 1), ?_, ?_, Re_up he 1 (by decide)⟩
    · simp (disch := omega) only [fX11_telling, if_neg c0, o_69, l_6, c_isWord, c_isSetOfWords, c_isUse, c_isSheet, c_isBehind, c_mayB, c_wi, m_isWord, m_areWords, m_isSheet, m_isAhead, m_isKm, m_in, l_n1, o_n1, b2if, ck_s b2_z, c_ref1, c_ref2, c_ref3, c_ref4, c_ref5, m_fin1, m_fin2, m_fin3, m_fin4, m_fin5, l_0, l_1, l_2, l_3, l_5, l_7, l_8, l_9, l_11, l_12, l_16, l_20, l_30, l_40, l_60, l_69, l_99, l_4095, if_true, if_false, nI_add, pk_mul, nI_clamp, nI_leI, nI_ltI, nI_eq, ckI_s, bd_q, bnd_q, if_pos, if_neg, o_0, o_1, o_2, o_3, o_4, o_5, o_6, o_7, o_8, o_9, o_10, o_11, o_12, o_13, o_14, o_15, o_16, o_17, o_18, o_19, o_20, o_21, o_22, o_23, o_24, o_25, o_26, o_27, o_28, o_29, o_30, o_31, o_32, o_33, o_34, o_35, o_36, o_37, o_38, o_39, o_40, o_41, o_42, o_43, o_44, o_45, o_46, o_47, o_48, o_49, o_50, o_51, o_52, o_53, o_54, o_55, o_56, o_57, o_58, o_59, o_60, o_62, o_70, o_71, o_99, o_124, o_154, o_156, o_176, o_255, o_276, o_326, o_4095, o_9999, o_10000, o_10001, o_20000, o_20033]
    · simp (disch := omega) only [fX12_telling, if_neg c0, o_69, l_6, c_isWord, c_isSetOfWords, c_isUse, c_isSheet, c_isBehind, c_mayB, c_wi, m_isWord, m_areWords, m_isSheet, m_isAhead, m_isKm, m_in, l_n1, o_n1, b2if, ck_s b2_z, c_ref1, c_ref2, c_ref3, c_ref4, c_ref5, m_fin1, m_fin2, m_fin3, m_fin4, m_fin5, l_0, l_1, l_2, l_3, l_5, l_7, l_8, l_9, l_11, l_12, l_16, l_20, l_30, l_40, l_60, l_69, l_99, l_4095, if_true, if_false, nI_add, pk_mul, nI_clamp, nI_leI, nI_ltI, nI_eq, ckI_s, bd_q, bnd_q, if_pos, if_neg, o_0, o_1, o_2, o_3, o_4, o_5, o_6, o_7, o_8, o_9, o_10, o_11, o_12, o_13, o_14, o_15, o_16, o_17, o_18, o_19, o_20, o_21, o_22, o_23, o_24, o_25, o_26, o_27, o_28, o_29, o_30, o_31, o_32, o_33, o_34, o_35, o_36, o_37, o_38, o_39, o_40, o_41, o_42, o_43, o_44, o_45, o_46, o_47, o_48, o_49, o_50, o_51, o_52, o_53, o_54, o_55, o_56, o_57, o_58, o_59, o_60, o_62, o_70, o_71, o_99, o_124, o_154, o_156, o_176, o_255, o_276, o_326, o_4095, o_9999, o_10000, o_10001, o_20000, o_20033]
end E10
