/-! the reference: a wash, an hour, hours -/
theorem or_ass (a b c : Nat) : a ||| b ||| c = a ||| (b ||| c) := Nat.or_assoc a b c
theorem bitS_o {p : Nat → Bool} {n : Nat} (k : Nat) (h : p n = true) : nI (k ||| bitS p n) ||| nI (2 ^ n) = nI (k ||| bitS p (n + 1)) := by
  rw [q_or, or_ass]
  show _ = nI (k ||| (bitS p n ||| _))
  rw [if_pos h]
theorem upd_s {f : Nat → Int32} {k : Nat} {x : Int32} : upd f k x k = x := if_pos rfl
theorem upd_n {f : Nat → Int32} {k j : Nat} {x : Int32} (h : j ≠ k) : upd f k x j = f j := if_neg h
/-- the place of how fresh a word is -/
def fP (s w : Nat) : Nat := 34 + 15 * s + (3 + w)
theorem Sm_upd {d : Nat → Int32} {k : Nat} {x : Int32} (h : k < 3 ∨ (6 ≤ k ∧ k < 154)) : Sm d (upd d k x) := by
  refine ⟨upd_n (by omega), upd_n (by omega), upd_n (by omega), fun j hj => upd_n (by omega)⟩
section MW
variable {d : Nat → Int32} {A : AS} {E : EVt}
theorem m_w1 {s : Nat} (hW : Wf A) (hR : RM d A) (hs : s < 8) (by1 wo : Int32) (nm pl : Nat → Int32) (i : Nat) (hi : i < 12) (d1 : Nat → Int32) (h2 : d1 2 = nI (aK A ||| bitS (fun w => decide (rdsN (aC A s) (aM A s) ≤ aF A s w)) i)) (hk : ∀ k, k ≠ 2 → d1 k = d k) :
    ∃ d2, fX12_washes_15B (nI s) wo by1 nm pl (nI i) d1 = some (.inl (nI (i + 1), d2)) ∧ d2 2 = nI (aK A ||| bitS (fun w => decide (rdsN (aC A s) (aM A s) ≤ aF A s w)) (i + 1)) ∧ ∀ k, k ≠ 2 → d2 k = d k := by
  have hR1 : RM d1 (sK A (aK A ||| bitS (fun w => decide (rdsN (aC A s) (aM A s) ≤ aF A s w)) i)) := by
    obtain ⟨r0, r1, r2, rW, rB, rD, rS, rC, rM, rV, rF⟩ := hR
    refine ⟨(hk _ (by omega)).trans r0, (hk _ (by omega)).trans r1, h2, fun j hj => (hk _ (by omega)).trans (rW j hj), fun j hj => (hk _ (by omega)).trans (rB j hj), fun j hj => (hk _ (by omega)).trans (rD j hj), fun j hj => (hk _ (by omega)).trans (rS j hj), fun j hj => (hk _ (by omega)).trans (rC j hj), fun j hj => (hk _ (by omega)).trans (rM j hj), fun j hj => (hk _ (by omega)).trans (rV j hj), fun j hj w hw => (hk _ (by omega)).trans (rF j hj w hw)⟩
  have hlt : aK A ||| bitS (fun w => decide (rdsN (aC A s) (aM A s) ≤ aF A s w)) i < 4096 := Nat.or_lt_two_pow (n := 12) hW.2.2.1 (Nat.lt_of_lt_of_le (bitS_lt _ i) (Nat.pow_le_pow_right (by decide) (by omega)))
  have h1 := m_reads (Wf_sK hW hlt) hR1 hs
  have h1 : fX12_reads0 (nI s) d1 = some (nI (rdsN (aC A s) (aM A s))) := h1
  have h3 := hR1.2.2.2.2.2.2.2.2.2.2 s hs i hi
  have h3 : d1 (34 + 15 * s + (3 + i)) = nI (aF A s i) := h3
  have h4 := hW.2.2.2.2.2.2.2.2.2.2 s i
  have h5 := rdsN_b (aC A s) (aM A s)
  by_cases h6 : aF A s i ≤ 0
  · refine ⟨upd d1 2 (nI (aK A ||| bitS (fun w => decide (rdsN (aC A s) (aM A s) ≤ aF A s w)) i)), ?_, ?_, fun k hk2 => (upd_n hk2).trans (hk k hk2)⟩
    · simp (disch := omega) only [fX12_washes_15B, fX12_washes_62, fX12_washes_63, m_of, h3, h2, q_or, Nat.or_zero, if_true, if_false, nI_add, pk_mul, nI_clamp, nI_leI, nI_ltI, nI_eq, ckI_s, bd_s, bnd_s, if_pos, if_neg, o_0, o_1, o_2, o_3, o_4, o_5, o_6, o_7, o_8, o_9, o_10, o_11, o_12, o_13, o_14, o_15, o_16, o_17, o_18, o_19, o_20, o_21, o_22, o_23, o_24, o_25, o_26, o_27, o_28, o_29, o_30, o_31, o_32, o_33, o_34, o_35, o_36, o_37, o_38, o_39, o_40, o_41, o_42, o_43, o_44, o_45, o_46, o_47, o_48, o_49, o_50, o_51, o_52, o_53, o_54, o_55, o_56, o_57, o_58, o_59, o_60, o_62, o_70, o_71, o_99, o_124, o_154, o_156, o_176, o_255, o_276, o_326, o_4095, o_9999, o_10000, o_10001, o_20000, o_20033]
    · rw [upd_s, bitS_f (by simp; omega)]
  · by_cases h7 : aF A s i < rdsN (aC A s) (aM A s)
    · refine ⟨upd d1 2 (nI (aK A ||| bitS (fun w => decide (rdsN (aC A s) (aM A s) ≤ aF A s w)) i)), ?_, ?_, fun k hk2 => (upd_n hk2).trans (hk k hk2)⟩
      · simp (disch := omega) only [fX12_washes_15B, fX12_washes_62, fX12_washes_63, m_of, h3, h2, h1, q_or, Nat.or_zero, if_true, if_false, nI_add, pk_mul, nI_clamp, nI_leI, nI_ltI, nI_eq, ckI_s, bd_s, bnd_s, if_pos, if_neg, o_0, o_1, o_2, o_3, o_4, o_5, o_6, o_7, o_8, o_9, o_10, o_11, o_12, o_13, o_14, o_15, o_16, o_17, o_18, o_19, o_20, o_21, o_22, o_23, o_24, o_25, o_26, o_27, o_28, o_29, o_30, o_31, o_32, o_33, o_34, o_35, o_36, o_37, o_38, o_39, o_40, o_41, o_42, o_43, o_44, o_45, o_46, o_47, o_48, o_49, o_50, o_51, o_52, o_53, o_54, o_55, o_56, o_57, o_58, o_59, o_60, o_62, o_70, o_71, o_99, o_124, o_154, o_156, o_176, o_255, o_276, o_326, o_4095, o_9999, o_10000, o_10001, o_20000, o_20033]
      · rw [upd_s, bitS_f (by simp; omega)]
    · refine ⟨upd d1 2 (nI (aK A ||| bitS (fun w => decide (rdsN (aC A s) (aM A s) ≤ aF A s w)) (i + 1))), ?_, upd_s, fun k hk2 => (upd_n hk2).trans (hk k hk2)⟩
      simp (disch := omega) only [fX12_washes_15B, fX12_washes_62, fX12_washes_63, m_of, h3, h2, h1, q_shl1, if_true, if_false, nI_add, pk_mul, nI_clamp, nI_leI, nI_ltI, nI_eq, ckI_s, bd_s, bnd_s, if_pos, if_neg, o_0, o_1, o_2, o_3, o_4, o_5, o_6, o_7, o_8, o_9, o_10, o_11, o_12, o_13, o_14, o_15, o_16, o_17, o_18, o_19, o_20, o_21, o_22, o_23, o_24, o_25, o_26, o_27, o_28, o_29, o_30, o_31, o_32, o_33, o_34, o_35, o_36, o_37, o_38, o_39, o_40, o_41, o_42, o_43, o_44, o_45, o_46, o_47, o_48, o_49, o_50, o_51, o_52, o_53, o_54, o_55, o_56, o_57, o_58, o_59, o_60, o_62, o_70, o_71, o_99, o_124, o_154, o_156, o_176, o_255, o_276, o_326, o_4095, o_9999, o_10000, o_10001, o_20000, o_20033]
      rw [bitS_o (p := fun w => decide (rdsN (aC A s) (aM A s) ≤ aF A s w)) _ (by simp; omega)]
theorem m_w2 {s v : Nat} (hs : s < 8) (hF : ∀ w, aF A s w ≤ 9) (nm pl : Nat → Int32) (d0 : Nat → Int32) (h0 : ∀ w, w < 12 → d0 (34 + 15 * s + (3 + w)) = nI (aF A s w)) : ∃ d4, fX12_washes_120 (nI s) (b2 (v = 0)) (nI 0) d0 nm pl = some (d4, nm, pl) ∧ (∀ w, w < 12 → d4 (34 + 15 * s + (3 + w)) = nI (if v = 0 then 0 else aF A s w / 2)) ∧ ∀ k, (∀ w, w < 12 → k ≠ 34 + 15 * s + (3 + w)) → d4 k = d0 k := by
  unfold fX12_washes_120
  obtain ⟨r, h1, h2, h3⟩ := lpE (fun σ : Int32 × (Nat → Int32) => fX12_washes_120B (nI s) (b2 (v = 0)) nm pl (σ.1) (σ.2)) (fun i σ => σ.1 = nI i ∧ (∀ w, w < 12 → σ.2 (34 + 15 * s + (3 + w)) = nI (if w < i then (if v = 0 then 0 else aF A s w / 2) else aF A s w)) ∧ ∀ k, (∀ w, w < 12 → k ≠ 34 + 15 * s + (3 + w)) → σ.2 k = d0 k) (fun r => (∀ w, w < 12 → r.2 (34 + 15 * s + (3 + w)) = nI (if v = 0 then 0 else aF A s w / 2)) ∧ ∀ k, (∀ w, w < 12 → k ≠ 34 + 15 * s + (3 + w)) → r.2 k = d0 k) 12
    (fun i σ hi hI => by
      obtain ⟨x, d1⟩ := σ
      obtain ⟨e1, e2, e3⟩ := hI
      dsimp only at e1 e2 e3
      subst e1
      have h3 := e2 i hi
      rw [if_neg (by omega)] at h3
      have h4 := hF i
      refine Or.inl ⟨(nI (i + 1), upd d1 (34 + 15 * s + (3 + i)) (nI (if v = 0 then 0 else aF A s i / 2))), ?_, rfl, fun w hw => ?_, fun k hk => (upd_n (hk i hi)).trans (e3 k hk)⟩
      · by_cases hv : v = 0
        · subst hv
          simp (disch := omega) only [fX12_washes_120B, fX12_washes_153, b2, m_sets, if_true, if_false, nI_add, pk_mul, nI_clamp, nI_leI, nI_ltI, nI_eq, ckI_s, bd_s, bnd_s, if_pos, if_neg, o_0, o_1, o_2, o_3, o_4, o_5, o_6, o_7, o_8, o_9, o_10, o_11, o_12, o_13, o_14, o_15, o_16, o_17, o_18, o_19, o_20, o_21, o_22, o_23, o_24, o_25, o_26, o_27, o_28, o_29, o_30, o_31, o_32, o_33, o_34, o_35, o_36, o_37, o_38, o_39, o_40, o_41, o_42, o_43, o_44, o_45, o_46, o_47, o_48, o_49, o_50, o_51, o_52, o_53, o_54, o_55, o_56, o_57, o_58, o_59, o_60, o_62, o_70, o_71, o_99, o_124, o_154, o_156, o_176, o_255, o_276, o_326, o_4095, o_9999, o_10000, o_10001, o_20000, o_20033]
        · simp (disch := omega) only [fX12_washes_120B, fX12_washes_153, b2, m_sets, m_of, h3, pk_div, if_true, if_false, nI_add, pk_mul, nI_clamp, nI_leI, nI_ltI, nI_eq, ckI_s, bd_s, bnd_s, if_pos, if_neg, o_0, o_1, o_2, o_3, o_4, o_5, o_6, o_7, o_8, o_9, o_10, o_11, o_12, o_13, o_14, o_15, o_16, o_17, o_18, o_19, o_20, o_21, o_22, o_23, o_24, o_25, o_26, o_27, o_28, o_29, o_30, o_31, o_32, o_33, o_34, o_35, o_36, o_37, o_38, o_39, o_40, o_41, o_42, o_43, o_44, o_45, o_46, o_47, o_48, o_49, o_50, o_51, o_52, o_53, o_54, o_55, o_56, o_57, o_58, o_59, o_60, o_62, o_70, o_71, o_99, o_124, o_154, o_156, o_176, o_255, o_276, o_326, o_4095, o_9999, o_10000, o_10001, o_20000, o_20033]
      · by_cases hwi : w = i
        · subst hwi
          dsimp only
          rw [upd_s, if_pos (show w < w + 1 by omega)]
        · dsimp only
          rw [upd_n (by omega), e2 w hw]
          by_cases h5 : w < i
          · rw [if_pos h5, if_pos (show w < i + 1 by omega)]
          · rw [if_neg h5, if_neg (show ¬ w < i + 1 by omega)])
    (fun σ hI => by
      obtain ⟨x, d1⟩ := σ
      obtain ⟨e1, e2, e3⟩ := hI
      dsimp only at e1 e2 e3
      subst e1
      refine ⟨(nI 12, d1), ?_, fun w hw => ?_, e3⟩
      · simp (disch := omega) only [fX12_washes_120B, if_true, if_false, nI_add, pk_mul, nI_clamp, nI_leI, nI_ltI, nI_eq, ckI_s, bd_s, bnd_s, if_pos, if_neg, o_0, o_1, o_2, o_3, o_4, o_5, o_6, o_7, o_8, o_9, o_10, o_11, o_12, o_13, o_14, o_15, o_16, o_17, o_18, o_19, o_20, o_21, o_22, o_23, o_24, o_25, o_26, o_27, o_28, o_29, o_30, o_31, o_32, o_33, o_34, o_35, o_36, o_37, o_38, o_39, o_40, o_41, o_42, o_43, o_44, o_45, o_46, o_47, o_48, o_49, o_50, o_51, o_52, o_53, o_54, o_55, o_56, o_57, o_58, o_59, o_60, o_62, o_70, o_71, o_99, o_124, o_154, o_156, o_176, o_255, o_276, o_326, o_4095, o_9999, o_10000, o_10001, o_20000, o_20033]
      · have := e2 w hw
        rw [if_pos hw] at this
        exact this)
    (FU_lt (by decide)) (nI 0, d0) ⟨rfl, fun w hw => by rw [if_neg (by omega)]; exact h0 w hw, fun k _ => rfl⟩
  exact ⟨r.2, (bd_of h1).trans rfl, h2, h3⟩
theorem m_washes {s : Nat} (hW : Wf A) (hR : RM d A) (hT : TG d E) (hs : s < 8) (nm pl : Nat → Int32) : ∃ d' n' p', fX12_washes (nI s) d nm pl = some (d', n', p') ∧ RM d' (wshA E A s) ∧ Sm d d' := by
  obtain ⟨n', p', hrub⟩ := m_rubs hW hR hT hs nm pl
  have hR0 := hR
  have hW0 := hW
  obtain ⟨r0, r1, r2, rW, rB, rD, rS, rC, rM, rV, rF⟩ := hR0
  obtain ⟨fN, fH, fK, fW, fB, fD, fS, fC, fM, fV, fF⟩ := hW0
  have hon := m_on hs (fF s) (rF s hs)
  unfold fX12_washes
  simp only [hon, hrub, bd_s]
  unfold fX12_washes_15
  obtain ⟨r, h1, h2, h3⟩ := lpE (fun σ : Int32 × (Nat → Int32) => fX12_washes_15B (nI s) (nI (onN (aF A s))) (nI (rubN E A s)) n' p' (σ.1) (σ.2)) (fun i σ => σ.1 = nI i ∧ σ.2 2 = nI (aK A ||| bitS (fun w => decide (rdsN (aC A s) (aM A s) ≤ aF A s w)) i) ∧ ∀ k, k ≠ 2 → σ.2 k = d k) (fun r => r.2 2 = nI (aK A ||| geN (rdsN (aC A s) (aM A s)) (aF A s)) ∧ ∀ k, k ≠ 2 → r.2 k = d k) 12
    (fun i σ hi hI => by
      obtain ⟨x, d1⟩ := σ
      obtain ⟨e1, e2, e3⟩ := hI
      dsimp only at e1 e2 e3
      subst e1
      obtain ⟨d2, g1, g2, g3⟩ := m_w1 hW hR hs (nI (rubN E A s)) (nI (onN (aF A s))) n' p' i hi d1 e2 e3
      exact Or.inl ⟨(nI (i + 1), d2), g1, rfl, g2, g3⟩)
    (fun σ hI => by
      obtain ⟨x, d1⟩ := σ
      obtain ⟨e1, e2, e3⟩ := hI
      dsimp only at e1 e2 e3
      subst e1
      refine ⟨(nI 12, d1), ?_, e2, e3⟩
      simp (disch := omega) only [fX12_washes_15B, if_true, if_false, nI_add, pk_mul, nI_clamp, nI_leI, nI_ltI, nI_eq, ckI_s, bd_s, bnd_s, if_pos, if_neg, o_0, o_1, o_2, o_3, o_4, o_5, o_6, o_7, o_8, o_9, o_10, o_11, o_12, o_13, o_14, o_15, o_16, o_17, o_18, o_19, o_20, o_21, o_22, o_23, o_24, o_25, o_26, o_27, o_28, o_29, o_30, o_31, o_32, o_33, o_34, o_35, o_36, o_37, o_38, o_39, o_40, o_41, o_42, o_43, o_44, o_45, o_46, o_47, o_48, o_49, o_50, o_51, o_52, o_53, o_54, o_55, o_56, o_57, o_58, o_59, o_60, o_62, o_70, o_71, o_99, o_124, o_154, o_156, o_176, o_255, o_276, o_326, o_4095, o_9999, o_10000, o_10001, o_20000, o_20033])
    (FU_lt (by decide)) (nI 0, d) ⟨rfl, by
      dsimp only
      rw [r2]
      show _ = nI (aK A ||| 0)
      rw [Nat.or_zero], fun k _ => rfl⟩
  have h1 : lp (fun σ : Int32 × (Nat → Int32) => fX12_washes_15B (nI s) (nI (onN (aF A s))) (nI (rubN E A s)) n' p' (σ.1) (σ.2)) FU ((0 : Int32), d) = some r := h1
  rw [bd_of h1]
  obtain ⟨x, d1⟩ := r
  dsimp only at h2 h3 ⊢
  have hv : d1 (34 + 15 * s + 2) = nI (aV A s) := (h3 _ (by omega)).trans (rV s hs)
  have fv := fV s
  have hrl : rubN E A s ≤ 20 := hld_le _ _
  have hsub : fX12_held (nI (aV A s) - nI (rubN E A s)) (nI 0) (nI 99) = some (nI (aV A s - rubN E A s)) := by
    rw [m_held _ (by decide)]
    by_cases h : rubN E A s ≤ aV A s
    · rw [pk_sub h, hld_nI (by omega), Nat.min_eq_right (by omega)]
    · have e1 : aV A s - rubN E A s = 0 := by omega
      have e2 : (nI (aV A s) - nI (rubN E A s)).toNatClampNeg = 0 := by
        show (nI (aV A s) - nI (rubN E A s)).toInt.toNat = 0
        rw [pk_sub_toInt (by omega) (by omega)]
        omega
      unfold hld
      rw [e1, e2]
      rfl
  have hthr := m_thr (d := upd d1 (34 + 15 * s + 2) (nI (aV A s - rubN E A s))) hs (show aV A s - rubN E A s ≤ 99 by omega) upd_s
  have hd2 : upd d1 (34 + 15 * s + 2) (nI (aV A s - rubN E A s)) 2 = nI (aK A ||| geN (rdsN (aC A s) (aM A s)) (aF A s)) := (upd_n (by omega)).trans h2
  obtain ⟨d4, g1, g2, g3⟩ := m_w2 (A := A) (v := aV A s - rubN E A s) hs (fF s) n' p' (upd (upd d1 (34 + 15 * s + 2) (nI (aV A s - rubN E A s))) 2 (nI ((aK A ||| geN (rdsN (aC A s) (aM A s)) (aF A s)) ||| (if aV A s - rubN E A s = 0 then onN (aF A s) else 0)))) (fun w hw => by
    rw [upd_n (by omega), upd_n (by omega), h3 _ (by omega)]
    exact rF s hs w hw)
  have hfr : ∀ k, k ≠ 2 → k ≠ 34 + 15 * s + 2 → (∀ w, w < 12 → k ≠ 34 + 15 * s + (3 + w)) → d4 k = d k := fun k k1 k2 k3 => by rw [g3 k k3, upd_n k1, upd_n k2, h3 k k1]
  refine ⟨d4, n', p', ?_, ?_, ?_⟩
  · by_cases hz : aV A s - rubN E A s = 0
    · rw [if_pos hz] at g1
      simp (disch := omega) only [m_of, hv, m_sets, hsub, hthr, b2_t hz, hd2, fX12_washes_115, q_or, if_true, if_false, nI_add, pk_mul, nI_clamp, nI_leI, nI_ltI, nI_eq, ckI_s, bd_s, bnd_s, if_pos, if_neg, o_0, o_1, o_2, o_3, o_4, o_5, o_6, o_7, o_8, o_9, o_10, o_11, o_12, o_13, o_14, o_15, o_16, o_17, o_18, o_19, o_20, o_21, o_22, o_23, o_24, o_25, o_26, o_27, o_28, o_29, o_30, o_31, o_32, o_33, o_34, o_35, o_36, o_37, o_38, o_39, o_40, o_41, o_42, o_43, o_44, o_45, o_46, o_47, o_48, o_49, o_50, o_51, o_52, o_53, o_54, o_55, o_56, o_57, o_58, o_59, o_60, o_62, o_70, o_71, o_99, o_124, o_154, o_156, o_176, o_255, o_276, o_326, o_4095, o_9999, o_10000, o_10001, o_20000, o_20033]
      rw [b2_t hz] at g1
      exact g1
    · rw [if_neg hz] at g1
      simp (disch := omega) only [m_of, hv, m_sets, hsub, hthr, b2_f hz, hd2, fX12_washes_115, q_or, if_true, if_false, nI_add, pk_mul, nI_clamp, nI_leI, nI_ltI, nI_eq, ckI_s, bd_s, bnd_s, if_pos, if_neg, o_0, o_1, o_2, o_3, o_4, o_5, o_6, o_7, o_8, o_9, o_10, o_11, o_12, o_13, o_14, o_15, o_16, o_17, o_18, o_19, o_20, o_21, o_22, o_23, o_24, o_25, o_26, o_27, o_28, o_29, o_30, o_31, o_32, o_33, o_34, o_35, o_36, o_37, o_38, o_39, o_40, o_41, o_42, o_43, o_44, o_45, o_46, o_47, o_48, o_49, o_50, o_51, o_52, o_53, o_54, o_55, o_56, o_57, o_58, o_59, o_60, o_62, o_70, o_71, o_99, o_124, o_154, o_156, o_176, o_255, o_276, o_326, o_4095, o_9999, o_10000, o_10001, o_20000, o_20033]
      rw [b2_f hz] at g1
      exact g1
  · have k2 : d4 2 = nI ((aK A ||| geN (rdsN (aC A s) (aM A s)) (aF A s)) ||| (if aV A s - rubN E A s = 0 then onN (aF A s) else 0)) := (g3 2 (fun w hw => by omega)).trans upd_s
    have kv : d4 (34 + 15 * s + 2) = nI (aV A s - rubN E A s) := by rw [g3 _ (fun w hw => by omega), upd_n (by omega), upd_s]
    refine ⟨(hfr _ (by omega) (by omega) (fun w hw => by omega)).trans r0, (hfr _ (by omega) (by omega) (fun w hw => by omega)).trans r1, k2, fun j hj => (hfr _ (by omega) (by omega) (fun w hw => by omega)).trans (rW j hj), fun j hj => (hfr _ (by omega) (by omega) (fun w hw => by omega)).trans (rB j hj), fun j hj => (hfr _ (by omega) (by omega) (fun w hw => by omega)).trans (rD j hj), fun j hj => (hfr _ (by omega) (by omega) (fun w hw => by omega)).trans (rS j hj), fun j hj => (hfr _ (by omega) (by omega) (fun w hw => by omega)).trans (rC j hj), fun j hj => (hfr _ (by omega) (by omega) (fun w hw => by omega)).trans (rM j hj), fun j hj => ?_, fun j hj w hw => ?_⟩
    · show _ = nI (upN (aV A) s (aV A s - rubN E A s) j)
      by_cases hjs : j = s
      · subst hjs
        rw [kv, upN_s]
      · rw [upN_n hjs, hfr _ (by omega) (by omega) (fun w hw => by omega)]
        exact rV j hj
    · show _ = nI (upF (aF A) s (fun w => if aV A s - rubN E A s = 0 then 0 else aF A s w / 2) j w)
      by_cases hjs : j = s
      · subst hjs
        rw [upF_s]
        exact g2 w hw
      · rw [upF_n hjs, hfr _ (by omega) (by omega) (fun w' hw' => by omega)]
        exact rF j hj w hw
  · exact ⟨hfr _ (by omega) (by omega) (fun w hw => by omega), hfr _ (by omega) (by omega) (fun w hw => by omega), hfr _ (by omega) (by omega) (fun w hw => by omega), fun k hk => hfr _ (by omega) (by omega) (fun w hw => by omega)⟩
end MW
