/-! what is only thought: spreads, gossip, then, when, lasts -/
theorem first_le (P : Nat → Prop) : ∀ n, (∃ i, i ≤ n ∧ P i ∧ ∀ j, j < i → ¬ P j) ∨ ∀ i, i ≤ n → ¬ P i
  | 0 => by
    by_cases h : P 0
    · exact Or.inl ⟨0, Nat.le_refl _, h, fun j hj => by omega⟩
    · exact Or.inr fun i hi => by rw [show i = 0 by omega]; exact h
  | n + 1 => by
    rcases first_le P n with ⟨i, h1, h2, h3⟩ | h0
    · exact Or.inl ⟨i, by omega, h2, h3⟩
    · by_cases h : P (n + 1)
      · exact Or.inl ⟨n + 1, Nat.le_refl _, h, fun j hj => h0 j (by omega)⟩
      · exact Or.inr fun i hi => by
          by_cases e : i = n + 1
          · rw [e]; exact h
          · exact h0 i (by omega)
theorem kn_c {k w : Nat} (hk : k < 4096) (hw : w < 12) : fX3_knows (nI w) (nI k) = some (b2 (k / 2 ^ w % 2 = 1)) := by
  unfold fX3_knows
  rw [show (31 : Int32) = nI 31 from rfl, o_1, q_shr (by omega) (by omega), q_bit]
  rcases bit2 k w with h | h
  · rw [h, if_neg (by decide), b2_f (by decide)]
    rfl
  · rw [h, if_pos rfl, b2_t rfl]
theorem stpA_W (E : EVt) (A : AS) : aW (stpA E A) = aW A := by
  have h1 : ∀ B, aW (spS E B) = aW B := fun B => by
    unfold spS
    split <;> rfl
  have h2 : ∀ B, aW (spW E B) = aW B := fun B => by
    unfold spW
    split <;> rfl
  show aW (spW E (spS E A)) = _
  rw [h2, h1]
theorem runA_W (E : EVt) (A : AS) : ∀ n, aW (runA E n A) = aW A
  | 0 => rfl
  | n + 1 => by
    show aW (stpA E (runA E n A)) = _
    rw [stpA_W, runA_W E A n]
section E6
variable {errors found : Nat → Int32} {h_weight : Nat → Int32} {h_known : Int32} {h_hour : Int32} {h_swS : Nat → Int32} {h_swW : Nat → Int32} {h_waS : Nat → Int32} {h_spoons : Int32} {h_kind : Nat → Int32} {h_mark : Nat → Int32} {h_silver : Nat → Int32} {h_fresh : Nat → Int64} {h_texts : Nat → Option Nat} {h_tape : Nat → Int32} {h_tapeCount : Int32} {h_z : Int32} {h_waiting : Nat → Int32} {h_waitingCount : Int32} {d : Nat → Int32} {L : List Nat} {tx : Nat → TXc}
variable {t_weight : Nat → Int32} {t_known : Int32} {t_hour : Int32} {t_swS : Nat → Int32} {t_swW : Nat → Int32} {t_waS : Nat → Int32} {t_spoons : Int32} {t_kind : Nat → Int32} {t_mark : Nat → Int32} {t_silver : Nat → Int32} {t_fresh : Nat → Int64} {t_texts : Nat → Option Nat}
theorem E_spreads (n : Int32) (tst : Nat → Nat → Int32) (aside names pile : Nat → Int32) (he : Re errors found) (hh : Rh h_weight h_known h_hour h_swS h_swW h_waS h_spoons h_kind h_mark h_silver h_fresh h_texts h_tape h_tapeCount h_z h_waiting h_waitingCount d L tx) : ∃ (r : Int32) (errorsR : Nat → Int32) (w : TW) (asR foundR nR pR : Nat → Int32), fX11_spreads n errors h_weight h_known h_hour h_swS h_swW h_waS h_spoons h_kind h_mark h_silver h_fresh h_texts t_weight t_known t_hour t_swS t_swW t_waS t_spoons t_kind t_mark t_silver t_fresh t_texts L tx tst = some (r, errorsR, w) ∧ fX12_spreads n d aside found names pile = some (r, d, asR, foundR, nR, pR) ∧ Re errorsR foundR := by
  obtain ⟨A, E, hW, hH, hM, hC, hT, hG, hO⟩ := hh
  by_cases c0 : nI 0 ≤ n ∧ n ≤ nI 60
  · obtain ⟨j, hj, rfl⟩ := bt_of (by decide) c0
    obtain ⟨w1, k1, o1, sS, sW, wa, sp, ki, mk, sv, fr, te, hf, hCt, hGt⟩ := c_follow (t_weight := t_weight) (t_known := t_known) (t_hour := t_hour) (t_swS := t_swS) (t_swW := t_swW) (t_waS := t_waS) (t_spoons := t_spoons) (t_kind := t_kind) (t_mark := t_mark) (t_silver := t_silver) (t_fresh := t_fresh) (t_texts := t_texts) hC hG
    obtain ⟨k', o', v', f', ts', g1, g2⟩ := c_hours (E := E) (texts := te) (L := L) (tx := tx) hW hCt hGt.gc (n := j) (by omega) (by omega) tst
    obtain ⟨as', hk1, hk2⟩ := m_keep d aside
    obtain ⟨d', n', p', g3, g4, g5⟩ := m_hours (n := j) hW hM hT.tgs (by omega) (by omega) names pile
    have hbk := m_back (d' := d') hk2 g5.2.2.2
    have hK := (Wf_runA (E := E) hW j (by omega)).2.2.1
    have e2 : d' 2 = nI (aK (runA E j A)) := g4.2.2.1
    have ek : k' = nI (aK (runA E j A)) := g2.2.1
    refine ⟨nI (pc (aK (runA E j A))), errors, (w1, k', o', sS, sW, wa, sp, ki, mk, v', f', te, ts'), as', found, n', p', ?_, ?_, he⟩
    · unfold fX11_spreads
      rw [bd_of (c_isBehind _), b2_t c0, if_neg (by decide), bd_of hf]
      dsimp only
      rw [bd_of g1]
      dsimp only
      rw [ek, bd_of (c_bc hK)]
    · unfold fX12_spreads
      rw [bd_of (m_isAhead _), b2_t c0, if_neg (by decide), bd_of hk1]
      unfold fX12_spreadsBehind
      rw [bd_of g3]
      dsimp only
      rw [o_2, ckI_s (by decide) (by decide), nI_clamp (by decide), e2, bd_of (m_ones hK), bd_of hbk]
      rfl
  · refine ⟨(-1000000001 : Int32), upd errors 1 (errors 1 + nI 1), (t_weight, t_known, t_hour, t_swS, t_swW, t_waS, t_spoons, t_kind, t_mark, t_silver, t_fresh, t_texts, tst), aside, upd found 1 (found 1 + nI 1), names, pile, ?_, ?_, Re_up he 1 (by decide)⟩
    · simp (disch := omega) only [fX11_spreads, if_neg c0, o_69, l_6, c_isWord, c_isSetOfWords, c_isUse, c_isSheet, c_isBehind, c_mayB, c_wi, m_isWord, m_areWords, m_isSheet, m_isAhead, m_isKm, m_in, l_n1, o_n1, b2if, ck_s b2_z, c_ref1, c_ref2, c_ref3, c_ref4, c_ref5, m_fin1, m_fin2, m_fin3, m_fin4, m_fin5, l_0, l_1, l_2, l_3, l_5, l_7, l_8, l_9, l_11, l_12, l_16, l_20, l_30, l_40, l_60, l_69, l_99, l_4095, if_true, if_false, nI_add, pk_mul, nI_clamp, nI_leI, nI_ltI, nI_eq, ckI_s, bd_q, bnd_q, if_pos, if_neg, o_0, o_1, o_2, o_3, o_4, o_5, o_6, o_7, o_8, o_9, o_10, o_11, o_12, o_13, o_14, o_15, o_16, o_17, o_18, o_19, o_20, o_21, o_22, o_23, o_24, o_25, o_26, o_27, o_28, o_29, o_30, o_31, o_32, o_33, o_34, o_35, o_36, o_37, o_38, o_39, o_40, o_41, o_42, o_43, o_44, o_45, o_46, o_47, o_48, o_49, o_50, o_51, o_52, o_53, o_54, o_55, o_56, o_57, o_58, o_59, o_60, o_62, o_70, o_71, o_99, o_124, o_154, o_156, o_176, o_255, o_276, o_326, o_4095, o_9999, o_10000, o_10001, o_20000, o_20033]
    · simp (disch := omega) only [fX12_spreads, if_neg c0, o_69, l_6, c_isWord, c_isSetOfWords, c_isUse, c_isSheet, c_isBehind, c_mayB, c_wi, m_isWord, m_areWords, m_isSheet, m_isAhead, m_isKm, m_in, l_n1, o_n1, b2if, ck_s b2_z, c_ref1, c_ref2, c_ref3, c_ref4, c_ref5, m_fin1, m_fin2, m_fin3, m_fin4, m_fin5, l_0, l_1, l_2, l_3, l_5, l_7, l_8, l_9, l_11, l_12, l_16, l_20, l_30, l_40, l_60, l_69, l_99, l_4095, if_true, if_false, nI_add, pk_mul, nI_clamp, nI_leI, nI_ltI, nI_eq, ckI_s, bd_q, bnd_q, if_pos, if_neg, o_0, o_1, o_2, o_3, o_4, o_5, o_6, o_7, o_8, o_9, o_10, o_11, o_12, o_13, o_14, o_15, o_16, o_17, o_18, o_19, o_20, o_21, o_22, o_23, o_24, o_25, o_26, o_27, o_28, o_29, o_30, o_31, o_32, o_33, o_34, o_35, o_36, o_37, o_38, o_39, o_40, o_41, o_42, o_43, o_44, o_45, o_46, o_47, o_48, o_49, o_50, o_51, o_52, o_53, o_54, o_55, o_56, o_57, o_58, o_59, o_60, o_62, o_70, o_71, o_99, o_124, o_154, o_156, o_176, o_255, o_276, o_326, o_4095, o_9999, o_10000, o_10001, o_20000, o_20033]
theorem E_gossip (n : Int32) (tst : Nat → Nat → Int32) (aside names pile : Nat → Int32) (he : Re errors found) (hh : Rh h_weight h_known h_hour h_swS h_swW h_waS h_spoons h_kind h_mark h_silver h_fresh h_texts h_tape h_tapeCount h_z h_waiting h_waitingCount d L tx) : ∃ (r : Int32) (errorsR : Nat → Int32) (w : TW) (asR foundR nR pR : Nat → Int32), fX11_gossip n errors h_weight h_known h_hour h_swS h_swW h_waS h_spoons h_kind h_mark h_silver h_fresh h_texts t_weight t_known t_hour t_swS t_swW t_waS t_spoons t_kind t_mark t_silver t_fresh t_texts L tx tst = some (r, errorsR, w) ∧ fX12_gossip n d aside found names pile = some (r, d, asR, foundR, nR, pR) ∧ Re errorsR foundR := by
  obtain ⟨A, E, hW, hH, hM, hC, hT, hG, hO⟩ := hh
  by_cases c0 : nI 0 ≤ n ∧ n ≤ nI 60
  · obtain ⟨j, hj, rfl⟩ := bt_of (by decide) c0
    obtain ⟨w1, k1, o1, sS, sW, wa, sp, ki, mk, sv, fr, te, hf, hCt, hGt⟩ := c_follow (t_weight := t_weight) (t_known := t_known) (t_hour := t_hour) (t_swS := t_swS) (t_swW := t_swW) (t_waS := t_waS) (t_spoons := t_spoons) (t_kind := t_kind) (t_mark := t_mark) (t_silver := t_silver) (t_fresh := t_fresh) (t_texts := t_texts) hC hG
    obtain ⟨k', o', v', f', ts', g1, g2⟩ := c_hours (E := E) (texts := te) (L := L) (tx := tx) hW hCt hGt.gc (n := j) (by omega) (by omega) tst
    obtain ⟨as', hk1, hk2⟩ := m_keep d aside
    obtain ⟨d', n', p', g3, g4, g5⟩ := m_hours (n := j) hW hM hT.tgs (by omega) (by omega) names pile
    have hbk := m_back (d' := d') hk2 g5.2.2.2
    have hK := (Wf_runA (E := E) hW j (by omega)).2.2.1
    have e2 : d' 2 = nI (aK (runA E j A)) := g4.2.2.1
    have ek : k' = nI (aK (runA E j A)) := g2.2.1
    have hwt : ∀ x, x < 12 → w1 x = nI (aW A x) := hCt.1
    have hWj : ∀ x, x < 12 → d' (6 + x) = nI (aW A x) := fun x hx => by
      have := g4.2.2.2.1 x hx
      rw [this]
      have e : aW (runA E j A) = aW A := runA_W E A j
      rw [e]
    refine ⟨nI (wgN (aK (runA E j A)) (aW A) 12), errors, (w1, k', o', sS, sW, wa, sp, ki, mk, v', f', te, ts'), as', found, n', p', ?_, ?_, he⟩
    · unfold fX11_gossip
      rw [bd_of (c_isBehind _), b2_t c0, if_neg (by decide), bd_of hf]
      dsimp only
      rw [bd_of g1]
      dsimp only
      rw [ek, bd_of (c_wgt hK hwt)]
    · unfold fX12_gossip
      rw [bd_of (m_isAhead _), b2_t c0, if_neg (by decide), bd_of hk1, bd_of g3]
      dsimp only
      unfold fX12_gossip_26
      have hl : lp (fun σ : Int32 × Int32 => fX12_gossip_26B d' as' found n' p' (σ.1) (σ.2)) FU ((0 : Int32), (0 : Int32)) = some (nI (wgN (aK (runA E j A)) (aW A) 12), nI 12) := by
        refine lpF _ (fun i => (nI (wgN (aK (runA E j A)) (aW A) i), nI i)) _ 12 (fun i hi => ?_) ?_ (FU_lt (by decide))
        · simp (disch := omega) only [fX12_gossip_26B, e2, hWj, q_shr, q_bit, if_true, if_false, nI_add, pk_mul, nI_clamp, nI_leI, nI_ltI, nI_eq, ckI_s, bd_q, bnd_q, if_pos, if_neg, o_0, o_1, o_2, o_3, o_4, o_5, o_6, o_7, o_8, o_9, o_10, o_11, o_12, o_13, o_14, o_15, o_16, o_17, o_18, o_19, o_20, o_21, o_22, o_23, o_24, o_25, o_26, o_27, o_28, o_29, o_30, o_31, o_32, o_33, o_34, o_35, o_36, o_37, o_38, o_39, o_40, o_41, o_42, o_43, o_44, o_45, o_46, o_47, o_48, o_49, o_50, o_51, o_52, o_53, o_54, o_55, o_56, o_57, o_58, o_59, o_60, o_62, o_70, o_71, o_99, o_124, o_154, o_156, o_176, o_255, o_276, o_326, o_4095, o_9999, o_10000, o_10001, o_20000, o_20033]
          rfl
        · simp (disch := omega) only [fX12_gossip_26B, if_true, if_false, nI_add, pk_mul, nI_clamp, nI_leI, nI_ltI, nI_eq, ckI_s, bd_q, bnd_q, if_pos, if_neg, o_0, o_1, o_2, o_3, o_4, o_5, o_6, o_7, o_8, o_9, o_10, o_11, o_12, o_13, o_14, o_15, o_16, o_17, o_18, o_19, o_20, o_21, o_22, o_23, o_24, o_25, o_26, o_27, o_28, o_29, o_30, o_31, o_32, o_33, o_34, o_35, o_36, o_37, o_38, o_39, o_40, o_41, o_42, o_43, o_44, o_45, o_46, o_47, o_48, o_49, o_50, o_51, o_52, o_53, o_54, o_55, o_56, o_57, o_58, o_59, o_60, o_62, o_70, o_71, o_99, o_124, o_154, o_156, o_176, o_255, o_276, o_326, o_4095, o_9999, o_10000, o_10001, o_20000, o_20033]
      refine (bd_of hl).trans ?_
      dsimp only
      rw [bd_of hbk]
  · refine ⟨(-1000000001 : Int32), upd errors 1 (errors 1 + nI 1), (t_weight, t_known, t_hour, t_swS, t_swW, t_waS, t_spoons, t_kind, t_mark, t_silver, t_fresh, t_texts, tst), aside, upd found 1 (found 1 + nI 1), names, pile, ?_, ?_, Re_up he 1 (by decide)⟩
    · simp (disch := omega) only [fX11_gossip, if_neg c0, o_69, l_6, c_isWord, c_isSetOfWords, c_isUse, c_isSheet, c_isBehind, c_mayB, c_wi, m_isWord, m_areWords, m_isSheet, m_isAhead, m_isKm, m_in, l_n1, o_n1, b2if, ck_s b2_z, c_ref1, c_ref2, c_ref3, c_ref4, c_ref5, m_fin1, m_fin2, m_fin3, m_fin4, m_fin5, l_0, l_1, l_2, l_3, l_5, l_7, l_8, l_9, l_11, l_12, l_16, l_20, l_30, l_40, l_60, l_69, l_99, l_4095, if_true, if_false, nI_add, pk_mul, nI_clamp, nI_leI, nI_ltI, nI_eq, ckI_s, bd_q, bnd_q, if_pos, if_neg, o_0, o_1, o_2, o_3, o_4, o_5, o_6, o_7, o_8, o_9, o_10, o_11, o_12, o_13, o_14, o_15, o_16, o_17, o_18, o_19, o_20, o_21, o_22, o_23, o_24, o_25, o_26, o_27, o_28, o_29, o_30, o_31, o_32, o_33, o_34, o_35, o_36, o_37, o_38, o_39, o_40, o_41, o_42, o_43, o_44, o_45, o_46, o_47, o_48, o_49, o_50, o_51, o_52, o_53, o_54, o_55, o_56, o_57, o_58, o_59, o_60, o_62, o_70, o_71, o_99, o_124, o_154, o_156, o_176, o_255, o_276, o_326, o_4095, o_9999, o_10000, o_10001, o_20000, o_20033]
    · simp (disch := omega) only [fX12_gossip, if_neg c0, o_69, l_6, c_isWord, c_isSetOfWords, c_isUse, c_isSheet, c_isBehind, c_mayB, c_wi, m_isWord, m_areWords, m_isSheet, m_isAhead, m_isKm, m_in, l_n1, o_n1, b2if, ck_s b2_z, c_ref1, c_ref2, c_ref3, c_ref4, c_ref5, m_fin1, m_fin2, m_fin3, m_fin4, m_fin5, l_0, l_1, l_2, l_3, l_5, l_7, l_8, l_9, l_11, l_12, l_16, l_20, l_30, l_40, l_60, l_69, l_99, l_4095, if_true, if_false, nI_add, pk_mul, nI_clamp, nI_leI, nI_ltI, nI_eq, ckI_s, bd_q, bnd_q, if_pos, if_neg, o_0, o_1, o_2, o_3, o_4, o_5, o_6, o_7, o_8, o_9, o_10, o_11, o_12, o_13, o_14, o_15, o_16, o_17, o_18, o_19, o_20, o_21, o_22, o_23, o_24, o_25, o_26, o_27, o_28, o_29, o_30, o_31, o_32, o_33, o_34, o_35, o_36, o_37, o_38, o_39, o_40, o_41, o_42, o_43, o_44, o_45, o_46, o_47, o_48, o_49, o_50, o_51, o_52, o_53, o_54, o_55, o_56, o_57, o_58, o_59, o_60, o_62, o_70, o_71, o_99, o_124, o_154, o_156, o_176, o_255, o_276, o_326, o_4095, o_9999, o_10000, o_10001, o_20000, o_20033]
theorem E_then (n a what : Int32) (tst : Nat → Nat → Int32) (aside names pile : Nat → Int32) (he : Re errors found) (hh : Rh h_weight h_known h_hour h_swS h_swW h_waS h_spoons h_kind h_mark h_silver h_fresh h_texts h_tape h_tapeCount h_z h_waiting h_waitingCount d L tx) : ∃ (r : Int32) (errorsR : Nat → Int32) (w : TW) (asR foundR nR pR : Nat → Int32), fX11_then n a what errors h_weight h_known h_hour h_swS h_swW h_waS h_spoons h_kind h_mark h_silver h_fresh h_texts t_weight t_known t_hour t_swS t_swW t_waS t_spoons t_kind t_mark t_silver t_fresh t_texts L tx tst = some (r, errorsR, w) ∧ fX12_then n a what d aside found names pile = some (r, d, asR, foundR, nR, pR) ∧ Re errorsR foundR := by
  obtain ⟨A, E, hW, hH, hM, hC, hT, hG, hO⟩ := hh
  have r0 := hM.1
  have qN := hC.2.2.2.2.2.2.1
  have fN := hW.1
  have bad : fX11_then_24 errors h_weight h_known h_hour h_swS h_swW h_waS h_spoons h_kind h_mark h_silver h_fresh h_texts t_weight t_known t_hour t_swS t_swW t_waS t_spoons t_kind t_mark t_silver t_fresh t_texts L tx tst = some ((-1000000001 : Int32), upd errors 1 (errors 1 + nI 1), (t_weight, t_known, t_hour, t_swS, t_swW, t_waS, t_spoons, t_kind, t_mark, t_silver, t_fresh, t_texts, tst)) := by
    unfold fX11_then_24
    rw [bd_of (c_ref1 _)]
  have bad2 : fX12_then_25 d aside found names pile = some ((-1000000001 : Int32), d, aside, upd found 1 (found 1 + nI 1), names, pile) := by
    unfold fX12_then_25
    rw [o_1, bd_of (m_fin1 _)]
  by_cases c0 : nI 0 ≤ n ∧ n ≤ nI 60
  · obtain ⟨j, hj, rfl⟩ := bt_of (by decide) c0
    by_cases c1 : nI 0 ≤ a ∧ a ≤ nI (aN A) - nI 1
    · obtain ⟨s, hs, rfl⟩ := bt_sp (by omega) c1
      by_cases c2 : nI 0 ≤ what ∧ what ≤ nI 1
      · obtain ⟨x, hx, rfl⟩ := bt_of (by decide) c2
        obtain ⟨w1, k1, o1, sS, sW, wa, sp, ki, mk, sv, fr, te, hf, hCt, hGt⟩ := c_follow (t_weight := t_weight) (t_known := t_known) (t_hour := t_hour) (t_swS := t_swS) (t_swW := t_swW) (t_waS := t_waS) (t_spoons := t_spoons) (t_kind := t_kind) (t_mark := t_mark) (t_silver := t_silver) (t_fresh := t_fresh) (t_texts := t_texts) hC hG
        obtain ⟨k', o', v', f', ts', g1, g2⟩ := c_hours (E := E) (texts := te) (L := L) (tx := tx) hW hCt hGt.gc (n := j) (by omega) (by omega) tst
        obtain ⟨as', hk1, hk2⟩ := m_keep d aside
        obtain ⟨d', n', p', g3, g4, g5⟩ := m_hours (n := j) hW hM hT.tgs (by omega) (by omega) names pile
        have hbk := m_back (d' := d') hk2 g5.2.2.2
        have hWr := Wf_runA (E := E) hW j (by omega)
        have fFr := hWr.2.2.2.2.2.2.2.2.2.2
        have hsl := g2.2.2.2.2.2.2.2.2.2.1 s (by omega)
        have hfr := g2.2.2.2.2.2.2.2.2.2.2 s (by omega)
        have mV := g4.2.2.2.2.2.2.2.2.2.1 s (by omega)
        have mF := g4.2.2.2.2.2.2.2.2.2.2 s (by omega)
        have g11 : ∀ q, (if nI x = (0 : Int32) then ckI (nI s) 8 (some ((v' (nI s).toNatClampNeg), errors, w1, k', o', sS, sW, wa, sp, ki, mk, v', f', te, ts')) else bd (fX3_wordsOn (nI s) f') fun r_33 => some (r_33, errors, w1, k', o', sS, sW, wa, sp, ki, mk, v', f', te, ts')) = q → fX11_then (nI j) (nI s) (nI x) errors h_weight h_known h_hour h_swS h_swW h_waS h_spoons h_kind h_mark h_silver h_fresh h_texts t_weight t_known t_hour t_swS t_swW t_waS t_spoons t_kind t_mark t_silver t_fresh t_texts L tx tst = q := fun q hq => by
          unfold fX11_then
          rw [bd_of (c_isBehind _), b2_t c0, if_neg (by decide), qN, bd_of (c_isSj (by omega) (by omega)), b2_t hs, if_neg (by decide), ← qN, o_0, o_1, bd_of (c_wi _ _ _), b2_t c2, if_neg (by decide), bd_of hf]
          dsimp only
          rw [bd_of g1]
          exact hq
        have g12 : ∀ q, (if nI x = (0 : Int32) then bd (fX12_of (nI s) (nI 2) d') fun r_24 => some (r_24, d, as', found, n', p') else bd (fX12_on (nI s) d') fun r_20 => some (r_20, d, as', found, n', p')) = q → fX12_then (nI j) (nI s) (nI x) d aside found names pile = q := fun q hq => by
          unfold fX12_then
          rw [bd_of (m_isAhead _), b2_t c0, if_neg (by decide), bd_of (m_isSj r0 fN (by omega)), b2_t hs, if_neg (by decide), l_0, l_1, bd_of (m_in _ _ _), b2_t c2, if_neg (by decide), bd_of hk1, bd_of g3]
          dsimp only
          rw [hbk]
          exact hq
        rcases (show x = 0 ∨ x = 1 by omega) with e | e
        · subst e
          refine ⟨nI (aV (runA E j A) s), errors, (w1, k', o', sS, sW, wa, sp, ki, mk, v', f', te, ts'), as', found, n', p', g11 _ ?_, g12 _ ?_, he⟩
          · rw [if_pos (show nI 0 = (0 : Int32) from rfl), ckI_s (by omega) (by omega), nI_clamp (by omega), hsl]
          · rw [if_pos (show nI 0 = (0 : Int32) from rfl), bd_of (m_of d' (by omega) (by decide)), mV]
        · subst e
          refine ⟨nI (onN (aF (runA E j A) s)), errors, (w1, k', o', sS, sW, wa, sp, ki, mk, v', f', te, ts'), as', found, n', p', g11 _ ?_, g12 _ ?_, he⟩
          · rw [if_neg (show ¬ nI 1 = (0 : Int32) by decide), bd_of (c_on (A := runA E j A) (by omega) (fFr s) hfr)]
          · rw [if_neg (show ¬ nI 1 = (0 : Int32) by decide), bd_of (m_on (by omega) (fFr s) mF)]
      · refine ⟨(-1000000001 : Int32), upd errors 1 (errors 1 + nI 1), (t_weight, t_known, t_hour, t_swS, t_swW, t_waS, t_spoons, t_kind, t_mark, t_silver, t_fresh, t_texts, tst), aside, upd found 1 (found 1 + nI 1), names, pile, ?_, ?_, Re_up he 1 (by decide)⟩
        · unfold fX11_then
          rw [bd_of (c_isBehind _), b2_t c0, if_neg (by decide), qN, bd_of (c_isSj (by omega) (by omega)), b2_t hs, if_neg (by decide), ← qN, o_0, o_1, bd_of (c_wi _ _ _), b2_f c2, if_pos rfl, bad]
        · unfold fX12_then
          rw [bd_of (m_isAhead _), b2_t c0, if_neg (by decide), bd_of (m_isSj r0 fN (by omega)), b2_t hs, if_neg (by decide), l_0, l_1, bd_of (m_in _ _ _), b2_f c2, if_pos (show nI 0 = (0 : Int32) from rfl), bad2]
    · refine ⟨(-1000000001 : Int32), upd errors 1 (errors 1 + nI 1), (t_weight, t_known, t_hour, t_swS, t_swW, t_waS, t_spoons, t_kind, t_mark, t_silver, t_fresh, t_texts, tst), aside, upd found 1 (found 1 + nI 1), names, pile, ?_, ?_, Re_up he 1 (by decide)⟩
      · unfold fX11_then
        rw [bd_of (c_isBehind _), b2_t c0, if_neg (by decide), qN, bd_of (c_isSp _ _), b2_f c1, if_pos (show nI 0 = (0 : Int32) from rfl), ← qN, bad]
      · unfold fX12_then
        rw [bd_of (m_isAhead _), b2_t c0, if_neg (by decide), bd_of (m_isSp _ r0), b2_f c1, if_pos (show nI 0 = (0 : Int32) from rfl), bad2]
  · refine ⟨(-1000000001 : Int32), upd errors 1 (errors 1 + nI 1), (t_weight, t_known, t_hour, t_swS, t_swW, t_waS, t_spoons, t_kind, t_mark, t_silver, t_fresh, t_texts, tst), aside, upd found 1 (found 1 + nI 1), names, pile, ?_, ?_, Re_up he 1 (by decide)⟩
    · unfold fX11_then
      rw [bd_of (c_isBehind _), b2_f c0, if_pos (show nI 0 = (0 : Int32) from rfl), bad]
    · unfold fX12_then
      rw [bd_of (m_isAhead _), b2_f c0, if_pos (show nI 0 = (0 : Int32) from rfl), bad2]
theorem E_when (a : Int32) (tst : Nat → Nat → Int32) (aside names pile : Nat → Int32) (he : Re errors found) (hh : Rh h_weight h_known h_hour h_swS h_swW h_waS h_spoons h_kind h_mark h_silver h_fresh h_texts h_tape h_tapeCount h_z h_waiting h_waitingCount d L tx) : ∃ (r : Int32) (errorsR : Nat → Int32) (w : TW) (asR foundR nR pR : Nat → Int32), fX11_when a errors h_weight h_known h_hour h_swS h_swW h_waS h_spoons h_kind h_mark h_silver h_fresh h_texts t_weight t_known t_hour t_swS t_swW t_waS t_spoons t_kind t_mark t_silver t_fresh t_texts L tx tst = some (r, errorsR, w) ∧ fX12_when a d aside found names pile = some (r, d, asR, foundR, nR, pR) ∧ Re errorsR foundR := by
  obtain ⟨A, E, hW, hH, hM, hC, hT, hG, hO⟩ := hh
  by_cases c0 : nI 0 ≤ a ∧ a ≤ nI 11
  · obtain ⟨x, hx, rfl⟩ := bt_of (by decide) c0
    obtain ⟨w1, k1, o1, sS, sW, wa, sp, ki, mk, sv, fr, te, hf, hCt, hGt⟩ := c_follow (t_weight := t_weight) (t_known := t_known) (t_hour := t_hour) (t_swS := t_swS) (t_swW := t_swW) (t_waS := t_waS) (t_spoons := t_spoons) (t_kind := t_kind) (t_mark := t_mark) (t_silver := t_silver) (t_fresh := t_fresh) (t_texts := t_texts) hC hG
    obtain ⟨as', hk1, hk2⟩ := m_keep d aside
    have hWf : ∀ i, i ≤ 61 → Wf (runA E i A) := fun i hi => Wf_runA hW i (by omega)
    have cst : ∀ i k1 o1 v1 f1 ts1, i ≤ 60 → RC (runA E i A) w1 k1 o1 sS sW wa sp ki mk v1 f1 → ¬ (aK (runA E i A) / 2 ^ x % 2 = 1) → ∃ k2 o2 v2 f2 ts2, fX11_when_27B (nI x) errors h_weight h_known h_hour h_swS h_swW h_waS h_spoons h_kind h_mark h_silver h_fresh h_texts w1 sS sW wa sp ki mk te L tx (nI i) k1 o1 v1 f1 ts1 = some (.inl (nI (i + 1), k2, o2, v2, f2, ts2)) ∧ RC (runA E (i + 1) A) w1 k2 o2 sS sW wa sp ki mk v2 f2 := fun i k1 o1 v1 f1 ts1 hi hR hp => by
      obtain ⟨k2, o2, v2, f2, ts2, g1, g2⟩ := c_hours (E := E) (texts := te) (L := L) (tx := tx) (hWf i (by omega)) hR hGt.gc (n := 1) (by decide) (by rw [runA_H]; omega) ts1
      refine ⟨k2, o2, v2, f2, ts2, ?_, g2⟩
      unfold fX11_when_27B
      rw [o_60, if_neg (by rw [nI_ltI (by decide) (by omega)]; omega), hR.2.1, bd_of (kn_c (hWf i (by omega)).2.2.1 (by omega)), b2_f hp, if_pos (show nI 0 = (0 : Int32) from rfl), ← hR.2.1, o_1, bd_of g1]
      dsimp only
      rw [bnd_q, nI_add]
    have cen : ∀ i k1 o1 v1 f1 ts1, i ≤ 60 → RC (runA E i A) w1 k1 o1 sS sW wa sp ki mk v1 f1 → (aK (runA E i A) / 2 ^ x % 2 = 1) → fX11_when_27B (nI x) errors h_weight h_known h_hour h_swS h_swW h_waS h_spoons h_kind h_mark h_silver h_fresh h_texts w1 sS sW wa sp ki mk te L tx (nI i) k1 o1 v1 f1 ts1 = some (.inr (.inr (nI i, errors, w1, k1, o1, sS, sW, wa, sp, ki, mk, v1, f1, te, ts1))) := fun i k1 o1 v1 f1 ts1 hi hR hp => by
      unfold fX11_when_27B
      rw [o_60, if_neg (by rw [nI_ltI (by decide) (by omega)]; omega), hR.2.1, bd_of (kn_c (hWf i (by omega)).2.2.1 (by omega)), b2_t hp, if_neg (by decide)]
    have mst : ∀ i d1 n1 p1, i < 60 → RM d1 (runA E i A) → Sm d d1 → ¬ (aK (runA E i A) / 2 ^ x % 2 = 1) → ∃ d2 n2 p2, fX12_when_19B (nI x) as' found (nI i) d1 n1 p1 = some (.inl (nI (i + 1), d2, n2, p2)) ∧ RM d2 (runA E (i + 1) A) ∧ Sm d d2 := fun i d1 n1 p1 hi hR hS hp => by
      obtain ⟨d2, n2, p2, g1, g2, g3⟩ := m_hour (hWf i (by omega)) hR (hT.sm hS).tgs (by rw [runA_H]; omega) n1 p1
      refine ⟨d2, n2, p2, ?_, g2, hS.tr g3⟩
      unfold fX12_when_19B
      have hb : aK (runA E i A) / 2 ^ x % 2 = 0 := by
        have := bit2 (aK (runA E i A)) x
        omega
      have hK := (hWf i (by omega)).2.2.1
      rw [o_60, if_neg (by rw [nI_leI (by decide) (by omega)]; omega), o_2, ckI_s (by decide) (by decide), nI_clamp (by decide), hR.2.2.1, show (31 : Int32) = nI 31 from rfl, o_1, q_shr (by omega) (by omega), q_bit, hb, if_pos (show nI 0 = (0 : Int32) from rfl), bd_of g1]
      dsimp only
      rw [bnd_q, nI_add]
    have men : ∀ i d1 n1 p1, i ≤ 60 → RM d1 (runA E i A) → (i = 60 ∨ (aK (runA E i A) / 2 ^ x % 2 = 1)) → fX12_when_19B (nI x) as' found (nI i) d1 n1 p1 = some (.inr (nI i, d1, n1, p1)) := fun i d1 n1 p1 hi hR hp => by
      unfold fX12_when_19B
      by_cases h6 : i = 60
      · subst h6
        rw [o_60, if_pos ((nI_leI (by decide) (by decide)).mpr (Nat.le_refl _))]
      · rcases hp with hp | hp
        · exact absurd hp h6
        · have hK := (hWf i (by omega)).2.2.1
          rw [o_60, if_neg (by rw [nI_leI (by decide) (by omega)]; omega), o_2, ckI_s (by decide) (by decide), nI_clamp (by decide), hR.2.2.1, show (31 : Int32) = nI 31 from rfl, o_1, q_shr (by omega) (by omega), q_bit, hp, if_neg (show ¬ nI 1 = (0 : Int32) by decide)]
    have g11 : fX11_when (nI x) errors h_weight h_known h_hour h_swS h_swW h_waS h_spoons h_kind h_mark h_silver h_fresh h_texts t_weight t_known t_hour t_swS t_swW t_waS t_spoons t_kind t_mark t_silver t_fresh t_texts L tx tst = fX11_when_27 (nI x) (0 : Int32) errors h_weight h_known h_hour h_swS h_swW h_waS h_spoons h_kind h_mark h_silver h_fresh h_texts w1 k1 o1 sS sW wa sp ki mk sv fr te L tx tst := by
      unfold fX11_when
      rw [bd_of (c_isWord _), b2_t c0, if_neg (by decide), bd_of hf]
    have g12 : fX12_when (nI x) d aside found names pile = fX12_when_19 (nI x) (0 : Int32) d as' found names pile := by
      unfold fX12_when
      rw [bd_of (m_isWord _), b2_t c0, if_neg (by decide), bd_of hk1]
    rcases first_le (fun i => aK (runA E i A) / 2 ^ x % 2 = 1) 60 with ⟨i, hi, hp, hno⟩ | hno
    · -- found
      obtain ⟨r, l1, k9, o9, v9, f9, ts9, e9⟩ := lpE (fun σ : Int32 × Int32 × Int32 × (Nat → Int32) × (Nat → Int64) × (Nat → Nat → Int32) => fX11_when_27B (nI x) errors h_weight h_known h_hour h_swS h_swW h_waS h_spoons h_kind h_mark h_silver h_fresh h_texts w1 sS sW wa sp ki mk te L tx (σ.1) (σ.2.1) (σ.2.2.1) (σ.2.2.2.1) (σ.2.2.2.2.1) (σ.2.2.2.2.2)) (fun j s => j ≤ i ∧ ∃ k1 o1 v1 f1 ts1, s = (nI j, k1, o1, v1, f1, ts1) ∧ RC (runA E j A) w1 k1 o1 sS sW wa sp ki mk v1 f1) (fun r => ∃ k9 o9 v9 f9 ts9, r = .inr (nI i, errors, w1, k9, o9, sS, sW, wa, sp, ki, mk, v9, f9, te, ts9)) i
        (fun j s hj hI => by
          obtain ⟨-, k1, o1, v1, f1, ts1, rfl, hR⟩ := hI
          obtain ⟨k2, o2, v2, f2, ts2, g1, g2⟩ := cst j k1 o1 v1 f1 ts1 (by omega) hR (hno j hj)
          exact Or.inl ⟨_, g1, by omega, k2, o2, v2, f2, ts2, rfl, g2⟩)
        (fun s hI => by
          obtain ⟨-, k1, o1, v1, f1, ts1, rfl, hR⟩ := hI
          exact ⟨_, cen i k1 o1 v1 f1 ts1 hi hR hp, k1, o1, v1, f1, ts1, rfl⟩)
        (FU_lt (by omega)) (nI 0, k1, o1, sv, fr, tst) ⟨by omega, k1, o1, sv, fr, tst, rfl, hCt⟩
      subst e9
      obtain ⟨q, l2, d9, n9, p9, e8, hR9, hS9⟩ := lpE (fun σ : Int32 × (Nat → Int32) × (Nat → Int32) × (Nat → Int32) => fX12_when_19B (nI x) as' found (σ.1) (σ.2.1) (σ.2.2.1) (σ.2.2.2)) (fun j s => j ≤ i ∧ ∃ d1 n1 p1, s = (nI j, d1, n1, p1) ∧ RM d1 (runA E j A) ∧ Sm d d1) (fun q => ∃ d1 n1 p1, q = (nI i, d1, n1, p1) ∧ RM d1 (runA E i A) ∧ Sm d d1) i
        (fun j s hj hI => by
          obtain ⟨-, d1, n1, p1, rfl, hR, hS⟩ := hI
          obtain ⟨d2, n2, p2, g1, g2, g3⟩ := mst j d1 n1 p1 (by omega) hR hS (hno j hj)
          exact Or.inl ⟨_, g1, by omega, d2, n2, p2, rfl, g2, g3⟩)
        (fun s hI => by
          obtain ⟨-, d1, n1, p1, rfl, hR, hS⟩ := hI
          exact ⟨_, men i d1 n1 p1 hi hR (Or.inr hp), d1, n1, p1, rfl, hR, hS⟩)
        (FU_lt (by omega)) (nI 0, d, names, pile) ⟨by omega, d, names, pile, rfl, hM, Sm.rf⟩
      subst e8
      have hbk := m_back (d' := d9) hk2 hS9.2.2.2
      refine ⟨nI i, errors, (w1, k9, o9, sS, sW, wa, sp, ki, mk, v9, f9, te, ts9), as', found, n9, p9, g11.trans ?_, g12.trans ?_, he⟩
      · unfold fX11_when_27
        exact (bd_of l1).trans rfl
      · unfold fX12_when_19
        refine (bd_of l2).trans ?_
        dsimp only
        unfold fX12_when_48 fX12_when_67
        have hK := (hWf i (by omega)).2.2.1
        rw [o_2, ckI_s (by decide) (by decide), nI_clamp (by decide), hR9.2.2.1, show (31 : Int32) = nI 31 from rfl, o_1, q_shr (by omega) (by omega), q_bit, hp, if_pos (show nI 1 = nI 1 from rfl), bd_of hbk, if_neg (by decide)]
    · -- not by 60
      obtain ⟨r, l1, k9, o9, v9, f9, ts9, e9⟩ := lpE (fun σ : Int32 × Int32 × Int32 × (Nat → Int32) × (Nat → Int64) × (Nat → Nat → Int32) => fX11_when_27B (nI x) errors h_weight h_known h_hour h_swS h_swW h_waS h_spoons h_kind h_mark h_silver h_fresh h_texts w1 sS sW wa sp ki mk te L tx (σ.1) (σ.2.1) (σ.2.2.1) (σ.2.2.2.1) (σ.2.2.2.2.1) (σ.2.2.2.2.2)) (fun j s => ∃ k1 o1 v1 f1 ts1, s = (nI j, k1, o1, v1, f1, ts1) ∧ RC (runA E j A) w1 k1 o1 sS sW wa sp ki mk v1 f1) (fun r => ∃ k9 o9 v9 f9 ts9, r = .inl (nI 61, k9, o9, v9, f9, ts9)) 61
        (fun j s hj hI => by
          obtain ⟨k1, o1, v1, f1, ts1, rfl, hR⟩ := hI
          obtain ⟨k2, o2, v2, f2, ts2, g1, g2⟩ := cst j k1 o1 v1 f1 ts1 (by omega) hR (hno j (by omega))
          exact Or.inl ⟨_, g1, k2, o2, v2, f2, ts2, rfl, g2⟩)
        (fun s hI => by
          obtain ⟨k1, o1, v1, f1, ts1, rfl, hR⟩ := hI
          refine ⟨_, ?_, k1, o1, v1, f1, ts1, rfl⟩
          show fX11_when_27B (nI x) errors h_weight h_known h_hour h_swS h_swW h_waS h_spoons h_kind h_mark h_silver h_fresh h_texts w1 sS sW wa sp ki mk te L tx (nI 61) k1 o1 v1 f1 ts1 = _
          unfold fX11_when_27B
          rw [o_60, if_pos ((nI_ltI (by decide) (by decide)).mpr (by decide))])
        (FU_lt (by decide)) (nI 0, k1, o1, sv, fr, tst) ⟨k1, o1, sv, fr, tst, rfl, hCt⟩
      subst e9
      obtain ⟨q, l2, d9, n9, p9, e8, hR9, hS9⟩ := lpE (fun σ : Int32 × (Nat → Int32) × (Nat → Int32) × (Nat → Int32) => fX12_when_19B (nI x) as' found (σ.1) (σ.2.1) (σ.2.2.1) (σ.2.2.2)) (fun j s => j ≤ 60 ∧ ∃ d1 n1 p1, s = (nI j, d1, n1, p1) ∧ RM d1 (runA E j A) ∧ Sm d d1) (fun q => ∃ d1 n1 p1, q = (nI 60, d1, n1, p1) ∧ RM d1 (runA E 60 A) ∧ Sm d d1) 60
        (fun j s hj hI => by
          obtain ⟨-, d1, n1, p1, rfl, hR, hS⟩ := hI
          obtain ⟨d2, n2, p2, g1, g2, g3⟩ := mst j d1 n1 p1 (by omega) hR hS (hno j (by omega))
          exact Or.inl ⟨_, g1, by omega, d2, n2, p2, rfl, g2, g3⟩)
        (fun s hI => by
          obtain ⟨-, d1, n1, p1, rfl, hR, hS⟩ := hI
          exact ⟨_, men 60 d1 n1 p1 (by decide) hR (Or.inl rfl), d1, n1, p1, rfl, hR, hS⟩)
        (FU_lt (by decide)) (nI 0, d, names, pile) ⟨by omega, d, names, pile, rfl, hM, Sm.rf⟩
      subst e8
      have hbk := m_back (d' := d9) hk2 hS9.2.2.2
      have hp := hno 60 (Nat.le_refl _)
      refine ⟨(-1000000002 : Int32), upd errors 2 (errors 2 + nI 1), (w1, k9, o9, sS, sW, wa, sp, ki, mk, v9, f9, te, ts9), as', upd found 2 (found 2 + nI 1), n9, p9, g11.trans ?_, g12.trans ?_, Re_up he 2 (by decide)⟩
      · unfold fX11_when_27
        refine (bd_of l1).trans ?_
        dsimp only
        rw [bd_of (c_ref2 _)]
      · unfold fX12_when_19
        refine (bd_of l2).trans ?_
        dsimp only
        unfold fX12_when_48 fX12_when_67
        have hK := (hWf 60 (by omega)).2.2.1
        have hb : aK (runA E 60 A) / 2 ^ x % 2 = 0 := by
          have := bit2 (aK (runA E 60 A)) x
          omega
        rw [o_2, ckI_s (by decide) (by decide), nI_clamp (by decide), hR9.2.2.1, show (31 : Int32) = nI 31 from rfl, o_1, q_shr (by omega) (by omega), q_bit, hb, if_neg (show ¬ nI 0 = nI 1 by decide), bd_of hbk, if_pos rfl, bd_of (m_fin2 _)]
  · refine ⟨(-1000000001 : Int32), upd errors 1 (errors 1 + nI 1), (t_weight, t_known, t_hour, t_swS, t_swW, t_waS, t_spoons, t_kind, t_mark, t_silver, t_fresh, t_texts, tst), aside, upd found 1 (found 1 + nI 1), names, pile, ?_, ?_, Re_up he 1 (by decide)⟩
    · simp (disch := omega) only [fX11_when, if_neg c0, o_69, l_6, c_isWord, c_isSetOfWords, c_isUse, c_isSheet, c_isBehind, c_mayB, c_wi, m_isWord, m_areWords, m_isSheet, m_isAhead, m_isKm, m_in, l_n1, o_n1, b2if, ck_s b2_z, c_ref1, c_ref2, c_ref3, c_ref4, c_ref5, m_fin1, m_fin2, m_fin3, m_fin4, m_fin5, l_0, l_1, l_2, l_3, l_5, l_7, l_8, l_9, l_11, l_12, l_16, l_20, l_30, l_40, l_60, l_69, l_99, l_4095, if_true, if_false, nI_add, pk_mul, nI_clamp, nI_leI, nI_ltI, nI_eq, ckI_s, bd_q, bnd_q, if_pos, if_neg, o_0, o_1, o_2, o_3, o_4, o_5, o_6, o_7, o_8, o_9, o_10, o_11, o_12, o_13, o_14, o_15, o_16, o_17, o_18, o_19, o_20, o_21, o_22, o_23, o_24, o_25, o_26, o_27, o_28, o_29, o_30, o_31, o_32, o_33, o_34, o_35, o_36, o_37, o_38, o_39, o_40, o_41, o_42, o_43, o_44, o_45, o_46, o_47, o_48, o_49, o_50, o_51, o_52, o_53, o_54, o_55, o_56, o_57, o_58, o_59, o_60, o_62, o_70, o_71, o_99, o_124, o_154, o_156, o_176, o_255, o_276, o_326, o_4095, o_9999, o_10000, o_10001, o_20000, o_20033]
    · simp (disch := omega) only [fX12_when, if_neg c0, o_69, l_6, c_isWord, c_isSetOfWords, c_isUse, c_isSheet, c_isBehind, c_mayB, c_wi, m_isWord, m_areWords, m_isSheet, m_isAhead, m_isKm, m_in, l_n1, o_n1, b2if, ck_s b2_z, c_ref1, c_ref2, c_ref3, c_ref4, c_ref5, m_fin1, m_fin2, m_fin3, m_fin4, m_fin5, l_0, l_1, l_2, l_3, l_5, l_7, l_8, l_9, l_11, l_12, l_16, l_20, l_30, l_40, l_60, l_69, l_99, l_4095, if_true, if_false, nI_add, pk_mul, nI_clamp, nI_leI, nI_ltI, nI_eq, ckI_s, bd_q, bnd_q, if_pos, if_neg, o_0, o_1, o_2, o_3, o_4, o_5, o_6, o_7, o_8, o_9, o_10, o_11, o_12, o_13, o_14, o_15, o_16, o_17, o_18, o_19, o_20, o_21, o_22, o_23, o_24, o_25, o_26, o_27, o_28, o_29, o_30, o_31, o_32, o_33, o_34, o_35, o_36, o_37, o_38, o_39, o_40, o_41, o_42, o_43, o_44, o_45, o_46, o_47, o_48, o_49, o_50, o_51, o_52, o_53, o_54, o_55, o_56, o_57, o_58, o_59, o_60, o_62, o_70, o_71, o_99, o_124, o_154, o_156, o_176, o_255, o_276, o_326, o_4095, o_9999, o_10000, o_10001, o_20000, o_20033]
theorem E_lasts (a : Int32) (tst : Nat → Nat → Int32) (aside names pile : Nat → Int32) (he : Re errors found) (hh : Rh h_weight h_known h_hour h_swS h_swW h_waS h_spoons h_kind h_mark h_silver h_fresh h_texts h_tape h_tapeCount h_z h_waiting h_waitingCount d L tx) : ∃ (r : Int32) (errorsR : Nat → Int32) (w : TW) (asR foundR nR pR : Nat → Int32), fX11_lasts a errors h_weight h_known h_hour h_swS h_swW h_waS h_spoons h_kind h_mark h_silver h_fresh h_texts t_weight t_known t_hour t_swS t_swW t_waS t_spoons t_kind t_mark t_silver t_fresh t_texts L tx tst = some (r, errorsR, w) ∧ fX12_lasts a d aside found names pile = some (r, d, asR, foundR, nR, pR) ∧ Re errorsR foundR := by
  obtain ⟨A, E, hW, hH, hM, hC, hT, hG, hO⟩ := hh
  have r0 := hM.1
  have qN := hC.2.2.2.2.2.2.1
  have fN := hW.1
  by_cases c0 : nI 0 ≤ a ∧ a ≤ nI (aN A) - nI 1
  · obtain ⟨x, hx, rfl⟩ := bt_sp (by omega) c0
    obtain ⟨w1, k1, o1, sS, sW, wa, sp, ki, mk, sv, fr, te, hf, hCt, hGt⟩ := c_follow (t_weight := t_weight) (t_known := t_known) (t_hour := t_hour) (t_swS := t_swS) (t_swW := t_swW) (t_waS := t_waS) (t_spoons := t_spoons) (t_kind := t_kind) (t_mark := t_mark) (t_silver := t_silver) (t_fresh := t_fresh) (t_texts := t_texts) hC hG
    obtain ⟨as', hk1, hk2⟩ := m_keep d aside
    have hWf : ∀ i, i ≤ 61 → Wf (runA E i A) := fun i hi => Wf_runA hW i (by omega)
    have cst : ∀ i k1 o1 v1 f1 ts1, i ≤ 60 → RC (runA E i A) w1 k1 o1 sS sW wa sp ki mk v1 f1 → ¬ (aV (runA E i A) x = 0) → ∃ k2 o2 v2 f2 ts2, fX11_lasts_28B (nI x) errors h_weight h_known h_hour h_swS h_swW h_waS h_spoons h_kind h_mark h_silver h_fresh h_texts w1 sS sW wa sp ki mk te L tx (nI i) k1 o1 v1 f1 ts1 = some (.inl (nI (i + 1), k2, o2, v2, f2, ts2)) ∧ RC (runA E (i + 1) A) w1 k2 o2 sS sW wa sp ki mk v2 f2 := fun i k1 o1 v1 f1 ts1 hi hR hp => by
      obtain ⟨k2, o2, v2, f2, ts2, g1, g2⟩ := c_hours (E := E) (texts := te) (L := L) (tx := tx) (hWf i (by omega)) hR hGt.gc (n := 1) (by decide) (by rw [runA_H]; omega) ts1
      refine ⟨k2, o2, v2, f2, ts2, ?_, g2⟩
      unfold fX11_lasts_28B
      rw [o_60, if_neg (by rw [nI_ltI (by decide) (by omega)]; omega), ckI_s (by omega) (by omega), nI_clamp (by omega), if_neg (fun e => hp (by rw [hR.2.2.2.2.2.2.2.2.2.1 x (by omega), o_0] at e; exact (nI_eq (by have := (hWf i (by omega)).2.2.2.2.2.2.2.2.2.1 x; omega) (by decide)).mp e)), o_1, bd_of g1]
      dsimp only
      rw [bnd_q, nI_add]
    have cen : ∀ i k1 o1 v1 f1 ts1, i ≤ 60 → RC (runA E i A) w1 k1 o1 sS sW wa sp ki mk v1 f1 → (aV (runA E i A) x = 0) → fX11_lasts_28B (nI x) errors h_weight h_known h_hour h_swS h_swW h_waS h_spoons h_kind h_mark h_silver h_fresh h_texts w1 sS sW wa sp ki mk te L tx (nI i) k1 o1 v1 f1 ts1 = some (.inr (.inr (nI i, errors, w1, k1, o1, sS, sW, wa, sp, ki, mk, v1, f1, te, ts1))) := fun i k1 o1 v1 f1 ts1 hi hR hp => by
      unfold fX11_lasts_28B
      rw [o_60, if_neg (by rw [nI_ltI (by decide) (by omega)]; omega), ckI_s (by omega) (by omega), nI_clamp (by omega), if_pos (by rw [hR.2.2.2.2.2.2.2.2.2.1 x (by omega), hp]; rfl)]
    have mst : ∀ i d1 n1 p1, i < 60 → RM d1 (runA E i A) → Sm d d1 → ¬ (aV (runA E i A) x = 0) → ∃ d2 n2 p2, fX12_lasts_20B (nI x) as' found (nI i) d1 n1 p1 = some (.inl (nI (i + 1), d2, n2, p2)) ∧ RM d2 (runA E (i + 1) A) ∧ Sm d d2 := fun i d1 n1 p1 hi hR hS hp => by
      obtain ⟨d2, n2, p2, g1, g2, g3⟩ := m_hour (hWf i (by omega)) hR (hT.sm hS).tgs (by rw [runA_H]; omega) n1 p1
      refine ⟨d2, n2, p2, ?_, g2, hS.tr g3⟩
      unfold fX12_lasts_20B
      rw [o_60, if_neg (by rw [nI_leI (by decide) (by omega)]; omega), bd_of (m_thr (by omega) ((hWf i (by omega)).2.2.2.2.2.2.2.2.2.1 x) (hR.2.2.2.2.2.2.2.2.2.1 x (by omega))), b2_f hp, if_pos (show nI 0 = (0 : Int32) from rfl), bd_of g1]
      dsimp only
      rw [bnd_q, o_1, nI_add]
    have men : ∀ i d1 n1 p1, i ≤ 60 → RM d1 (runA E i A) → (i = 60 ∨ (aV (runA E i A) x = 0)) → fX12_lasts_20B (nI x) as' found (nI i) d1 n1 p1 = some (.inr (nI i, d1, n1, p1)) := fun i d1 n1 p1 hi hR hp => by
      unfold fX12_lasts_20B
      by_cases h6 : i = 60
      · subst h6
        rw [o_60, if_pos ((nI_leI (by decide) (by decide)).mpr (Nat.le_refl _))]
      · rcases hp with hp | hp
        · exact absurd hp h6
        · rw [o_60, if_neg (by rw [nI_leI (by decide) (by omega)]; omega), bd_of (m_thr (by omega) ((hWf i (by omega)).2.2.2.2.2.2.2.2.2.1 x) (hR.2.2.2.2.2.2.2.2.2.1 x (by omega))), b2_t hp, if_neg (show ¬ nI 1 = (0 : Int32) by decide)]
    have g11 : fX11_lasts (nI x) errors h_weight h_known h_hour h_swS h_swW h_waS h_spoons h_kind h_mark h_silver h_fresh h_texts t_weight t_known t_hour t_swS t_swW t_waS t_spoons t_kind t_mark t_silver t_fresh t_texts L tx tst = fX11_lasts_28 (nI x) (0 : Int32) errors h_weight h_known h_hour h_swS h_swW h_waS h_spoons h_kind h_mark h_silver h_fresh h_texts w1 k1 o1 sS sW wa sp ki mk sv fr te L tx tst := by
      unfold fX11_lasts
      rw [qN, bd_of (c_isSj (by omega) (by omega)), b2_t hx, if_neg (by decide), ← qN, bd_of hf]
    have g12 : fX12_lasts (nI x) d aside found names pile = fX12_lasts_20 (nI x) (0 : Int32) d as' found names pile := by
      unfold fX12_lasts
      rw [bd_of (m_isSj r0 fN (by omega)), b2_t hx, if_neg (by decide), bd_of hk1]
    rcases first_le (fun i => aV (runA E i A) x = 0) 60 with ⟨i, hi, hp, hno⟩ | hno
    · -- found
      obtain ⟨r, l1, k9, o9, v9, f9, ts9, e9⟩ := lpE (fun σ : Int32 × Int32 × Int32 × (Nat → Int32) × (Nat → Int64) × (Nat → Nat → Int32) => fX11_lasts_28B (nI x) errors h_weight h_known h_hour h_swS h_swW h_waS h_spoons h_kind h_mark h_silver h_fresh h_texts w1 sS sW wa sp ki mk te L tx (σ.1) (σ.2.1) (σ.2.2.1) (σ.2.2.2.1) (σ.2.2.2.2.1) (σ.2.2.2.2.2)) (fun j s => j ≤ i ∧ ∃ k1 o1 v1 f1 ts1, s = (nI j, k1, o1, v1, f1, ts1) ∧ RC (runA E j A) w1 k1 o1 sS sW wa sp ki mk v1 f1) (fun r => ∃ k9 o9 v9 f9 ts9, r = .inr (nI i, errors, w1, k9, o9, sS, sW, wa, sp, ki, mk, v9, f9, te, ts9)) i
        (fun j s hj hI => by
          obtain ⟨-, k1, o1, v1, f1, ts1, rfl, hR⟩ := hI
          obtain ⟨k2, o2, v2, f2, ts2, g1, g2⟩ := cst j k1 o1 v1 f1 ts1 (by omega) hR (hno j hj)
          exact Or.inl ⟨_, g1, by omega, k2, o2, v2, f2, ts2, rfl, g2⟩)
        (fun s hI => by
          obtain ⟨-, k1, o1, v1, f1, ts1, rfl, hR⟩ := hI
          exact ⟨_, cen i k1 o1 v1 f1 ts1 hi hR hp, k1, o1, v1, f1, ts1, rfl⟩)
        (FU_lt (by omega)) (nI 0, k1, o1, sv, fr, tst) ⟨by omega, k1, o1, sv, fr, tst, rfl, hCt⟩
      subst e9
      obtain ⟨q, l2, d9, n9, p9, e8, hR9, hS9⟩ := lpE (fun σ : Int32 × (Nat → Int32) × (Nat → Int32) × (Nat → Int32) => fX12_lasts_20B (nI x) as' found (σ.1) (σ.2.1) (σ.2.2.1) (σ.2.2.2)) (fun j s => j ≤ i ∧ ∃ d1 n1 p1, s = (nI j, d1, n1, p1) ∧ RM d1 (runA E j A) ∧ Sm d d1) (fun q => ∃ d1 n1 p1, q = (nI i, d1, n1, p1) ∧ RM d1 (runA E i A) ∧ Sm d d1) i
        (fun j s hj hI => by
          obtain ⟨-, d1, n1, p1, rfl, hR, hS⟩ := hI
          obtain ⟨d2, n2, p2, g1, g2, g3⟩ := mst j d1 n1 p1 (by omega) hR hS (hno j hj)
          exact Or.inl ⟨_, g1, by omega, d2, n2, p2, rfl, g2, g3⟩)
        (fun s hI => by
          obtain ⟨-, d1, n1, p1, rfl, hR, hS⟩ := hI
          exact ⟨_, men i d1 n1 p1 hi hR (Or.inr hp), d1, n1, p1, rfl, hR, hS⟩)
        (FU_lt (by omega)) (nI 0, d, names, pile) ⟨by omega, d, names, pile, rfl, hM, Sm.rf⟩
      subst e8
      have hbk := m_back (d' := d9) hk2 hS9.2.2.2
      refine ⟨nI i, errors, (w1, k9, o9, sS, sW, wa, sp, ki, mk, v9, f9, te, ts9), as', found, n9, p9, g11.trans ?_, g12.trans ?_, he⟩
      · unfold fX11_lasts_28
        exact (bd_of l1).trans rfl
      · unfold fX12_lasts_20
        refine (bd_of l2).trans ?_
        dsimp only
        unfold fX12_lasts_44
        rw [bd_of (m_thr (by omega) ((hWf i (by omega)).2.2.2.2.2.2.2.2.2.1 x) (hR9.2.2.2.2.2.2.2.2.2.1 x (by omega))), bd_of hbk, b2_t hp, if_neg (by decide)]
    · -- not by 60
      obtain ⟨r, l1, k9, o9, v9, f9, ts9, e9⟩ := lpE (fun σ : Int32 × Int32 × Int32 × (Nat → Int32) × (Nat → Int64) × (Nat → Nat → Int32) => fX11_lasts_28B (nI x) errors h_weight h_known h_hour h_swS h_swW h_waS h_spoons h_kind h_mark h_silver h_fresh h_texts w1 sS sW wa sp ki mk te L tx (σ.1) (σ.2.1) (σ.2.2.1) (σ.2.2.2.1) (σ.2.2.2.2.1) (σ.2.2.2.2.2)) (fun j s => ∃ k1 o1 v1 f1 ts1, s = (nI j, k1, o1, v1, f1, ts1) ∧ RC (runA E j A) w1 k1 o1 sS sW wa sp ki mk v1 f1) (fun r => ∃ k9 o9 v9 f9 ts9, r = .inl (nI 61, k9, o9, v9, f9, ts9)) 61
        (fun j s hj hI => by
          obtain ⟨k1, o1, v1, f1, ts1, rfl, hR⟩ := hI
          obtain ⟨k2, o2, v2, f2, ts2, g1, g2⟩ := cst j k1 o1 v1 f1 ts1 (by omega) hR (hno j (by omega))
          exact Or.inl ⟨_, g1, k2, o2, v2, f2, ts2, rfl, g2⟩)
        (fun s hI => by
          obtain ⟨k1, o1, v1, f1, ts1, rfl, hR⟩ := hI
          refine ⟨_, ?_, k1, o1, v1, f1, ts1, rfl⟩
          show fX11_lasts_28B (nI x) errors h_weight h_known h_hour h_swS h_swW h_waS h_spoons h_kind h_mark h_silver h_fresh h_texts w1 sS sW wa sp ki mk te L tx (nI 61) k1 o1 v1 f1 ts1 = _
          unfold fX11_lasts_28B
          rw [o_60, if_pos ((nI_ltI (by decide) (by decide)).mpr (by decide))])
        (FU_lt (by decide)) (nI 0, k1, o1, sv, fr, tst) ⟨k1, o1, sv, fr, tst, rfl, hCt⟩
      subst e9
      obtain ⟨q, l2, d9, n9, p9, e8, hR9, hS9⟩ := lpE (fun σ : Int32 × (Nat → Int32) × (Nat → Int32) × (Nat → Int32) => fX12_lasts_20B (nI x) as' found (σ.1) (σ.2.1) (σ.2.2.1) (σ.2.2.2)) (fun j s => j ≤ 60 ∧ ∃ d1 n1 p1, s = (nI j, d1, n1, p1) ∧ RM d1 (runA E j A) ∧ Sm d d1) (fun q => ∃ d1 n1 p1, q = (nI 60, d1, n1, p1) ∧ RM d1 (runA E 60 A) ∧ Sm d d1) 60
        (fun j s hj hI => by
          obtain ⟨-, d1, n1, p1, rfl, hR, hS⟩ := hI
          obtain ⟨d2, n2, p2, g1, g2, g3⟩ := mst j d1 n1 p1 (by omega) hR hS (hno j (by omega))
          exact Or.inl ⟨_, g1, by omega, d2, n2, p2, rfl, g2, g3⟩)
        (fun s hI => by
          obtain ⟨-, d1, n1, p1, rfl, hR, hS⟩ := hI
          exact ⟨_, men 60 d1 n1 p1 (by decide) hR (Or.inl rfl), d1, n1, p1, rfl, hR, hS⟩)
        (FU_lt (by decide)) (nI 0, d, names, pile) ⟨by omega, d, names, pile, rfl, hM, Sm.rf⟩
      subst e8
      have hbk := m_back (d' := d9) hk2 hS9.2.2.2
      have hp := hno 60 (Nat.le_refl _)
      refine ⟨(-1000000002 : Int32), upd errors 2 (errors 2 + nI 1), (w1, k9, o9, sS, sW, wa, sp, ki, mk, v9, f9, te, ts9), as', upd found 2 (found 2 + nI 1), n9, p9, g11.trans ?_, g12.trans ?_, Re_up he 2 (by decide)⟩
      · unfold fX11_lasts_28
        refine (bd_of l1).trans ?_
        dsimp only
        rw [bd_of (c_ref2 _)]
      · unfold fX12_lasts_20
        refine (bd_of l2).trans ?_
        dsimp only
        unfold fX12_lasts_44
        rw [bd_of (m_thr (by omega) ((hWf 60 (by omega)).2.2.2.2.2.2.2.2.2.1 x) (hR9.2.2.2.2.2.2.2.2.2.1 x (by omega))), bd_of hbk, b2_f hp, if_pos (show nI 0 = (0 : Int32) from rfl), o_2, bd_of (m_fin2 _)]
  · refine ⟨(-1000000001 : Int32), upd errors 1 (errors 1 + nI 1), (t_weight, t_known, t_hour, t_swS, t_swW, t_waS, t_spoons, t_kind, t_mark, t_silver, t_fresh, t_texts, tst), aside, upd found 1 (found 1 + nI 1), names, pile, ?_, ?_, Re_up he 1 (by decide)⟩
    · simp (disch := omega) only [fX11_lasts, qN, c_isSp, if_neg c0, o_69, l_6, c_isWord, c_isSetOfWords, c_isUse, c_isSheet, c_isBehind, c_mayB, c_wi, m_isWord, m_areWords, m_isSheet, m_isAhead, m_isKm, m_in, l_n1, o_n1, b2if, ck_s b2_z, c_ref1, c_ref2, c_ref3, c_ref4, c_ref5, m_fin1, m_fin2, m_fin3, m_fin4, m_fin5, l_0, l_1, l_2, l_3, l_5, l_7, l_8, l_9, l_11, l_12, l_16, l_20, l_30, l_40, l_60, l_69, l_99, l_4095, if_true, if_false, nI_add, pk_mul, nI_clamp, nI_leI, nI_ltI, nI_eq, ckI_s, bd_q, bnd_q, if_pos, if_neg, o_0, o_1, o_2, o_3, o_4, o_5, o_6, o_7, o_8, o_9, o_10, o_11, o_12, o_13, o_14, o_15, o_16, o_17, o_18, o_19, o_20, o_21, o_22, o_23, o_24, o_25, o_26, o_27, o_28, o_29, o_30, o_31, o_32, o_33, o_34, o_35, o_36, o_37, o_38, o_39, o_40, o_41, o_42, o_43, o_44, o_45, o_46, o_47, o_48, o_49, o_50, o_51, o_52, o_53, o_54, o_55, o_56, o_57, o_58, o_59, o_60, o_62, o_70, o_71, o_99, o_124, o_154, o_156, o_176, o_255, o_276, o_326, o_4095, o_9999, o_10000, o_10001, o_20000, o_20033]
    · simp (disch := omega) only [fX12_lasts, m_isSp _ r0, if_neg c0, o_69, l_6, c_isWord, c_isSetOfWords, c_isUse, c_isSheet, c_isBehind, c_mayB, c_wi, m_isWord, m_areWords, m_isSheet, m_isAhead, m_isKm, m_in, l_n1, o_n1, b2if, ck_s b2_z, c_ref1, c_ref2, c_ref3, c_ref4, c_ref5, m_fin1, m_fin2, m_fin3, m_fin4, m_fin5, l_0, l_1, l_2, l_3, l_5, l_7, l_8, l_9, l_11, l_12, l_16, l_20, l_30, l_40, l_60, l_69, l_99, l_4095, if_true, if_false, nI_add, pk_mul, nI_clamp, nI_leI, nI_ltI, nI_eq, ckI_s, bd_q, bnd_q, if_pos, if_neg, o_0, o_1, o_2, o_3, o_4, o_5, o_6, o_7, o_8, o_9, o_10, o_11, o_12, o_13, o_14, o_15, o_16, o_17, o_18, o_19, o_20, o_21, o_22, o_23, o_24, o_25, o_26, o_27, o_28, o_29, o_30, o_31, o_32, o_33, o_34, o_35, o_36, o_37, o_38, o_39, o_40, o_41, o_42, o_43, o_44, o_45, o_46, o_47, o_48, o_49, o_50, o_51, o_52, o_53, o_54, o_55, o_56, o_57, o_58, o_59, o_60, o_62, o_70, o_71, o_99, o_124, o_154, o_156, o_176, o_255, o_276, o_326, o_4095, o_9999, o_10000, o_10001, o_20000, o_20033]
end E6
