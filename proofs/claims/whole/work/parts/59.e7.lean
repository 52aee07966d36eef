/-! what is only thought: silver for one, whom to wash, the kind for one, odds -/
theorem cm_c : ∀ m, m < 13 → fX11_commonPart (nI m) (nI 12) = some (nI (Nat.gcd m 12)) := by decide +kernel
theorem cm_m : ∀ m, m < 13 → fX12_common (nI m) (nI 12) = some (nI (Nat.gcd m 12)) := by decide +kernel
theorem cm_0 : ∀ m, m < 13 → ¬ nI (Nat.gcd m 12) = (0 : Int32) := by decide +kernel
section E7
variable {errors found : Nat → Int32} {h_weight : Nat → Int32} {h_known : Int32} {h_hour : Int32} {h_swS : Nat → Int32} {h_swW : Nat → Int32} {h_waS : Nat → Int32} {h_spoons : Int32} {h_kind : Nat → Int32} {h_mark : Nat → Int32} {h_silver : Nat → Int32} {h_fresh : Nat → Int64} {h_texts : Nat → Option Nat} {h_tape : Nat → Int32} {h_tapeCount : Int32} {h_z : Int32} {h_waiting : Nat → Int32} {h_waitingCount : Int32} {d : Nat → Int32} {L : List Nat} {tx : Nat → TXc}
variable {t_weight : Nat → Int32} {t_known : Int32} {t_hour : Int32} {t_swS : Nat → Int32} {t_swW : Nat → Int32} {t_waS : Nat → Int32} {t_spoons : Int32} {t_kind : Nat → Int32} {t_mark : Nat → Int32} {t_silver : Nat → Int32} {t_fresh : Nat → Int64} {t_texts : Nat → Option Nat}
theorem E_silverFor (a n : Int32) (tst : Nat → Nat → Int32) (aside names pile : Nat → Int32) (he : Re errors found) (hh : Rh h_weight h_known h_hour h_swS h_swW h_waS h_spoons h_kind h_mark h_silver h_fresh h_texts h_tape h_tapeCount h_z h_waiting h_waitingCount d L tx) : ∃ (r : Int32) (errorsR : Nat → Int32) (w : TW) (asR foundR nR pR : Nat → Int32), fX11_silverFor a n errors h_weight h_known h_hour h_swS h_swW h_waS h_spoons h_kind h_mark h_silver h_fresh h_texts t_weight t_known t_hour t_swS t_swW t_waS t_spoons t_kind t_mark t_silver t_fresh t_texts L tx tst = some (r, errorsR, w) ∧ fX12_silverFor a n d aside found names pile = some (r, d, asR, foundR, nR, pR) ∧ Re errorsR foundR := by
  obtain ⟨A, E, hW, hH, hM, hC, hT, hG, hO⟩ := hh
  have r0 := hM.1
  have qN := hC.2.2.2.2.2.2.1
  have fN := hW.1
  by_cases c0 : nI 0 ≤ a ∧ a ≤ nI (aN A) - nI 1
  · obtain ⟨x, hx, rfl⟩ := bt_sp (by omega) c0
    by_cases c1 : nI 0 ≤ n ∧ n ≤ nI 60
    · obtain ⟨j, hj, rfl⟩ := bt_of (by decide) c1
      obtain ⟨as', hk1, hk2⟩ := m_keep d aside
      obtain ⟨r, q, l1, l2, hQ⟩ := lpQ (fun σ : Int32 × (Nat → Int32) × Int32 × Int32 × (Nat → Int32) × (Nat → Int32) × (Nat → Int32) × Int32 × (Nat → Int32) × (Nat → Int32) × (Nat → Int32) × (Nat → Int64) × (Nat → Option Nat) × (Nat → Nat → Int32) => fX11_silverFor_24B (nI x) (nI j) errors h_weight h_known h_hour h_swS h_swW h_waS h_spoons h_kind h_mark h_silver h_fresh h_texts L tx (σ.1) (σ.2.1) (σ.2.2.1) (σ.2.2.2.1) (σ.2.2.2.2.1) (σ.2.2.2.2.2.1) (σ.2.2.2.2.2.2.1) (σ.2.2.2.2.2.2.2.1) (σ.2.2.2.2.2.2.2.2.1) (σ.2.2.2.2.2.2.2.2.2.1) (σ.2.2.2.2.2.2.2.2.2.2.1) (σ.2.2.2.2.2.2.2.2.2.2.2.1) (σ.2.2.2.2.2.2.2.2.2.2.2.2.1) (σ.2.2.2.2.2.2.2.2.2.2.2.2.2)) (fun σ : Int32 × (Nat → Int32) × (Nat → Int32) × (Nat → Int32) => fX12_silverFor_27B (nI x) (nI j) as' found (σ.1) (σ.2.1) (σ.2.2.1) (σ.2.2.2)) (fun i s u => ∃ (w : TW) (n1 p1 : Nat → Int32), s = (nI (i + 1), w) ∧ u = (nI (i + 1), d, n1, p1)) (fun r q => (∃ (w : TW) (n1 p1 : Nat → Int32), r = .inl (nI 100, w) ∧ q = .inl (nI 100, d, n1, p1)) ∨ ∃ (v : Int32) (w : TW) (n1 p1 : Nat → Int32), r = .inr (v, errors, w) ∧ q = .inr (v, d, as', found, n1, p1)) 99
        (fun i s u hi hI => by
          obtain ⟨w, n1, p1, rfl, rfl⟩ := hI
          obtain ⟨u1, u2, u3, u4, u5, u6, u7, u8, u9, u10, u11, u12, ts⟩ := w
          obtain ⟨w1, k1, o1, sS, sW, wa, sp, ki, mk, sv, fr, te, hf, hCt, hGt⟩ := c_follow (t_weight := u1) (t_known := u2) (t_hour := u3) (t_swS := u4) (t_swW := u5) (t_waS := u6) (t_spoons := u7) (t_kind := u8) (t_mark := u9) (t_silver := u10) (t_fresh := u11) (t_texts := u12) hC hG
          have W2 : Wf (sV A (upN (aV A) x (i + 1))) := Wf_sV hW (upN_le hW.2.2.2.2.2.2.2.2.2.1 (by omega))
          have C2 := RC_V hCt (s := x) (i + 1)
          have M2 := RM_V hM (s := x) (i + 1) (by omega)
          have S2 : Sm d (upd d (34 + 15 * x + 2) (nI (i + 1))) := Sm_upd (by omega)
          obtain ⟨k', o', v', f', ts', g1, g2⟩ := c_hours (E := E) (texts := te) (L := L) (tx := tx) W2 C2 hGt.gc (n := j) (by omega) (by show aH A + j ≤ 10100; omega) ts
          obtain ⟨d', n', p', g3, g4, g5⟩ := m_hours (n := j) W2 M2 (hT.sm S2).tgs (by omega) (by show aH A + j ≤ 10100; omega) n1 p1
          have hbk := m_back (d' := d') hk2 (S2.tr g5).2.2.2
          have hWr := Wf_runA (E := E) W2 j (by show aH A + j ≤ 10100; omega)
          have hv9 := hWr.2.2.2.2.2.2.2.2.2.1 x
          have hsl := g2.2.2.2.2.2.2.2.2.2.1 x (by omega)
          have mV := g4.2.2.2.2.2.2.2.2.2.1 x (by omega)
          have g11 : ∀ y, ckI (nI x) 8 ((if (v' (nI x).toNatClampNeg) ≤ 0 then bnd (nI (i + 1) + (1 : Int32)) fun y_37 => some (.inl (y_37, w1, k', o', sS, sW, wa, sp, ki, mk, v', f', te, ts')) else some (.inr (.inr (nI (i + 1), errors, w1, k', o', sS, sW, wa, sp, ki, mk, v', f', te, ts'))))) = y → fX11_silverFor_24B (nI x) (nI j) errors h_weight h_known h_hour h_swS h_swW h_waS h_spoons h_kind h_mark h_silver h_fresh h_texts L tx (nI (i + 1)) u1 u2 u3 u4 u5 u6 u7 u8 u9 u10 u11 u12 ts = y := fun y hy => by
            unfold fX11_silverFor_24B
            rw [o_99, if_neg (by rw [nI_ltI (by decide) (by omega)]; omega), bd_of hf]
            dsimp only
            rw [ckI_s (by omega) (by omega), nI_clamp (by omega), bnd_q, bd_of g1]
            rw [nI_clamp (by omega)] at hy
            exact hy
          have g12 : ∀ y, fX12_silverFor_58 (nI x) (nI j) (nI (i + 1)) (if aV (runA E j (sV A (upN (aV A) x (i + 1)))) x = 0 then nI 0 else nI 1) d' as' found n' p' = y → fX12_silverFor_27B (nI x) (nI j) as' found (nI (i + 1)) d n1 p1 = y := fun y hy => by
            unfold fX12_silverFor_27B
            rw [o_99, if_neg (by rw [nI_ltI (by decide) (by omega)]; omega), o_2, bd_of (m_sets d _ (by omega) (by decide)), bd_of g3]
            dsimp only
            rw [bd_of (m_thr (by omega) hv9 mV)]
            by_cases h0 : aV (runA E j (sV A (upN (aV A) x (i + 1)))) x = 0
            · rw [if_pos h0] at hy
              rw [b2_t h0, if_neg (by decide)]
              exact hy
            · rw [if_neg h0] at hy
              rw [b2_f h0, if_pos (show nI 0 = (0 : Int32) from rfl)]
              exact hy
          by_cases h0 : aV (runA E j (sV A (upN (aV A) x (i + 1)))) x = 0
          · refine Or.inl ⟨(nI (i + 1 + 1), w1, k', o', sS, sW, wa, sp, ki, mk, v', f', te, ts'), (nI (i + 1 + 1), d, n', p'), g11 _ ?_, g12 _ ?_, _, n', p', rfl, rfl⟩
            · rw [ckI_s (by omega) (by omega), nI_clamp (by omega), hsl, h0, if_pos (by decide), bnd_q, o_1, nI_add]
            · rw [if_pos h0]
              unfold fX12_silverFor_58
              rw [bd_of hbk, if_pos (show nI 0 = (0 : Int32) from rfl), bnd_q, o_1, nI_add]
          · refine Or.inr ⟨.inr (nI (i + 1), errors, w1, k', o', sS, sW, wa, sp, ki, mk, v', f', te, ts'), .inr (nI (i + 1), d, as', found, n', p'), g11 _ ?_, g12 _ ?_, Or.inr ⟨nI (i + 1), _, n', p', rfl, rfl⟩⟩
            · rw [ckI_s (by omega) (by omega), nI_clamp (by omega), hsl, o_0, if_neg (by rw [nI_leI (by omega) (by decide)]; omega)]
            · rw [if_neg h0]
              unfold fX12_silverFor_58
              rw [bd_of hbk, if_neg (show ¬ nI 1 = (0 : Int32) by decide)])
        (fun s u hI => by
          obtain ⟨w, n1, p1, rfl, rfl⟩ := hI
          obtain ⟨u1, u2, u3, u4, u5, u6, u7, u8, u9, u10, u11, u12, ts⟩ := w
          refine ⟨.inl (nI 100, u1, u2, u3, u4, u5, u6, u7, u8, u9, u10, u11, u12, ts), .inl (nI 100, d, n1, p1), ?_, ?_, Or.inl ⟨_, n1, p1, rfl, rfl⟩⟩
          · show fX11_silverFor_24B (nI x) (nI j) errors h_weight h_known h_hour h_swS h_swW h_waS h_spoons h_kind h_mark h_silver h_fresh h_texts L tx (nI 100) u1 u2 u3 u4 u5 u6 u7 u8 u9 u10 u11 u12 ts = _
            unfold fX11_silverFor_24B
            rw [o_99, if_pos ((nI_ltI (by decide) (by decide)).mpr (by decide))]
          · show fX12_silverFor_27B (nI x) (nI j) as' found (nI 100) d n1 p1 = _
            unfold fX12_silverFor_27B
            rw [o_99, if_pos ((nI_ltI (by decide) (by decide)).mpr (by decide))])
        (FU_lt (by decide)) (nI 1, (t_weight, t_known, t_hour, t_swS, t_swW, t_waS, t_spoons, t_kind, t_mark, t_silver, t_fresh, t_texts, tst)) (nI 1, d, names, pile) ⟨(t_weight, t_known, t_hour, t_swS, t_swW, t_waS, t_spoons, t_kind, t_mark, t_silver, t_fresh, t_texts, tst), names, pile, rfl, rfl⟩
      have g11 : fX11_silverFor (nI x) (nI j) errors h_weight h_known h_hour h_swS h_swW h_waS h_spoons h_kind h_mark h_silver h_fresh h_texts t_weight t_known t_hour t_swS t_swW t_waS t_spoons t_kind t_mark t_silver t_fresh t_texts L tx tst = fX11_silverFor_24 (nI x) (nI j) (1 : Int32) errors h_weight h_known h_hour h_swS h_swW h_waS h_spoons h_kind h_mark h_silver h_fresh h_texts t_weight t_known t_hour t_swS t_swW t_waS t_spoons t_kind t_mark t_silver t_fresh t_texts L tx tst := by
        unfold fX11_silverFor
        rw [qN, bd_of (c_isSj (by omega) (by omega)), b2_t hx, if_neg (by decide), bd_of (c_isBehind _), b2_t c1, if_neg (by decide)]
      have g12 : fX12_silverFor (nI x) (nI j) d aside found names pile = fX12_silverFor_27 (nI x) (nI j) (1 : Int32) d as' found names pile := by
        unfold fX12_silverFor
        rw [bd_of (m_isSj r0 fN (by omega)), b2_t hx, if_neg (by decide), bd_of (m_isAhead _), b2_t c1, if_neg (by decide), bd_of hk1]
      rcases hQ with ⟨w, n1, p1, e1, e2⟩ | ⟨v, w, n1, p1, e1, e2⟩
      · subst e1
        subst e2
        refine ⟨(-1000000002 : Int32), upd errors 2 (errors 2 + nI 1), w, as', upd found 2 (found 2 + nI 1), n1, p1, g11.trans ?_, g12.trans ?_, Re_up he 2 (by decide)⟩
        · unfold fX11_silverFor_24
          refine (bd_of l1).trans ?_
          obtain ⟨u1, u2, u3, u4, u5, u6, u7, u8, u9, u10, u11, u12, ts⟩ := w
          dsimp only
          rw [bd_of (c_ref2 _)]
        · unfold fX12_silverFor_27
          refine (bd_of l2).trans ?_
          dsimp only
          rw [o_2, bd_of (m_fin2 _)]
      · subst e1
        subst e2
        refine ⟨v, errors, w, as', found, n1, p1, g11.trans ?_, g12.trans ?_, he⟩
        · unfold fX11_silverFor_24
          exact (bd_of l1).trans rfl
        · unfold fX12_silverFor_27
          exact (bd_of l2).trans rfl
    · refine ⟨(-1000000001 : Int32), upd errors 1 (errors 1 + nI 1), (t_weight, t_known, t_hour, t_swS, t_swW, t_waS, t_spoons, t_kind, t_mark, t_silver, t_fresh, t_texts, tst), aside, upd found 1 (found 1 + nI 1), names, pile, ?_, ?_, Re_up he 1 (by decide)⟩
      · unfold fX11_silverFor
        rw [qN, bd_of (c_isSj (by omega) (by omega)), b2_t hx, if_neg (by decide), bd_of (c_isBehind _), b2_f c1, if_pos (show nI 0 = (0 : Int32) from rfl), bd_of (c_ref1 _)]
      · unfold fX12_silverFor
        rw [bd_of (m_isSj r0 fN (by omega)), b2_t hx, if_neg (by decide), bd_of (m_isAhead _), b2_f c1, if_pos (show nI 0 = (0 : Int32) from rfl), o_1, bd_of (m_fin1 _)]
  · refine ⟨(-1000000001 : Int32), upd errors 1 (errors 1 + nI 1), (t_weight, t_known, t_hour, t_swS, t_swW, t_waS, t_spoons, t_kind, t_mark, t_silver, t_fresh, t_texts, tst), aside, upd found 1 (found 1 + nI 1), names, pile, ?_, ?_, Re_up he 1 (by decide)⟩
    · simp (disch := omega) only [fX11_silverFor, qN, c_isSp, if_neg c0, o_69, l_6, c_isWord, c_isSetOfWords, c_isUse, c_isSheet, c_isBehind, c_mayB, c_wi, m_isWord, m_areWords, m_isSheet, m_isAhead, m_isKm, m_in, l_n1, o_n1, b2if, ck_s b2_z, c_ref1, c_ref2, c_ref3, c_ref4, c_ref5, m_fin1, m_fin2, m_fin3, m_fin4, m_fin5, l_0, l_1, l_2, l_3, l_5, l_7, l_8, l_9, l_11, l_12, l_16, l_20, l_30, l_40, l_60, l_69, l_99, l_4095, if_true, if_false, nI_add, pk_mul, nI_clamp, nI_leI, nI_ltI, nI_eq, ckI_s, bd_q, bnd_q, if_pos, if_neg, o_0, o_1, o_2, o_3, o_4, o_5, o_6, o_7, o_8, o_9, o_10, o_11, o_12, o_13, o_14, o_15, o_16, o_17, o_18, o_19, o_20, o_21, o_22, o_23, o_24, o_25, o_26, o_27, o_28, o_29, o_30, o_31, o_32, o_33, o_34, o_35, o_36, o_37, o_38, o_39, o_40, o_41, o_42, o_43, o_44, o_45, o_46, o_47, o_48, o_49, o_50, o_51, o_52, o_53, o_54, o_55, o_56, o_57, o_58, o_59, o_60, o_62, o_70, o_71, o_99, o_124, o_154, o_156, o_176, o_255, o_276, o_326, o_4095, o_9999, o_10000, o_10001, o_20000, o_20033]
    · simp (disch := omega) only [fX12_silverFor, m_isSp _ r0, if_neg c0, o_69, l_6, c_isWord, c_isSetOfWords, c_isUse, c_isSheet, c_isBehind, c_mayB, c_wi, m_isWord, m_areWords, m_isSheet, m_isAhead, m_isKm, m_in, l_n1, o_n1, b2if, ck_s b2_z, c_ref1, c_ref2, c_ref3, c_ref4, c_ref5, m_fin1, m_fin2, m_fin3, m_fin4, m_fin5, l_0, l_1, l_2, l_3, l_5, l_7, l_8, l_9, l_11, l_12, l_16, l_20, l_30, l_40, l_60, l_69, l_99, l_4095, if_true, if_false, nI_add, pk_mul, nI_clamp, nI_leI, nI_ltI, nI_eq, ckI_s, bd_q, bnd_q, if_pos, if_neg, o_0, o_1, o_2, o_3, o_4, o_5, o_6, o_7, o_8, o_9, o_10, o_11, o_12, o_13, o_14, o_15, o_16, o_17, o_18, o_19, o_20, o_21, o_22, o_23, o_24, o_25, o_26, o_27, o_28, o_29, o_30, o_31, o_32, o_33, o_34, o_35, o_36, o_37, o_38, o_39, o_40, o_41, o_42, o_43, o_44, o_45, o_46, o_47, o_48, o_49, o_50, o_51, o_52, o_53, o_54, o_55, o_56, o_57, o_58, o_59, o_60, o_62, o_70, o_71, o_99, o_124, o_154, o_156, o_176, o_255, o_276, o_326, o_4095, o_9999, o_10000, o_10001, o_20000, o_20033]
theorem E_washFor (a n : Int32) (tst : Nat → Nat → Int32) (aside names pile : Nat → Int32) (he : Re errors found) (hh : Rh h_weight h_known h_hour h_swS h_swW h_waS h_spoons h_kind h_mark h_silver h_fresh h_texts h_tape h_tapeCount h_z h_waiting h_waitingCount d L tx) : ∃ (r : Int32) (errorsR : Nat → Int32) (w : TW) (asR foundR nR pR : Nat → Int32), fX11_washFor a n errors h_weight h_known h_hour h_swS h_swW h_waS h_spoons h_kind h_mark h_silver h_fresh h_texts t_weight t_known t_hour t_swS t_swW t_waS t_spoons t_kind t_mark t_silver t_fresh t_texts L tx tst = some (r, errorsR, w) ∧ fX12_washFor a n d aside found names pile = some (r, d, asR, foundR, nR, pR) ∧ Re errorsR foundR := by
  obtain ⟨A, E, hW, hH, hM, hC, hT, hG, hO⟩ := hh
  have r0 := hM.1
  have qN := hC.2.2.2.2.2.2.1
  have fN := hW.1
  by_cases c0 : nI 0 ≤ a ∧ a ≤ nI 3
  · obtain ⟨x, hx, rfl⟩ := bt_of (by decide) c0
    by_cases c1 : nI 0 ≤ n ∧ n ≤ nI 60
    · obtain ⟨j, hj, rfl⟩ := bt_of (by decide) c1
      obtain ⟨as', hk1, hk2⟩ := m_keep d aside
      obtain ⟨r, q, l1, l2, b, l, w, n1, p1, e1, e2⟩ := lpQ (fun σ : Int32 × Int32 × Int32 × (Nat → Int32) × Int32 × Int32 × (Nat → Int32) × (Nat → Int32) × (Nat → Int32) × Int32 × (Nat → Int32) × (Nat → Int32) × (Nat → Int32) × (Nat → Int64) × (Nat → Option Nat) × (Nat → Nat → Int32) => fX11_washFor_32B (nI x) (nI j) errors h_weight h_known h_hour h_swS h_swW h_waS h_spoons h_kind h_mark h_silver h_fresh h_texts L tx (σ.1) (σ.2.1) (σ.2.2.1) (σ.2.2.2.1) (σ.2.2.2.2.1) (σ.2.2.2.2.2.1) (σ.2.2.2.2.2.2.1) (σ.2.2.2.2.2.2.2.1) (σ.2.2.2.2.2.2.2.2.1) (σ.2.2.2.2.2.2.2.2.2.1) (σ.2.2.2.2.2.2.2.2.2.2.1) (σ.2.2.2.2.2.2.2.2.2.2.2.1) (σ.2.2.2.2.2.2.2.2.2.2.2.2.1) (σ.2.2.2.2.2.2.2.2.2.2.2.2.2.1) (σ.2.2.2.2.2.2.2.2.2.2.2.2.2.2.1) (σ.2.2.2.2.2.2.2.2.2.2.2.2.2.2.2)) (fun σ : Int32 × Int32 × Int32 × (Nat → Int32) × (Nat → Int32) × (Nat → Int32) => fX12_bestOf_14B (nI (30 + x)) (nI 7) (nI j) as' (σ.1) (σ.2.1) (σ.2.2.1) (σ.2.2.2.1) (σ.2.2.2.2.1) (σ.2.2.2.2.2)) (fun i s u => ∃ (b l : Int32) (w : TW) (n1 p1 : Nat → Int32), s = (b, l, nI i - nI 1, w) ∧ u = (b, l, nI i - nI 1, d, n1, p1)) (fun r q => ∃ (b l : Int32) (w : TW) (n1 p1 : Nat → Int32), r = (b, l, nI 9 - nI 1, w) ∧ q = (b, l, nI 9 - nI 1, d, n1, p1)) 9
        (fun i s u hi hI => by
          obtain ⟨b, l, w, n1, p1, rfl, rfl⟩ := hI
          obtain ⟨u1, u2, u3, u4, u5, u6, u7, u8, u9, u10, u11, u12, ts⟩ := w
          obtain ⟨w1, k1, o1, wS, sW, wa, sp, ki, mk, sv, fr, te, hf, hCt, hGt⟩ := c_follow (t_weight := u1) (t_known := u2) (t_hour := u3) (t_swS := u4) (t_swW := u5) (t_waS := u6) (t_spoons := u7) (t_kind := u8) (t_mark := u9) (t_silver := u10) (t_fresh := u11) (t_texts := u12) hC hG
          have nx : nI i - nI 1 + nI 1 = nI (i + 1) - nI 1 := by
            rw [back1, pk_sub (by omega)]
            rfl
          have W2 : Wf (sS A (upN (aS A) x i)) := Wf_sS hW (upN_le hW.2.2.2.2.2.2.1 (by omega))
          have C2 := RC_S hCt (j := x) i
          have M2 : RM (upd d (30 + x) (nI i - nI 1)) (sS A (upN (aS A) x i)) := RM_S hM (j := x) i (by omega)
          have S2 : Sm d (upd d (30 + x) (nI i - nI 1)) := Sm_upd (by omega)
          obtain ⟨k', o', v', f', ts', g1, g2⟩ := c_hours (E := E) (texts := te) (L := L) (tx := tx) W2 C2 hGt.gc (n := j) (by omega) (by show aH A + j ≤ 10100; omega) ts
          obtain ⟨d', n', p', g3, g4, g5⟩ := m_hours (n := j) W2 M2 (hT.sm S2).tgs (by omega) (by show aH A + j ≤ 10100; omega) n1 p1
          have hbk := m_back (d' := d') hk2 (S2.tr g5).2.2.2
          have hK := (Wf_runA (E := E) W2 j (by show aH A + j ≤ 10100; omega)).2.2.1
          have ek : k' = nI (aK (runA E j (sS A (upN (aS A) x i)))) := g2.2.1
          have e2 : d' 2 = nI (aK (runA E j (sS A (upN (aS A) x i)))) := g4.2.2.1
          have g11 : ∀ y, (if l ≤ nI (pc (aK (runA E j (sS A (upN (aS A) x i))))) then fX11_washFor_99 (nI x) (nI j) b l (nI i - nI 1) errors h_weight h_known h_hour h_swS h_swW h_waS h_spoons h_kind h_mark h_silver h_fresh h_texts w1 k' o' wS sW (upd wa x (nI i - nI 1)) sp ki mk v' f' te L tx ts' else fX11_washFor_99 (nI x) (nI j) (nI i - nI 1) (nI (pc (aK (runA E j (sS A (upN (aS A) x i)))))) (nI i - nI 1) errors h_weight h_known h_hour h_swS h_swW h_waS h_spoons h_kind h_mark h_silver h_fresh h_texts w1 k' o' wS sW (upd wa x (nI i - nI 1)) sp ki mk v' f' te L tx ts') = y → fX11_washFor_32B (nI x) (nI j) errors h_weight h_known h_hour h_swS h_swW h_waS h_spoons h_kind h_mark h_silver h_fresh h_texts L tx b l (nI i - nI 1) u1 u2 u3 u4 u5 u6 u7 u8 u9 u10 u11 u12 ts = y := fun y hy => by
            unfold fX11_washFor_32B
            rw [o_8, if_neg (by rw [q_le, nI_toInt (by decide), pk_sub_toInt (by omega) (by decide)]; omega), bd_of hf]
            dsimp only
            rw [ckI_s (by omega) (by omega), nI_clamp (by omega), bnd_q, bd_of g1]
            dsimp only
            rw [ek, bd_of (c_bc hK), bd_of (c_bc hK), ← ek]
            exact hy
          have g12 : ∀ y, (if l ≤ nI (pc (aK (runA E j (sS A (upN (aS A) x i))))) then fX12_bestOf_51 (nI (30 + x)) (nI 7) (nI j) b l (nI i - nI 1) d as' n' p' else fX12_bestOf_51 (nI (30 + x)) (nI 7) (nI j) (nI i - nI 1) (nI (pc (aK (runA E j (sS A (upN (aS A) x i)))))) (nI i - nI 1) d as' n' p') = y → fX12_bestOf_14B (nI (30 + x)) (nI 7) (nI j) as' b l (nI i - nI 1) d n1 p1 = y := fun y hy => by
            unfold fX12_bestOf_14B fX12_spreadsBehind
            rw [if_neg (by rw [q_lt, nI_toInt (by decide), pk_sub_toInt (by omega) (by decide)]; omega), ckI_s (by omega) (by omega), nI_clamp (by omega), bnd_q, bd_of g3]
            dsimp only
            rw [o_2, ckI_s (by decide) (by decide), nI_clamp (by decide), e2, bd_of (m_ones hK), bd_of hbk]
            exact hy
          by_cases hc : l ≤ nI (pc (aK (runA E j (sS A (upN (aS A) x i)))))
          · refine Or.inl ⟨(b, l, nI (i + 1) - nI 1, w1, k', o', wS, sW, upd wa x (nI i - nI 1), sp, ki, mk, v', f', te, ts'), (b, l, nI (i + 1) - nI 1, d, n', p'), g11 _ ?_, g12 _ ?_, b, l, _, n', p', rfl, rfl⟩
            · rw [if_pos hc]
              unfold fX11_washFor_99
              rw [bnd_q, o_1, nx]
            · rw [if_pos hc]
              unfold fX12_bestOf_51
              rw [bnd_q, o_1, nx]
          · refine Or.inl ⟨(nI i - nI 1, nI (pc (aK (runA E j (sS A (upN (aS A) x i))))), nI (i + 1) - nI 1, w1, k', o', wS, sW, upd wa x (nI i - nI 1), sp, ki, mk, v', f', te, ts'), (nI i - nI 1, nI (pc (aK (runA E j (sS A (upN (aS A) x i))))), nI (i + 1) - nI 1, d, n', p'), g11 _ ?_, g12 _ ?_, _, _, _, n', p', rfl, rfl⟩
            · rw [if_neg hc]
              unfold fX11_washFor_99
              rw [bnd_q, o_1, nx]
            · rw [if_neg hc]
              unfold fX12_bestOf_51
              rw [bnd_q, o_1, nx])
        (fun s u hI => by
          obtain ⟨b, l, w, n1, p1, rfl, rfl⟩ := hI
          obtain ⟨u1, u2, u3, u4, u5, u6, u7, u8, u9, u10, u11, u12, ts⟩ := w
          refine ⟨(b, l, nI 9 - nI 1, u1, u2, u3, u4, u5, u6, u7, u8, u9, u10, u11, u12, ts), (b, l, nI 9 - nI 1, d, n1, p1), ?_, ?_, b, l, _, n1, p1, rfl, rfl⟩
          · show fX11_washFor_32B (nI x) (nI j) errors h_weight h_known h_hour h_swS h_swW h_waS h_spoons h_kind h_mark h_silver h_fresh h_texts L tx b l (nI 9 - nI 1) u1 u2 u3 u4 u5 u6 u7 u8 u9 u10 u11 u12 ts = _
            unfold fX11_washFor_32B
            rw [if_pos (by decide)]
          · show fX12_bestOf_14B (nI (30 + x)) (nI 7) (nI j) as' b l (nI 9 - nI 1) d n1 p1 = _
            unfold fX12_bestOf_14B
            rw [if_pos (by decide)])
        (FU_lt (by decide)) (m1, nI 13, nI 0 - nI 1, (t_weight, t_known, t_hour, t_swS, t_swW, t_waS, t_spoons, t_kind, t_mark, t_silver, t_fresh, t_texts, tst)) (m1, nI 13, nI 0 - nI 1, d, names, pile) ⟨m1, nI 13, (t_weight, t_known, t_hour, t_swS, t_swW, t_waS, t_spoons, t_kind, t_mark, t_silver, t_fresh, t_texts, tst), names, pile, rfl, rfl⟩
      subst e1
      subst e2
      have hb : fX12_bestOf_14 (nI (30 + x)) (nI 7) (nI j) m1 (nI 13) (nI 0 - nI 1) d as' names pile = some (b, d, as', n1, p1) := by
        unfold fX12_bestOf_14
        exact (bd_of l2).trans rfl
      have hc : fX11_washFor_32 (nI x) (nI j) m1 (nI 13) (nI 0 - nI 1) errors h_weight h_known h_hour h_swS h_swW h_waS h_spoons h_kind h_mark h_silver h_fresh h_texts t_weight t_known t_hour t_swS t_swW t_waS t_spoons t_kind t_mark t_silver t_fresh t_texts L tx tst = some (nI 1 + b, errors, w) := by
        unfold fX11_washFor_32
        refine (bd_of l1).trans ?_
        obtain ⟨u1, u2, u3, u4, u5, u6, u7, u8, u9, u10, u11, u12, ts⟩ := w
        dsimp only
        rw [Int32.add_comm b]
        rfl
      refine ⟨nI 1 + b, errors, w, as', found, n1, p1, ?_, ?_, he⟩
      · have g11 : fX11_washFor (nI x) (nI j) errors h_weight h_known h_hour h_swS h_swW h_waS h_spoons h_kind h_mark h_silver h_fresh h_texts t_weight t_known t_hour t_swS t_swW t_waS t_spoons t_kind t_mark t_silver t_fresh t_texts L tx tst = fX11_washFor_32 (nI x) (nI j) m1 (nI 13) (nI 0 - nI 1) errors h_weight h_known h_hour h_swS h_swW h_waS h_spoons h_kind h_mark h_silver h_fresh h_texts t_weight t_known t_hour t_swS t_swW t_waS t_spoons t_kind t_mark t_silver t_fresh t_texts L tx tst := by
          unfold fX11_washFor
          rw [o_0, o_3, bd_of (c_wi _ _ _), b2_t c0, if_neg (by decide), bd_of (c_isBehind _), b2_t c1, if_neg (by decide)]
          rfl
        exact g11.trans hc
      · have g12 : fX12_washFor (nI x) (nI j) d aside found names pile = bd (fX12_bestOf (nI (30 + x)) m1 (nI 7) (nI j) d aside names pile) (fun (r, d1, a1, n1, p1) => some (nI 1 + r, d1, a1, found, n1, p1)) := by
          unfold fX12_washFor
          rw [l_0, l_3, bd_of (m_in _ _ _), b2_t c0, if_neg (by decide), bd_of (m_isAhead _), b2_t c1, if_neg (by decide), o_30, nI_add, o_7]
          rfl
        have g13 : fX12_bestOf (nI (30 + x)) m1 (nI 7) (nI j) d aside names pile = some (b, d, as', n1, p1) := by
          unfold fX12_bestOf
          rw [bd_of hk1]
          exact hb
        exact g12.trans ((bd_of g13).trans rfl)
    · refine ⟨(-1000000001 : Int32), upd errors 1 (errors 1 + nI 1), (t_weight, t_known, t_hour, t_swS, t_swW, t_waS, t_spoons, t_kind, t_mark, t_silver, t_fresh, t_texts, tst), aside, upd found 1 (found 1 + nI 1), names, pile, ?_, ?_, Re_up he 1 (by decide)⟩
      · unfold fX11_washFor
        rw [o_0, o_3, bd_of (c_wi _ _ _), b2_t c0, if_neg (by decide), bd_of (c_isBehind _), b2_f c1, if_pos rfl, bd_of (c_ref1 _)]
      · unfold fX12_washFor
        rw [l_0, l_3, bd_of (m_in _ _ _), b2_t c0, if_neg (by decide), bd_of (m_isAhead _), b2_f c1, if_pos (show nI 0 = (0 : Int32) from rfl), o_1, bd_of (m_fin1 _)]
  · refine ⟨(-1000000001 : Int32), upd errors 1 (errors 1 + nI 1), (t_weight, t_known, t_hour, t_swS, t_swW, t_waS, t_spoons, t_kind, t_mark, t_silver, t_fresh, t_texts, tst), aside, upd found 1 (found 1 + nI 1), names, pile, ?_, ?_, Re_up he 1 (by decide)⟩
    · simp (disch := omega) only [fX11_washFor, if_neg c0, o_69, l_6, c_isWord, c_isSetOfWords, c_isUse, c_isSheet, c_isBehind, c_mayB, c_wi, m_isWord, m_areWords, m_isSheet, m_isAhead, m_isKm, m_in, l_n1, o_n1, b2if, ck_s b2_z, c_ref1, c_ref2, c_ref3, c_ref4, c_ref5, m_fin1, m_fin2, m_fin3, m_fin4, m_fin5, l_0, l_1, l_2, l_3, l_5, l_7, l_8, l_9, l_11, l_12, l_16, l_20, l_30, l_40, l_60, l_69, l_99, l_4095, if_true, if_false, nI_add, pk_mul, nI_clamp, nI_leI, nI_ltI, nI_eq, ckI_s, bd_q, bnd_q, if_pos, if_neg, o_0, o_1, o_2, o_3, o_4, o_5, o_6, o_7, o_8, o_9, o_10, o_11, o_12, o_13, o_14, o_15, o_16, o_17, o_18, o_19, o_20, o_21, o_22, o_23, o_24, o_25, o_26, o_27, o_28, o_29, o_30, o_31, o_32, o_33, o_34, o_35, o_36, o_37, o_38, o_39, o_40, o_41, o_42, o_43, o_44, o_45, o_46, o_47, o_48, o_49, o_50, o_51, o_52, o_53, o_54, o_55, o_56, o_57, o_58, o_59, o_60, o_62, o_70, o_71, o_99, o_124, o_154, o_156, o_176, o_255, o_276, o_326, o_4095, o_9999, o_10000, o_10001, o_20000, o_20033]
    · simp (disch := omega) only [fX12_washFor, if_neg c0, o_69, l_6, c_isWord, c_isSetOfWords, c_isUse, c_isSheet, c_isBehind, c_mayB, c_wi, m_isWord, m_areWords, m_isSheet, m_isAhead, m_isKm, m_in, l_n1, o_n1, b2if, ck_s b2_z, c_ref1, c_ref2, c_ref3, c_ref4, c_ref5, m_fin1, m_fin2, m_fin3, m_fin4, m_fin5, l_0, l_1, l_2, l_3, l_5, l_7, l_8, l_9, l_11, l_12, l_16, l_20, l_30, l_40, l_60, l_69, l_99, l_4095, if_true, if_false, nI_add, pk_mul, nI_clamp, nI_leI, nI_ltI, nI_eq, ckI_s, bd_q, bnd_q, if_pos, if_neg, o_0, o_1, o_2, o_3, o_4, o_5, o_6, o_7, o_8, o_9, o_10, o_11, o_12, o_13, o_14, o_15, o_16, o_17, o_18, o_19, o_20, o_21, o_22, o_23, o_24, o_25, o_26, o_27, o_28, o_29, o_30, o_31, o_32, o_33, o_34, o_35, o_36, o_37, o_38, o_39, o_40, o_41, o_42, o_43, o_44, o_45, o_46, o_47, o_48, o_49, o_50, o_51, o_52, o_53, o_54, o_55, o_56, o_57, o_58, o_59, o_60, o_62, o_70, o_71, o_99, o_124, o_154, o_156, o_176, o_255, o_276, o_326, o_4095, o_9999, o_10000, o_10001, o_20000, o_20033]
theorem E_kindFor (a n : Int32) (tst : Nat → Nat → Int32) (aside names pile : Nat → Int32) (he : Re errors found) (hh : Rh h_weight h_known h_hour h_swS h_swW h_waS h_spoons h_kind h_mark h_silver h_fresh h_texts h_tape h_tapeCount h_z h_waiting h_waitingCount d L tx) : ∃ (r : Int32) (errorsR : Nat → Int32) (w : TW) (asR foundR nR pR : Nat → Int32), fX11_kindFor a n errors h_weight h_known h_hour h_swS h_swW h_waS h_spoons h_kind h_mark h_silver h_fresh h_texts t_weight t_known t_hour t_swS t_swW t_waS t_spoons t_kind t_mark t_silver t_fresh t_texts L tx tst = some (r, errorsR, w) ∧ fX12_kindFor a n d aside found names pile = some (r, d, asR, foundR, nR, pR) ∧ Re errorsR foundR := by
  obtain ⟨A, E, hW, hH, hM, hC, hT, hG, hO⟩ := hh
  have r0 := hM.1
  have qN := hC.2.2.2.2.2.2.1
  have fN := hW.1
  by_cases c0 : nI 0 ≤ a ∧ a ≤ nI (aN A) - nI 1
  · obtain ⟨x, hx, rfl⟩ := bt_sp (by omega) c0
    by_cases c1 : nI 0 ≤ n ∧ n ≤ nI 60
    · obtain ⟨j, hj, rfl⟩ := bt_of (by decide) c1
      obtain ⟨as', hk1, hk2⟩ := m_keep d aside
      obtain ⟨r, q, l1, l2, b, l, w, n1, p1, e1, e2⟩ := lpQ (fun σ : Int32 × Int32 × Int32 × (Nat → Int32) × Int32 × Int32 × (Nat → Int32) × (Nat → Int32) × (Nat → Int32) × Int32 × (Nat → Int32) × (Nat → Int32) × (Nat → Int32) × (Nat → Int64) × (Nat → Option Nat) × (Nat → Nat → Int32) => fX11_kindFor_31B (nI x) (nI j) errors h_weight h_known h_hour h_swS h_swW h_waS h_spoons h_kind h_mark h_silver h_fresh h_texts L tx (σ.1) (σ.2.1) (σ.2.2.1) (σ.2.2.2.1) (σ.2.2.2.2.1) (σ.2.2.2.2.2.1) (σ.2.2.2.2.2.2.1) (σ.2.2.2.2.2.2.2.1) (σ.2.2.2.2.2.2.2.2.1) (σ.2.2.2.2.2.2.2.2.2.1) (σ.2.2.2.2.2.2.2.2.2.2.1) (σ.2.2.2.2.2.2.2.2.2.2.2.1) (σ.2.2.2.2.2.2.2.2.2.2.2.2.1) (σ.2.2.2.2.2.2.2.2.2.2.2.2.2.1) (σ.2.2.2.2.2.2.2.2.2.2.2.2.2.2.1) (σ.2.2.2.2.2.2.2.2.2.2.2.2.2.2.2)) (fun σ : Int32 × Int32 × Int32 × (Nat → Int32) × (Nat → Int32) × (Nat → Int32) => fX12_bestOf_14B (nI (34 + 15 * x)) (nI 6) (nI j) as' (σ.1) (σ.2.1) (σ.2.2.1) (σ.2.2.2.1) (σ.2.2.2.2.1) (σ.2.2.2.2.2)) (fun i s u => ∃ (b l : Int32) (w : TW) (n1 p1 : Nat → Int32), s = (b, l, nI i, w) ∧ u = (b, l, nI i, d, n1, p1)) (fun r q => ∃ (b l : Int32) (w : TW) (n1 p1 : Nat → Int32), r = (b, l, nI 7, w) ∧ q = (b, l, nI 7, d, n1, p1)) 7
        (fun i s u hi hI => by
          obtain ⟨b, l, w, n1, p1, rfl, rfl⟩ := hI
          obtain ⟨u1, u2, u3, u4, u5, u6, u7, u8, u9, u10, u11, u12, ts⟩ := w
          obtain ⟨w1, k1, o1, sS, sW, wa, sp, ki, mk, sv, fr, te, hf, hCt, hGt⟩ := c_follow (t_weight := u1) (t_known := u2) (t_hour := u3) (t_swS := u4) (t_swW := u5) (t_waS := u6) (t_spoons := u7) (t_kind := u8) (t_mark := u9) (t_silver := u10) (t_fresh := u11) (t_texts := u12) hC hG
          have nx : nI i + nI 1 = nI (i + 1) := by
            rw [nI_add]
          have W2 : Wf (sC A (upN (aC A) x i)) := Wf_sC hW (upN_le hW.2.2.2.2.2.2.2.1 (by omega))
          have C2 := RC_C hCt (s := x) i
          have M2 : RM (upd d (34 + 15 * x) (nI i)) (sC A (upN (aC A) x i)) := RM_C hM (s := x) i (by omega)
          have S2 : Sm d (upd d (34 + 15 * x) (nI i)) := Sm_upd (by omega)
          obtain ⟨k', o', v', f', ts', g1, g2⟩ := c_hours (E := E) (texts := te) (L := L) (tx := tx) W2 C2 hGt.gc (n := j) (by omega) (by show aH A + j ≤ 10100; omega) ts
          obtain ⟨d', n', p', g3, g4, g5⟩ := m_hours (n := j) W2 M2 (hT.sm S2).tgs (by omega) (by show aH A + j ≤ 10100; omega) n1 p1
          have hbk := m_back (d' := d') hk2 (S2.tr g5).2.2.2
          have hK := (Wf_runA (E := E) W2 j (by show aH A + j ≤ 10100; omega)).2.2.1
          have ek : k' = nI (aK (runA E j (sC A (upN (aC A) x i)))) := g2.2.1
          have e2 : d' 2 = nI (aK (runA E j (sC A (upN (aC A) x i)))) := g4.2.2.1
          have g11 : ∀ y, (if l ≤ nI (pc (aK (runA E j (sC A (upN (aC A) x i))))) then fX11_kindFor_98 (nI x) (nI j) b l (nI i) errors h_weight h_known h_hour h_swS h_swW h_waS h_spoons h_kind h_mark h_silver h_fresh h_texts w1 k' o' sS sW wa sp (upd ki x (nI i)) mk v' f' te L tx ts' else fX11_kindFor_98 (nI x) (nI j) (nI i) (nI (pc (aK (runA E j (sC A (upN (aC A) x i)))))) (nI i) errors h_weight h_known h_hour h_swS h_swW h_waS h_spoons h_kind h_mark h_silver h_fresh h_texts w1 k' o' sS sW wa sp (upd ki x (nI i)) mk v' f' te L tx ts') = y → fX11_kindFor_31B (nI x) (nI j) errors h_weight h_known h_hour h_swS h_swW h_waS h_spoons h_kind h_mark h_silver h_fresh h_texts L tx b l (nI i) u1 u2 u3 u4 u5 u6 u7 u8 u9 u10 u11 u12 ts = y := fun y hy => by
            unfold fX11_kindFor_31B
            rw [o_7, if_neg (by rw [nI_leI (by decide) (by omega)]; omega), bd_of hf]
            dsimp only
            rw [ckI_s (by omega) (by omega), nI_clamp (by omega), bnd_q, bd_of g1]
            dsimp only
            rw [ek, bd_of (c_bc hK), bd_of (c_bc hK), ← ek]
            exact hy
          have g12 : ∀ y, (if l ≤ nI (pc (aK (runA E j (sC A (upN (aC A) x i))))) then fX12_bestOf_51 (nI (34 + 15 * x)) (nI 6) (nI j) b l (nI i) d as' n' p' else fX12_bestOf_51 (nI (34 + 15 * x)) (nI 6) (nI j) (nI i) (nI (pc (aK (runA E j (sC A (upN (aC A) x i)))))) (nI i) d as' n' p') = y → fX12_bestOf_14B (nI (34 + 15 * x)) (nI 6) (nI j) as' b l (nI i) d n1 p1 = y := fun y hy => by
            unfold fX12_bestOf_14B fX12_spreadsBehind
            rw [if_neg (by rw [nI_ltI (by decide) (by omega)]; omega), ckI_s (by omega) (by omega), nI_clamp (by omega), bnd_q, bd_of g3]
            dsimp only
            rw [o_2, ckI_s (by decide) (by decide), nI_clamp (by decide), e2, bd_of (m_ones hK), bd_of hbk]
            exact hy
          by_cases hc : l ≤ nI (pc (aK (runA E j (sC A (upN (aC A) x i)))))
          · refine Or.inl ⟨(b, l, nI (i + 1), w1, k', o', sS, sW, wa, sp, upd ki x (nI i), mk, v', f', te, ts'), (b, l, nI (i + 1), d, n', p'), g11 _ ?_, g12 _ ?_, b, l, _, n', p', rfl, rfl⟩
            · rw [if_pos hc]
              unfold fX11_kindFor_98
              rw [bnd_q, o_1, nx]
            · rw [if_pos hc]
              unfold fX12_bestOf_51
              rw [bnd_q, o_1, nx]
          · refine Or.inl ⟨(nI i, nI (pc (aK (runA E j (sC A (upN (aC A) x i))))), nI (i + 1), w1, k', o', sS, sW, wa, sp, upd ki x (nI i), mk, v', f', te, ts'), (nI i, nI (pc (aK (runA E j (sC A (upN (aC A) x i))))), nI (i + 1), d, n', p'), g11 _ ?_, g12 _ ?_, _, _, _, n', p', rfl, rfl⟩
            · rw [if_neg hc]
              unfold fX11_kindFor_98
              rw [bnd_q, o_1, nx]
            · rw [if_neg hc]
              unfold fX12_bestOf_51
              rw [bnd_q, o_1, nx])
        (fun s u hI => by
          obtain ⟨b, l, w, n1, p1, rfl, rfl⟩ := hI
          obtain ⟨u1, u2, u3, u4, u5, u6, u7, u8, u9, u10, u11, u12, ts⟩ := w
          refine ⟨(b, l, nI 7, u1, u2, u3, u4, u5, u6, u7, u8, u9, u10, u11, u12, ts), (b, l, nI 7, d, n1, p1), ?_, ?_, b, l, _, n1, p1, rfl, rfl⟩
          · show fX11_kindFor_31B (nI x) (nI j) errors h_weight h_known h_hour h_swS h_swW h_waS h_spoons h_kind h_mark h_silver h_fresh h_texts L tx b l (nI 7) u1 u2 u3 u4 u5 u6 u7 u8 u9 u10 u11 u12 ts = _
            unfold fX11_kindFor_31B
            rw [if_pos (by decide)]
          · show fX12_bestOf_14B (nI (34 + 15 * x)) (nI 6) (nI j) as' b l (nI 7) d n1 p1 = _
            unfold fX12_bestOf_14B
            rw [if_pos (by decide)])
        (FU_lt (by decide)) ((nI 0), nI 13, nI 0, (t_weight, t_known, t_hour, t_swS, t_swW, t_waS, t_spoons, t_kind, t_mark, t_silver, t_fresh, t_texts, tst)) ((nI 0), nI 13, nI 0, d, names, pile) ⟨(nI 0), nI 13, (t_weight, t_known, t_hour, t_swS, t_swW, t_waS, t_spoons, t_kind, t_mark, t_silver, t_fresh, t_texts, tst), names, pile, rfl, rfl⟩
      subst e1
      subst e2
      have hb : fX12_bestOf_14 (nI (34 + 15 * x)) (nI 6) (nI j) (nI 0) (nI 13) (nI 0) d as' names pile = some (b, d, as', n1, p1) := by
        unfold fX12_bestOf_14
        exact (bd_of l2).trans rfl
      have hc : fX11_kindFor_31 (nI x) (nI j) (nI 0) (nI 13) (nI 0) errors h_weight h_known h_hour h_swS h_swW h_waS h_spoons h_kind h_mark h_silver h_fresh h_texts t_weight t_known t_hour t_swS t_swW t_waS t_spoons t_kind t_mark t_silver t_fresh t_texts L tx tst = some (b, errors, w) := by
        unfold fX11_kindFor_31
        refine (bd_of l1).trans ?_
        obtain ⟨u1, u2, u3, u4, u5, u6, u7, u8, u9, u10, u11, u12, ts⟩ := w
        rfl
      refine ⟨b, errors, w, as', found, n1, p1, ?_, ?_, he⟩
      · have g11 : fX11_kindFor (nI x) (nI j) errors h_weight h_known h_hour h_swS h_swW h_waS h_spoons h_kind h_mark h_silver h_fresh h_texts t_weight t_known t_hour t_swS t_swW t_waS t_spoons t_kind t_mark t_silver t_fresh t_texts L tx tst = fX11_kindFor_31 (nI x) (nI j) (nI 0) (nI 13) (nI 0) errors h_weight h_known h_hour h_swS h_swW h_waS h_spoons h_kind h_mark h_silver h_fresh h_texts t_weight t_known t_hour t_swS t_swW t_waS t_spoons t_kind t_mark t_silver t_fresh t_texts L tx tst := by
          unfold fX11_kindFor
          rw [qN, bd_of (c_isSj (by omega) (by omega)), b2_t hx, if_neg (by decide), bd_of (c_isBehind _), b2_t c1, if_neg (by decide)]
          rfl
        exact g11.trans hc
      · have g12 : fX12_kindFor (nI x) (nI j) d aside found names pile = bd (fX12_bestOf (nI (34 + 15 * x)) (nI 0) (nI 6) (nI j) d aside names pile) (fun (r, d1, a1, n1, p1) => some (r, d1, a1, found, n1, p1)) := by
          unfold fX12_kindFor
          rw [bd_of (m_isSj r0 fN (by omega)), b2_t hx, if_neg (by decide), bd_of (m_isAhead _), b2_t c1, if_neg (by decide), o_34, o_15, pk_mul, nI_add, o_6]
          rfl
        have g13 : fX12_bestOf (nI (34 + 15 * x)) (nI 0) (nI 6) (nI j) d aside names pile = some (b, d, as', n1, p1) := by
          unfold fX12_bestOf
          rw [bd_of hk1]
          exact hb
        exact g12.trans ((bd_of g13).trans rfl)
    · refine ⟨(-1000000001 : Int32), upd errors 1 (errors 1 + nI 1), (t_weight, t_known, t_hour, t_swS, t_swW, t_waS, t_spoons, t_kind, t_mark, t_silver, t_fresh, t_texts, tst), aside, upd found 1 (found 1 + nI 1), names, pile, ?_, ?_, Re_up he 1 (by decide)⟩
      · unfold fX11_kindFor
        rw [o_0, qN, bd_of (c_isSj (by omega) (by omega)), b2_t hx, if_neg (by decide), bd_of (c_isBehind _), b2_f c1, if_pos rfl, bd_of (c_ref1 _)]
      · unfold fX12_kindFor
        rw [bd_of (m_isSj r0 fN (by omega)), b2_t hx, if_neg (by decide), bd_of (m_isAhead _), b2_f c1, if_pos (show nI 0 = (0 : Int32) from rfl), o_1, bd_of (m_fin1 _)]
  · refine ⟨(-1000000001 : Int32), upd errors 1 (errors 1 + nI 1), (t_weight, t_known, t_hour, t_swS, t_swW, t_waS, t_spoons, t_kind, t_mark, t_silver, t_fresh, t_texts, tst), aside, upd found 1 (found 1 + nI 1), names, pile, ?_, ?_, Re_up he 1 (by decide)⟩
    · simp (disch := omega) only [fX11_kindFor, qN, c_isSp, if_neg c0, o_69, l_6, c_isWord, c_isSetOfWords, c_isUse, c_isSheet, c_isBehind, c_mayB, c_wi, m_isWord, m_areWords, m_isSheet, m_isAhead, m_isKm, m_in, l_n1, o_n1, b2if, ck_s b2_z, c_ref1, c_ref2, c_ref3, c_ref4, c_ref5, m_fin1, m_fin2, m_fin3, m_fin4, m_fin5, l_0, l_1, l_2, l_3, l_5, l_7, l_8, l_9, l_11, l_12, l_16, l_20, l_30, l_40, l_60, l_69, l_99, l_4095, if_true, if_false, nI_add, pk_mul, nI_clamp, nI_leI, nI_ltI, nI_eq, ckI_s, bd_q, bnd_q, if_pos, if_neg, o_0, o_1, o_2, o_3, o_4, o_5, o_6, o_7, o_8, o_9, o_10, o_11, o_12, o_13, o_14, o_15, o_16, o_17, o_18, o_19, o_20, o_21, o_22, o_23, o_24, o_25, o_26, o_27, o_28, o_29, o_30, o_31, o_32, o_33, o_34, o_35, o_36, o_37, o_38, o_39, o_40, o_41, o_42, o_43, o_44, o_45, o_46, o_47, o_48, o_49, o_50, o_51, o_52, o_53, o_54, o_55, o_56, o_57, o_58, o_59, o_60, o_62, o_70, o_71, o_99, o_124, o_154, o_156, o_176, o_255, o_276, o_326, o_4095, o_9999, o_10000, o_10001, o_20000, o_20033]
    · simp (disch := omega) only [fX12_kindFor, m_isSp _ r0, if_neg c0, o_69, l_6, c_isWord, c_isSetOfWords, c_isUse, c_isSheet, c_isBehind, c_mayB, c_wi, m_isWord, m_areWords, m_isSheet, m_isAhead, m_isKm, m_in, l_n1, o_n1, b2if, ck_s b2_z, c_ref1, c_ref2, c_ref3, c_ref4, c_ref5, m_fin1, m_fin2, m_fin3, m_fin4, m_fin5, l_0, l_1, l_2, l_3, l_5, l_7, l_8, l_9, l_11, l_12, l_16, l_20, l_30, l_40, l_60, l_69, l_99, l_4095, if_true, if_false, nI_add, pk_mul, nI_clamp, nI_leI, nI_ltI, nI_eq, ckI_s, bd_q, bnd_q, if_pos, if_neg, o_0, o_1, o_2, o_3, o_4, o_5, o_6, o_7, o_8, o_9, o_10, o_11, o_12, o_13, o_14, o_15, o_16, o_17, o_18, o_19, o_20, o_21, o_22, o_23, o_24, o_25, o_26, o_27, o_28, o_29, o_30, o_31, o_32, o_33, o_34, o_35, o_36, o_37, o_38, o_39, o_40, o_41, o_42, o_43, o_44, o_45, o_46, o_47, o_48, o_49, o_50, o_51, o_52, o_53, o_54, o_55, o_56, o_57, o_58, o_59, o_60, o_62, o_70, o_71, o_99, o_124, o_154, o_156, o_176, o_255, o_276, o_326, o_4095, o_9999, o_10000, o_10001, o_20000, o_20033]
theorem E_odds (n a b : Int32) (tst : Nat → Nat → Int32) (aside names pile : Nat → Int32) (he : Re errors found) (hh : Rh h_weight h_known h_hour h_swS h_swW h_waS h_spoons h_kind h_mark h_silver h_fresh h_texts h_tape h_tapeCount h_z h_waiting h_waitingCount d L tx) : ∃ (r : Int32) (errorsR : Nat → Int32) (w : TW) (asR foundR nR pR : Nat → Int32), fX11_odds n a b errors h_weight h_known h_hour h_swS h_swW h_waS h_spoons h_kind h_mark h_silver h_fresh h_texts t_weight t_known t_hour t_swS t_swW t_waS t_spoons t_kind t_mark t_silver t_fresh t_texts L tx tst = some (r, errorsR, w) ∧ fX12_odds n a b d aside found names pile = some (r, d, asR, foundR, nR, pR) ∧ Re errorsR foundR := by
  obtain ⟨A, E, hW, hH, hM, hC, hT, hG, hO⟩ := hh
  have r0 := hM.1
  have qN := hC.2.2.2.2.2.2.1
  have fN := hW.1
  have bad : fX11_odds_26 errors h_weight h_known h_hour h_swS h_swW h_waS h_spoons h_kind h_mark h_silver h_fresh h_texts t_weight t_known t_hour t_swS t_swW t_waS t_spoons t_kind t_mark t_silver t_fresh t_texts L tx tst = some ((-1000000001 : Int32), upd errors 1 (errors 1 + nI 1), (t_weight, t_known, t_hour, t_swS, t_swW, t_waS, t_spoons, t_kind, t_mark, t_silver, t_fresh, t_texts, tst)) := by
    unfold fX11_odds_26
    rw [bd_of (c_ref1 _)]
  have bad2 : fX12_odds_29 d aside found names pile = some ((-1000000001 : Int32), d, aside, upd found 1 (found 1 + nI 1), names, pile) := by
    unfold fX12_odds_29
    rw [o_1, bd_of (m_fin1 _)]
  by_cases c0 : nI 0 ≤ n ∧ n ≤ nI 30
  · obtain ⟨j, hj, rfl⟩ := bt_of (by decide) c0
    by_cases c1 : nI 0 ≤ a ∧ a ≤ nI 11
    · obtain ⟨x, hx, rfl⟩ := bt_of (by decide) c1
      by_cases c2 : nI 0 ≤ b ∧ b ≤ nI 1
      · obtain ⟨y, hy, rfl⟩ := bt_of (by decide) c2
        obtain ⟨as', hk1, hk2⟩ := m_keep d aside
        have hpl : aH A % 6 < 6 := Nat.mod_lt _ (by decide)
        obtain ⟨r, q, l1, l2, m, w, n1, p1, hm, e1, e2⟩ := lpQ (fun σ : Int32 × Int32 × (Nat → Int32) × Int32 × Int32 × (Nat → Int32) × (Nat → Int32) × (Nat → Int32) × Int32 × (Nat → Int32) × (Nat → Int32) × (Nat → Int32) × (Nat → Int64) × (Nat → Option Nat) × (Nat → Nat → Int32) => fX11_odds_39B (nI j) (nI x) (nI y) errors h_weight h_known h_hour h_swS h_swW h_waS h_spoons h_kind h_mark h_silver h_fresh h_texts L tx (σ.1) (σ.2.1) (σ.2.2.1) (σ.2.2.2.1) (σ.2.2.2.2.1) (σ.2.2.2.2.2.1) (σ.2.2.2.2.2.2.1) (σ.2.2.2.2.2.2.2.1) (σ.2.2.2.2.2.2.2.2.1) (σ.2.2.2.2.2.2.2.2.2.1) (σ.2.2.2.2.2.2.2.2.2.2.1) (σ.2.2.2.2.2.2.2.2.2.2.2.1) (σ.2.2.2.2.2.2.2.2.2.2.2.2.1) (σ.2.2.2.2.2.2.2.2.2.2.2.2.2.1) (σ.2.2.2.2.2.2.2.2.2.2.2.2.2.2)) (fun σ : Int32 × Int32 × (Nat → Int32) × (Nat → Int32) × (Nat → Int32) => fX12_odds_45B (nI j) (nI x) (nI y) as' found (σ.1) (σ.2.1) (σ.2.2.1) (σ.2.2.2.1) (σ.2.2.2.2)) (fun i s u => ∃ (m : Nat) (w : TW) (n1 p1 : Nat → Int32), m ≤ i ∧ s = (nI m, nI i, w) ∧ u = (nI m, nI i, d, n1, p1)) (fun r q => ∃ (m : Nat) (w : TW) (n1 p1 : Nat → Int32), m ≤ 12 ∧ r = (nI m, nI 12, w) ∧ q = (nI m, nI 12, d, n1, p1)) 12
          (fun i s u hi hI => by
            obtain ⟨m, w, n1, p1, hm, rfl, rfl⟩ := hI
            obtain ⟨u1, u2, u3, u4, u5, u6, u7, u8, u9, u10, u11, u12, ts⟩ := w
            obtain ⟨w1, k1, o1, sS, sW, wa, sp, ki, mk, sv, fr, te, hf, hCt, hGt⟩ := c_follow (t_weight := u1) (t_known := u2) (t_hour := u3) (t_swS := u4) (t_swW := u5) (t_waS := u6) (t_spoons := u7) (t_kind := u8) (t_mark := u9) (t_silver := u10) (t_fresh := u11) (t_texts := u12) hC hG
            have W2 : Wf (sD A (upN (aD A) (aH A % 6) i)) := Wf_sD hW (upN_le hW.2.2.2.2.2.1 (by omega))
            have C2 := RC_D hCt (j := aH A % 6) i
            have M2 := RM_D hM (j := aH A % 6) i hpl
            have S2 : Sm d (upd d (24 + aH A % 6) (nI i)) := Sm_upd (by omega)
            obtain ⟨k', o', v', f', ts', g1, g2⟩ := c_hours (E := E) (texts := te) (L := L) (tx := tx) W2 C2 hGt.gc (n := j) (by omega) (by show aH A + j ≤ 10100; omega) ts
            obtain ⟨d', n', p', g3, g4, g5⟩ := m_hours (n := j) W2 M2 (hT.sm S2).tgs (by omega) (by show aH A + j ≤ 10100; omega) n1 p1
            have hbk := m_back (d' := d') hk2 (S2.tr g5).2.2.2
            have hK := (Wf_runA (E := E) W2 j (by show aH A + j ≤ 10100; omega)).2.2.1
            have ek : k' = nI (aK (runA E j (sD A (upN (aD A) (aH A % 6) i)))) := g2.2.1
            have e2 : d' 2 = nI (aK (runA E j (sD A (upN (aD A) (aH A % 6) i)))) := g4.2.2.1
            have eo : o1 = nI (aH A) := hCt.2.2.1
            have r1 := hM.2.1
            have g11 : ∀ z, (if b2 (aK (runA E j (sD A (upN (aD A) (aH A % 6) i))) / 2 ^ x % 2 = 1) = 0 then fX11_odds_96 (nI j) (nI x) (nI y) (nI m) (nI i) errors h_weight h_known h_hour h_swS h_swW h_waS h_spoons h_kind h_mark h_silver h_fresh h_texts w1 k' o' sS (upd sW (aH A % 6) (nI i)) wa sp ki mk v' f' te L tx ts' else bnd (nI m + (1 : Int32)) fun y_46 => fX11_odds_96 (nI j) (nI x) (nI y) y_46 (nI i) errors h_weight h_known h_hour h_swS h_swW h_waS h_spoons h_kind h_mark h_silver h_fresh h_texts w1 k' o' sS (upd sW (aH A % 6) (nI i)) wa sp ki mk v' f' te L tx ts') = z → fX11_odds_39B (nI j) (nI x) (nI y) errors h_weight h_known h_hour h_swS h_swW h_waS h_spoons h_kind h_mark h_silver h_fresh h_texts L tx (nI m) (nI i) u1 u2 u3 u4 u5 u6 u7 u8 u9 u10 u11 u12 ts = z := fun z hz => by
              unfold fX11_odds_39B
              rw [o_12, if_neg (by rw [nI_leI (by decide) (by omega)]; omega), bd_of hf]
              dsimp only
              rw [show fX3_swallowPlace o1 = some (nI (aH A % 6)) by rw [eo]; exact c_place (by omega), bd_q, ckI_s hpl (by omega), nI_clamp (by omega), bnd_q, bd_of g1]
              dsimp only
              rw [ek, bd_of (kn_c hK (by omega)), ← ek]
              exact hz
            have g12 : ∀ z, some (Sum.inl (nI (m + aK (runA E j (sD A (upN (aD A) (aH A % 6) i))) / 2 ^ x % 2), nI (i + 1), d, n', p')) = z → fX12_odds_45B (nI j) (nI x) (nI y) as' found (nI m) (nI i) d n1 p1 = z := fun z hz => by
              unfold fX12_odds_45B
              rw [o_12, if_neg (by rw [nI_leI (by decide) (by omega)]; omega), o_1, ckI_s (by decide) (by decide), nI_clamp (by decide), r1, o_6, pk_rem (by omega) (by decide) (by decide), o_24, nI_add, ckI_s (by omega) (by omega), nI_clamp (by omega), bnd_q, bd_of g3]
              dsimp only
              rw [o_2, ckI_s (by decide) (by decide), nI_clamp (by decide), e2, show (31 : Int32) = nI 31 from rfl, q_shr (by omega) (by omega), q_bit, bnd_q, bd_of hbk, bnd_q, nI_add, nI_add]
              exact hz
            rcases bit2 (aK (runA E j (sD A (upN (aD A) (aH A % 6) i)))) x with hb | hb
            · refine Or.inl ⟨(nI m, nI (i + 1), w1, k', o', sS, upd sW (aH A % 6) (nI i), wa, sp, ki, mk, v', f', te, ts'), (nI m, nI (i + 1), d, n', p'), g11 _ ?_, g12 _ ?_, m, _, n', p', by omega, rfl, rfl⟩
              · rw [b2_f (by omega), if_pos (show nI 0 = (0 : Int32) from rfl)]
                unfold fX11_odds_96
                rw [bnd_q, o_1, nI_add]
              · rw [hb, Nat.add_zero]
            · refine Or.inl ⟨(nI (m + 1), nI (i + 1), w1, k', o', sS, upd sW (aH A % 6) (nI i), wa, sp, ki, mk, v', f', te, ts'), (nI (m + 1), nI (i + 1), d, n', p'), g11 _ ?_, g12 _ ?_, m + 1, _, n', p', by omega, rfl, rfl⟩
              · rw [b2_t hb, if_neg (by decide), bnd_q]
                unfold fX11_odds_96
                rw [bnd_q, o_1, nI_add, nI_add]
              · rw [hb])
          (fun s u hI => by
            obtain ⟨m, w, n1, p1, hm, rfl, rfl⟩ := hI
            obtain ⟨u1, u2, u3, u4, u5, u6, u7, u8, u9, u10, u11, u12, ts⟩ := w
            refine ⟨(nI m, nI 12, u1, u2, u3, u4, u5, u6, u7, u8, u9, u10, u11, u12, ts), (nI m, nI 12, d, n1, p1), ?_, ?_, m, _, n1, p1, hm, rfl, rfl⟩
            · show fX11_odds_39B (nI j) (nI x) (nI y) errors h_weight h_known h_hour h_swS h_swW h_waS h_spoons h_kind h_mark h_silver h_fresh h_texts L tx (nI m) (nI 12) u1 u2 u3 u4 u5 u6 u7 u8 u9 u10 u11 u12 ts = _
              unfold fX11_odds_39B
              rw [if_pos (by decide)]
            · show fX12_odds_45B (nI j) (nI x) (nI y) as' found (nI m) (nI 12) d n1 p1 = _
              unfold fX12_odds_45B
              rw [if_pos (by decide)])
          (FU_lt (by decide)) (nI 0, nI 0, (t_weight, t_known, t_hour, t_swS, t_swW, t_waS, t_spoons, t_kind, t_mark, t_silver, t_fresh, t_texts, tst)) (nI 0, nI 0, d, names, pile) ⟨0, (t_weight, t_known, t_hour, t_swS, t_swW, t_waS, t_spoons, t_kind, t_mark, t_silver, t_fresh, t_texts, tst), names, pile, by omega, rfl, rfl⟩
        subst e1
        subst e2
        have k1 := cm_c m (by omega)
        have k2 := cm_m m (by omega)
        have k3 := cm_0 m (by omega)
        have g11 : ∀ z, (if nI y = (0 : Int32) then ck (¬ nI (Nat.gcd m 12) = 0) (some ((nI m / nI (Nat.gcd m 12)), errors, w)) else ck (¬ nI (Nat.gcd m 12) = 0) (some ((nI 12 / nI (Nat.gcd m 12)), errors, w))) = z → fX11_odds (nI j) (nI x) (nI y) errors h_weight h_known h_hour h_swS h_swW h_waS h_spoons h_kind h_mark h_silver h_fresh h_texts t_weight t_known t_hour t_swS t_swW t_waS t_spoons t_kind t_mark t_silver t_fresh t_texts L tx tst = z := fun z hz => by
          unfold fX11_odds
          rw [o_30, o_1, show fX11_within (nI j) (0 : Int32) (nI 30) = _ from c_wi _ (nI 0) _, bd_q, b2_t c0, if_neg (by decide), bd_of (c_isWord _), b2_t c1, if_neg (by decide), show fX11_within (nI y) (0 : Int32) (nI 1) = _ from c_wi _ (nI 0) _, bd_q, b2_t c2, if_neg (by decide)]
          unfold fX11_odds_39
          refine (bd_of l1).trans ?_
          obtain ⟨u1, u2, u3, u4, u5, u6, u7, u8, u9, u10, u11, u12, ts⟩ := w
          dsimp only
          rw [o_12, bd_of k1]
          exact hz
        have g12 : ∀ z, (if nI y = (0 : Int32) then ck (¬ nI (Nat.gcd m 12) = 0) (some ((nI m / nI (Nat.gcd m 12)), d, as', found, n1, p1)) else ck (¬ nI (Nat.gcd m 12) = 0) (some ((nI 12 / nI (Nat.gcd m 12)), d, as', found, n1, p1))) = z → fX12_odds (nI j) (nI x) (nI y) d aside found names pile = z := fun z hz => by
          unfold fX12_odds
          rw [l_0, l_30, bd_of (m_in _ _ _), b2_t c0, if_neg (by decide), bd_of (m_isWord _), b2_t c1, if_neg (by decide), l_1, bd_of (m_in _ _ _), b2_t c2, if_neg (by decide), bd_of hk1]
          unfold fX12_odds_45
          refine (bd_of l2).trans ?_
          dsimp only
          rw [o_12, bd_of k2, bd_of k2]
          exact hz
        by_cases hy0 : nI y = (0 : Int32)
        · refine ⟨nI m / nI (Nat.gcd m 12), errors, w, as', found, n1, p1, g11 _ ?_, g12 _ ?_, he⟩
          · rw [if_pos hy0, ck_s k3]
          · rw [if_pos hy0, ck_s k3]
        · refine ⟨nI 12 / nI (Nat.gcd m 12), errors, w, as', found, n1, p1, g11 _ ?_, g12 _ ?_, he⟩
          · rw [if_neg hy0, ck_s k3]
          · rw [if_neg hy0, ck_s k3]
      · refine ⟨(-1000000001 : Int32), upd errors 1 (errors 1 + nI 1), (t_weight, t_known, t_hour, t_swS, t_swW, t_waS, t_spoons, t_kind, t_mark, t_silver, t_fresh, t_texts, tst), aside, upd found 1 (found 1 + nI 1), names, pile, ?_, ?_, Re_up he 1 (by decide)⟩
        · simp (disch := omega) only [fX11_odds, bad, if_neg c2, o_69, l_6, c_isWord, c_isSetOfWords, c_isUse, c_isSheet, c_isBehind, c_mayB, c_wi, m_isWord, m_areWords, m_isSheet, m_isAhead, m_isKm, m_in, l_n1, o_n1, b2if, ck_s b2_z, c_ref1, c_ref2, c_ref3, c_ref4, c_ref5, m_fin1, m_fin2, m_fin3, m_fin4, m_fin5, l_0, l_1, l_2, l_3, l_5, l_7, l_8, l_9, l_11, l_12, l_16, l_20, l_30, l_40, l_60, l_69, l_99, l_4095, if_true, if_false, nI_add, pk_mul, nI_clamp, nI_leI, nI_ltI, nI_eq, ckI_s, bd_q, bnd_q, if_pos, if_neg, o_0, o_1, o_2, o_3, o_4, o_5, o_6, o_7, o_8, o_9, o_10, o_11, o_12, o_13, o_14, o_15, o_16, o_17, o_18, o_19, o_20, o_21, o_22, o_23, o_24, o_25, o_26, o_27, o_28, o_29, o_30, o_31, o_32, o_33, o_34, o_35, o_36, o_37, o_38, o_39, o_40, o_41, o_42, o_43, o_44, o_45, o_46, o_47, o_48, o_49, o_50, o_51, o_52, o_53, o_54, o_55, o_56, o_57, o_58, o_59, o_60, o_62, o_70, o_71, o_99, o_124, o_154, o_156, o_176, o_255, o_276, o_326, o_4095, o_9999, o_10000, o_10001, o_20000, o_20033]
        · simp (disch := omega) only [fX12_odds, bad2, if_neg c2, l_30, o_69, l_6, c_isWord, c_isSetOfWords, c_isUse, c_isSheet, c_isBehind, c_mayB, c_wi, m_isWord, m_areWords, m_isSheet, m_isAhead, m_isKm, m_in, l_n1, o_n1, b2if, ck_s b2_z, c_ref1, c_ref2, c_ref3, c_ref4, c_ref5, m_fin1, m_fin2, m_fin3, m_fin4, m_fin5, l_0, l_1, l_2, l_3, l_5, l_7, l_8, l_9, l_11, l_12, l_16, l_20, l_30, l_40, l_60, l_69, l_99, l_4095, if_true, if_false, nI_add, pk_mul, nI_clamp, nI_leI, nI_ltI, nI_eq, ckI_s, bd_q, bnd_q, if_pos, if_neg, o_0, o_1, o_2, o_3, o_4, o_5, o_6, o_7, o_8, o_9, o_10, o_11, o_12, o_13, o_14, o_15, o_16, o_17, o_18, o_19, o_20, o_21, o_22, o_23, o_24, o_25, o_26, o_27, o_28, o_29, o_30, o_31, o_32, o_33, o_34, o_35, o_36, o_37, o_38, o_39, o_40, o_41, o_42, o_43, o_44, o_45, o_46, o_47, o_48, o_49, o_50, o_51, o_52, o_53, o_54, o_55, o_56, o_57, o_58, o_59, o_60, o_62, o_70, o_71, o_99, o_124, o_154, o_156, o_176, o_255, o_276, o_326, o_4095, o_9999, o_10000, o_10001, o_20000, o_20033]
    · refine ⟨(-1000000001 : Int32), upd errors 1 (errors 1 + nI 1), (t_weight, t_known, t_hour, t_swS, t_swW, t_waS, t_spoons, t_kind, t_mark, t_silver, t_fresh, t_texts, tst), aside, upd found 1 (found 1 + nI 1), names, pile, ?_, ?_, Re_up he 1 (by decide)⟩
      · simp (disch := omega) only [fX11_odds, bad, if_neg c1, o_69, l_6, c_isWord, c_isSetOfWords, c_isUse, c_isSheet, c_isBehind, c_mayB, c_wi, m_isWord, m_areWords, m_isSheet, m_isAhead, m_isKm, m_in, l_n1, o_n1, b2if, ck_s b2_z, c_ref1, c_ref2, c_ref3, c_ref4, c_ref5, m_fin1, m_fin2, m_fin3, m_fin4, m_fin5, l_0, l_1, l_2, l_3, l_5, l_7, l_8, l_9, l_11, l_12, l_16, l_20, l_30, l_40, l_60, l_69, l_99, l_4095, if_true, if_false, nI_add, pk_mul, nI_clamp, nI_leI, nI_ltI, nI_eq, ckI_s, bd_q, bnd_q, if_pos, if_neg, o_0, o_1, o_2, o_3, o_4, o_5, o_6, o_7, o_8, o_9, o_10, o_11, o_12, o_13, o_14, o_15, o_16, o_17, o_18, o_19, o_20, o_21, o_22, o_23, o_24, o_25, o_26, o_27, o_28, o_29, o_30, o_31, o_32, o_33, o_34, o_35, o_36, o_37, o_38, o_39, o_40, o_41, o_42, o_43, o_44, o_45, o_46, o_47, o_48, o_49, o_50, o_51, o_52, o_53, o_54, o_55, o_56, o_57, o_58, o_59, o_60, o_62, o_70, o_71, o_99, o_124, o_154, o_156, o_176, o_255, o_276, o_326, o_4095, o_9999, o_10000, o_10001, o_20000, o_20033]
      · simp (disch := omega) only [fX12_odds, bad2, if_neg c1, o_69, l_6, c_isWord, c_isSetOfWords, c_isUse, c_isSheet, c_isBehind, c_mayB, c_wi, m_isWord, m_areWords, m_isSheet, m_isAhead, m_isKm, m_in, l_n1, o_n1, b2if, ck_s b2_z, c_ref1, c_ref2, c_ref3, c_ref4, c_ref5, m_fin1, m_fin2, m_fin3, m_fin4, m_fin5, l_0, l_1, l_2, l_3, l_5, l_7, l_8, l_9, l_11, l_12, l_16, l_20, l_30, l_40, l_60, l_69, l_99, l_4095, if_true, if_false, nI_add, pk_mul, nI_clamp, nI_leI, nI_ltI, nI_eq, ckI_s, bd_q, bnd_q, if_pos, if_neg, o_0, o_1, o_2, o_3, o_4, o_5, o_6, o_7, o_8, o_9, o_10, o_11, o_12, o_13, o_14, o_15, o_16, o_17, o_18, o_19, o_20, o_21, o_22, o_23, o_24, o_25, o_26, o_27, o_28, o_29, o_30, o_31, o_32, o_33, o_34, o_35, o_36, o_37, o_38, o_39, o_40, o_41, o_42, o_43, o_44, o_45, o_46, o_47, o_48, o_49, o_50, o_51, o_52, o_53, o_54, o_55, o_56, o_57, o_58, o_59, o_60, o_62, o_70, o_71, o_99, o_124, o_154, o_156, o_176, o_255, o_276, o_326, o_4095, o_9999, o_10000, o_10001, o_20000, o_20033]
  · refine ⟨(-1000000001 : Int32), upd errors 1 (errors 1 + nI 1), (t_weight, t_known, t_hour, t_swS, t_swW, t_waS, t_spoons, t_kind, t_mark, t_silver, t_fresh, t_texts, tst), aside, upd found 1 (found 1 + nI 1), names, pile, ?_, ?_, Re_up he 1 (by decide)⟩
    · simp (disch := omega) only [fX11_odds, bad, if_neg c0, o_69, l_6, c_isWord, c_isSetOfWords, c_isUse, c_isSheet, c_isBehind, c_mayB, c_wi, m_isWord, m_areWords, m_isSheet, m_isAhead, m_isKm, m_in, l_n1, o_n1, b2if, ck_s b2_z, c_ref1, c_ref2, c_ref3, c_ref4, c_ref5, m_fin1, m_fin2, m_fin3, m_fin4, m_fin5, l_0, l_1, l_2, l_3, l_5, l_7, l_8, l_9, l_11, l_12, l_16, l_20, l_30, l_40, l_60, l_69, l_99, l_4095, if_true, if_false, nI_add, pk_mul, nI_clamp, nI_leI, nI_ltI, nI_eq, ckI_s, bd_q, bnd_q, if_pos, if_neg, o_0, o_1, o_2, o_3, o_4, o_5, o_6, o_7, o_8, o_9, o_10, o_11, o_12, o_13, o_14, o_15, o_16, o_17, o_18, o_19, o_20, o_21, o_22, o_23, o_24, o_25, o_26, o_27, o_28, o_29, o_30, o_31, o_32, o_33, o_34, o_35, o_36, o_37, o_38, o_39, o_40, o_41, o_42, o_43, o_44, o_45, o_46, o_47, o_48, o_49, o_50, o_51, o_52, o_53, o_54, o_55, o_56, o_57, o_58, o_59, o_60, o_62, o_70, o_71, o_99, o_124, o_154, o_156, o_176, o_255, o_276, o_326, o_4095, o_9999, o_10000, o_10001, o_20000, o_20033]
    · simp (disch := omega) only [fX12_odds, bad2, if_neg c0, o_69, l_6, c_isWord, c_isSetOfWords, c_isUse, c_isSheet, c_isBehind, c_mayB, c_wi, m_isWord, m_areWords, m_isSheet, m_isAhead, m_isKm, m_in, l_n1, o_n1, b2if, ck_s b2_z, c_ref1, c_ref2, c_ref3, c_ref4, c_ref5, m_fin1, m_fin2, m_fin3, m_fin4, m_fin5, l_0, l_1, l_2, l_3, l_5, l_7, l_8, l_9, l_11, l_12, l_16, l_20, l_30, l_40, l_60, l_69, l_99, l_4095, if_true, if_false, nI_add, pk_mul, nI_clamp, nI_leI, nI_ltI, nI_eq, ckI_s, bd_q, bnd_q, if_pos, if_neg, o_0, o_1, o_2, o_3, o_4, o_5, o_6, o_7, o_8, o_9, o_10, o_11, o_12, o_13, o_14, o_15, o_16, o_17, o_18, o_19, o_20, o_21, o_22, o_23, o_24, o_25, o_26, o_27, o_28, o_29, o_30, o_31, o_32, o_33, o_34, o_35, o_36, o_37, o_38, o_39, o_40, o_41, o_42, o_43, o_44, o_45, o_46, o_47, o_48, o_49, o_50, o_51, o_52, o_53, o_54, o_55, o_56, o_57, o_58, o_59, o_60, o_62, o_70, o_71, o_99, o_124, o_154, o_156, o_176, o_255, o_276, o_326, o_4095, o_9999, o_10000, o_10001, o_20000, o_20033]
end E7
