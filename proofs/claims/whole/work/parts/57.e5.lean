/-! hours, and what is only thought: the class and the reference alike -/
abbrev TW : Type := (Nat → Int32) × Int32 × Int32 × (Nat → Int32) × (Nat → Int32) × (Nat → Int32) × Int32 × (Nat → Int32) × (Nat → Int32) × (Nat → Int32) × (Nat → Int64) × (Nat → Option Nat) × (Nat → Nat → Int32)
theorem m_keep (d aside : Nat → Int32) : ∃ as', fX12_keepAside d aside = some as' ∧ ∀ k, k < 154 → as' k = d k := by
  unfold fX12_keepAside fX12_keepAside_2
  obtain ⟨⟨x, a2⟩, h1, h2⟩ := lpE (fun σ : Int32 × (Nat → Int32) => fX12_keepAside_2B d (σ.1) (σ.2)) (fun i σ => σ.1 = nI i ∧ ∀ k, k < i → σ.2 k = d k) (fun r => ∀ k, k < 154 → r.2 k = d k) 154
    (fun i σ hi hI => by
      obtain ⟨x, e⟩ := σ
      obtain ⟨e1, e2⟩ := hI
      dsimp only at e1 e2
      subst e1
      refine Or.inl ⟨(nI (i + 1), upd e i (d i)), ?_, rfl, fun k hk => ?_⟩
      · simp (disch := omega) only [fX12_keepAside_2B, if_true, if_false, nI_add, pk_mul, nI_clamp, nI_leI, nI_ltI, nI_eq, ckI_s, bd_q, bnd_q, if_pos, if_neg, o_0, o_1, o_2, o_3, o_4, o_5, o_6, o_7, o_8, o_9, o_10, o_11, o_12, o_13, o_14, o_15, o_16, o_17, o_18, o_19, o_20, o_21, o_22, o_23, o_24, o_25, o_26, o_27, o_28, o_29, o_30, o_31, o_32, o_33, o_34, o_35, o_36, o_37, o_38, o_39, o_40, o_41, o_42, o_43, o_44, o_45, o_46, o_47, o_48, o_49, o_50, o_51, o_52, o_53, o_54, o_55, o_56, o_57, o_58, o_59, o_60, o_62, o_70, o_71, o_99, o_124, o_154, o_156, o_176, o_255, o_276, o_326, o_4095, o_9999, o_10000, o_10001, o_20000, o_20033]
      · dsimp only
        by_cases e4 : k = i
        · subst e4
          rw [upd_s]
        · rw [upd_n e4]
          exact e2 k (by omega))
    (fun σ hI => by
      obtain ⟨x, e⟩ := σ
      obtain ⟨e1, e2⟩ := hI
      dsimp only at e1 e2
      subst e1
      refine ⟨(nI 154, e), ?_, e2⟩
      simp (disch := omega) only [fX12_keepAside_2B, if_true, if_false, nI_add, pk_mul, nI_clamp, nI_leI, nI_ltI, nI_eq, ckI_s, bd_q, bnd_q, if_pos, if_neg, o_0, o_1, o_2, o_3, o_4, o_5, o_6, o_7, o_8, o_9, o_10, o_11, o_12, o_13, o_14, o_15, o_16, o_17, o_18, o_19, o_20, o_21, o_22, o_23, o_24, o_25, o_26, o_27, o_28, o_29, o_30, o_31, o_32, o_33, o_34, o_35, o_36, o_37, o_38, o_39, o_40, o_41, o_42, o_43, o_44, o_45, o_46, o_47, o_48, o_49, o_50, o_51, o_52, o_53, o_54, o_55, o_56, o_57, o_58, o_59, o_60, o_62, o_70, o_71, o_99, o_124, o_154, o_156, o_176, o_255, o_276, o_326, o_4095, o_9999, o_10000, o_10001, o_20000, o_20033])
    (FU_lt (by decide)) (nI 0, aside) ⟨rfl, fun k hk => by omega⟩
  exact ⟨a2, (bd_of h1).trans rfl, h2⟩
theorem m_back {d d' as' : Nat → Int32} (h : ∀ k, k < 154 → as' k = d k) (h2 : ∀ k, 154 ≤ k → d' k = d k) : fX12_putBack d' as' = some d := by
  unfold fX12_putBack fX12_putBack_2
  obtain ⟨⟨x, a2⟩, h1, h3⟩ := lpE (fun σ : Int32 × (Nat → Int32) => fX12_putBack_2B as' (σ.1) (σ.2)) (fun i σ => σ.1 = nI i ∧ (∀ k, k < i → σ.2 k = d k) ∧ ∀ k, 154 ≤ k → σ.2 k = d k) (fun r => r.2 = d) 154
    (fun i σ hi hI => by
      obtain ⟨x, e⟩ := σ
      obtain ⟨e1, e2, e3⟩ := hI
      dsimp only at e1 e2 e3
      subst e1
      refine Or.inl ⟨(nI (i + 1), upd e i (as' i)), ?_, rfl, fun k hk => ?_, fun k hk => (upd_n (by omega)).trans (e3 k hk)⟩
      · simp (disch := omega) only [fX12_putBack_2B, if_true, if_false, nI_add, pk_mul, nI_clamp, nI_leI, nI_ltI, nI_eq, ckI_s, bd_q, bnd_q, if_pos, if_neg, o_0, o_1, o_2, o_3, o_4, o_5, o_6, o_7, o_8, o_9, o_10, o_11, o_12, o_13, o_14, o_15, o_16, o_17, o_18, o_19, o_20, o_21, o_22, o_23, o_24, o_25, o_26, o_27, o_28, o_29, o_30, o_31, o_32, o_33, o_34, o_35, o_36, o_37, o_38, o_39, o_40, o_41, o_42, o_43, o_44, o_45, o_46, o_47, o_48, o_49, o_50, o_51, o_52, o_53, o_54, o_55, o_56, o_57, o_58, o_59, o_60, o_62, o_70, o_71, o_99, o_124, o_154, o_156, o_176, o_255, o_276, o_326, o_4095, o_9999, o_10000, o_10001, o_20000, o_20033]
      · dsimp only
        by_cases e4 : k = i
        · subst e4
          rw [upd_s]
          exact h _ hi
        · rw [upd_n e4]
          exact e2 k (by omega))
    (fun σ hI => by
      obtain ⟨x, e⟩ := σ
      obtain ⟨e1, e2, e3⟩ := hI
      dsimp only at e1 e2 e3
      subst e1
      refine ⟨(nI 154, e), ?_, ?_⟩
      · simp (disch := omega) only [fX12_putBack_2B, if_true, if_false, nI_add, pk_mul, nI_clamp, nI_leI, nI_ltI, nI_eq, ckI_s, bd_q, bnd_q, if_pos, if_neg, o_0, o_1, o_2, o_3, o_4, o_5, o_6, o_7, o_8, o_9, o_10, o_11, o_12, o_13, o_14, o_15, o_16, o_17, o_18, o_19, o_20, o_21, o_22, o_23, o_24, o_25, o_26, o_27, o_28, o_29, o_30, o_31, o_32, o_33, o_34, o_35, o_36, o_37, o_38, o_39, o_40, o_41, o_42, o_43, o_44, o_45, o_46, o_47, o_48, o_49, o_50, o_51, o_52, o_53, o_54, o_55, o_56, o_57, o_58, o_59, o_60, o_62, o_70, o_71, o_99, o_124, o_154, o_156, o_176, o_255, o_276, o_326, o_4095, o_9999, o_10000, o_10001, o_20000, o_20033]
      · funext k
        by_cases hk : k < 154
        · exact e2 k hk
        · exact e3 k (by omega))
    (FU_lt (by decide)) (nI 0, d') ⟨rfl, fun k hk => by omega, h2⟩
  have h3 : a2 = d := h3
  subst h3
  exact (bd_of h1).trans rfl
theorem cpy0 {α : Type} {f g : Nat → α} {n j : Nat} (hj : j < n) : va_cpy f g (nI 0).toNatClampNeg (nI 0).toNatClampNeg n j = f j := by
  have e : (nI 0).toNatClampNeg = 0 := nI_clamp (by decide)
  unfold va_cpy
  rw [e, if_pos ⟨Nat.zero_le _, by omega⟩]
  congr 1
  omega
section E5
variable {errors found : Nat → Int32} {h_weight : Nat → Int32} {h_known : Int32} {h_hour : Int32} {h_swS : Nat → Int32} {h_swW : Nat → Int32} {h_waS : Nat → Int32} {h_spoons : Int32} {h_kind : Nat → Int32} {h_mark : Nat → Int32} {h_silver : Nat → Int32} {h_fresh : Nat → Int64} {h_texts : Nat → Option Nat} {h_tape : Nat → Int32} {h_tapeCount : Int32} {h_z : Int32} {h_waiting : Nat → Int32} {h_waitingCount : Int32} {d : Nat → Int32} {L : List Nat} {tx : Nat → TXc}
variable {t_weight : Nat → Int32} {t_known : Int32} {t_hour : Int32} {t_swS : Nat → Int32} {t_swW : Nat → Int32} {t_waS : Nat → Int32} {t_spoons : Int32} {t_kind : Nat → Int32} {t_mark : Nat → Int32} {t_silver : Nat → Int32} {t_fresh : Nat → Int64} {t_texts : Nat → Option Nat}
theorem c_follow {A : AS} {E : EVt} (hC : RC A h_weight h_known h_hour h_swS h_swW h_waS h_spoons h_kind h_mark h_silver h_fresh) (hG : TCc h_texts L tx E) : ∃ (weight' : Nat → Int32) (known' hour' : Int32) (swS' swW' waS' : Nat → Int32) (spoons' : Int32) (kind' mark' silver' : Nat → Int32) (fresh' : Nat → Int64) (texts' : Nat → Option Nat), fX3_follow t_weight t_known t_hour t_swS t_swW t_waS t_spoons t_kind t_mark t_silver t_fresh t_texts h_weight h_known h_hour h_swS h_swW h_waS h_spoons h_kind h_mark h_silver h_fresh h_texts L = some (weight', known', hour', swS', swW', waS', spoons', kind', mark', silver', fresh', texts') ∧ RC A weight' known' hour' swS' swW' waS' spoons' kind' mark' silver' fresh' ∧ TCc texts' L tx E := by
  obtain ⟨qW, qK, qH, qB, qD, qS, qN, qC, qM, qV, qF⟩ := hC
  have hin : ∀ use, use < 2 → ∀ o, h_texts use = some o → o ∈ L := fun use hu o ho => by
    rcases hG use hu with ⟨h1, -⟩ | ⟨o2, co, len, h1, h2, -⟩
    · rw [h1] at ho; cases ho
    · rw [h1] at ho
      exact Option.some.inj ho ▸ h2
  have key : ∀ T, (∀ use, use < 2 → T use = h_texts use) → TCc T L tx E := fun T hT use hu => by
    rw [hT use hu]
    exact hG use hu
  have rc : ∀ (w' : Nat → Int32), True := fun _ => trivial
  have hres : ∃ texts', (∀ use, use < 2 → texts' use = h_texts use) ∧ fX3_follow t_weight t_known t_hour t_swS t_swW t_waS t_spoons t_kind t_mark t_silver t_fresh t_texts h_weight h_known h_hour h_swS h_swW h_waS h_spoons h_kind h_mark h_silver h_fresh h_texts L = some (va_cpy h_weight t_weight (nI 0).toNatClampNeg (nI 0).toNatClampNeg 12, h_known, h_hour, va_cpy h_swS t_swS (nI 0).toNatClampNeg (nI 0).toNatClampNeg 6, va_cpy h_swW t_swW (nI 0).toNatClampNeg (nI 0).toNatClampNeg 6, va_cpy h_waS t_waS (nI 0).toNatClampNeg (nI 0).toNatClampNeg 4, h_spoons, va_cpy h_kind t_kind (nI 0).toNatClampNeg (nI 0).toNatClampNeg 8, va_cpy h_mark t_mark (nI 0).toNatClampNeg (nI 0).toNatClampNeg 8, va_cpy h_silver t_silver (nI 0).toNatClampNeg (nI 0).toNatClampNeg 8, va_cpy h_fresh t_fresh (nI 0).toNatClampNeg (nI 0).toNatClampNeg 8, texts') := by
    have n12 : (nI 12).toNatClampNeg = 12 := nI_clamp (by decide)
    have n6 : (nI 6).toNatClampNeg = 6 := nI_clamp (by decide)
    have n4 : (nI 4).toNatClampNeg = 4 := nI_clamp (by decide)
    have n8 : (nI 8).toNatClampNeg = 8 := nI_clamp (by decide)
    have n0 : (nI 0).toNatClampNeg = 0 := nI_clamp (by decide)
    have n1 : (nI 1).toNatClampNeg = 1 := nI_clamp (by decide)
    unfold fX3_follow
    cases e0 : h_texts 0 with
    | none =>
      cases e1 : h_texts 1 with
      | none =>
        refine ⟨va_up (va_up t_texts 0 none) 1 none, fun use hu => ?_, ?_⟩
        · rcases (show use = 0 ∨ use = 1 by omega) with e | e <;> subst e
          · rw [va_up_ne _ _ (by decide), va_up_self, e0]
          · rw [va_up_self, e1]
        · simp (disch := omega) only [o_0, o_1, o_12, o_6, o_4, o_8, bnd_q, ckI_s, n12, n6, n4, n8, n1, nI_clamp, e0, e1, onO_none]
      | some y =>
        have hy := hin 1 (by decide) y e1
        refine ⟨va_up (va_up t_texts 0 none) 1 (some y), fun use hu => ?_, ?_⟩
        · rcases (show use = 0 ∨ use = 1 by omega) with e | e <;> subst e
          · rw [va_up_ne _ _ (by decide), va_up_self, e0]
          · rw [va_up_self, e1]
        · simp (disch := omega) only [o_0, o_1, o_12, o_6, o_4, o_8, bnd_q, ckI_s, n12, n6, n4, n8, n1, nI_clamp, e0, e1, onO_none, onO_some, ck_s hy]
    | some x =>
      have hx := hin 0 (by decide) x e0
      cases e1 : h_texts 1 with
      | none =>
        refine ⟨va_up (va_up t_texts 0 (some x)) 1 none, fun use hu => ?_, ?_⟩
        · rcases (show use = 0 ∨ use = 1 by omega) with e | e <;> subst e
          · rw [va_up_ne _ _ (by decide), va_up_self, e0]
          · rw [va_up_self, e1]
        · simp (disch := omega) only [o_0, o_1, o_12, o_6, o_4, o_8, bnd_q, ckI_s, n12, n6, n4, n8, n1, nI_clamp, e0, e1, onO_none, onO_some, ck_s hx]
      | some y =>
        have hy := hin 1 (by decide) y e1
        refine ⟨va_up (va_up t_texts 0 (some x)) 1 (some y), fun use hu => ?_, ?_⟩
        · rcases (show use = 0 ∨ use = 1 by omega) with e | e <;> subst e
          · rw [va_up_ne _ _ (by decide), va_up_self, e0]
          · rw [va_up_self, e1]
        · simp (disch := omega) only [o_0, o_1, o_12, o_6, o_4, o_8, bnd_q, ckI_s, n12, n6, n4, n8, n1, nI_clamp, e0, e1, onO_some, ck_s hx, ck_s hy]
  obtain ⟨T', hT1, hT2⟩ := hres
  exact ⟨_, _, _, _, _, _, _, _, _, _, _, _, hT2, ⟨fun j hj => (cpy0 hj).trans (qW j hj), qK, qH, fun j hj => (cpy0 hj).trans (qB j hj), fun j hj => (cpy0 hj).trans (qD j hj), fun j hj => (cpy0 hj).trans (qS j hj), qN, fun j hj => (cpy0 hj).trans (qC j hj), fun j hj => (cpy0 hj).trans (qM j hj), fun j hj => (cpy0 hj).trans (qV j hj), fun j hj => (cpy0 hj).trans (qF j hj)⟩, key _ hT1⟩
theorem late_iff {h n : Nat} (hh : h ≤ 10100) (hn : n ≤ 100) : (nI h ≤ nI 9999 - nI n ↔ h + n ≤ 9999) := by
  rw [pk_sub (by omega), nI_leI (by omega) (by omega)]
  omega
theorem m_late {h n : Nat} (hh : h ≤ 10100) (hn : n ≤ 100) (r1 : d 1 = nI h) : fX12_isLate (nI n) d = some (b2 (¬ h + n ≤ 9999)) := by
  unfold fX12_isLate
  rw [o_1, ckI_s (by decide) (by decide), nI_clamp (by decide), r1, nI_add, o_9999]
  by_cases e : h + n ≤ 9999
  · rw [if_pos ((nI_leI (by omega) (by decide)).mpr e), b2_f (fun h => h e)]
    try rfl
  · rw [if_neg (fun e2 => e ((nI_leI (by omega) (by decide)).mp e2)), b2_t e]
    try rfl
theorem E_hours (n : Int32) (tst : Nat → Nat → Int32) (names pile : Nat → Int32) (he : Re errors found) (hh : Rh h_weight h_known h_hour h_swS h_swW h_waS h_spoons h_kind h_mark h_silver h_fresh h_texts h_tape h_tapeCount h_z h_waiting h_waitingCount d L tx) : ∃ (r : Int32) (errorsR : Nat → Int32) (h_knownR h_hourR : Int32) (h_silverR : Nat → Int32) (h_freshR : Nat → Int64) (tstR : Nat → Nat → Int32) (dR foundR namesR pileR : Nat → Int32), fX11_hours n errors h_weight h_known h_hour h_swS h_swW h_waS h_spoons h_kind h_mark h_silver h_fresh h_texts L tx tst = some (r, errorsR, h_knownR, h_hourR, h_silverR, h_freshR, tstR) ∧ fX12_hours n d found names pile = some (r, dR, foundR, namesR, pileR) ∧ Re errorsR foundR ∧ Rh h_weight h_knownR h_hourR h_swS h_swW h_waS h_spoons h_kind h_mark h_silverR h_freshR h_texts h_tape h_tapeCount h_z h_waiting h_waitingCount dR L tx := by
  obtain ⟨A, E, hW, hH, hM, hC, hT, hG, hO⟩ := hh
  have r1 := hM.2.1
  have qH := hC.2.2.1
  by_cases c0 : nI 1 ≤ n ∧ n ≤ nI 60
  · obtain ⟨j, hj, rfl⟩ := bt_of (n := 60) (by decide) ⟨by rw [q_le] at c0 ⊢; rw [nI_toInt (by decide)] at c0 ⊢; omega, c0.2⟩
    by_cases c1 : aH A + j ≤ 9999
    · obtain ⟨k', o', v', f', t', g1, g2⟩ := c_hours (E := E) (texts := h_texts) (L := L) (tx := tx) hW hC hG.gc (n := j) (by omega) (by omega) tst
      obtain ⟨d', n', p', g3, g4, g5⟩ := m_hours (n := j) hW hM hT.tgs (by omega) (by omega) names pile
      have e2 : d' 2 = k' := g4.2.2.1.trans g2.2.1.symm
      refine ⟨k', errors, k', o', v', f', t', d', found, n', p', ?_, ?_, he, runA E j A, E, Wf_runA hW j (by omega), by rw [runA_H]; omega, g4, g2, hT.sm g5, hG, Ro_sm hO g5⟩
      · unfold fX11_hours
        rw [o_1, o_60, bd_of (c_wi _ _ _), b2_t c0, if_neg (by decide), o_9999, qH, if_pos ((late_iff (by omega) (by omega)).mpr c1), ← qH, bd_of g1]
      · unfold fX12_hours
        rw [l_1, l_60, bd_of (m_in _ _ _), b2_t c0, if_neg (by decide), bd_of (m_late (by omega) (by omega) r1), b2_f (fun h => h c1), if_pos (show nI 0 = (0 : Int32) from rfl), bd_of g3]
        dsimp only
        rw [o_2, ckI_s (by decide) (by decide), nI_clamp (by decide), e2]
    · refine ⟨(-1000000003 : Int32), upd errors 3 (errors 3 + nI 1), h_known, h_hour, h_silver, h_fresh, tst, d, upd found 3 (found 3 + nI 1), names, pile, ?_, ?_, Re_up he 3 (by decide), A, E, hW, hH, hM, hC, hT, hG, hO⟩
      · unfold fX11_hours
        rw [o_1, o_60, bd_of (c_wi _ _ _), b2_t c0, if_neg (by decide), o_9999, if_neg (fun e => c1 (by rw [qH] at e; exact (late_iff (by omega) (by omega)).mp e)), bd_of (c_ref3 _)]
      · unfold fX12_hours
        rw [l_1, l_60, bd_of (m_in _ _ _), b2_t c0, if_neg (by decide), bd_of (m_late (by omega) (by omega) r1), b2_t c1, if_neg (by decide), o_3, bd_of (m_fin3 _)]
  · refine ⟨(-1000000001 : Int32), upd errors 1 (errors 1 + nI 1), h_known, h_hour, h_silver, h_fresh, tst, d, upd found 1 (found 1 + nI 1), names, pile, ?_, ?_, Re_up he 1 (by decide), A, E, hW, hH, hM, hC, hT, hG, hO⟩
    · simp (disch := omega) only [fX11_hours, if_neg c0, o_69, l_6, c_isWord, c_isSetOfWords, c_isUse, c_isSheet, c_isBehind, c_mayB, c_wi, m_isWord, m_areWords, m_isSheet, m_isAhead, m_isKm, m_in, l_n1, o_n1, b2if, ck_s b2_z, c_ref1, c_ref2, c_ref3, c_ref4, c_ref5, m_fin1, m_fin2, m_fin3, m_fin4, m_fin5, l_0, l_1, l_2, l_3, l_5, l_7, l_8, l_9, l_11, l_12, l_16, l_20, l_30, l_40, l_60, l_69, l_99, l_4095, if_true, if_false, nI_add, pk_mul, nI_clamp, nI_leI, nI_ltI, nI_eq, ckI_s, bd_q, bnd_q, if_pos, if_neg, o_0, o_1, o_2, o_3, o_4, o_5, o_6, o_7, o_8, o_9, o_10, o_11, o_12, o_13, o_14, o_15, o_16, o_17, o_18, o_19, o_20, o_21, o_22, o_23, o_24, o_25, o_26, o_27, o_28, o_29, o_30, o_31, o_32, o_33, o_34, o_35, o_36, o_37, o_38, o_39, o_40, o_41, o_42, o_43, o_44, o_45, o_46, o_47, o_48, o_49, o_50, o_51, o_52, o_53, o_54, o_55, o_56, o_57, o_58, o_59, o_60, o_62, o_70, o_71, o_99, o_124, o_154, o_156, o_176, o_255, o_276, o_326, o_4095, o_9999, o_10000, o_10001, o_20000, o_20033]
    · simp (disch := omega) only [fX12_hours, if_neg c0, o_69, l_6, c_isWord, c_isSetOfWords, c_isUse, c_isSheet, c_isBehind, c_mayB, c_wi, m_isWord, m_areWords, m_isSheet, m_isAhead, m_isKm, m_in, l_n1, o_n1, b2if, ck_s b2_z, c_ref1, c_ref2, c_ref3, c_ref4, c_ref5, m_fin1, m_fin2, m_fin3, m_fin4, m_fin5, l_0, l_1, l_2, l_3, l_5, l_7, l_8, l_9, l_11, l_12, l_16, l_20, l_30, l_40, l_60, l_69, l_99, l_4095, if_true, if_false, nI_add, pk_mul, nI_clamp, nI_leI, nI_ltI, nI_eq, ckI_s, bd_q, bnd_q, if_pos, if_neg, o_0, o_1, o_2, o_3, o_4, o_5, o_6, o_7, o_8, o_9, o_10, o_11, o_12, o_13, o_14, o_15, o_16, o_17, o_18, o_19, o_20, o_21, o_22, o_23, o_24, o_25, o_26, o_27, o_28, o_29, o_30, o_31, o_32, o_33, o_34, o_35, o_36, o_37, o_38, o_39, o_40, o_41, o_42, o_43, o_44, o_45, o_46, o_47, o_48, o_49, o_50, o_51, o_52, o_53, o_54, o_55, o_56, o_57, o_58, o_59, o_60, o_62, o_70, o_71, o_99, o_124, o_154, o_156, o_176, o_255, o_276, o_326, o_4095, o_9999, o_10000, o_10001, o_20000, o_20033]
/-- a draw -/
theorem draw_n (z : Int32) : ∃ m, m < 2 ^ 24 ∧ iushr z (nI 8) = nI m := by
  obtain ⟨n, hn, rfl⟩ : ∃ n, n < 2 ^ 32 ∧ z = nI n := ⟨z.toBitVec.toNat, z.toBitVec.isLt, Int32.toBitVec_inj.mp (by show _ = BitVec.ofNat 32 _; simp)⟩
  refine ⟨n / 2 ^ 8, by omega, ?_⟩
  exact pk_ushrN hn (nI 8) 8 (by decide)
theorem rem_n {m k : Nat} (hm : m < 2 ^ 24) (hk : 0 < k) (hk2 : k < 2 ^ 24) : nI m - nI m / nI k * nI k = nI (m % k) := pk_rem (by omega) hk (by omega)
theorem E_loose (n : Int32) (tst : Nat → Nat → Int32) (names pile : Nat → Int32) (he : Re errors found) (hh : Rh h_weight h_known h_hour h_swS h_swW h_waS h_spoons h_kind h_mark h_silver h_fresh h_texts h_tape h_tapeCount h_z h_waiting h_waitingCount d L tx) : ∃ (r : Int32) (errorsR : Nat → Int32) (h_knownR h_hourR : Int32) (h_swSR h_swWR h_silverR : Nat → Int32) (h_freshR : Nat → Int64) (h_zR : Int32) (tstR : Nat → Nat → Int32) (dR foundR namesR pileR : Nat → Int32), fX11_loose n errors h_weight h_known h_hour h_swS h_swW h_waS h_spoons h_kind h_mark h_silver h_fresh h_texts h_z L tx tst = some (r, errorsR, h_knownR, h_hourR, h_swSR, h_swWR, h_silverR, h_freshR, h_zR, tstR) ∧ fX12_loose n d found names pile = some (r, dR, foundR, namesR, pileR) ∧ Re errorsR foundR ∧ Rh h_weight h_knownR h_hourR h_swSR h_swWR h_waS h_spoons h_kind h_mark h_silverR h_freshR h_texts h_tape h_tapeCount h_zR h_waiting h_waitingCount dR L tx := by
  obtain ⟨A, E, hW, hH, hM, hC, hT, hG, hO⟩ := hh
  have r1 := hM.2.1
  have qH := hC.2.2.1
  by_cases c0 : nI 1 ≤ n ∧ n ≤ nI 40
  · obtain ⟨j, hj, rfl⟩ := bt_of (n := 40) (by decide) ⟨by rw [q_le] at c0 ⊢; rw [nI_toInt (by decide)] at c0 ⊢; omega, c0.2⟩
    by_cases c1 : aH A + j ≤ 9999
    · obtain ⟨r, q, h1, h2, k1, o1, sS, sW, v1, f1, z1, t1, d1, n1, p1, e1, e2, B, g1, g2, g3, g4, g5, g6⟩ := lpQ (fun σ : Int32 × Int32 × Int32 × (Nat → Int32) × (Nat → Int32) × (Nat → Int32) × (Nat → Int64) × Int32 × (Nat → Nat → Int32) => fX11_loose_41B (nI j) errors h_weight h_waS h_spoons h_kind h_mark h_texts L tx (σ.1) (σ.2.1) (σ.2.2.1) (σ.2.2.2.1) (σ.2.2.2.2.1) (σ.2.2.2.2.2.1) (σ.2.2.2.2.2.2.1) (σ.2.2.2.2.2.2.2.1) (σ.2.2.2.2.2.2.2.2)) (fun σ : Int32 × (Nat → Int32) × (Nat → Int32) × (Nat → Int32) => fX12_loose_34B (nI j) found (σ.1) (σ.2.1) (σ.2.2.1) (σ.2.2.2))
        (fun i s u => ∃ (k1 o1 : Int32) (sS sW v1 : Nat → Int32) (f1 : Nat → Int64) (z1 : Int32) (t1 : Nat → Nat → Int32) (d1 n1 p1 : Nat → Int32), s = (nI i, k1, o1, sS, sW, v1, f1, z1, t1) ∧ u = (nI i, d1, n1, p1) ∧ ∃ B, Wf B ∧ aH B = aH A + i ∧ RM d1 B ∧ RC B h_weight k1 o1 sS sW h_waS h_spoons h_kind h_mark v1 f1 ∧ TMc d1 E ∧ Ro h_tape h_tapeCount z1 h_waiting h_waitingCount d1)
        (fun r q => ∃ (k1 o1 : Int32) (sS sW v1 : Nat → Int32) (f1 : Nat → Int64) (z1 : Int32) (t1 : Nat → Nat → Int32) (d1 n1 p1 : Nat → Int32), r = (nI j, k1, o1, sS, sW, v1, f1, z1, t1) ∧ q = (nI j, d1, n1, p1) ∧ ∃ B, Wf B ∧ aH B = aH A + j ∧ RM d1 B ∧ RC B h_weight k1 o1 sS sW h_waS h_spoons h_kind h_mark v1 f1 ∧ TMc d1 E ∧ Ro h_tape h_tapeCount z1 h_waiting h_waitingCount d1) j
        (fun i s u hi hI => by
          obtain ⟨k1, o1, sS, sW, v1, f1, z1, t1, d1, n1, p1, rfl, rfl, B, g1, g2, g3, g4, g5, g6⟩ := hI
          have zz : z1 = d1 3 := g6.1
          obtain ⟨m, hm, em⟩ := draw_n (z1 * (1103515245 : Int32) + (12345 : Int32))
          obtain ⟨m2, hm2, em2⟩ := draw_n ((z1 * (1103515245 : Int32) + (12345 : Int32)) * (1103515245 : Int32) + (12345 : Int32))
          have hr1 := g3.2.1
          have hq1 := g4.2.2.1
          have hpl : aH B % 6 < 6 := Nat.mod_lt _ (by decide)
          -- the new state ahead of the hour
          have W2 : Wf (sD (sB B (upN (aB B) (aH B % 6) (m % 8 + 1))) (upN (aD B) (aH B % 6) (m2 % 12))) := Wf_sD (Wf_sB g1 (upN_le g1.2.2.2.2.1 (by omega))) (upN_le g1.2.2.2.2.2.1 (by omega))
          have em8 : nI (m % 8) = nI (m % 8 + 1) - nI 1 := by rw [pk_sub (by omega)]; rfl
          have M2 := RM_D (RM_o (RM_B (RM_o g3 (z1 * (1103515245 : Int32) + (12345 : Int32)) (k := 3) (by omega)) (m % 8 + 1) hpl) ((z1 * (1103515245 : Int32) + (12345 : Int32)) * (1103515245 : Int32) + (12345 : Int32)) (k := 3) (by omega)) (m2 % 12) hpl
          have C2 := RC_D (RC_B g4 (j := aH B % 6) (m % 8 + 1)) (j := aH B % 6) (m2 % 12)
          have T2 := TMc_u (TMc_u (TMc_u (TMc_u g5 (z1 * (1103515245 : Int32) + (12345 : Int32)) (k := 3) (by omega)) (nI (m % 8 + 1) - nI 1) (k := 18 + aH B % 6) (by omega)) ((z1 * (1103515245 : Int32) + (12345 : Int32)) * (1103515245 : Int32) + (12345 : Int32)) (k := 3) (by omega)) (nI (m2 % 12)) (k := 24 + aH B % 6) (by omega)
          obtain ⟨k', o', v', f', t', x1, x2⟩ := c_hours (E := E) (texts := h_texts) (L := L) (tx := tx) W2 C2 hG.gc (n := 1) (by decide) (by show aH B + 1 ≤ 10100; omega) t1
          obtain ⟨d', n', p', y1, y2, y3⟩ := m_hour W2 M2 T2.tgs (by show aH B < 10100; omega) n1 p1
          refine Or.inl ⟨(nI (i + 1), k', o', upd sS (aH B % 6) (nI (m % 8 + 1) - nI 1), upd sW (aH B % 6) (nI (m2 % 12)), v', f', (z1 * (1103515245 : Int32) + (12345 : Int32)) * (1103515245 : Int32) + (12345 : Int32), t'), (nI (i + 1), d', n', p'), ?_, ?_, k', o', _, _, v', f', _, t', d', n', p', rfl, rfl, _, Wf_stpA W2 (by show aH B < 10100; omega), ?_, y2, x2, T2.sm y3, ?_⟩
          · show fX11_loose_41B (nI j) errors h_weight h_waS h_spoons h_kind h_mark h_texts L tx (nI i) k1 o1 sS sW v1 f1 z1 t1 = _
            have hdr : fX3_drawSwallow o1 sS sW z1 = some (upd sS (aH B % 6) (nI (m % 8 + 1) - nI 1), upd sW (aH B % 6) (nI (m2 % 12)), (z1 * (1103515245 : Int32) + (12345 : Int32)) * (1103515245 : Int32) + (12345 : Int32)) := by
              unfold fX3_drawSwallow fX3_draw
              rw [hq1, bd_of (c_place (by omega)), bnd_q, bd_q]
              dsimp only
              rw [o_8, em, rem_n hm (by decide) (by decide), bnd_q, ckI_s hpl (by omega), bnd_q, nI_clamp (by omega), bnd_q, bd_q]
              dsimp only
              rw [em2, o_12, rem_n hm2 (by decide) (by decide), bnd_q, ckI_s hpl (by omega), bnd_q, em8]
            unfold fX11_loose_41B
            rw [if_neg (by rw [nI_leI (by omega) (by omega)]; omega), bd_of hdr]
            dsimp only
            rw [o_1, bd_of x1]
            dsimp only
            rw [bnd_q, nI_add]
          · show fX12_loose_34B (nI j) found (nI i) d1 n1 p1 = _
            have hd1 : fX12_draw d1 = some (nI m, upd d1 3 (z1 * (1103515245 : Int32) + (12345 : Int32))) := by
              unfold fX12_draw
              rw [o_3, ckI_s (by decide) (by decide), nI_clamp (by decide), bnd_q, ckI_s (by decide) (by decide), bnd_q, ckI_s (by decide) (by decide), upd_s, ← zz, o_8, em]
            have hd2 : ∀ e : Nat → Int32, e 3 = z1 * (1103515245 : Int32) + (12345 : Int32) → fX12_draw e = some (nI m2, upd e 3 ((z1 * (1103515245 : Int32) + (12345 : Int32)) * (1103515245 : Int32) + (12345 : Int32))) := fun e h3 => by
              unfold fX12_draw
              rw [o_3, ckI_s (by decide) (by decide), nI_clamp (by decide), bnd_q, ckI_s (by decide) (by decide), bnd_q, ckI_s (by decide) (by decide), upd_s, h3, o_8, em2]
            unfold fX12_loose_34B
            rw [if_neg (by rw [nI_leI (by omega) (by omega)]; omega), o_1, ckI_s (by decide) (by decide), nI_clamp (by decide), hr1, o_6, pk_rem (by omega) (by decide) (by decide), bnd_q, bd_of hd1]
            dsimp only
            rw [o_8, rem_n hm (by decide) (by decide), bnd_q, o_18, nI_add, ckI_s (by omega) (by omega), nI_clamp (by omega), bnd_q, bd_of (hd2 _ (by rw [upd_n (by omega), upd_s]))]
            dsimp only
            rw [o_12, rem_n hm2 (by decide) (by decide), bnd_q, o_24, nI_add, ckI_s (by omega) (by omega), nI_clamp (by omega), bnd_q, em8, bd_of y1]
            dsimp only
            rw [bnd_q, nI_add]
          · rw [stpA_H]
            show aH B + 1 = _
            omega
          · obtain ⟨-, ⟨tp, t1, t2, t3, t4⟩, wc, w1, w2, w3, w4⟩ := g6
            refine Ro_sm ⟨?_, ⟨tp, t1, t2, ?_, fun k hk => ?_⟩, wc, w1, w2, ?_, fun k hk => ?_⟩ y3
            · rw [upd_n (by omega), upd_s]
            · rw [upd_n (by omega), upd_n (by omega), upd_n (by omega), upd_n (by omega)]
              exact t3
            · obtain ⟨b, b1, b2, b3⟩ := t4 k hk
              exact ⟨b, b1, b2, by rw [upd_n (by omega), upd_n (by omega), upd_n (by omega), upd_n (by omega)]; exact b3⟩
            · rw [upd_n (by omega), upd_n (by omega), upd_n (by omega), upd_n (by omega)]
              exact w3
            · rw [upd_n (by omega), upd_n (by omega), upd_n (by omega), upd_n (by omega)]
              exact w4 k hk)
        (fun s u hI => by
          obtain ⟨k1, o1, sS, sW, v1, f1, z1, t1, d1, n1, p1, rfl, rfl, hI⟩ := hI
          refine ⟨(nI j, k1, o1, sS, sW, v1, f1, z1, t1), (nI j, d1, n1, p1), ?_, ?_, k1, o1, sS, sW, v1, f1, z1, t1, d1, n1, p1, rfl, rfl, hI⟩
          · show fX11_loose_41B (nI j) errors h_weight h_waS h_spoons h_kind h_mark h_texts L tx (nI j) k1 o1 sS sW v1 f1 z1 t1 = _
            unfold fX11_loose_41B
            rw [if_pos ((nI_leI (by omega) (by omega)).mpr (Nat.le_refl _))]
          · show fX12_loose_34B (nI j) found (nI j) d1 n1 p1 = _
            unfold fX12_loose_34B
            rw [if_pos ((nI_leI (by omega) (by omega)).mpr (Nat.le_refl _))])
        (FU_lt (by omega)) (nI 0, h_known, h_hour, h_swS, h_swW, h_silver, h_fresh, h_z, tst) (nI 0, d, names, pile) ⟨h_known, h_hour, h_swS, h_swW, h_silver, h_fresh, h_z, tst, d, names, pile, rfl, rfl, A, hW, rfl, hM, hC, hT, hO⟩
      subst e1
      subst e2
      have ek : d1 2 = k1 := g3.2.2.1.trans g4.2.1.symm
      refine ⟨k1, errors, k1, o1, sS, sW, v1, f1, z1, t1, d1, found, n1, p1, ?_, ?_, he, B, E, g1, by omega, g3, g4, g5, hG, g6⟩
      · unfold fX11_loose
        rw [o_1, o_40, bd_of (c_wi _ _ _), b2_t c0, if_neg (by decide), o_9999, if_pos (by rw [qH]; exact (late_iff (by omega) (by omega)).mpr c1)]
        unfold fX11_loose_41
        exact (bd_of h1).trans rfl
      · unfold fX12_loose
        rw [l_1, l_40, bd_of (m_in _ _ _), b2_t c0, if_neg (by decide), bd_of (m_late (by omega) (by omega) r1), b2_f (fun h => h c1), if_pos (show nI 0 = (0 : Int32) from rfl)]
        unfold fX12_loose_34
        refine (bd_of h2).trans ?_
        dsimp only
        rw [o_2, ckI_s (by decide) (by decide), nI_clamp (by decide), ek]
    · refine ⟨(-1000000003 : Int32), upd errors 3 (errors 3 + nI 1), h_known, h_hour, h_swS, h_swW, h_silver, h_fresh, h_z, tst, d, upd found 3 (found 3 + nI 1), names, pile, ?_, ?_, Re_up he 3 (by decide), A, E, hW, hH, hM, hC, hT, hG, hO⟩
      · unfold fX11_loose
        rw [o_1, o_40, bd_of (c_wi _ _ _), b2_t c0, if_neg (by decide), o_9999, if_neg (fun e => c1 (by rw [qH] at e; exact (late_iff (by omega) (by omega)).mp e)), bd_of (c_ref3 _)]
      · unfold fX12_loose
        rw [l_1, l_40, bd_of (m_in _ _ _), b2_t c0, if_neg (by decide), bd_of (m_late (by omega) (by omega) r1), b2_t c1, if_neg (by decide), o_3, bd_of (m_fin3 _)]
  · refine ⟨(-1000000001 : Int32), upd errors 1 (errors 1 + nI 1), h_known, h_hour, h_swS, h_swW, h_silver, h_fresh, h_z, tst, d, upd found 1 (found 1 + nI 1), names, pile, ?_, ?_, Re_up he 1 (by decide), A, E, hW, hH, hM, hC, hT, hG, hO⟩
    · simp (disch := omega) only [fX11_loose, if_neg c0, o_69, l_6, c_isWord, c_isSetOfWords, c_isUse, c_isSheet, c_isBehind, c_mayB, c_wi, m_isWord, m_areWords, m_isSheet, m_isAhead, m_isKm, m_in, l_n1, o_n1, b2if, ck_s b2_z, c_ref1, c_ref2, c_ref3, c_ref4, c_ref5, m_fin1, m_fin2, m_fin3, m_fin4, m_fin5, l_0, l_1, l_2, l_3, l_5, l_7, l_8, l_9, l_11, l_12, l_16, l_20, l_30, l_40, l_60, l_69, l_99, l_4095, if_true, if_false, nI_add, pk_mul, nI_clamp, nI_leI, nI_ltI, nI_eq, ckI_s, bd_q, bnd_q, if_pos, if_neg, o_0, o_1, o_2, o_3, o_4, o_5, o_6, o_7, o_8, o_9, o_10, o_11, o_12, o_13, o_14, o_15, o_16, o_17, o_18, o_19, o_20, o_21, o_22, o_23, o_24, o_25, o_26, o_27, o_28, o_29, o_30, o_31, o_32, o_33, o_34, o_35, o_36, o_37, o_38, o_39, o_40, o_41, o_42, o_43, o_44, o_45, o_46, o_47, o_48, o_49, o_50, o_51, o_52, o_53, o_54, o_55, o_56, o_57, o_58, o_59, o_60, o_62, o_70, o_71, o_99, o_124, o_154, o_156, o_176, o_255, o_276, o_326, o_4095, o_9999, o_10000, o_10001, o_20000, o_20033]
    · simp (disch := omega) only [fX12_loose, if_neg c0, o_69, l_6, c_isWord, c_isSetOfWords, c_isUse, c_isSheet, c_isBehind, c_mayB, c_wi, m_isWord, m_areWords, m_isSheet, m_isAhead, m_isKm, m_in, l_n1, o_n1, b2if, ck_s b2_z, c_ref1, c_ref2, c_ref3, c_ref4, c_ref5, m_fin1, m_fin2, m_fin3, m_fin4, m_fin5, l_0, l_1, l_2, l_3, l_5, l_7, l_8, l_9, l_11, l_12, l_16, l_20, l_30, l_40, l_60, l_69, l_99, l_4095, if_true, if_false, nI_add, pk_mul, nI_clamp, nI_leI, nI_ltI, nI_eq, ckI_s, bd_q, bnd_q, if_pos, if_neg, o_0, o_1, o_2, o_3, o_4, o_5, o_6, o_7, o_8, o_9, o_10, o_11, o_12, o_13, o_14, o_15, o_16, o_17, o_18, o_19, o_20, o_21, o_22, o_23, o_24, o_25, o_26, o_27, o_28, o_29, o_30, o_31, o_32, o_33, o_34, o_35, o_36, o_37, o_38, o_39, o_40, o_41, o_42, o_43, o_44, o_45, o_46, o_47, o_48, o_49, o_50, o_51, o_52, o_53, o_54, o_55, o_56, o_57, o_58, o_59, o_60, o_62, o_70, o_71, o_99, o_124, o_154, o_156, o_176, o_255, o_276, o_326, o_4095, o_9999, o_10000, o_10001, o_20000, o_20033]
end E5
