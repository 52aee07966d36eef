/-! which, rubbed, spoon -/
/-- two numbers of sheets: alike as far as they can matter -/
def Rsn (x y : Int32) : Prop := ∀ c, c ≤ 100 → (x = nI c ↔ y = nI c)
/-- the four sheets -/
def Rs (sbits slens : Nat → Int32) (snum : Nat → Nat → Int32) (bitsOf sizeOf number : Nat → Int32) : Prop := ∀ s, s < 4 → sbits s = bitsOf s ∧ (∃ b, (b = 0 ∨ b = 8 ∨ b = 16 ∨ b = 32) ∧ bitsOf s = nI b) ∧ ∃ n, n ≤ 40 ∧ slens s = nI n ∧ sizeOf s = nI n ∧ ∀ k, k < n → Rsn (snum s k) (number (40 * s + k))
theorem addm1 (n : Nat) : nI n + (-1 : Int32) = nI n - nI 1 := by
  rw [Int32.sub_eq_add_neg]
  rfl
/-- how many, below n -/
noncomputable def cntP (P : Nat → Prop) : Nat → Nat
  | 0 => 0
  | n + 1 => cntP P n + @ite _ (P n) (Classical.propDecidable _) 1 0
theorem cntP_t {P : Nat → Prop} {n : Nat} (h : P n) : cntP P (n + 1) = cntP P n + 1 := by
  unfold cntP
  rw [if_pos h]
  cases n <;> rfl
theorem cntP_f {P : Nat → Prop} {n : Nat} (h : ¬ P n) : cntP P (n + 1) = cntP P n := by
  unfold cntP
  rw [if_neg h]
  cases n <;> rfl
theorem cntP_le (P : Nat → Prop) : ∀ n, cntP P n ≤ n
  | 0 => Nat.le_refl _
  | n + 1 => by
    by_cases h : P n
    · rw [cntP_t h]
      exact Nat.succ_le_succ (cntP_le P n)
    · rw [cntP_f h]
      exact Nat.le_succ_of_le (cntP_le P n)
theorem cntP_0 {P : Nat → Prop} : ∀ n, (cntP P n = 0 ↔ ∀ j, j < n → ¬ P j)
  | 0 => ⟨fun _ j hj => absurd hj (Nat.not_lt_zero _), fun _ => rfl⟩
  | n + 1 => by
    by_cases h : P n
    · rw [cntP_t h]
      exact ⟨fun e => absurd e (Nat.succ_ne_zero _), fun e => absurd h (e n (Nat.lt_succ_self _))⟩
    · rw [cntP_f h, cntP_0 n]
      refine ⟨fun e j hj => ?_, fun e j hj => e j (Nat.lt_succ_of_lt hj)⟩
      by_cases g : j = n
      · rw [g]; exact h
      · exact e j (by omega)
section E9
variable {errors found : Nat → Int32} {h_weight : Nat → Int32} {h_known : Int32} {h_hour : Int32} {h_swS : Nat → Int32} {h_swW : Nat → Int32} {h_waS : Nat → Int32} {h_spoons : Int32} {h_kind : Nat → Int32} {h_mark : Nat → Int32} {h_silver : Nat → Int32} {h_fresh : Nat → Int64} {h_texts : Nat → Option Nat} {h_tape : Nat → Int32} {h_tapeCount : Int32} {h_z : Int32} {h_waiting : Nat → Int32} {h_waitingCount : Int32} {d : Nat → Int32} {L : List Nat} {tx : Nat → TXc}
variable {t_weight : Nat → Int32} {t_known : Int32} {t_hour : Int32} {t_swS : Nat → Int32} {t_swW : Nat → Int32} {t_waS : Nat → Int32} {t_spoons : Int32} {t_kind : Nat → Int32} {t_mark : Nat → Int32} {t_silver : Nat → Int32} {t_fresh : Nat → Int64} {t_texts : Nat → Option Nat}
variable {sbits slens : Nat → Int32} {snum : Nat → Nat → Int32} {bitsOf sizeOf number : Nat → Int32}
theorem E_which (a b : Int32) (tst : Nat → Nat → Int32) (aside names pile : Nat → Int32) (he : Re errors found) (hh : Rh h_weight h_known h_hour h_swS h_swW h_waS h_spoons h_kind h_mark h_silver h_fresh h_texts h_tape h_tapeCount h_z h_waiting h_waitingCount d L tx) (hs : Rs sbits slens snum bitsOf sizeOf number) : ∃ (r : Int32) (errorsR : Nat → Int32) (w : TW) (asR foundR nR pR : Nat → Int32), fX11_which a b errors sbits slens snum h_weight h_known h_hour h_swS h_swW h_waS h_spoons h_kind h_mark h_silver h_fresh h_texts t_weight t_known t_hour t_swS t_swW t_waS t_spoons t_kind t_mark t_silver t_fresh t_texts L tx tst = some (r, errorsR, w) ∧ fX12_which a b d aside found names pile bitsOf sizeOf number = some (r, d, asR, foundR, nR, pR) ∧ Re errorsR foundR := by
  obtain ⟨A, E, hW, hH, hM, hC, hT, hG, hO⟩ := hh
  have r0 := hM.1
  have qN := hC.2.2.2.2.2.2.1
  have fN := hW.1
  by_cases c0 : nI 0 ≤ a ∧ a ≤ nI 3
  · obtain ⟨a, ha, rfl⟩ := bt_of (by decide) c0
    by_cases c1 : nI 0 ≤ b ∧ b ≤ nI (aN A) - nI 1
    · obtain ⟨x, hx, rfl⟩ := bt_sp (by omega) c1
      obtain ⟨hb, ⟨bb, hbb, hbe⟩, len, hl, hl1, hl2, hnum⟩ := hs a (by omega)
      have hrel : ∀ B : AS, ∀ m, m < len → (toldAt (snum a) E B m ↔ toldAt (fun m => number (40 * a + m)) E B m) := fun B m hm => hnum m hm (pc (aK (runA E (m + 1) B))) (Nat.le_trans (pc_le _) (by decide))
      have g11 : ∀ z, (if bitsOf a = 0 then some ((-1000000002 : Int32), upd errors 2 (errors 2 + nI 1), (t_weight, t_known, t_hour, t_swS, t_swW, t_waS, t_spoons, t_kind, t_mark, t_silver, t_fresh, t_texts, tst)) else fX11_which_49 (nI x) (nI 0) (nI 0) (nI a) errors sbits slens snum h_weight h_known h_hour h_swS h_swW h_waS h_spoons h_kind h_mark h_silver h_fresh h_texts t_weight t_known t_hour t_swS t_swW t_waS t_spoons t_kind t_mark t_silver t_fresh t_texts L tx tst) = z → fX11_which (nI a) (nI x) errors sbits slens snum h_weight h_known h_hour h_swS h_swW h_waS h_spoons h_kind h_mark h_silver h_fresh h_texts t_weight t_known t_hour t_swS t_swW t_waS t_spoons t_kind t_mark t_silver t_fresh t_texts L tx tst = z := fun z hz => by
        unfold fX11_which
        rw [bd_of (c_isSheet _), b2_t c0, if_neg (by decide), qN, bd_of (c_isSj (by omega) (by omega)), b2_t hx, if_neg (by decide), ckI_s (by omega) (by omega), ckI_s (by omega) (by omega), nI_clamp (by omega), hb, bd_of (c_ref2 _), ← qN]
        exact hz
      have g12 : ∀ z, (if bitsOf a = 0 then bd (fX12_finds (2 : Int32) found) fun (r_25, found_26) => some (r_25, d, aside, found_26, names, pile) else bd (fX12_keepAside d aside) fun aside_12 => fX12_which_45 (nI a) (nI x) (nI 0) (nI 0) d aside_12 found names pile bitsOf sizeOf number) = z → fX12_which (nI a) (nI x) d aside found names pile bitsOf sizeOf number = z := fun z hz => by
        unfold fX12_which
        rw [bd_of (m_isSheet _), b2_t c0, if_neg (by decide), bd_of (m_isSj r0 fN (by omega)), b2_t hx, if_neg (by decide), ckI_s (by omega) (by omega), nI_clamp (by omega)]
        exact hz
      by_cases hz : bitsOf a = 0
      · refine ⟨(-1000000002 : Int32), upd errors 2 (errors 2 + nI 1), (t_weight, t_known, t_hour, t_swS, t_swW, t_waS, t_spoons, t_kind, t_mark, t_silver, t_fresh, t_texts, tst), aside, upd found 2 (found 2 + nI 1), names, pile, g11 _ ?_, g12 _ ?_, Re_up he 2 (by decide)⟩
        · rw [if_pos hz]
        · rw [if_pos hz, o_2, bd_of (m_fin2 _)]
      · obtain ⟨as', hk1, hk2⟩ := m_keep d aside
        obtain ⟨r, q, l1, l2, acc, w, n1, p1, e1, e2⟩ := lpQ (fun σ : Int32 × Int32 × (Nat → Int32) × Int32 × Int32 × (Nat → Int32) × (Nat → Int32) × (Nat → Int32) × Int32 × (Nat → Int32) × (Nat → Int32) × (Nat → Int32) × (Nat → Int64) × (Nat → Option Nat) × (Nat → Nat → Int32) => fX11_which_49B (nI x) (nI a) errors sbits slens snum h_weight h_known h_hour h_swS h_swW h_waS h_spoons h_kind h_mark h_silver h_fresh h_texts L tx (σ.1) (σ.2.1) (σ.2.2.1) (σ.2.2.2.1) (σ.2.2.2.2.1) (σ.2.2.2.2.2.1) (σ.2.2.2.2.2.2.1) (σ.2.2.2.2.2.2.2.1) (σ.2.2.2.2.2.2.2.2.1) (σ.2.2.2.2.2.2.2.2.2.1) (σ.2.2.2.2.2.2.2.2.2.2.1) (σ.2.2.2.2.2.2.2.2.2.2.2.1) (σ.2.2.2.2.2.2.2.2.2.2.2.2.1) (σ.2.2.2.2.2.2.2.2.2.2.2.2.2.1) (σ.2.2.2.2.2.2.2.2.2.2.2.2.2.2)) (fun σ : Int32 × Int32 × (Nat → Int32) × (Nat → Int32) × (Nat → Int32) => fX12_which_45B (nI a) (nI x) as' found bitsOf sizeOf number (σ.1) (σ.2.1) (σ.2.2.1) (σ.2.2.2.1) (σ.2.2.2.2)) (fun i s u => ∃ (acc : Int32) (w : TW) (n1 p1 : Nat → Int32), s = (acc, nI i, w) ∧ u = (acc, nI i, d, n1, p1)) (fun r q => ∃ (acc : Int32) (w : TW) (n1 p1 : Nat → Int32), r = (acc, nI 7, w) ∧ q = (acc, nI 7, d, n1, p1)) 7
          (fun i s u hi hI => by
            obtain ⟨acc, w, n1, p1, rfl, rfl⟩ := hI
            obtain ⟨u1, u2, u3, u4, u5, u6, u7, u8, u9, u10, u11, u12, ts⟩ := w
            obtain ⟨w1, k1, o1, sS, sW, wa, sp, ki, mk, sv, fr, te, hf, hCt, hGt⟩ := c_follow (t_weight := u1) (t_known := u2) (t_hour := u3) (t_swS := u4) (t_swW := u5) (t_waS := u6) (t_spoons := u7) (t_kind := u8) (t_mark := u9) (t_silver := u10) (t_fresh := u11) (t_texts := u12) hC hG
            have W2 : Wf (sC A (upN (aC A) x i)) := Wf_sC hW (upN_le hW.2.2.2.2.2.2.2.1 (by omega))
            have C2 := RC_C hCt (s := x) i
            have M2 := RM_C hM (s := x) i (by omega)
            have S2 : Sm d (upd d (34 + 15 * x + 0) (nI i)) := Sm_upd (by omega)
            obtain ⟨zu, k', o', v', f', ts', g1, g2⟩ := c_unlike (E := E) (te := te) (L := L) (tx := tx) (nn := 40) W2 C2 hGt.gc hl (by decide) (by show aH A + len ≤ 10100; omega) (snum a) ts
            obtain ⟨zt, n', p', g3, g4⟩ := m_told (E := E) (as' := as') (d0 := d) W2 M2 (hT.sm S2).tgs (fun d' h => m_back hk2 (S2.tr h).2.2.2) (a := a) (by omega) hl (by show aH A + len ≤ 10100; omega) hl2 n1 p1
            have h11 : ∀ y, (if 0 ≤ zu then fX11_which_105 (nI x) acc (nI i) (nI a) errors sbits slens snum h_weight h_known h_hour h_swS h_swW h_waS h_spoons h_kind h_mark h_silver h_fresh h_texts w1 k' o' sS sW wa sp (upd ki x (nI i)) mk v' f' te L tx ts' else fX11_which_105 (nI x) (acc ||| ((1 : Int32) <<< (nI i &&& 31))) (nI i) (nI a) errors sbits slens snum h_weight h_known h_hour h_swS h_swW h_waS h_spoons h_kind h_mark h_silver h_fresh h_texts w1 k' o' sS sW wa sp (upd ki x (nI i)) mk v' f' te L tx ts') = y → fX11_which_49B (nI x) (nI a) errors sbits slens snum h_weight h_known h_hour h_swS h_swW h_waS h_spoons h_kind h_mark h_silver h_fresh h_texts L tx acc (nI i) u1 u2 u3 u4 u5 u6 u7 u8 u9 u10 u11 u12 ts = y := fun y hy => by
              unfold fX11_which_49B
              rw [show (7 : Int32) = nI 7 from rfl, if_neg (by rw [nI_leI (by decide) (by omega)]; omega), bd_of hf]
              dsimp only
              rw [ckI_s (by omega) (by omega), nI_clamp (by omega), bnd_q, ckI_s (by omega) (by omega), ckI_s (by omega) (by omega), ckI_s (by omega) (by omega), nI_clamp (by omega), hl1, bd_of g1, bnd_q]
              exact hy
            have h12 : ∀ y, (if zt = 0 then fX12_which_77 (nI a) (nI x) (nI i) (0 : Int32) acc d as' found n' p' bitsOf sizeOf number else fX12_which_77 (nI a) (nI x) (nI i) ((1 : Int32) <<< (nI i &&& 31)) acc d as' found n' p' bitsOf sizeOf number) = y → fX12_which_45B (nI a) (nI x) as' found bitsOf sizeOf number acc (nI i) d n1 p1 = y := fun y hy => by
              unfold fX12_which_45B
              rw [show (6 : Int32) = nI 6 from rfl, if_neg (by rw [nI_ltI (by decide) (by omega)]; omega), show fX12_sets (nI x) (0 : Int32) (nI i) d = some (upd d (34 + 15 * x + 0) (nI i)) from m_sets d _ (by omega) (by decide), bd_q, bd_of g3]
              exact hy
            rcases g2 with ⟨j, hj, rfl, hno, -⟩ | ⟨rfl, hyes⟩
            · rcases g4 with ⟨-, hall⟩ | ⟨rfl, -⟩
              · exact absurd ((hrel _ j hj).mpr (hall j hj)) hno
              · refine Or.inl ⟨(acc, nI (i + 1), w1, k', o', sS, sW, wa, sp, upd ki x (nI i), mk, v', f', te, ts'), (acc, nI (i + 1), d, n', p'), h11 _ ?_, h12 _ ?_, acc, _, n', p', rfl, rfl⟩
                · rw [o_0, if_pos ((nI_leI (by decide) (by omega)).mpr (Nat.zero_le _))]
                  unfold fX11_which_105
                  rw [bnd_q, o_1, nI_add]
                · rw [if_pos (show nI 0 = (0 : Int32) from rfl)]
                  unfold fX12_which_77
                  rw [bnd_q, bnd_q, o_1, nI_add, Int32.or_zero]
            · rcases g4 with ⟨rfl, -⟩ | ⟨-, m, hm, hno⟩
              · refine Or.inl ⟨(acc ||| ((1 : Int32) <<< (nI i &&& 31)), nI (i + 1), w1, k', o', sS, sW, wa, sp, upd ki x (nI i), mk, v', f', te, ts'), (acc ||| ((1 : Int32) <<< (nI i &&& 31)), nI (i + 1), d, n', p'), h11 _ ?_, h12 _ ?_, _, _, n', p', rfl, rfl⟩
                · rw [if_neg (by decide)]
                  unfold fX11_which_105
                  rw [bnd_q, show nI i + (1 : Int32) = nI (i + 1) from nI_add _ 1]
                · rw [if_neg (show ¬ nI 1 = (0 : Int32) by decide)]
                  unfold fX12_which_77
                  rw [bnd_q, bnd_q, show nI i + (1 : Int32) = nI (i + 1) from nI_add _ 1]
              · exact absurd ((hrel _ m hm).mp (hyes m hm)) hno)
          (fun s u hI => by
            obtain ⟨acc, w, n1, p1, rfl, rfl⟩ := hI
            obtain ⟨u1, u2, u3, u4, u5, u6, u7, u8, u9, u10, u11, u12, ts⟩ := w
            refine ⟨(acc, nI 7, u1, u2, u3, u4, u5, u6, u7, u8, u9, u10, u11, u12, ts), (acc, nI 7, d, n1, p1), ?_, ?_, acc, _, n1, p1, rfl, rfl⟩
            · show fX11_which_49B (nI x) (nI a) errors sbits slens snum h_weight h_known h_hour h_swS h_swW h_waS h_spoons h_kind h_mark h_silver h_fresh h_texts L tx acc (nI 7) u1 u2 u3 u4 u5 u6 u7 u8 u9 u10 u11 u12 ts = _
              unfold fX11_which_49B
              rw [if_pos (by decide)]
            · show fX12_which_45B (nI a) (nI x) as' found bitsOf sizeOf number acc (nI 7) d n1 p1 = _
              unfold fX12_which_45B
              rw [if_pos (by decide)])
          (FU_lt (by decide)) (nI 0, nI 0, (t_weight, t_known, t_hour, t_swS, t_swW, t_waS, t_spoons, t_kind, t_mark, t_silver, t_fresh, t_texts, tst)) (nI 0, nI 0, d, names, pile) ⟨nI 0, (t_weight, t_known, t_hour, t_swS, t_swW, t_waS, t_spoons, t_kind, t_mark, t_silver, t_fresh, t_texts, tst), names, pile, rfl, rfl⟩
        subst e1
        subst e2
        refine ⟨acc, errors, w, as', found, n1, p1, g11 _ ?_, g12 _ ?_, he⟩
        · rw [if_neg hz]
          unfold fX11_which_49
          refine (bd_of l1).trans ?_
          obtain ⟨u1, u2, u3, u4, u5, u6, u7, u8, u9, u10, u11, u12, ts⟩ := w
          rfl
        · rw [if_neg hz, bd_of hk1]
          unfold fX12_which_45
          exact (bd_of l2).trans rfl
    · refine ⟨(-1000000001 : Int32), upd errors 1 (errors 1 + nI 1), (t_weight, t_known, t_hour, t_swS, t_swW, t_waS, t_spoons, t_kind, t_mark, t_silver, t_fresh, t_texts, tst), aside, upd found 1 (found 1 + nI 1), names, pile, ?_, ?_, Re_up he 1 (by decide)⟩
      · simp (disch := omega) only [fX11_which, qN, c_isSp, if_pos c0, if_neg c1, o_69, l_6, c_isWord, c_isSetOfWords, c_isUse, c_isSheet, c_isBehind, c_mayB, c_wi, m_isWord, m_areWords, m_isSheet, m_isAhead, m_isKm, m_in, l_n1, o_n1, b2if, ck_s b2_z, c_ref1, c_ref2, c_ref3, c_ref4, c_ref5, m_fin1, m_fin2, m_fin3, m_fin4, m_fin5, l_0, l_1, l_2, l_3, l_5, l_7, l_8, l_9, l_11, l_12, l_16, l_20, l_30, l_40, l_60, l_69, l_99, l_4095, if_true, if_false, nI_add, pk_mul, nI_clamp, nI_leI, nI_ltI, nI_eq, ckI_s, bd_q, bnd_q, if_pos, if_neg, o_0, o_1, o_2, o_3, o_4, o_5, o_6, o_7, o_8, o_9, o_10, o_11, o_12, o_13, o_14, o_15, o_16, o_17, o_18, o_19, o_20, o_21, o_22, o_23, o_24, o_25, o_26, o_27, o_28, o_29, o_30, o_31, o_32, o_33, o_34, o_35, o_36, o_37, o_38, o_39, o_40, o_41, o_42, o_43, o_44, o_45, o_46, o_47, o_48, o_49, o_50, o_51, o_52, o_53, o_54, o_55, o_56, o_57, o_58, o_59, o_60, o_62, o_70, o_71, o_99, o_124, o_154, o_156, o_176, o_255, o_276, o_326, o_4095, o_9999, o_10000, o_10001, o_20000, o_20033]
      · simp (disch := omega) only [fX12_which, m_isSp _ r0, if_pos c0, if_neg c1, o_69, l_6, c_isWord, c_isSetOfWords, c_isUse, c_isSheet, c_isBehind, c_mayB, c_wi, m_isWord, m_areWords, m_isSheet, m_isAhead, m_isKm, m_in, l_n1, o_n1, b2if, ck_s b2_z, c_ref1, c_ref2, c_ref3, c_ref4, c_ref5, m_fin1, m_fin2, m_fin3, m_fin4, m_fin5, l_0, l_1, l_2, l_3, l_5, l_7, l_8, l_9, l_11, l_12, l_16, l_20, l_30, l_40, l_60, l_69, l_99, l_4095, if_true, if_false, nI_add, pk_mul, nI_clamp, nI_leI, nI_ltI, nI_eq, ckI_s, bd_q, bnd_q, if_pos, if_neg, o_0, o_1, o_2, o_3, o_4, o_5, o_6, o_7, o_8, o_9, o_10, o_11, o_12, o_13, o_14, o_15, o_16, o_17, o_18, o_19, o_20, o_21, o_22, o_23, o_24, o_25, o_26, o_27, o_28, o_29, o_30, o_31, o_32, o_33, o_34, o_35, o_36, o_37, o_38, o_39, o_40, o_41, o_42, o_43, o_44, o_45, o_46, o_47, o_48, o_49, o_50, o_51, o_52, o_53, o_54, o_55, o_56, o_57, o_58, o_59, o_60, o_62, o_70, o_71, o_99, o_124, o_154, o_156, o_176, o_255, o_276, o_326, o_4095, o_9999, o_10000, o_10001, o_20000, o_20033]
  · refine ⟨(-1000000001 : Int32), upd errors 1 (errors 1 + nI 1), (t_weight, t_known, t_hour, t_swS, t_swW, t_waS, t_spoons, t_kind, t_mark, t_silver, t_fresh, t_texts, tst), aside, upd found 1 (found 1 + nI 1), names, pile, ?_, ?_, Re_up he 1 (by decide)⟩
    · simp (disch := omega) only [fX11_which, if_neg c0, o_69, l_6, c_isWord, c_isSetOfWords, c_isUse, c_isSheet, c_isBehind, c_mayB, c_wi, m_isWord, m_areWords, m_isSheet, m_isAhead, m_isKm, m_in, l_n1, o_n1, b2if, ck_s b2_z, c_ref1, c_ref2, c_ref3, c_ref4, c_ref5, m_fin1, m_fin2, m_fin3, m_fin4, m_fin5, l_0, l_1, l_2, l_3, l_5, l_7, l_8, l_9, l_11, l_12, l_16, l_20, l_30, l_40, l_60, l_69, l_99, l_4095, if_true, if_false, nI_add, pk_mul, nI_clamp, nI_leI, nI_ltI, nI_eq, ckI_s, bd_q, bnd_q, if_pos, if_neg, o_0, o_1, o_2, o_3, o_4, o_5, o_6, o_7, o_8, o_9, o_10, o_11, o_12, o_13, o_14, o_15, o_16, o_17, o_18, o_19, o_20, o_21, o_22, o_23, o_24, o_25, o_26, o_27, o_28, o_29, o_30, o_31, o_32, o_33, o_34, o_35, o_36, o_37, o_38, o_39, o_40, o_41, o_42, o_43, o_44, o_45, o_46, o_47, o_48, o_49, o_50, o_51, o_52, o_53, o_54, o_55, o_56, o_57, o_58, o_59, o_60, o_62, o_70, o_71, o_99, o_124, o_154, o_156, o_176, o_255, o_276, o_326, o_4095, o_9999, o_10000, o_10001, o_20000, o_20033]
    · simp (disch := omega) only [fX12_which, if_neg c0, o_69, l_6, c_isWord, c_isSetOfWords, c_isUse, c_isSheet, c_isBehind, c_mayB, c_wi, m_isWord, m_areWords, m_isSheet, m_isAhead, m_isKm, m_in, l_n1, o_n1, b2if, ck_s b2_z, c_ref1, c_ref2, c_ref3, c_ref4, c_ref5, m_fin1, m_fin2, m_fin3, m_fin4, m_fin5, l_0, l_1, l_2, l_3, l_5, l_7, l_8, l_9, l_11, l_12, l_16, l_20, l_30, l_40, l_60, l_69, l_99, l_4095, if_true, if_false, nI_add, pk_mul, nI_clamp, nI_leI, nI_ltI, nI_eq, ckI_s, bd_q, bnd_q, if_pos, if_neg, o_0, o_1, o_2, o_3, o_4, o_5, o_6, o_7, o_8, o_9, o_10, o_11, o_12, o_13, o_14, o_15, o_16, o_17, o_18, o_19, o_20, o_21, o_22, o_23, o_24, o_25, o_26, o_27, o_28, o_29, o_30, o_31, o_32, o_33, o_34, o_35, o_36, o_37, o_38, o_39, o_40, o_41, o_42, o_43, o_44, o_45, o_46, o_47, o_48, o_49, o_50, o_51, o_52, o_53, o_54, o_55, o_56, o_57, o_58, o_59, o_60, o_62, o_70, o_71, o_99, o_124, o_154, o_156, o_176, o_255, o_276, o_326, o_4095, o_9999, o_10000, o_10001, o_20000, o_20033]
theorem E_rubbed (a b what : Int32) (tst : Nat → Nat → Int32) (aside names pile : Nat → Int32) (he : Re errors found) (hh : Rh h_weight h_known h_hour h_swS h_swW h_waS h_spoons h_kind h_mark h_silver h_fresh h_texts h_tape h_tapeCount h_z h_waiting h_waitingCount d L tx) (hs : Rs sbits slens snum bitsOf sizeOf number) : ∃ (r : Int32) (errorsR : Nat → Int32) (w : TW) (asR foundR nR pR : Nat → Int32), fX11_rubbed a b what errors sbits slens snum h_weight h_known h_hour h_swS h_swW h_waS h_spoons h_kind h_mark h_silver h_fresh h_texts t_weight t_known t_hour t_swS t_swW t_waS t_spoons t_kind t_mark t_silver t_fresh t_texts L tx tst = some (r, errorsR, w) ∧ fX12_rubbed a b what d aside found names pile bitsOf sizeOf number = some (r, d, asR, foundR, nR, pR) ∧ Re errorsR foundR := by
  obtain ⟨A, E, hW, hH, hM, hC, hT, hG, hO⟩ := hh
  have r0 := hM.1
  have qN := hC.2.2.2.2.2.2.1
  have fN := hW.1
  have bad : fX11_rubbed_24 errors sbits slens snum h_weight h_known h_hour h_swS h_swW h_waS h_spoons h_kind h_mark h_silver h_fresh h_texts t_weight t_known t_hour t_swS t_swW t_waS t_spoons t_kind t_mark t_silver t_fresh t_texts L tx tst = some ((-1000000001 : Int32), upd errors 1 (errors 1 + nI 1), (t_weight, t_known, t_hour, t_swS, t_swW, t_waS, t_spoons, t_kind, t_mark, t_silver, t_fresh, t_texts, tst)) := by
    unfold fX11_rubbed_24
    rw [bd_of (c_ref1 _)]
  have bad2 : fX12_rubbed_25 d aside found names pile bitsOf sizeOf number = some ((-1000000001 : Int32), d, aside, upd found 1 (found 1 + nI 1), names, pile) := by
    unfold fX12_rubbed_25
    rw [o_1, bd_of (m_fin1 _)]
  by_cases c0 : nI 0 ≤ a ∧ a ≤ nI 3
  · obtain ⟨a, ha, rfl⟩ := bt_of (by decide) c0
    by_cases c1 : nI 0 ≤ b ∧ b ≤ nI (aN A) - nI 1
    · obtain ⟨x, hx, rfl⟩ := bt_sp (by omega) c1
      by_cases c2 : nI 0 ≤ what ∧ what ≤ nI 1
      · obtain ⟨y, hy, rfl⟩ := bt_of (by decide) c2
        obtain ⟨hb, ⟨bb, hbb, hbe⟩, len, hl, hl1, hl2, hnum⟩ := hs a (by omega)
        have hrel : ∀ B : AS, ∀ m, m < len → (toldAt (snum a) E B m ↔ toldAt (fun m => number (40 * a + m)) E B m) := fun B m hm => hnum m hm (pc (aK (runA E (m + 1) B))) (Nat.le_trans (pc_le _) (by decide))
        have g11 : ∀ z, (if bitsOf a = 0 then some ((-1000000002 : Int32), upd errors 2 (errors 2 + nI 1), (t_weight, t_known, t_hour, t_swS, t_swW, t_waS, t_spoons, t_kind, t_mark, t_silver, t_fresh, t_texts, tst)) else fX11_rubbed_63 (nI x) (nI y) (nI 0) (-1 : Int32) (nI 0) (nI a) errors sbits slens snum h_weight h_known h_hour h_swS h_swW h_waS h_spoons h_kind h_mark h_silver h_fresh h_texts t_weight t_known t_hour t_swS t_swW t_waS t_spoons t_kind t_mark t_silver t_fresh t_texts L tx tst) = z → fX11_rubbed (nI a) (nI x) (nI y) errors sbits slens snum h_weight h_known h_hour h_swS h_swW h_waS h_spoons h_kind h_mark h_silver h_fresh h_texts t_weight t_known t_hour t_swS t_swW t_waS t_spoons t_kind t_mark t_silver t_fresh t_texts L tx tst = z := fun z hz => by
          unfold fX11_rubbed
          rw [bd_of (c_isSheet _), b2_t c0, if_neg (by decide), qN, bd_of (c_isSj (by omega) (by omega)), b2_t hx, if_neg (by decide), show fX11_within (nI y) (0 : Int32) (1 : Int32) = _ from c_wi _ (nI 0) (nI 1), bd_q, b2_t c2, if_neg (by decide), ckI_s (by omega) (by omega), ckI_s (by omega) (by omega), nI_clamp (by omega), hb, bd_of (c_ref2 _), ← qN]
          exact hz
        have g12 : ∀ z, (if bitsOf a = 0 then bd (fX12_finds (2 : Int32) found) fun (r_34, found_35) => some (r_34, d, aside, found_35, names, pile) else bd (fX12_keepAside d aside) fun aside_15 => fX12_rubbed_60 (nI a) (nI x) (nI y) (nI 0) (-1 : Int32) (nI 99) d aside_15 found names pile bitsOf sizeOf number) = z → fX12_rubbed (nI a) (nI x) (nI y) d aside found names pile bitsOf sizeOf number = z := fun z hz => by
          unfold fX12_rubbed
          rw [bd_of (m_isSheet _), b2_t c0, if_neg (by decide), bd_of (m_isSj r0 fN (by omega)), b2_t hx, if_neg (by decide), l_0, l_1, bd_of (m_in _ _ _), b2_t c2, if_neg (by decide), ckI_s (by omega) (by omega), nI_clamp (by omega)]
          exact hz
        by_cases hz : bitsOf a = 0
        · refine ⟨(-1000000002 : Int32), upd errors 2 (errors 2 + nI 1), (t_weight, t_known, t_hour, t_swS, t_swW, t_waS, t_spoons, t_kind, t_mark, t_silver, t_fresh, t_texts, tst), aside, upd found 2 (found 2 + nI 1), names, pile, g11 _ ?_, g12 _ ?_, Re_up he 2 (by decide)⟩
          · rw [if_pos hz]
          · rw [if_pos hz, o_2, bd_of (m_fin2 _)]
        · obtain ⟨as', hk1, hk2⟩ := m_keep d aside
          -- for which silver it is told
          obtain ⟨T, hTt⟩ : ∃ T : Nat → Prop, ∀ j, T j ↔ ∀ m, m < len → toldAt (snum a) E (sV A (upN (aV A) x j)) m := ⟨_, fun j => Iff.rfl⟩
          -- the class
          obtain ⟨r, l1, q, w, e1, hq⟩ := lpE (fun σ : Int32 × Int32 × Int32 × (Nat → Int32) × Int32 × Int32 × (Nat → Int32) × (Nat → Int32) × (Nat → Int32) × Int32 × (Nat → Int32) × (Nat → Int32) × (Nat → Int32) × (Nat → Int64) × (Nat → Option Nat) × (Nat → Nat → Int32) => fX11_rubbed_63B (nI x) (nI y) (nI a) errors sbits slens snum h_weight h_known h_hour h_swS h_swW h_waS h_spoons h_kind h_mark h_silver h_fresh h_texts L tx (σ.1) (σ.2.1) (σ.2.2.1) (σ.2.2.2.1) (σ.2.2.2.2.1) (σ.2.2.2.2.2.1) (σ.2.2.2.2.2.2.1) (σ.2.2.2.2.2.2.2.1) (σ.2.2.2.2.2.2.2.2.1) (σ.2.2.2.2.2.2.2.2.2.1) (σ.2.2.2.2.2.2.2.2.2.2.1) (σ.2.2.2.2.2.2.2.2.2.2.2.1) (σ.2.2.2.2.2.2.2.2.2.2.2.2.1) (σ.2.2.2.2.2.2.2.2.2.2.2.2.2.1) (σ.2.2.2.2.2.2.2.2.2.2.2.2.2.2.1) (σ.2.2.2.2.2.2.2.2.2.2.2.2.2.2.2)) (fun i s => ∃ (q : Int32) (w : TW), s = (nI (cntP T i), q, nI i, w) ∧ ((∀ j, j < i → ¬ T j) ∧ q = nI 0 - nI 1 ∨ ∃ j, j < i ∧ T j ∧ (∀ m, m < j → ¬ T m) ∧ q = nI j)) (fun r => ∃ (q : Int32) (w : TW), r = (nI (cntP T 100), q, nI 100, w) ∧ ((∀ j, j < 100 → ¬ T j) ∧ q = nI 0 - nI 1 ∨ ∃ j, j < 100 ∧ T j ∧ (∀ m, m < j → ¬ T m) ∧ q = nI j)) 100
            (fun i s hi hI => by
              obtain ⟨q, w, rfl, hq⟩ := hI
              obtain ⟨u1, u2, u3, u4, u5, u6, u7, u8, u9, u10, u11, u12, ts⟩ := w
              obtain ⟨w1, k1, o1, sS, sW, wa, sp, ki, mk, sv, fr, te, hf, hCt, hGt⟩ := c_follow (t_weight := u1) (t_known := u2) (t_hour := u3) (t_swS := u4) (t_swW := u5) (t_waS := u6) (t_spoons := u7) (t_kind := u8) (t_mark := u9) (t_silver := u10) (t_fresh := u11) (t_texts := u12) hC hG
              have W2 : Wf (sV A (upN (aV A) x i)) := Wf_sV hW (upN_le hW.2.2.2.2.2.2.2.2.2.1 (by omega))
              have C2 := RC_V hCt (s := x) i
              obtain ⟨zu, k', o', v', f', ts', g1, g2⟩ := c_unlike (E := E) (te := te) (L := L) (tx := tx) (nn := 40) W2 C2 hGt.gc hl (by decide) (by show aH A + len ≤ 10100; omega) (snum a) ts
              have hcl := cntP_le T i
              have h11 : ∀ z, (if 0 ≤ zu then fX11_rubbed_129 (nI x) (nI y) (nI (cntP T i)) q (nI i) (nI a) errors sbits slens snum h_weight h_known h_hour h_swS h_swW h_waS h_spoons h_kind h_mark h_silver h_fresh h_texts w1 k' o' sS sW wa sp ki mk v' f' te L tx ts' else if 0 ≤ q then fX11_rubbed_127 (nI x) (nI y) (nI (cntP T i + 1)) (nI i) q (nI a) errors sbits slens snum h_weight h_known h_hour h_swS h_swW h_waS h_spoons h_kind h_mark h_silver h_fresh h_texts w1 k' o' sS sW wa sp ki mk v' f' te L tx ts' else fX11_rubbed_127 (nI x) (nI y) (nI (cntP T i + 1)) (nI i) (nI i) (nI a) errors sbits slens snum h_weight h_known h_hour h_swS h_swW h_waS h_spoons h_kind h_mark h_silver h_fresh h_texts w1 k' o' sS sW wa sp ki mk v' f' te L tx ts') = z → fX11_rubbed_63B (nI x) (nI y) (nI a) errors sbits slens snum h_weight h_known h_hour h_swS h_swW h_waS h_spoons h_kind h_mark h_silver h_fresh h_texts L tx (nI (cntP T i)) q (nI i) u1 u2 u3 u4 u5 u6 u7 u8 u9 u10 u11 u12 ts = z := fun z hz => by
                unfold fX11_rubbed_63B
                rw [o_99, if_neg (by rw [nI_ltI (by decide) (by omega)]; omega), bd_of hf]
                dsimp only
                rw [ckI_s (by omega) (by omega), nI_clamp (by omega), bnd_q, ckI_s (by omega) (by omega), ckI_s (by omega) (by omega), ckI_s (by omega) (by omega), nI_clamp (by omega), hl1, bd_of g1, o_1, nI_add, bnd_q]
                exact hz
              rcases g2 with ⟨j, hj, rfl, hno, -⟩ | ⟨rfl, hyes⟩
              · have hn : ¬ T i := fun h => hno ((hTt i).mp h j hj)
                refine Or.inl ⟨(nI (cntP T i), q, nI (i + 1), w1, k', o', sS, sW, wa, sp, ki, mk, v', f', te, ts'), h11 _ ?_, q, _, by rw [cntP_f hn], ?_⟩
                · rw [o_0, if_pos ((nI_leI (by decide) (by omega)).mpr (Nat.zero_le _))]
                  unfold fX11_rubbed_129
                  rw [bnd_q, o_1, nI_add]
                · rcases hq with ⟨h1, h2⟩ | ⟨j, h1, h2, h3, h4⟩
                  · refine Or.inl ⟨fun j hj => ?_, h2⟩
                    by_cases e : j = i
                    · rw [e]; exact hn
                    · exact h1 j (by omega)
                  · exact Or.inr ⟨j, by omega, h2, h3, h4⟩
              · have hp : T i := (hTt i).mpr hyes
                rcases hq with ⟨h1, rfl⟩ | ⟨j, h1, h2, h3, rfl⟩
                · refine Or.inl ⟨(nI (cntP T i + 1), nI i, nI (i + 1), w1, k', o', sS, sW, wa, sp, ki, mk, v', f', te, ts'), h11 _ ?_, nI i, _, by rw [cntP_t hp], Or.inr ⟨i, by omega, hp, h1, rfl⟩⟩
                  rw [if_neg (by decide), if_neg (by decide)]
                  unfold fX11_rubbed_127 fX11_rubbed_129
                  rw [bnd_q, o_1, nI_add]
                · refine Or.inl ⟨(nI (cntP T i + 1), nI j, nI (i + 1), w1, k', o', sS, sW, wa, sp, ki, mk, v', f', te, ts'), h11 _ ?_, nI j, _, by rw [cntP_t hp], Or.inr ⟨j, by omega, h2, h3, rfl⟩⟩
                  rw [if_neg (by decide), o_0, if_pos ((nI_leI (by decide) (by omega)).mpr (Nat.zero_le _))]
                  unfold fX11_rubbed_127 fX11_rubbed_129
                  rw [bnd_q, o_1, nI_add])
            (fun s hI => by
              obtain ⟨q, w, rfl, hq⟩ := hI
              obtain ⟨u1, u2, u3, u4, u5, u6, u7, u8, u9, u10, u11, u12, ts⟩ := w
              refine ⟨(nI (cntP T 100), q, nI 100, u1, u2, u3, u4, u5, u6, u7, u8, u9, u10, u11, u12, ts), ?_, q, _, rfl, hq⟩
              show fX11_rubbed_63B (nI x) (nI y) (nI a) errors sbits slens snum h_weight h_known h_hour h_swS h_swW h_waS h_spoons h_kind h_mark h_silver h_fresh h_texts L tx (nI (cntP T 100)) q (nI 100) u1 u2 u3 u4 u5 u6 u7 u8 u9 u10 u11 u12 ts = _
              unfold fX11_rubbed_63B
              rw [if_pos (by decide)])
            (FU_lt (by decide)) (nI 0, (-1 : Int32), nI 0, (t_weight, t_known, t_hour, t_swS, t_swW, t_waS, t_spoons, t_kind, t_mark, t_silver, t_fresh, t_texts, tst)) ⟨(-1 : Int32), (t_weight, t_known, t_hour, t_swS, t_swW, t_waS, t_spoons, t_kind, t_mark, t_silver, t_fresh, t_texts, tst), rfl, Or.inl ⟨fun j hj => absurd hj (Nat.not_lt_zero _), by decide⟩⟩
          -- the reference
          obtain ⟨r2, l2, q2, n1, p1, e2, hq2⟩ := lpE (fun σ : Int32 × Int32 × Int32 × (Nat → Int32) × (Nat → Int32) × (Nat → Int32) => fX12_rubbed_60B (nI a) (nI x) (nI y) as' found bitsOf sizeOf number (σ.1) (σ.2.1) (σ.2.2.1) (σ.2.2.2.1) (σ.2.2.2.2.1) (σ.2.2.2.2.2)) (fun i s => ∃ (m : Nat) (q : Int32) (n1 p1 : Nat → Int32), s = (nI m, q, nI (100 - i) - nI 1, d, n1, p1) ∧ m + cntP T (100 - i) = cntP T 100 ∧ ((∀ j, 100 - i ≤ j → j < 100 → ¬ T j) ∧ q = nI 0 - nI 1 ∨ ∃ j, 100 - i ≤ j ∧ j < 100 ∧ T j ∧ (∀ m, 100 - i ≤ m → m < j → ¬ T m) ∧ q = nI j)) (fun r => ∃ (q : Int32) (n1 p1 : Nat → Int32), r = (nI (cntP T 100), q, nI 0 - nI 1, d, n1, p1) ∧ ((∀ j, j < 100 → ¬ T j) ∧ q = nI 0 - nI 1 ∨ ∃ j, j < 100 ∧ T j ∧ (∀ m, m < j → ¬ T m) ∧ q = nI j)) 100
            (fun i s hi hI => by
              obtain ⟨m, q, n1, p1, rfl, hm, hq⟩ := hI
              obtain ⟨c, hc⟩ : ∃ c, c = 99 - i := ⟨_, rfl⟩
              have hc1 : 100 - i = c + 1 := by omega
              have hc2 : 100 - (i + 1) = c := by omega
              rw [hc1] at hm hq
              have ev : nI (100 - i) - nI 1 = nI c := by
                rw [hc1, pk_sub (by omega)]
                rfl
              have W2 : Wf (sV A (upN (aV A) x c)) := Wf_sV hW (upN_le hW.2.2.2.2.2.2.2.2.2.1 (by omega))
              have M2 := RM_V hM (s := x) c (by omega)
              have S2 : Sm d (upd d (34 + 15 * x + 2) (nI c)) := Sm_upd (by omega)
              obtain ⟨zt, n', p', g3, g4⟩ := m_told (E := E) (as' := as') (d0 := d) W2 M2 (hT.sm S2).tgs (fun d' h => m_back hk2 (S2.tr h).2.2.2) (a := a) (by omega) hl (by show aH A + len ≤ 10100; omega) hl2 n1 p1
              have h12 : ∀ z, (if zt = 0 then fX12_rubbed_92 (nI a) (nI x) (nI y) q (nI c) zt (0 : Int32) (nI m) d as' found n' p' bitsOf sizeOf number else fX12_rubbed_92 (nI a) (nI x) (nI y) q (nI c) zt (1 : Int32) (nI m) d as' found n' p' bitsOf sizeOf number) = z → fX12_rubbed_60B (nI a) (nI x) (nI y) as' found bitsOf sizeOf number (nI m) q (nI (100 - i) - nI 1) d n1 p1 = z := fun z hz => by
                rw [ev]
                unfold fX12_rubbed_60B
                rw [o_0, if_neg (by rw [nI_ltI (by omega) (by decide)]; omega), o_2, bd_of (m_sets d _ (by omega) (by decide)), bd_of g3]
                exact hz
              rcases g4 with ⟨rfl, hall⟩ | ⟨rfl, m2, hm2, hno⟩
              · have hp : T c := (hTt c).mpr fun m hm => (hrel _ m hm).mpr (hall m hm)
                rw [cntP_t hp] at hm
                refine Or.inl ⟨(nI (m + 1), nI c, nI (100 - (i + 1)) - nI 1, d, n', p'), h12 _ ?_, m + 1, nI c, n', p', rfl, by rw [hc2]; omega, Or.inr ⟨c, by omega, by omega, hp, fun m h1 h2 => by omega, rfl⟩⟩
                rw [if_neg (show ¬ nI 1 = (0 : Int32) by decide), hc2]
                unfold fX12_rubbed_92 fX12_rubbed_107
                rw [addm1, show nI m + (1 : Int32) = nI (m + 1) from nI_add _ 1, bnd_q, if_neg (show ¬ nI 1 = (0 : Int32) by decide), bnd_q]
              · have hn : ¬ T c := fun h => hno ((hrel _ m2 hm2).mp ((hTt c).mp h m2 hm2))
                rw [cntP_f hn] at hm
                refine Or.inl ⟨(nI m, q, nI (100 - (i + 1)) - nI 1, d, n', p'), h12 _ ?_, m, q, n', p', rfl, by rw [hc2]; exact hm, ?_⟩
                · rw [if_pos (show nI 0 = (0 : Int32) from rfl), hc2]
                  unfold fX12_rubbed_92 fX12_rubbed_107
                  rw [bnd_q, if_pos (show nI 0 = (0 : Int32) from rfl), addm1, bnd_q, Int32.add_zero]
                · rw [hc2]
                  rcases hq with ⟨h1, h2⟩ | ⟨j, h0, h1, h2, h3, h4⟩
                  · refine Or.inl ⟨fun j hj hj2 => ?_, h2⟩
                    by_cases e : j = c
                    · rw [e]; exact hn
                    · exact h1 j (by omega) hj2
                  · refine Or.inr ⟨j, by omega, h1, h2, fun m hm1 hm2 => ?_, h4⟩
                    by_cases e : m = c
                    · rw [e]; exact hn
                    · exact h3 m (by omega) hm2)
            (fun s hI => by
              obtain ⟨m, q, n1, p1, rfl, hm, hq⟩ := hI
              have hm : m = cntP T 100 := hm
              subst hm
              refine ⟨(nI (cntP T 100), q, nI 0 - nI 1, d, n1, p1), ?_, q, n1, p1, rfl, ?_⟩
              · show fX12_rubbed_60B (nI a) (nI x) (nI y) as' found bitsOf sizeOf number (nI (cntP T 100)) q (nI 0 - nI 1) d n1 p1 = _
                unfold fX12_rubbed_60B
                rw [if_pos (by decide)]
              · rcases hq with ⟨h1, h2⟩ | ⟨j, h0, h1, h2, h3, h4⟩
                · exact Or.inl ⟨fun j hj => h1 j (Nat.zero_le _) hj, h2⟩
                · exact Or.inr ⟨j, h1, h2, fun m hm => h3 m (Nat.zero_le _) hm, h4⟩)
            (FU_lt (by decide)) (nI 0, (-1 : Int32), nI 99, d, names, pile) ⟨0, (-1 : Int32), names, pile, rfl, Nat.zero_add _, Or.inl ⟨fun j h1 h2 => by omega, by decide⟩⟩
          subst e1
          subst e2
          have hqq : q2 = q := by
            rcases hq with ⟨h1, h2⟩ | ⟨j, h1, h2, h3, h4⟩
            · rcases hq2 with ⟨-, h6⟩ | ⟨i, h5, h6, -, -⟩
              · rw [h2, h6]
              · exact absurd h6 (h1 i h5)
            · rcases hq2 with ⟨h5, -⟩ | ⟨i, h5, h6, h7, h8⟩
              · exact absurd h2 (h5 j h1)
              · have e : i = j := by
                  rcases Nat.lt_trichotomy i j with g | g | g
                  · exact absurd h6 (h3 i g)
                  · exact g
                  · exact absurd h2 (h7 j g)
                rw [h4, h8, e]
          subst hqq
          have hcl := cntP_le T 100
          by_cases hy0 : nI y = (0 : Int32)
          · refine ⟨nI (cntP T 100), errors, w, as', found, n1, p1, g11 _ ?_, g12 _ ?_, he⟩
            · rw [if_neg hz]
              unfold fX11_rubbed_63
              refine (bd_of l1).trans ?_
              obtain ⟨u1, u2, u3, u4, u5, u6, u7, u8, u9, u10, u11, u12, ts⟩ := w
              dsimp only
              rw [if_pos hy0]
            · rw [if_neg hz, bd_of hk1]
              unfold fX12_rubbed_60
              refine (bd_of l2).trans ?_
              dsimp only
              rw [if_pos hy0]
          · rcases hq with ⟨h1, h2⟩ | ⟨j, h1, h2, h3, h4⟩
            · refine ⟨(-1000000002 : Int32), upd errors 2 (errors 2 + nI 1), w, as', upd found 2 (found 2 + nI 1), n1, p1, g11 _ ?_, g12 _ ?_, Re_up he 2 (by decide)⟩
              · rw [if_neg hz]
                unfold fX11_rubbed_63
                refine (bd_of l1).trans ?_
                obtain ⟨u1, u2, u3, u4, u5, u6, u7, u8, u9, u10, u11, u12, ts⟩ := w
                dsimp only
                rw [if_neg hy0, (cntP_0 100).mpr h1, if_pos (show nI 0 = (0 : Int32) from rfl), bd_of (c_ref2 _)]
              · rw [if_neg hz, bd_of hk1]
                unfold fX12_rubbed_60
                refine (bd_of l2).trans ?_
                dsimp only
                rw [if_neg hy0, h2, if_neg (by decide), o_2, bd_of (m_fin2 _)]
            · have hc0 : ¬ cntP T 100 = 0 := fun e => (cntP_0 100).mp e j h1 h2
              refine ⟨q2, errors, w, as', found, n1, p1, g11 _ ?_, g12 _ ?_, he⟩
              · rw [if_neg hz]
                unfold fX11_rubbed_63
                refine (bd_of l1).trans ?_
                obtain ⟨u1, u2, u3, u4, u5, u6, u7, u8, u9, u10, u11, u12, ts⟩ := w
                dsimp only
                rw [if_neg hy0, if_neg (by rw [o_0, nI_eq (by omega) (by decide)]; exact hc0)]
              · rw [if_neg hz, bd_of hk1]
                unfold fX12_rubbed_60
                refine (bd_of l2).trans ?_
                dsimp only
                rw [if_neg hy0, h4, if_pos (by rw [o_0, nI_leI (by decide) (by omega)]; omega)]
      · refine ⟨(-1000000001 : Int32), upd errors 1 (errors 1 + nI 1), (t_weight, t_known, t_hour, t_swS, t_swW, t_waS, t_spoons, t_kind, t_mark, t_silver, t_fresh, t_texts, tst), aside, upd found 1 (found 1 + nI 1), names, pile, ?_, ?_, Re_up he 1 (by decide)⟩
        · unfold fX11_rubbed
          rw [bd_of (c_isSheet _), b2_t c0, if_neg (by decide), qN, bd_of (c_isSj (by omega) (by omega)), b2_t hx, if_neg (by decide), ← qN, show fX11_within what (0 : Int32) (1 : Int32) = _ from c_wi _ (nI 0) (nI 1), bd_q, b2_f c2, if_pos (show nI 0 = (0 : Int32) from rfl), bad]
        · unfold fX12_rubbed
          rw [bd_of (m_isSheet _), b2_t c0, if_neg (by decide), bd_of (m_isSj r0 fN (by omega)), b2_t hx, if_neg (by decide), l_0, l_1, bd_of (m_in _ _ _), b2_f c2, if_pos (show nI 0 = (0 : Int32) from rfl), bad2]
    · refine ⟨(-1000000001 : Int32), upd errors 1 (errors 1 + nI 1), (t_weight, t_known, t_hour, t_swS, t_swW, t_waS, t_spoons, t_kind, t_mark, t_silver, t_fresh, t_texts, tst), aside, upd found 1 (found 1 + nI 1), names, pile, ?_, ?_, Re_up he 1 (by decide)⟩
      · unfold fX11_rubbed
        rw [bd_of (c_isSheet _), b2_t c0, if_neg (by decide), qN, bd_of (c_isSp _ _), b2_f c1, if_pos (show nI 0 = (0 : Int32) from rfl), ← qN, bad]
      · unfold fX12_rubbed
        rw [bd_of (m_isSheet _), b2_t c0, if_neg (by decide), bd_of (m_isSp _ r0), b2_f c1, if_pos (show nI 0 = (0 : Int32) from rfl), bad2]
  · refine ⟨(-1000000001 : Int32), upd errors 1 (errors 1 + nI 1), (t_weight, t_known, t_hour, t_swS, t_swW, t_waS, t_spoons, t_kind, t_mark, t_silver, t_fresh, t_texts, tst), aside, upd found 1 (found 1 + nI 1), names, pile, ?_, ?_, Re_up he 1 (by decide)⟩
    · simp (disch := omega) only [fX11_rubbed, bad, if_neg c0, o_69, l_6, c_isWord, c_isSetOfWords, c_isUse, c_isSheet, c_isBehind, c_mayB, c_wi, m_isWord, m_areWords, m_isSheet, m_isAhead, m_isKm, m_in, l_n1, o_n1, b2if, ck_s b2_z, c_ref1, c_ref2, c_ref3, c_ref4, c_ref5, m_fin1, m_fin2, m_fin3, m_fin4, m_fin5, l_0, l_1, l_2, l_3, l_5, l_7, l_8, l_9, l_11, l_12, l_16, l_20, l_30, l_40, l_60, l_69, l_99, l_4095, if_true, if_false, nI_add, pk_mul, nI_clamp, nI_leI, nI_ltI, nI_eq, ckI_s, bd_q, bnd_q, if_pos, if_neg, o_0, o_1, o_2, o_3, o_4, o_5, o_6, o_7, o_8, o_9, o_10, o_11, o_12, o_13, o_14, o_15, o_16, o_17, o_18, o_19, o_20, o_21, o_22, o_23, o_24, o_25, o_26, o_27, o_28, o_29, o_30, o_31, o_32, o_33, o_34, o_35, o_36, o_37, o_38, o_39, o_40, o_41, o_42, o_43, o_44, o_45, o_46, o_47, o_48, o_49, o_50, o_51, o_52, o_53, o_54, o_55, o_56, o_57, o_58, o_59, o_60, o_62, o_70, o_71, o_99, o_124, o_154, o_156, o_176, o_255, o_276, o_326, o_4095, o_9999, o_10000, o_10001, o_20000, o_20033]
    · simp (disch := omega) only [fX12_rubbed, bad2, if_neg c0, o_69, l_6, c_isWord, c_isSetOfWords, c_isUse, c_isSheet, c_isBehind, c_mayB, c_wi, m_isWord, m_areWords, m_isSheet, m_isAhead, m_isKm, m_in, l_n1, o_n1, b2if, ck_s b2_z, c_ref1, c_ref2, c_ref3, c_ref4, c_ref5, m_fin1, m_fin2, m_fin3, m_fin4, m_fin5, l_0, l_1, l_2, l_3, l_5, l_7, l_8, l_9, l_11, l_12, l_16, l_20, l_30, l_40, l_60, l_69, l_99, l_4095, if_true, if_false, nI_add, pk_mul, nI_clamp, nI_leI, nI_ltI, nI_eq, ckI_s, bd_q, bnd_q, if_pos, if_neg, o_0, o_1, o_2, o_3, o_4, o_5, o_6, o_7, o_8, o_9, o_10, o_11, o_12, o_13, o_14, o_15, o_16, o_17, o_18, o_19, o_20, o_21, o_22, o_23, o_24, o_25, o_26, o_27, o_28, o_29, o_30, o_31, o_32, o_33, o_34, o_35, o_36, o_37, o_38, o_39, o_40, o_41, o_42, o_43, o_44, o_45, o_46, o_47, o_48, o_49, o_50, o_51, o_52, o_53, o_54, o_55, o_56, o_57, o_58, o_59, o_60, o_62, o_70, o_71, o_99, o_124, o_154, o_156, o_176, o_255, o_276, o_326, o_4095, o_9999, o_10000, o_10001, o_20000, o_20033]
end E9
