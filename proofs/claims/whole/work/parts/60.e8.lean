/-! sheets of numbers told: check, rubbed, which -/
/-- the numbers are those of the hours to come -/
def toldAt (nums : Nat → Int32) (E : EVt) (A : AS) (m : Nat) : Prop := nums m = nI (pc (aK (runA E (m + 1) A)))
section U
variable {A : AS} {E : EVt} {w : Nat → Int32} {kk o : Int32} {tS tW wa : Nat → Int32} {sp : Int32} {ki mk v : Nat → Int32} {f : Nat → Int64} {te : Nat → Option Nat} {L : List Nat} {tx : Nat → TXc}
theorem c_unlike (hW : Wf A) (hR : RC A w kk o tS tW wa sp ki mk v f) (hG : GC te L tx E) {nn len : Nat} (hl : len ≤ nn) (hn : nn ≤ 40) (hH : aH A + len ≤ 10100) (nums : Nat → Int32) (ts : Nat → Nat → Int32) : ∃ (u k' o' : Int32) (v' : Nat → Int32) (f' : Nat → Int64) (ts' : Nat → Nat → Int32), fX3_unlikeSpreads nn (nI len) w kk o tS tW wa sp ki mk v f te nums L tx ts = some (u, k', o', v', f', ts') ∧ ((∃ i, i < len ∧ u = nI i ∧ ¬ toldAt nums E A i ∧ ∀ m, m < i → toldAt nums E A m) ∨ (u = (-1 : Int32) ∧ ∀ m, m < len → toldAt nums E A m)) := by
  unfold fX3_unlikeSpreads fX3_unlikeSpreads_2
  obtain ⟨r, l1, hQ⟩ := lpE (fun σ : Int32 × Int32 × Int32 × (Nat → Int32) × (Nat → Int64) × (Nat → Nat → Int32) => fX3_unlikeSpreads_2B nn (nI len) w tS tW wa sp ki mk te nums L tx (σ.1) (σ.2.1) (σ.2.2.1) (σ.2.2.2.1) (σ.2.2.2.2.1) (σ.2.2.2.2.2)) (fun i s => ∃ (k1 o1 : Int32) (v1 : Nat → Int32) (f1 : Nat → Int64) (ts1 : Nat → Nat → Int32), s = (nI i, k1, o1, v1, f1, ts1) ∧ RC (runA E i A) w k1 o1 tS tW wa sp ki mk v1 f1 ∧ ∀ m, m < i → toldAt nums E A m) (fun r => ∃ (k1 o1 : Int32) (v1 : Nat → Int32) (f1 : Nat → Int64) (ts1 : Nat → Nat → Int32), (∃ i, i < len ∧ r = .inr (nI i, k1, o1, v1, f1, ts1) ∧ ¬ toldAt nums E A i ∧ ∀ m, m < i → toldAt nums E A m) ∨ (r = .inl (nI len, k1, o1, v1, f1, ts1) ∧ ∀ m, m < len → toldAt nums E A m)) len
    (fun i s hi hI => by
      obtain ⟨k1, o1, v1, f1, ts1, rfl, hR1, hm⟩ := hI
      obtain ⟨k2, o2, v2, f2, ts2, g1, g2⟩ := c_hours (n := 1) (Wf_runA (E := E) hW i (by omega)) hR1 hG (by decide) (by rw [runA_H]; omega) ts1
      have g2 : RC (runA E (i + 1) A) w k2 o2 tS tW wa sp ki mk v2 f2 := g2
      have hK := (Wf_runA (E := E) hW (i + 1) (by omega)).2.2.1
      have ek : k2 = nI (aK (runA E (i + 1) A)) := g2.2.1
      have st : ∀ z, (if nums i = nI (pc (aK (runA E (i + 1) A))) then some (.inl (nI (i + 1), k2, o2, v2, f2, ts2)) else some (.inr (.inr (nI i, k2, o2, v2, f2, ts2)))) = z → fX3_unlikeSpreads_2B nn (nI len) w tS tW wa sp ki mk te nums L tx (nI i) k1 o1 v1 f1 ts1 = z := fun z hz => by
        unfold fX3_unlikeSpreads_2B
        rw [if_neg (by rw [nI_leI (by omega) (by omega)]; omega), o_1, bd_of g1]
        dsimp only
        rw [ckI_s (by omega) (by omega), nI_clamp (by omega), ek, bd_of (c_bc hK), ← ek, bnd_q, nI_add]
        exact hz
      by_cases ht : toldAt nums E A i
      · refine Or.inl ⟨_, (st _ (if_pos ht)), k2, o2, v2, f2, ts2, rfl, g2, fun m h => ?_⟩
        by_cases e : m = i
        · rw [e]; exact ht
        · exact hm m (by omega)
      · exact Or.inr ⟨_, (st _ (if_neg ht)), k2, o2, v2, f2, ts2, Or.inl ⟨i, hi, rfl, ht, hm⟩⟩)
    (fun s hI => by
      obtain ⟨k1, o1, v1, f1, ts1, rfl, hR1, hm⟩ := hI
      refine ⟨.inl (nI len, k1, o1, v1, f1, ts1), ?_, k1, o1, v1, f1, ts1, Or.inr ⟨rfl, hm⟩⟩
      show fX3_unlikeSpreads_2B nn (nI len) w tS tW wa sp ki mk te nums L tx (nI len) k1 o1 v1 f1 ts1 = _
      unfold fX3_unlikeSpreads_2B
      rw [if_pos ((nI_leI (by omega) (by omega)).mpr (Nat.le_refl _))])
    (FU_lt (by omega)) (nI 0, kk, o, v, f, ts) ⟨kk, o, v, f, ts, rfl, hR, fun m h => by omega⟩
  obtain ⟨k1, o1, v1, f1, ts1, ⟨i, hi, rfl, h1, h2⟩ | ⟨rfl, h1⟩⟩ := hQ
  · exact ⟨nI i, k1, o1, v1, f1, ts1, (bd_of l1).trans rfl, Or.inl ⟨i, hi, rfl, h1, h2⟩⟩
  · exact ⟨(-1 : Int32), k1, o1, v1, f1, ts1, (bd_of l1).trans rfl, Or.inr ⟨rfl, h1⟩⟩
theorem m_told {d d0 as' : Nat → Int32} (hW : Wf A) (hM : RM d A) (hT : TGs E d) (hbk : ∀ d', Sm d d' → fX12_putBack d' as' = some d0) {a len : Nat} (ha : a < 4) (hl : len ≤ 40) (hH : aH A + len ≤ 10100) {sizeOf number : Nat → Int32} (hs : sizeOf a = nI len) (nm pl : Nat → Int32) : ∃ (u : Int32) (n' p' : Nat → Int32), fX12_isTold (nI a) d as' nm pl sizeOf number = some (u, d0, n', p') ∧ ((u = nI 1 ∧ ∀ m, m < len → toldAt (fun m => number (40 * a + m)) E A m) ∨ (u = nI 0 ∧ ∃ m, m < len ∧ ¬ toldAt (fun m => number (40 * a + m)) E A m)) := by
  unfold fX12_isTold fX12_isTold_4
  obtain ⟨⟨u, x, d', n', p'⟩, l1, hS, hz, hQ⟩ := lpE (fun σ : Int32 × Int32 × (Nat → Int32) × (Nat → Int32) × (Nat → Int32) => fX12_isTold_4B (nI a) as' sizeOf number (σ.1) (σ.2.1) (σ.2.2.1) (σ.2.2.2.1) (σ.2.2.2.2)) (fun i s => ∃ (u : Int32) (d1 n1 p1 : Nat → Int32), s = (u, nI i, d1, n1, p1) ∧ Sm d d1 ∧ ((u = nI 1 ∧ RM d1 (runA E i A) ∧ ∀ m, m < i → toldAt (fun m => number (40 * a + m)) E A m) ∨ (u = nI 0 ∧ ∃ m, m < len ∧ ¬ toldAt (fun m => number (40 * a + m)) E A m))) (fun r => Sm d r.2.2.1 ∧ isZ r.1 = true ∧ ((r.1 = nI 1 ∧ ∀ m, m < len → toldAt (fun m => number (40 * a + m)) E A m) ∨ (r.1 = nI 0 ∧ ∃ m, m < len ∧ ¬ toldAt (fun m => number (40 * a + m)) E A m))) len
    (fun i s hi hI => by
      obtain ⟨u, d1, n1, p1, rfl, hS, ⟨rfl, hM1, hm⟩ | ⟨rfl, hx⟩⟩ := hI
      · obtain ⟨d2, n2, p2, g1, g2, g3⟩ := m_hour (Wf_runA (E := E) hW i (by omega)) hM1 (fun d9 h9 => hT d9 (hS.tr h9)) (by rw [runA_H]; omega) n1 p1
        have g2 : RM d2 (runA E (i + 1) A) := g2
        have hK := (Wf_runA (E := E) hW (i + 1) (by omega)).2.2.1
        have ek : d2 2 = nI (aK (runA E (i + 1) A)) := g2.2.2.1
        have st : ∀ z, (if number (40 * a + i) = nI (pc (aK (runA E (i + 1) A))) then some (.inl (nI 1, nI (i + 1), d2, n2, p2)) else some (.inl (nI 0, nI (i + 1), d2, n2, p2))) = z → fX12_isTold_4B (nI a) as' sizeOf number (nI 1) (nI i) d1 n1 p1 = z := fun z hz => by
          unfold fX12_isTold_4B fX12_isTold_50
          rw [ckI_s (by omega) (by omega), nI_clamp (by omega), hs, if_neg (by rw [nI_leI (by omega) (by omega)]; omega), if_neg (show ¬ nI 1 = (0 : Int32) by decide), bd_of g1]
          dsimp only
          rw [o_40, pk_mul, nI_add, ckI_s (by omega) (by omega), nI_clamp (by omega), o_2, ckI_s (by decide) (by decide), nI_clamp (by decide), ek, bd_of (m_ones hK), o_1, bnd_q, bnd_q, nI_add]
          exact hz
        by_cases ht : toldAt (fun m => number (40 * a + m)) E A i
        · refine Or.inl ⟨_, st _ (if_pos ht), nI 1, d2, n2, p2, rfl, hS.tr g3, Or.inl ⟨rfl, g2, fun m h => ?_⟩⟩
          by_cases e : m = i
          · rw [e]; exact ht
          · exact hm m (by omega)
        · exact Or.inl ⟨_, st _ (if_neg ht), nI 0, d2, n2, p2, rfl, hS.tr g3, Or.inr ⟨rfl, i, hi, ht⟩⟩
      · refine Or.inr ⟨(nI 0, nI i, d1, n1, p1), ?_, hS, (by decide : isZ (nI 0) = true), Or.inr ⟨rfl, hx⟩⟩
        show fX12_isTold_4B (nI a) as' sizeOf number (nI 0) (nI i) d1 n1 p1 = _
        unfold fX12_isTold_4B
        rw [ckI_s (by omega) (by omega), nI_clamp (by omega), hs, if_neg (by rw [nI_leI (by omega) (by omega)]; omega), if_pos (show nI 0 = (0 : Int32) from rfl)])
    (fun s hI => by
      obtain ⟨u, d1, n1, p1, rfl, hS, hc⟩ := hI
      refine ⟨(u, nI len, d1, n1, p1), ?_, hS, ?_, ?_⟩
      · show fX12_isTold_4B (nI a) as' sizeOf number u (nI len) d1 n1 p1 = _
        unfold fX12_isTold_4B
        rw [ckI_s (by omega) (by omega), nI_clamp (by omega), hs, if_pos ((nI_leI (by omega) (by omega)).mpr (Nat.le_refl _))]
      · rcases hc with ⟨rfl, -⟩ | ⟨rfl, -⟩
        · exact (by decide : isZ (nI 1) = true)
        · exact (by decide : isZ (nI 0) = true)
      · rcases hc with ⟨rfl, -, h⟩ | ⟨rfl, h⟩
        · exact Or.inl ⟨rfl, h⟩
        · exact Or.inr ⟨rfl, h⟩)
    (FU_lt (by omega)) (nI 1, nI 0, d, nm, pl) ⟨nI 1, d, nm, pl, rfl, Sm.rf, Or.inl ⟨rfl, hM, fun m h => by omega⟩⟩
  refine ⟨u, n', p', (bd_of l1).trans ?_, hQ⟩
  dsimp only
  rw [bd_of (hbk d' hS), ck_s hz]
end U
section E8
variable {errors found : Nat → Int32} {h_weight : Nat → Int32} {h_known : Int32} {h_hour : Int32} {h_swS : Nat → Int32} {h_swW : Nat → Int32} {h_waS : Nat → Int32} {h_spoons : Int32} {h_kind : Nat → Int32} {h_mark : Nat → Int32} {h_silver : Nat → Int32} {h_fresh : Nat → Int64} {h_texts : Nat → Option Nat} {h_tape : Nat → Int32} {h_tapeCount : Int32} {h_z : Int32} {h_waiting : Nat → Int32} {h_waitingCount : Int32} {d : Nat → Int32} {L : List Nat} {tx : Nat → TXc}
variable {t_weight : Nat → Int32} {t_known : Int32} {t_hour : Int32} {t_swS : Nat → Int32} {t_swW : Nat → Int32} {t_waS : Nat → Int32} {t_spoons : Int32} {t_kind : Nat → Int32} {t_mark : Nat → Int32} {t_silver : Nat → Int32} {t_fresh : Nat → Int64} {t_texts : Nat → Option Nat}
theorem E_check (tst : Nat → Nat → Int32) (aside names pile : Nat → Int32) (hh : Rh h_weight h_known h_hour h_swS h_swW h_waS h_spoons h_kind h_mark h_silver h_fresh h_texts h_tape h_tapeCount h_z h_waiting h_waitingCount d L tx) : ∃ (r wcR : Int32) (w : TW) (dR asR nR pR : Nat → Int32), fX11_check h_weight h_known h_hour h_swS h_swW h_waS h_spoons h_kind h_mark h_silver h_fresh h_texts h_waiting h_waitingCount t_weight t_known t_hour t_swS t_swW t_waS t_spoons t_kind t_mark t_silver t_fresh t_texts L tx tst = some (r, wcR, w) ∧ fX12_check d aside names pile = some (r, dR, asR, nR, pR) ∧ Rh h_weight h_known h_hour h_swS h_swW h_waS h_spoons h_kind h_mark h_silver h_fresh h_texts h_tape h_tapeCount h_z h_waiting wcR dR L tx := by
  obtain ⟨A, E, hW, hH, hM, hC, hT, hG, hO⟩ := hh
  obtain ⟨hz, htp, wc, hwc, q1, q2, hwt⟩ := hO
  have hM' : RM (upd d 5 (0 : Int32)) A := RM_o hM _ (Or.inr (Or.inr (Or.inl rfl)))
  have hT' : TMc (upd d 5 (0 : Int32)) E := TMc_u hT _ (Or.inl (by decide))
  obtain ⟨w1, k1, o1, sS, sW, wa, sp, ki, mk, sv, fr, te, hf, hCt, hGt⟩ := c_follow (t_weight := t_weight) (t_known := t_known) (t_hour := t_hour) (t_swS := t_swS) (t_swW := t_swW) (t_waS := t_waS) (t_spoons := t_spoons) (t_kind := t_kind) (t_mark := t_mark) (t_silver := t_silver) (t_fresh := t_fresh) (t_texts := t_texts) hC hG
  obtain ⟨u, k', o', v', f', ts', g1, g2⟩ := c_unlike (E := E) (te := te) (L := L) (tx := tx) (nn := 20) hW hCt hGt.gc hwc (by decide) (by omega) h_waiting tst
  obtain ⟨as', hk1, hk2⟩ := m_keep (upd d 5 (0 : Int32)) aside
  have hnum : ∀ d1, Sm (upd d 5 (0 : Int32)) d1 → ∀ i, i < wc → d1 (156 + i) = h_waiting i := fun d1 hS i hi => by
    rw [hS.2.2.2 (156 + i) (by omega), hwt i hi]
    exact if_neg (by omega)
  have hres : ∃ (d9 n9 p9 : Nat → Int32) (u2 x9 : Int32), lp (fun σ : Int32 × Int32 × (Nat → Int32) × (Nat → Int32) × (Nat → Int32) => fX12_check_22B (nI wc) as' (σ.1) (σ.2.1) (σ.2.2.1) (σ.2.2.2.1) (σ.2.2.2.2)) FU ((0 : Int32), (0 : Int32), upd d 5 (0 : Int32), names, pile) = some (u2, x9, d9, n9, p9) ∧ Sm (upd d 5 (0 : Int32)) d9 ∧ u2 = u + (1 : Int32) := by
    have stp : ∀ (i : Nat) (d1 n1 p1 : Nat → Int32), i < wc → Sm (upd d 5 (0 : Int32)) d1 → RM d1 (runA E i A) → ∃ d2 n2 p2, Sm (upd d 5 (0 : Int32)) d2 ∧ RM d2 (runA E (i + 1) A) ∧ fX12_check_22B (nI wc) as' (nI 0) (nI i) d1 n1 p1 = (if h_waiting i = nI (pc (aK (runA E (i + 1) A))) then some (.inl (nI 0, nI (i + 1), d2, n2, p2)) else some (.inl (nI (1 + i), nI (i + 1), d2, n2, p2))) := fun i d1 n1 p1 hi hS hM1 => by
      obtain ⟨d2, n2, p2, g1, g2, g3⟩ := m_hour (Wf_runA (E := E) hW i (by omega)) hM1 (fun d9 h9 => hT'.tgs d9 (hS.tr h9)) (by rw [runA_H]; omega) n1 p1
      have g2 : RM d2 (runA E (i + 1) A) := g2
      have hK := (Wf_runA (E := E) hW (i + 1) (by omega)).2.2.1
      have ek : d2 2 = nI (aK (runA E (i + 1) A)) := g2.2.2.1
      refine ⟨d2, n2, p2, hS.tr g3, g2, ?_⟩
      unfold fX12_check_22B fX12_check_64
      rw [if_neg (by rw [nI_leI (by omega) (by omega)]; omega), if_pos (show nI 0 = (0 : Int32) from rfl), bd_of g1]
      dsimp only
      rw [o_156, nI_add, ckI_s (by omega) (by omega), nI_clamp (by omega), o_2, ckI_s (by decide) (by decide), nI_clamp (by decide), ek, bd_of (m_ones hK), hnum d2 (hS.tr g3) i hi, o_1, bnd_q, bnd_q, nI_add, nI_add, o_0]
    rcases g2 with ⟨i, hi, rfl, hno, hbe⟩ | ⟨rfl, hbe⟩
    · obtain ⟨⟨u2, x9, d9, n9, p9⟩, l1, e1, e2⟩ := lpE (fun σ : Int32 × Int32 × (Nat → Int32) × (Nat → Int32) × (Nat → Int32) => fX12_check_22B (nI wc) as' (σ.1) (σ.2.1) (σ.2.2.1) (σ.2.2.2.1) (σ.2.2.2.2)) (fun j s => ∃ (d1 n1 p1 : Nat → Int32), Sm (upd d 5 (0 : Int32)) d1 ∧ ((j ≤ i ∧ s = (nI 0, nI j, d1, n1, p1) ∧ RM d1 (runA E j A)) ∨ (j = i + 1 ∧ s = (nI (1 + i), nI j, d1, n1, p1)))) (fun r => Sm (upd d 5 (0 : Int32)) r.2.2.1 ∧ r.1 = nI (1 + i)) (i + 1)
        (fun j s hj hI => by
          obtain ⟨d1, n1, p1, hS, ⟨hji, rfl, hM1⟩ | ⟨hji, -⟩⟩ := hI
          · obtain ⟨d2, n2, p2, a1, a2, a3⟩ := stp j d1 n1 p1 (by omega) hS hM1
            by_cases e : j = i
            · subst e
              exact Or.inl ⟨_, a3.trans (if_neg hno), d2, n2, p2, a1, Or.inr ⟨rfl, rfl⟩⟩
            · exact Or.inl ⟨_, a3.trans (if_pos (hbe j (by omega))), d2, n2, p2, a1, Or.inl ⟨by omega, rfl, a2⟩⟩
          · omega)
        (fun s hI => by
          obtain ⟨d1, n1, p1, hS, ⟨hji, -, -⟩ | ⟨-, rfl⟩⟩ := hI
          · omega
          · refine ⟨(nI (1 + i), nI (i + 1), d1, n1, p1), ?_, hS, rfl⟩
            show fX12_check_22B (nI wc) as' (nI (1 + i)) (nI (i + 1)) d1 n1 p1 = _
            unfold fX12_check_22B
            by_cases c : nI wc ≤ nI (i + 1)
            · rw [if_pos c]
            · rw [if_neg c, if_neg (by rw [o_0, nI_eq (by omega) (by decide)]; omega)])
        (FU_lt (by omega)) (nI 0, nI 0, upd d 5 (0 : Int32), names, pile) ⟨_, names, pile, Sm.rf, Or.inl ⟨Nat.zero_le _, rfl, hM'⟩⟩
      exact ⟨d9, n9, p9, u2, x9, l1, e1, e2.trans (by rw [o_1, nI_add, Nat.add_comm])⟩
    · obtain ⟨⟨u2, x9, d9, n9, p9⟩, l1, e1, e2⟩ := lpE (fun σ : Int32 × Int32 × (Nat → Int32) × (Nat → Int32) × (Nat → Int32) => fX12_check_22B (nI wc) as' (σ.1) (σ.2.1) (σ.2.2.1) (σ.2.2.2.1) (σ.2.2.2.2)) (fun j s => ∃ (d1 n1 p1 : Nat → Int32), Sm (upd d 5 (0 : Int32)) d1 ∧ s = (nI 0, nI j, d1, n1, p1) ∧ RM d1 (runA E j A)) (fun r => Sm (upd d 5 (0 : Int32)) r.2.2.1 ∧ r.1 = nI 0) wc
        (fun j s hj hI => by
          obtain ⟨d1, n1, p1, hS, rfl, hM1⟩ := hI
          obtain ⟨d2, n2, p2, a1, a2, a3⟩ := stp j d1 n1 p1 (by omega) hS hM1
          exact Or.inl ⟨_, a3.trans (if_pos (hbe j (by omega))), d2, n2, p2, a1, rfl, a2⟩)
        (fun s hI => by
          obtain ⟨d1, n1, p1, hS, rfl, hM1⟩ := hI
          refine ⟨(nI 0, nI wc, d1, n1, p1), ?_, hS, rfl⟩
          show fX12_check_22B (nI wc) as' (nI 0) (nI wc) d1 n1 p1 = _
          unfold fX12_check_22B
          rw [if_pos ((nI_leI (by omega) (by omega)).mpr (Nat.le_refl _))])
        (FU_lt (by omega)) (nI 0, nI 0, upd d 5 (0 : Int32), names, pile) ⟨_, names, pile, Sm.rf, rfl, hM'⟩
      exact ⟨d9, n9, p9, u2, x9, l1, e1, e2.trans (by decide)⟩
  obtain ⟨d9, n9, p9, u2, x9, l1, hS9, rfl⟩ := hres
  have hbk := m_back (d' := d9) hk2 hS9.2.2.2
  refine ⟨u + (1 : Int32), (0 : Int32), (w1, k', o', sS, sW, wa, sp, ki, mk, v', f', te, ts'), upd d 5 (0 : Int32), as', n9, p9, ?_, ?_, A, E, hW, hH, hM', hC, hT', hG, hz, (let ⟨tp, h1, h2, h3, h4⟩ := htp; ⟨tp, h1, h2, (if_neg (by decide)).trans h3, fun j hj => let ⟨b, b1, b2, b3⟩ := h4 j hj; ⟨b, b1, b2, (if_neg (by omega)).trans b3⟩⟩), 0, by decide, rfl, rfl, fun j hj => by omega⟩
  · unfold fX11_check
    rw [bd_of hf]
    dsimp only
    rw [q1, bd_of g1]
  · unfold fX12_check
    rw [o_5, ckI_s (by decide) (by decide), nI_clamp (by decide), bnd_q, bnd_q, bd_of hk1, q2]
    unfold fX12_check_22
    refine (bd_of l1).trans ?_
    dsimp only
    rw [bd_of hbk]
end E8
