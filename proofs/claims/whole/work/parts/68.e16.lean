/-! image, restore, the start -/
section E16
variable {errors found : Nat → Int32} {h_weight : Nat → Int32} {h_known : Int32} {h_hour : Int32} {h_swS : Nat → Int32} {h_swW : Nat → Int32} {h_waS : Nat → Int32} {h_spoons : Int32} {h_kind : Nat → Int32} {h_mark : Nat → Int32} {h_silver : Nat → Int32} {h_fresh : Nat → Int64} {h_texts : Nat → Option Nat} {h_tape : Nat → Int32} {h_tapeCount : Int32} {h_z : Int32} {h_waiting : Nat → Int32} {h_waitingCount : Int32} {d : Nat → Int32} {L : List Nat} {tx : Nat → TXc}
variable {e_weight : Nat → Int32} {e_known : Int32} {e_hour : Int32} {e_swS : Nat → Int32} {e_swW : Nat → Int32} {e_waS : Nat → Int32} {e_spoons : Int32} {e_kind : Nat → Int32} {e_mark : Nat → Int32} {e_silver : Nat → Int32} {e_fresh : Nat → Int64} {e_texts : Nat → Option Nat} {e_tape : Nat → Int32} {e_tapeCount : Int32} {e_z : Int32} {e_waiting : Nat → Int32} {e_waitingCount : Int32}
theorem RM_cg {d d' : Nat → Int32} {A : AS} (h : RM d A) (g : ∀ k, k < 326 → d' k = d k) : RM d' A := by
  obtain ⟨r0, r1, r2, rW, rB, rD, rS, rC, rM, rV, rF⟩ := h
  exact ⟨(g _ (by omega)).trans r0, (g _ (by omega)).trans r1, (g _ (by omega)).trans r2, fun j hj => (g _ (by omega)).trans (rW j hj), fun j hj => (g _ (by omega)).trans (rB j hj), fun j hj => (g _ (by omega)).trans (rD j hj), fun j hj => (g _ (by omega)).trans (rS j hj), fun j hj => (g _ (by omega)).trans (rC j hj), fun j hj => (g _ (by omega)).trans (rM j hj), fun j hj => (g _ (by omega)).trans (rV j hj), fun s hs w hw => (g _ (by omega)).trans (rF s hs w hw)⟩
theorem TMc_cg {d d' : Nat → Int32} {E : EVt} (h : TMc d E) (g : ∀ k, k < 326 → d' k = d k) : TMc d' E := fun use hu => by
  obtain ⟨co, len, h1, h2, h3, h4, h5⟩ := h use hu
  exact ⟨co, len, h1, h2, (g _ (by omega)).trans h3, fun k hk => (g _ (by omega)).trans (h4 k hk), h5⟩
theorem Ro_cg {tape : Nat → Int32} {tapeCount z : Int32} {waiting : Nat → Int32} {waitingCount : Int32} {d d' : Nat → Int32} (h : Ro tape tapeCount z waiting waitingCount d) (g : ∀ k, k < 326 → d' k = d k) : Ro tape tapeCount z waiting waitingCount d' := by
  obtain ⟨h1, ⟨tp, h2, h3, h4, h5⟩, wc, h6, h7, h8, h9⟩ := h
  refine ⟨h1.trans (g _ (by omega)).symm, ⟨tp, h2, h3, (g _ (by omega)).trans h4, fun j hj => ?_⟩, wc, h6, h7, (g _ (by omega)).trans h8, fun j hj => (h9 j hj).trans (g _ (by omega)).symm⟩
  obtain ⟨b, b1, b2, b3⟩ := h5 j hj
  exact ⟨b, b1, b2, (g _ (by omega)).trans b3⟩
theorem Rh_cg {d' : Nat → Int32} (hh : Rh h_weight h_known h_hour h_swS h_swW h_waS h_spoons h_kind h_mark h_silver h_fresh h_texts h_tape h_tapeCount h_z h_waiting h_waitingCount d L tx) (g : ∀ k, k < 326 → d' k = d k) : Rh h_weight h_known h_hour h_swS h_swW h_waS h_spoons h_kind h_mark h_silver h_fresh h_texts h_tape h_tapeCount h_z h_waiting h_waitingCount d' L tx := by
  obtain ⟨A, E, hW, hH, hM, hC, hT, hG, hO⟩ := hh
  exact ⟨A, E, hW, hH, RM_cg hM g, hC, TMc_cg hT g, hG, Ro_cg hO g⟩
theorem c_keep (hh : Rh h_weight h_known h_hour h_swS h_swW h_waS h_spoons h_kind h_mark h_silver h_fresh h_texts h_tape h_tapeCount h_z h_waiting h_waitingCount d L tx) : ∃ (r_weight : Nat → Int32) (r_known : Int32) (r_hour : Int32) (r_swS : Nat → Int32) (r_swW : Nat → Int32) (r_waS : Nat → Int32) (r_spoons : Int32) (r_kind : Nat → Int32) (r_mark : Nat → Int32) (r_silver : Nat → Int32) (r_fresh : Nat → Int64) (r_texts : Nat → Option Nat) (r_tape : Nat → Int32) (r_tapeCount : Int32) (r_z : Int32) (r_waiting : Nat → Int32) (r_waitingCount : Int32), fX3_keep e_weight e_known e_hour e_swS e_swW e_waS e_spoons e_kind e_mark e_silver e_fresh e_texts e_tape e_tapeCount e_z e_waiting e_waitingCount h_weight h_known h_hour h_swS h_swW h_waS h_spoons h_kind h_mark h_silver h_fresh h_texts h_tape h_tapeCount h_z h_waiting h_waitingCount L = some (r_weight, r_known, r_hour, r_swS, r_swW, r_waS, r_spoons, r_kind, r_mark, r_silver, r_fresh, r_texts, r_tape, r_tapeCount, r_z, r_waiting, r_waitingCount) ∧ Rh r_weight r_known r_hour r_swS r_swW r_waS r_spoons r_kind r_mark r_silver r_fresh r_texts r_tape r_tapeCount r_z r_waiting r_waitingCount d L tx := by
  obtain ⟨A, E, hW, hH, hM, hC, hT, hG, hO⟩ := hh
  obtain ⟨w1, k1, o1, sS, sW, wa, sp, ki, mk, sv, fr, te, hf, hCt, hGt⟩ := c_follow (t_weight := e_weight) (t_known := e_known) (t_hour := e_hour) (t_swS := e_swS) (t_swW := e_swW) (t_waS := e_waS) (t_spoons := e_spoons) (t_kind := e_kind) (t_mark := e_mark) (t_silver := e_silver) (t_fresh := e_fresh) (t_texts := e_texts) hC hG
  refine ⟨w1, k1, o1, sS, sW, wa, sp, ki, mk, sv, fr, te, va_cpy h_tape e_tape (nI 0).toNatClampNeg (nI 0).toNatClampNeg 50, h_tapeCount, h_z, va_cpy h_waiting e_waiting (nI 0).toNatClampNeg (nI 0).toNatClampNeg 20, h_waitingCount, ?_, A, E, hW, hH, hM, hCt, hT, hGt, ?_⟩
  · unfold fX3_keep
    rw [bd_of hf]
    dsimp only
    rw [show (50 : Int32).toNatClampNeg = 50 from nI_clamp (n := 50) (by decide), show (20 : Int32).toNatClampNeg = 20 from nI_clamp (n := 20) (by decide), bnd_q, bnd_q]
    rfl
  · obtain ⟨h1, ⟨tp, h2, h3, h4, h5⟩, wc, h6, h7, h8, h9⟩ := hO
    refine ⟨h1, ⟨tp, h2, h3, h4, fun j hj => ?_⟩, wc, h6, h7, h8, fun j hj => (cpy0 (by omega)).trans (h9 j hj)⟩
    obtain ⟨b, b1, b2, b3⟩ := h5 j hj
    exact ⟨b, b1, (cpy0 (by omega)).trans b2, b3⟩
theorem m_copyK (d kept : Nat → Int32) (im : Int32) : ∃ k', lp (fun σ : Int32 × (Nat → Int32) => fX12_image_2B d im (σ.1) (σ.2)) FU (nI 0, kept) = some (nI 326, k') ∧ ∀ k, k < 326 → k' k = d k := by
  obtain ⟨⟨x, a2⟩, l1, e1, h⟩ := lpE (fun σ : Int32 × (Nat → Int32) => fX12_image_2B d im (σ.1) (σ.2)) (fun i s => s.1 = nI i ∧ ∀ k, k < i → s.2 k = d k) (fun r => r.1 = nI 326 ∧ ∀ k, k < 326 → r.2 k = d k) 326
    (fun i s hi hI => by
      obtain ⟨x, a2⟩ := s
      obtain ⟨h1, h2⟩ := hI
      have h1 : x = nI i := h1
      subst h1
      refine Or.inl ⟨(nI (i + 1), upd a2 i (d i)), ?_, rfl, fun j hj => ?_⟩
      · show fX12_image_2B d im (nI i) a2 = _
        unfold fX12_image_2B
        rw [o_326, if_neg (by rw [nI_leI (by omega) (by omega)]; omega)]
        simp (disch := omega) only [bnd_q, ckI_s, nI_clamp, o_1, nI_add]
      · show upd a2 i (d i) j = _
        by_cases e : j = i
        · rw [e, upd_s]
        · rw [upd_n e]
          exact h2 j (by omega))
    (fun s hI => by
      obtain ⟨x, a2⟩ := s
      obtain ⟨h1, h2⟩ := hI
      have h1 : x = nI 326 := h1
      subst h1
      refine ⟨(nI 326, a2), ?_, rfl, h2⟩
      show fX12_image_2B d im (nI 326) a2 = _
      unfold fX12_image_2B
      rw [if_pos (by decide)])
    (FU_lt (by decide)) (nI 0, kept) ⟨rfl, fun k hk => absurd hk (Nat.not_lt_zero _)⟩
  have e1 : x = nI 326 := e1
  subst e1
  exact ⟨a2, l1, h⟩
theorem m_copyR (d kept : Nat → Int32) (im : Int32) (fd : Nat → Int32) : ∃ k', lp (fun σ : Int32 × (Nat → Int32) => fX12_restore_15B kept im fd (σ.1) (σ.2)) FU (nI 0, d) = some (nI 326, k') ∧ ∀ k, k < 326 → k' k = kept k := by
  obtain ⟨⟨x, a2⟩, l1, e1, h⟩ := lpE (fun σ : Int32 × (Nat → Int32) => fX12_restore_15B kept im fd (σ.1) (σ.2)) (fun i s => s.1 = nI i ∧ ∀ k, k < i → s.2 k = kept k) (fun r => r.1 = nI 326 ∧ ∀ k, k < 326 → r.2 k = kept k) 326
    (fun i s hi hI => by
      obtain ⟨x, a2⟩ := s
      obtain ⟨h1, h2⟩ := hI
      have h1 : x = nI i := h1
      subst h1
      refine Or.inl ⟨(nI (i + 1), upd a2 i (kept i)), ?_, rfl, fun j hj => ?_⟩
      · show fX12_restore_15B kept im fd (nI i) a2 = _
        unfold fX12_restore_15B
        rw [o_326, if_neg (by rw [nI_leI (by omega) (by omega)]; omega)]
        simp (disch := omega) only [bnd_q, ckI_s, nI_clamp, o_1, nI_add]
      · show upd a2 i (kept i) j = _
        by_cases e : j = i
        · rw [e, upd_s]
        · rw [upd_n e]
          exact h2 j (by omega))
    (fun s hI => by
      obtain ⟨x, a2⟩ := s
      obtain ⟨h1, h2⟩ := hI
      have h1 : x = nI 326 := h1
      subst h1
      refine ⟨(nI 326, a2), ?_, rfl, h2⟩
      show fX12_restore_15B kept im fd (nI 326) a2 = _
      unfold fX12_restore_15B
      rw [if_pos (by decide)])
    (FU_lt (by decide)) (nI 0, d) ⟨rfl, fun k hk => absurd hk (Nat.not_lt_zero _)⟩
  have e1 : x = nI 326 := e1
  subst e1
  exact ⟨a2, l1, h⟩
theorem E_image (images : Int32) (kept : Nat → Int32) (hh : Rh h_weight h_known h_hour h_swS h_swW h_waS h_spoons h_kind h_mark h_silver h_fresh h_texts h_tape h_tapeCount h_z h_waiting h_waitingCount d L tx) : ∃ (r imR : Int32) (r_weight : Nat → Int32) (r_known : Int32) (r_hour : Int32) (r_swS : Nat → Int32) (r_swW : Nat → Int32) (r_waS : Nat → Int32) (r_spoons : Int32) (r_kind : Nat → Int32) (r_mark : Nat → Int32) (r_silver : Nat → Int32) (r_fresh : Nat → Int64) (r_texts : Nat → Option Nat) (r_tape : Nat → Int32) (r_tapeCount : Int32) (r_z : Int32) (r_waiting : Nat → Int32) (r_waitingCount : Int32) (keptR : Nat → Int32), fX11_image images h_weight h_known h_hour h_swS h_swW h_waS h_spoons h_kind h_mark h_silver h_fresh h_texts h_tape h_tapeCount h_z h_waiting h_waitingCount e_weight e_known e_hour e_swS e_swW e_waS e_spoons e_kind e_mark e_silver e_fresh e_texts e_tape e_tapeCount e_z e_waiting e_waitingCount L = some (r, imR, r_weight, r_known, r_hour, r_swS, r_swW, r_waS, r_spoons, r_kind, r_mark, r_silver, r_fresh, r_texts, r_tape, r_tapeCount, r_z, r_waiting, r_waitingCount) ∧ fX12_image d kept images = some (r, keptR, imR) ∧ Rh r_weight r_known r_hour r_swS r_swW r_waS r_spoons r_kind r_mark r_silver r_fresh r_texts r_tape r_tapeCount r_z r_waiting r_waitingCount keptR L tx := by
  obtain ⟨r_weight, r_known, r_hour, r_swS, r_swW, r_waS, r_spoons, r_kind, r_mark, r_silver, r_fresh, r_texts, r_tape, r_tapeCount, r_z, r_waiting, r_waitingCount, hk, hR⟩ := c_keep (e_weight := e_weight) (e_known := e_known) (e_hour := e_hour) (e_swS := e_swS) (e_swW := e_swW) (e_waS := e_waS) (e_spoons := e_spoons) (e_kind := e_kind) (e_mark := e_mark) (e_silver := e_silver) (e_fresh := e_fresh) (e_texts := e_texts) (e_tape := e_tape) (e_tapeCount := e_tapeCount) (e_z := e_z) (e_waiting := e_waiting) (e_waitingCount := e_waitingCount) hh
  obtain ⟨k', l1, hk2⟩ := m_copyK d kept images
  refine ⟨images + (1 : Int32), images + (1 : Int32), r_weight, r_known, r_hour, r_swS, r_swW, r_waS, r_spoons, r_kind, r_mark, r_silver, r_fresh, r_texts, r_tape, r_tapeCount, r_z, r_waiting, r_waitingCount, k', ?_, ?_, Rh_cg hR hk2⟩
  · unfold fX11_image
    rw [bd_of hk]
    dsimp only
    rw [bnd_q]
  · unfold fX12_image fX12_image_2
    refine (bd_of l1).trans ?_
    dsimp only
    rw [bnd_q]
theorem E_restore (images : Int32) {kept : Nat → Int32} (he : Re errors found) (hh : Rh h_weight h_known h_hour h_swS h_swW h_waS h_spoons h_kind h_mark h_silver h_fresh h_texts h_tape h_tapeCount h_z h_waiting h_waitingCount d L tx) (hi : images = 0 ∨ Rh e_weight e_known e_hour e_swS e_swW e_waS e_spoons e_kind e_mark e_silver e_fresh e_texts e_tape e_tapeCount e_z e_waiting e_waitingCount kept L tx) : ∃ (r : Int32) (errorsR : Nat → Int32) (r_weight : Nat → Int32) (r_known : Int32) (r_hour : Int32) (r_swS : Nat → Int32) (r_swW : Nat → Int32) (r_waS : Nat → Int32) (r_spoons : Int32) (r_kind : Nat → Int32) (r_mark : Nat → Int32) (r_silver : Nat → Int32) (r_fresh : Nat → Int64) (r_texts : Nat → Option Nat) (r_tape : Nat → Int32) (r_tapeCount : Int32) (r_z : Int32) (r_waiting : Nat → Int32) (r_waitingCount : Int32) (dR foundR : Nat → Int32), fX11_restore images errors h_weight h_known h_hour h_swS h_swW h_waS h_spoons h_kind h_mark h_silver h_fresh h_texts h_tape h_tapeCount h_z h_waiting h_waitingCount e_weight e_known e_hour e_swS e_swW e_waS e_spoons e_kind e_mark e_silver e_fresh e_texts e_tape e_tapeCount e_z e_waiting e_waitingCount L = some (r, errorsR, r_weight, r_known, r_hour, r_swS, r_swW, r_waS, r_spoons, r_kind, r_mark, r_silver, r_fresh, r_texts, r_tape, r_tapeCount, r_z, r_waiting, r_waitingCount) ∧ fX12_restore d kept images found = some (r, dR, foundR) ∧ Re errorsR foundR ∧ Rh r_weight r_known r_hour r_swS r_swW r_waS r_spoons r_kind r_mark r_silver r_fresh r_texts r_tape r_tapeCount r_z r_waiting r_waitingCount dR L tx := by
  by_cases h0 : images = 0
  · refine ⟨(-1000000002 : Int32), upd errors 2 (errors 2 + nI 1), h_weight, h_known, h_hour, h_swS, h_swW, h_waS, h_spoons, h_kind, h_mark, h_silver, h_fresh, h_texts, h_tape, h_tapeCount, h_z, h_waiting, h_waitingCount, d, upd found 2 (found 2 + nI 1), ?_, ?_, Re_up he 2 (by decide), hh⟩
    · unfold fX11_restore
      rw [if_pos h0, bd_of (c_ref2 _)]
    · unfold fX12_restore
      rw [if_pos h0, o_2, bd_of (m_fin2 _)]
  · have hi2 := hi.resolve_left h0
    obtain ⟨r_weight, r_known, r_hour, r_swS, r_swW, r_waS, r_spoons, r_kind, r_mark, r_silver, r_fresh, r_texts, r_tape, r_tapeCount, r_z, r_waiting, r_waitingCount, hk, hR⟩ := c_keep (h_weight := e_weight) (h_known := e_known) (h_hour := e_hour) (h_swS := e_swS) (h_swW := e_swW) (h_waS := e_waS) (h_spoons := e_spoons) (h_kind := e_kind) (h_mark := e_mark) (h_silver := e_silver) (h_fresh := e_fresh) (h_texts := e_texts) (h_tape := e_tape) (h_tapeCount := e_tapeCount) (h_z := e_z) (h_waiting := e_waiting) (h_waitingCount := e_waitingCount) (e_weight := h_weight) (e_known := h_known) (e_hour := h_hour) (e_swS := h_swS) (e_swW := h_swW) (e_waS := h_waS) (e_spoons := h_spoons) (e_kind := h_kind) (e_mark := h_mark) (e_silver := h_silver) (e_fresh := h_fresh) (e_texts := h_texts) (e_tape := h_tape) (e_tapeCount := h_tapeCount) (e_z := h_z) (e_waiting := h_waiting) (e_waitingCount := h_waitingCount) hi2
    obtain ⟨k', l1, hk2⟩ := m_copyR d kept images found
    have hR2 := Rh_cg hR hk2
    have e1 : k' 1 = r_hour := by
      obtain ⟨A, E, hW, hH, hM, hC, -⟩ := hR2
      exact hM.2.1.trans hC.2.2.1.symm
    refine ⟨r_hour, errors, r_weight, r_known, r_hour, r_swS, r_swW, r_waS, r_spoons, r_kind, r_mark, r_silver, r_fresh, r_texts, r_tape, r_tapeCount, r_z, r_waiting, r_waitingCount, k', found, ?_, ?_, he, hR2⟩
    · unfold fX11_restore
      rw [if_neg h0, bd_of hk]
    · unfold fX12_restore
      rw [if_neg h0]
      unfold fX12_restore_15
      refine (bd_of l1).trans ?_
      dsimp only
      rw [o_1, ckI_s (by decide) (by decide), nI_clamp (by decide), e1]
end E16
