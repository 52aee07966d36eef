/-! voices and their traces -/
/-- the traces -/
def Rv (vc : Int32) (vb : Nat → Int32) (tr : Nat → Int32) (tm : Int32) : Prop := ∃ c, c ≤ 40 ∧ vc = nI c ∧ tm = nI c ∧ ∀ j, j < c → vb j = tr j
def VR (X : Option (Int32 × Int32 × (Nat → Int32))) (Y : Option (Int32 × (Nat → Int32) × Int32)) : Prop := ∃ (r vc : Int32) (vb tr : Nat → Int32) (tm : Int32), X = some (r, vc, vb) ∧ Y = some (r, tr, tm) ∧ Rv vc vb tr tm
def D8 (J : Nat) (x vsp vm vc : Int32) (vb : Nat → Int32) : Option (Int32 × Int32 × (Nat → Int32)) := bd (fX10_begins (11 : Int32) vc vb) fun (a, b) => bd (dX_shines J x vsp vm a b) fun (r, c, e) => some (r * (2 : Int32), c, e)
def D0 (J : Nat) (x vsp vm vc : Int32) (vb : Nat → Int32) : Option (Int32 × Int32 × (Nat → Int32)) := bd (fX10_begins (30 : Int32) vc vb) fun (a, b) => bd (D8 J x vsp vm a b) fun (r, c, e) => bd (dX_holds J (1 : Int32) vsp vm c e) fun (r8, c9, e9) => some (r - r8, c9, e9)
def D4 (J : Nat) (x vsp vm vc : Int32) (vb : Nat → Int32) : Option (Int32 × Int32 × (Nat → Int32)) := bd (fX10_begins (60 : Int32) vc vb) fun (a, b) => bd (D0 J (x + (1 : Int32)) vsp vm a b) fun (r, c, e) => some (r, c, e)
def H8 (x vm vc : Int32) (vb : Nat → Int32) : Option (Int32 × Int32 × (Nat → Int32)) := bd (fX10_begins (12 : Int32) vc vb) fun (a, b) => some (x - vm, a, b)
def H5 (x vm vc : Int32) (vb : Nat → Int32) : Option (Int32 × Int32 × (Nat → Int32)) := bd (fX10_begins (40 : Int32) vc vb) fun (a, b) => bd (H8 x vm a b) fun (r, c, e) => some (-r, c, e)
def H1 (x vsp vm vc : Int32) (vb : Nat → Int32) : Option (Int32 × Int32 × (Nat → Int32)) := bd (fX10_begins (70 : Int32) vc vb) fun (a, b) => bd (H5 x vm a b) fun (r, c, e) => some (r ^^^ vsp, c, e)
def T8 (J : Nat) (x vsp vm vc : Int32) (vb : Nat → Int32) : Option (Int32 × Int32 × (Nat → Int32)) := bd (fX10_begins (13 : Int32) vc vb) fun (a, b) => bd (dX_dulls J x vsp vm a b) fun (r, c, e) => bd (dX_holds J x vsp vm c e) fun (r8, c9, e9) => some (r ^^^ r8, c9, e9)
def T6 (J : Nat) (x vsp vm vc : Int32) (vb : Nat → Int32) : Option (Int32 × Int32 × (Nat → Int32)) := bd (fX10_begins (50 : Int32) vc vb) fun (a, b) => bd (T8 J x vsp vm a b) fun (r, c, e) => bd (dX_shines J (2 : Int32) vsp vm c e) fun (r8, c9, e9) => some (r - r8, c9, e9)
def T1 (J : Nat) (x vsp vm vc : Int32) (vb : Nat → Int32) : Option (Int32 × Int32 × (Nat → Int32)) := bd (fX10_begins (71 : Int32) vc vb) fun (a, b) => bd (dX_dulls J x vsp vm a b) fun (r, c, e) => bd (T8 J x vsp vm c e) fun (r8, c9, e9) => some (r - r8, c9, e9)
theorem V_ran (k : Int32) {vc : Int32} {vb tr : Nat → Int32} {tm : Int32} (h : Rv vc vb tr tm) : ∃ (vc' : Int32) (vb' tr' : Nat → Int32) (tm' : Int32), fX10_begins k vc vb = some (vc', vb') ∧ fX12_ran k tr tm = some (tr', tm') ∧ Rv vc' vb' tr' tm' := by
  obtain ⟨c, h1, rfl, rfl, h2⟩ := h
  unfold fX10_begins fX12_ran
  by_cases e : 40 ≤ c
  · refine ⟨nI c, vb, tr, nI c, ?_, ?_, c, h1, rfl, rfl, h2⟩
    · rw [o_40, if_pos ((nI_leI (by omega) (by omega)).mpr e)]
    · rw [o_40, if_pos ((nI_leI (by omega) (by omega)).mpr e)]
  · refine ⟨nI (c + 1), upd vb c k, upd tr c k, nI (c + 1), ?_, ?_, c + 1, by omega, rfl, rfl, fun j hj => ?_⟩
    · rw [o_40, if_neg (fun h => e ((nI_leI (by omega) (by omega)).mp h)), ckI_s (by omega) (by omega), nI_clamp (by omega), bnd_q, o_1, nI_add, bnd_q]
    · rw [o_40, if_neg (fun h => e ((nI_leI (by omega) (by omega)).mp h)), ckI_s (by omega) (by omega), nI_clamp (by omega), bnd_q, o_1, nI_add, bnd_q]
    · by_cases g : j = c
      · rw [g, upd_s, upd_s]
      · rw [upd_n g, upd_n g]
        exact h2 j (by omega)
section V
variable {vc : Int32} {vb tr : Nat → Int32} {tm : Int32} {d : Nat → Int32}
theorem V_s0 (n : Nat) (x vsp : Int32) (h : Rv vc vb tr tm) : VR (fX8_shines_k8 x vsp vc vb) (fX12_shinesBy (n + 1) (nI 0) x tr tm vsp) := by
  obtain ⟨vc1, vb1, tr1, tm1, h1, h2, h3⟩ := V_ran (10 : Int32) h
  show VR _ (fbX12_shinesBy (fX12_shinesBy n) (nI 0) x tr tm vsp)
  unfold fX8_shines_k8 fbX12_shinesBy
  rw [if_pos (show nI 0 = (0 : Int32) from rfl), bd_of h1, bd_of h2]
  exact ⟨_, _, _, _, _, rfl, rfl, h3⟩
theorem V_s1 (n : Nat) (x vsp : Int32) (h : Rv vc vb tr tm) : VR (fX2_shines_k2 x vsp vc vb) (fX12_shinesBy (n + 2) (nI 1) x tr tm vsp) := by
  obtain ⟨vc1, vb1, tr1, tm1, h1, h2, h3⟩ := V_ran (20 : Int32) h
  obtain ⟨r4, vc2, vb2, tr2, tm2, h4, h5, h6⟩ := V_s0 n x vsp h3
  show VR _ (fbX12_shinesBy (fX12_shinesBy (n + 1)) (nI 1) x tr tm vsp)
  unfold fX2_shines_k2 fbX12_shinesBy
  rw [if_neg (show ¬ nI 1 = (0 : Int32) by decide), if_pos (show nI 1 = (1 : Int32) from rfl), bd_of h1, bd_of h2]
  dsimp only
  rw [show fX12_above (1 : Int32) = some (nI 0) from rfl, bd_q, bd_of h5, show fX8_shines_k2 x vsp vc1 vb1 = some (r4, vc2, vb2) from h4, bd_q]
  exact ⟨_, _, _, _, _, rfl, rfl, h6⟩
theorem V_sp {X} {n a b : Nat} (x vsp : Int32) (h0 : ¬ nI a = (0 : Int32)) (h1 : ¬ nI a = (1 : Int32)) (hab : fX12_above (nI a) = some (nI b)) (h : VR X (fX12_shinesBy n (nI b) x tr tm vsp)) : VR X (fX12_shinesBy (n + 1) (nI a) x tr tm vsp) := by
  obtain ⟨r, vc1, vb1, tr1, tm1, e1, e2, e3⟩ := h
  refine ⟨r, vc1, vb1, tr1, tm1, e1, ?_, e3⟩
  show fbX12_shinesBy (fX12_shinesBy n) (nI a) x tr tm vsp = _
  unfold fbX12_shinesBy
  rw [if_neg h0, if_neg h1, bd_of hab, bd_of e2]
theorem V_sh {J : Nat} (hJ : J < 7) (x vsp vm : Int32) (h : Rv vc vb tr tm) : VR (dX_shines J x vsp vm vc vb) (fX12_shinesBy 8 (nI J) x tr tm vsp) := by
  rcases (show J = 0 ∨ J = 1 ∨ J = 2 ∨ J = 3 ∨ J = 4 ∨ J = 5 ∨ J = 6 by omega) with rfl | rfl | rfl | rfl | rfl | rfl | rfl
  · exact V_s0 7 x vsp h
  · exact V_s1 6 x vsp h
  · exact V_sp x vsp (by decide) (by decide) rfl (V_s0 6 x vsp h)
  · exact V_sp x vsp (by decide) (by decide) rfl (V_s0 6 x vsp h)
  · exact V_sp x vsp (by decide) (by decide) rfl (V_s1 5 x vsp h)
  · exact V_sp x vsp (by decide) (by decide) rfl (V_sp x vsp (by decide) (by decide) rfl (V_s0 5 x vsp h))
  · exact V_sp x vsp (by decide) (by decide) rfl (V_sp x vsp (by decide) (by decide) rfl (V_s0 5 x vsp h))
theorem V_hp {X} {n a b s : Nat} (x : Int32) (h0 : ¬ nI a = (0 : Int32)) (h1 : ¬ nI a = (3 : Int32)) (h2 : ¬ nI a = (6 : Int32)) (hab : fX12_above (nI a) = some (nI b)) (h : VR X (fX12_holdsBy n (nI b) x d tr tm (nI s))) : VR X (fX12_holdsBy (n + 1) (nI a) x d tr tm (nI s)) := by
  obtain ⟨r, vc1, vb1, tr1, tm1, e1, e2, e3⟩ := h
  refine ⟨r, vc1, vb1, tr1, tm1, e1, ?_, e3⟩
  show fbX12_holdsBy (fX12_holdsBy n) (nI a) x d tr tm (nI s) = _
  unfold fbX12_holdsBy
  rw [if_neg h0, if_neg h1, if_neg h2, bd_of hab, bd_of e2]
variable {s J mk : Nat}
theorem V_h0 (hs : s < 8) (hm : d (34 + 15 * s + 1) = nI mk) (n : Nat) (x : Int32) (h : Rv vc vb tr tm) : VR (H8 x (nI mk) vc vb) (fX12_holdsBy (n + 1) (nI 0) x d tr tm (nI s)) := by
  obtain ⟨vc1, vb1, tr1, tm1, h1, h2, h3⟩ := V_ran (12 : Int32) h
  show VR _ (fbX12_holdsBy (fX12_holdsBy n) (nI 0) x d tr tm (nI s))
  unfold H8 fbX12_holdsBy
  rw [if_pos (show nI 0 = (0 : Int32) from rfl), bd_of h1, bd_of h2]
  dsimp only
  rw [show fX12_of (nI s) (1 : Int32) d = some (nI mk) from (m_of d hs (by decide)).trans (congrArg some hm), bd_q]
  exact ⟨_, _, _, _, _, rfl, rfl, h3⟩
theorem V_h3 (hs : s < 8) (hm : d (34 + 15 * s + 1) = nI mk) (n : Nat) (x : Int32) (h : Rv vc vb tr tm) : VR (H5 x (nI mk) vc vb) (fX12_holdsBy (n + 2) (nI 3) x d tr tm (nI s)) := by
  obtain ⟨vc1, vb1, tr1, tm1, h1, h2, h3⟩ := V_ran (40 : Int32) h
  obtain ⟨r4, vc2, vb2, tr2, tm2, h4, h5, h6⟩ := V_h0 hs hm n x h3
  show VR _ (fbX12_holdsBy (fX12_holdsBy (n + 1)) (nI 3) x d tr tm (nI s))
  unfold H5 fbX12_holdsBy
  rw [if_neg (show ¬ nI 3 = (0 : Int32) by decide), if_pos (show nI 3 = (3 : Int32) from rfl), bd_of h1, bd_of h2]
  dsimp only
  rw [show fX12_above (3 : Int32) = some (nI 0) from rfl, bd_q, bd_of h5, bd_of h4]
  exact ⟨_, _, _, _, _, rfl, rfl, h6⟩
theorem V_h6 (hs : s < 8) (hm : d (34 + 15 * s + 1) = nI mk) (n : Nat) (x : Int32) (h : Rv vc vb tr tm) : VR (H1 x (nI s) (nI mk) vc vb) (fX12_holdsBy (n + 3) (nI 6) x d tr tm (nI s)) := by
  obtain ⟨vc1, vb1, tr1, tm1, h1, h2, h3⟩ := V_ran (70 : Int32) h
  obtain ⟨r4, vc2, vb2, tr2, tm2, h4, h5, h6⟩ := V_h3 hs hm n x h3
  show VR _ (fbX12_holdsBy (fX12_holdsBy (n + 2)) (nI 6) x d tr tm (nI s))
  unfold H1 fbX12_holdsBy
  rw [if_neg (show ¬ nI 6 = (0 : Int32) by decide), if_neg (show ¬ nI 6 = (3 : Int32) by decide), if_pos (show nI 6 = (6 : Int32) from rfl), bd_of h1, bd_of h2]
  dsimp only
  rw [show fX12_above (6 : Int32) = some (nI 3) from rfl, bd_q, bd_of h5, bd_of h4]
  exact ⟨_, _, _, _, _, rfl, rfl, h6⟩
theorem V_ho (hs : s < 8) (hm : d (34 + 15 * s + 1) = nI mk) (hJ : J < 7) (x : Int32) (h : Rv vc vb tr tm) : VR (dX_holds J x (nI s) (nI mk) vc vb) (fX12_holdsBy 8 (nI J) x d tr tm (nI s)) := by
  rcases (show J = 0 ∨ J = 1 ∨ J = 2 ∨ J = 3 ∨ J = 4 ∨ J = 5 ∨ J = 6 by omega) with rfl | rfl | rfl | rfl | rfl | rfl | rfl
  · exact V_h0 hs hm 7 x h
  · exact V_hp x (by decide) (by decide) (by decide) rfl (V_h0 hs hm 6 x h)
  · exact V_hp x (by decide) (by decide) (by decide) rfl (V_h0 hs hm 6 x h)
  · exact V_h3 hs hm 6 x h
  · exact V_hp x (by decide) (by decide) (by decide) rfl (V_hp x (by decide) (by decide) (by decide) rfl (V_h0 hs hm 5 x h))
  · exact V_hp x (by decide) (by decide) (by decide) rfl (V_hp x (by decide) (by decide) (by decide) rfl (V_h0 hs hm 5 x h))
  · exact V_h6 hs hm 5 x h
theorem V_dp {X} {n a b s : Nat} (x : Int32) (h0 : ¬ nI a = (0 : Int32)) (h1 : ¬ nI a = (2 : Int32)) (h2 : ¬ nI a = (5 : Int32)) (hab : fX12_above (nI a) = some (nI b)) (h : VR X (fX12_dullsBy n (nI b) x d tr tm (nI s))) : VR X (fX12_dullsBy (n + 1) (nI a) x d tr tm (nI s)) := by
  obtain ⟨r, vc1, vb1, tr1, tm1, e1, e2, e3⟩ := h
  refine ⟨r, vc1, vb1, tr1, tm1, e1, ?_, e3⟩
  show fbX12_dullsBy (fX12_dullsBy n) (nI a) x d tr tm (nI s) = _
  unfold fbX12_dullsBy
  rw [if_neg h0, if_neg h1, if_neg h2, bd_of hab, bd_of e2]
theorem V_d0 (hs : s < 8) (hk : d (34 + 15 * s + 0) = nI J) (hm : d (34 + 15 * s + 1) = nI mk) (hJ : J < 7) (n : Nat) (x : Int32) (h : Rv vc vb tr tm) : VR (D8 J x (nI s) (nI mk) vc vb) (fX12_dullsBy (n + 1) (nI 0) x d tr tm (nI s)) := by
  obtain ⟨vc1, vb1, tr1, tm1, h1, h2, h3⟩ := V_ran (11 : Int32) h
  obtain ⟨r4, vc2, vb2, tr2, tm2, h4, h5, h6⟩ := V_sh hJ x (nI s) (nI mk) h3
  show VR _ (fbX12_dullsBy (fX12_dullsBy n) (nI 0) x d tr tm (nI s))
  unfold D8 fbX12_dullsBy
  rw [if_pos (show nI 0 = (0 : Int32) from rfl), bd_of h1, bd_of h2]
  dsimp only
  rw [show fX12_of (nI s) (0 : Int32) d = some (nI J) from (m_of d hs (by decide)).trans (congrArg some hk), bd_q, bd_of h4, bd_of h5]
  exact ⟨_, _, _, _, _, rfl, rfl, h6⟩
theorem V_d2 (hs : s < 8) (hk : d (34 + 15 * s + 0) = nI J) (hm : d (34 + 15 * s + 1) = nI mk) (hJ : J < 7) (n : Nat) (x : Int32) (h : Rv vc vb tr tm) : VR (D0 J x (nI s) (nI mk) vc vb) (fX12_dullsBy (n + 2) (nI 2) x d tr tm (nI s)) := by
  obtain ⟨vc1, vb1, tr1, tm1, h1, h2, h3⟩ := V_ran (30 : Int32) h
  obtain ⟨r4, vc2, vb2, tr2, tm2, h4, h5, h6⟩ := V_d0 hs hk hm hJ n x h3
  obtain ⟨r7, vc3, vb3, tr3, tm3, h7, h8, h9⟩ := V_ho hs hm hJ (1 : Int32) h6
  show VR _ (fbX12_dullsBy (fX12_dullsBy (n + 1)) (nI 2) x d tr tm (nI s))
  unfold D0 fbX12_dullsBy
  rw [if_neg (show ¬ nI 2 = (0 : Int32) by decide), if_pos (show nI 2 = (2 : Int32) from rfl), bd_of h1, bd_of h2]
  dsimp only
  rw [show fX12_above (2 : Int32) = some (nI 0) from rfl, bd_q, bd_of h5, bd_of h4]
  dsimp only
  rw [show fX12_of (nI s) (0 : Int32) d = some (nI J) from (m_of d hs (by decide)).trans (congrArg some hk), bd_q, bd_of h7, bd_of h8]
  exact ⟨_, _, _, _, _, rfl, rfl, h9⟩
theorem V_d5 (hs : s < 8) (hk : d (34 + 15 * s + 0) = nI J) (hm : d (34 + 15 * s + 1) = nI mk) (hJ : J < 7) (n : Nat) (x : Int32) (h : Rv vc vb tr tm) : VR (D4 J x (nI s) (nI mk) vc vb) (fX12_dullsBy (n + 3) (nI 5) x d tr tm (nI s)) := by
  obtain ⟨vc1, vb1, tr1, tm1, h1, h2, h3⟩ := V_ran (60 : Int32) h
  obtain ⟨r4, vc2, vb2, tr2, tm2, h4, h5, h6⟩ := V_d2 hs hk hm hJ n (x + (1 : Int32)) h3
  show VR _ (fbX12_dullsBy (fX12_dullsBy (n + 2)) (nI 5) x d tr tm (nI s))
  unfold D4 fbX12_dullsBy
  rw [if_neg (show ¬ nI 5 = (0 : Int32) by decide), if_neg (show ¬ nI 5 = (2 : Int32) by decide), if_pos (show nI 5 = (5 : Int32) from rfl), bd_of h1, bd_of h2]
  dsimp only
  rw [show fX12_above (5 : Int32) = some (nI 2) from rfl, bd_q, bd_of h5, bd_of h4]
  exact ⟨_, _, _, _, _, rfl, rfl, h6⟩
theorem V_du (hs : s < 8) (hk : d (34 + 15 * s + 0) = nI J) (hm : d (34 + 15 * s + 1) = nI mk) (hJ : J < 7) (x : Int32) (h : Rv vc vb tr tm) : VR (dX_dulls J x (nI s) (nI mk) vc vb) (fX12_dullsBy 8 (nI J) x d tr tm (nI s)) := by
  rcases (show J = 0 ∨ J = 1 ∨ J = 2 ∨ J = 3 ∨ J = 4 ∨ J = 5 ∨ J = 6 by omega) with rfl | rfl | rfl | rfl | rfl | rfl | rfl
  · exact V_d0 hs hk hm hJ 7 x h
  · exact V_dp x (by decide) (by decide) (by decide) rfl (V_d0 hs hk hm hJ 6 x h)
  · exact V_d2 hs hk hm hJ 6 x h
  · exact V_dp x (by decide) (by decide) (by decide) rfl (V_d0 hs hk hm hJ 6 x h)
  · exact V_dp x (by decide) (by decide) (by decide) rfl (V_dp x (by decide) (by decide) (by decide) rfl (V_d0 hs hk hm hJ 5 x h))
  · exact V_d5 hs hk hm hJ 5 x h
  · exact V_dp x (by decide) (by decide) (by decide) rfl (V_dp x (by decide) (by decide) (by decide) rfl (V_d0 hs hk hm hJ 5 x h))
theorem V_tp {X} {n a b s : Nat} (x : Int32) (h0 : ¬ nI a = (0 : Int32)) (h1 : ¬ nI a = (4 : Int32)) (h2 : ¬ nI a = (6 : Int32)) (hab : fX12_above (nI a) = some (nI b)) (h : VR X (fX12_tellsBy n (nI b) x d tr tm (nI s))) : VR X (fX12_tellsBy (n + 1) (nI a) x d tr tm (nI s)) := by
  obtain ⟨r, vc1, vb1, tr1, tm1, e1, e2, e3⟩ := h
  refine ⟨r, vc1, vb1, tr1, tm1, e1, ?_, e3⟩
  show fbX12_tellsBy (fX12_tellsBy n) (nI a) x d tr tm (nI s) = _
  unfold fbX12_tellsBy
  rw [if_neg h0, if_neg h1, if_neg h2, bd_of hab, bd_of e2]
theorem V_t0 (hs : s < 8) (hk : d (34 + 15 * s + 0) = nI J) (hm : d (34 + 15 * s + 1) = nI mk) (hJ : J < 7) (n : Nat) (x : Int32) (h : Rv vc vb tr tm) : VR (T8 J x (nI s) (nI mk) vc vb) (fX12_tellsBy (n + 1) (nI 0) x d tr tm (nI s)) := by
  obtain ⟨vc1, vb1, tr1, tm1, h1, h2, h3⟩ := V_ran (13 : Int32) h
  obtain ⟨r4, vc2, vb2, tr2, tm2, h4, h5, h6⟩ := V_du hs hk hm hJ x h3
  obtain ⟨r7, vc3, vb3, tr3, tm3, h7, h8, h9⟩ := V_ho hs hm hJ x h6
  show VR _ (fbX12_tellsBy (fX12_tellsBy n) (nI 0) x d tr tm (nI s))
  unfold T8 fbX12_tellsBy
  rw [if_pos (show nI 0 = (0 : Int32) from rfl), bd_of h1, bd_of h2]
  dsimp only
  rw [show fX12_of (nI s) (0 : Int32) d = some (nI J) from (m_of d hs (by decide)).trans (congrArg some hk), bd_q, bd_of h4, bd_of h5]
  dsimp only
  rw [bd_q, bd_of h7, bd_of h8]
  exact ⟨_, _, _, _, _, rfl, rfl, h9⟩
theorem V_t4 (hs : s < 8) (hk : d (34 + 15 * s + 0) = nI J) (hm : d (34 + 15 * s + 1) = nI mk) (hJ : J < 7) (n : Nat) (x : Int32) (h : Rv vc vb tr tm) : VR (T6 J x (nI s) (nI mk) vc vb) (fX12_tellsBy (n + 3) (nI 4) x d tr tm (nI s)) := by
  obtain ⟨vc1, vb1, tr1, tm1, h1, h2, h3⟩ := V_ran (50 : Int32) h
  obtain ⟨r4, vc2, vb2, tr2, tm2, h4, h5, h6⟩ := V_tp (n := n + 1) (a := 1) (b := 0) x (by decide) (by decide) (by decide) rfl (V_t0 hs hk hm hJ n x h3)
  obtain ⟨r7, vc3, vb3, tr3, tm3, h7, h8, h9⟩ := V_sh hJ (2 : Int32) (nI s) (nI mk) h6
  show VR _ (fbX12_tellsBy (fX12_tellsBy (n + 2)) (nI 4) x d tr tm (nI s))
  unfold T6 fbX12_tellsBy
  rw [if_neg (show ¬ nI 4 = (0 : Int32) by decide), if_pos (show nI 4 = (4 : Int32) from rfl), bd_of h1, bd_of h2]
  dsimp only
  rw [show fX12_above (4 : Int32) = some (nI 1) from rfl, bd_q, bd_of h5, bd_of h4]
  dsimp only
  rw [show fX12_of (nI s) (0 : Int32) d = some (nI J) from (m_of d hs (by decide)).trans (congrArg some hk), bd_q, bd_of h7, bd_of h8]
  exact ⟨_, _, _, _, _, rfl, rfl, h9⟩
theorem V_t6 (hs : s < 8) (hk : d (34 + 15 * s + 0) = nI J) (hm : d (34 + 15 * s + 1) = nI mk) (hJ : J < 7) (n : Nat) (x : Int32) (h : Rv vc vb tr tm) : VR (T1 J x (nI s) (nI mk) vc vb) (fX12_tellsBy (n + 3) (nI 6) x d tr tm (nI s)) := by
  obtain ⟨vc1, vb1, tr1, tm1, h1, h2, h3⟩ := V_ran (71 : Int32) h
  obtain ⟨r4, vc2, vb2, tr2, tm2, h4, h5, h6⟩ := V_du hs hk hm hJ x h3
  obtain ⟨r7, vc3, vb3, tr3, tm3, h7, h8, h9⟩ := V_tp (n := n + 1) (a := 3) (b := 0) x (by decide) (by decide) (by decide) rfl (V_t0 hs hk hm hJ n x h6)
  show VR _ (fbX12_tellsBy (fX12_tellsBy (n + 2)) (nI 6) x d tr tm (nI s))
  unfold T1 fbX12_tellsBy
  rw [if_neg (show ¬ nI 6 = (0 : Int32) by decide), if_neg (show ¬ nI 6 = (4 : Int32) by decide), if_pos (show nI 6 = (6 : Int32) from rfl), bd_of h1, bd_of h2]
  dsimp only
  rw [show fX12_of (nI s) (0 : Int32) d = some (nI J) from (m_of d hs (by decide)).trans (congrArg some hk), bd_q, bd_of h4, bd_of h5]
  dsimp only
  rw [show fX12_above (6 : Int32) = some (nI 3) from rfl, bd_q, bd_of h7, bd_of h8]
  exact ⟨_, _, _, _, _, rfl, rfl, h9⟩
theorem V_te (hs : s < 8) (hk : d (34 + 15 * s + 0) = nI J) (hm : d (34 + 15 * s + 1) = nI mk) (hJ : J < 7) (x : Int32) (h : Rv vc vb tr tm) : VR (dX_tells J x (nI s) (nI mk) vc vb) (fX12_tellsBy 8 (nI J) x d tr tm (nI s)) := by
  rcases (show J = 0 ∨ J = 1 ∨ J = 2 ∨ J = 3 ∨ J = 4 ∨ J = 5 ∨ J = 6 by omega) with rfl | rfl | rfl | rfl | rfl | rfl | rfl
  · exact V_t0 hs hk hm hJ 7 x h
  · exact V_tp x (by decide) (by decide) (by decide) rfl (V_t0 hs hk hm hJ 6 x h)
  · exact V_tp x (by decide) (by decide) (by decide) rfl (V_t0 hs hk hm hJ 6 x h)
  · exact V_tp x (by decide) (by decide) (by decide) rfl (V_t0 hs hk hm hJ 6 x h)
  · exact V_t4 hs hk hm hJ 5 x h
  · exact V_tp x (by decide) (by decide) (by decide) rfl (V_tp x (by decide) (by decide) (by decide) rfl (V_t0 hs hk hm hJ 5 x h))
  · exact V_t6 hs hk hm hJ 5 x h
end V
section E15
variable {errors found : Nat → Int32} {h_weight : Nat → Int32} {h_known : Int32} {h_hour : Int32} {h_swS : Nat → Int32} {h_swW : Nat → Int32} {h_waS : Nat → Int32} {h_spoons : Int32} {h_kind : Nat → Int32} {h_mark : Nat → Int32} {h_silver : Nat → Int32} {h_fresh : Nat → Int64} {h_texts : Nat → Option Nat} {h_tape : Nat → Int32} {h_tapeCount : Int32} {h_z : Int32} {h_waiting : Nat → Int32} {h_waitingCount : Int32} {d : Nat → Int32} {L : List Nat} {tx : Nat → TXc} {vcount traceMany : Int32} {vbodies traced : Nat → Int32}
theorem E_trace (a : Int32) (he : Re errors found) (hv : Rv vcount vbodies traced traceMany) : ∃ (r : Int32) (errorsR foundR : Nat → Int32), fX11_trace a errors vcount vbodies = some (r, errorsR) ∧ fX12_trace a found traced traceMany = some (r, foundR) ∧ Re errorsR foundR := by
  obtain ⟨c, hc, rfl, rfl, h⟩ := hv
  by_cases c0 : nI 0 ≤ a ∧ a ≤ nI c - nI 1
  · obtain ⟨j, hj, rfl⟩ := bt_sp (by omega) c0
    refine ⟨vbodies j, errors, found, ?_, ?_, he⟩
    · unfold fX11_trace
      rw [o_0, o_1, bd_of (c_wi _ _ _), b2_t c0, if_neg (by decide), ckI_s (by omega) (by omega), nI_clamp (by omega)]
    · unfold fX12_trace
      rw [l_0, o_1, bd_of (m_in _ _ _), b2_t c0, if_neg (by decide), ckI_s (by omega) (by omega), nI_clamp (by omega), h j hj]
  · refine ⟨(-1000000002 : Int32), upd errors 2 (errors 2 + nI 1), upd found 2 (found 2 + nI 1), ?_, ?_, Re_up he 2 (by decide)⟩
    · unfold fX11_trace
      rw [o_0, o_1, bd_of (c_wi _ _ _), b2_f c0, if_pos rfl, bd_of (c_ref2 _)]
    · unfold fX12_trace
      rw [l_0, o_1, bd_of (m_in _ _ _), b2_f c0, if_pos (show nI 0 = (0 : Int32) from rfl), o_2, bd_of (m_fin2 _)]
theorem E_voice (a b k : Int32) (vspoon vmark who : Int32) (he : Re errors found) (hv : Rv vcount vbodies traced traceMany) (hh : Rh h_weight h_known h_hour h_swS h_swW h_waS h_spoons h_kind h_mark h_silver h_fresh h_texts h_tape h_tapeCount h_z h_waiting h_waitingCount d L tx) : ∃ (r : Int32) (errorsR : Nat → Int32) (vsR vmR vcR : Int32) (vbR : Nat → Int32) (foundR trR : Nat → Int32) (tmR whR : Int32), fX11_voice a b k errors vspoon vmark vcount vbodies h_spoons h_kind h_mark = some (r, errorsR, vsR, vmR, vcR, vbR) ∧ fX12_voice a b k d found traced traceMany who = some (r, foundR, trR, tmR, whR) ∧ Re errorsR foundR ∧ Rv vcR vbR trR tmR := by
  obtain ⟨A, E, hW, hH, hM, hC, hT, hG, hO⟩ := hh
  have r0 := hM.1
  have qN := hC.2.2.2.2.2.2.1
  have fN := hW.1
  have fC := hW.2.2.2.2.2.2.2.1
  by_cases c0 : nI 0 ≤ a ∧ a ≤ nI (aN A) - nI 1
  · obtain ⟨s, hs, rfl⟩ := bt_sp (by omega) c0
    have h8 : s < 8 := by omega
    have rC := hM.2.2.2.2.2.2.2.1 s h8
    have rM := hM.2.2.2.2.2.2.2.2.1 s h8
    have qC := hC.2.2.2.2.2.2.2.1 s h8
    have qM := hC.2.2.2.2.2.2.2.2.1 s h8
    have hJ : aC A s < 7 := by have := fC s; omega
    by_cases c1 : nI 0 ≤ b ∧ b ≤ nI 3
    · obtain ⟨j, hj, rfl⟩ := bt_of (by decide) c1
      have hv0 : Rv (0 : Int32) vbodies traced (0 : Int32) := ⟨0, by decide, rfl, rfl, fun j hj => absurd hj (Nat.not_lt_zero _)⟩
      have g11 : ∀ z, (if nI j = (0 : Int32) then bd (dX_shines (aC A s) k (nI s) (nI (aM A s)) (0 : Int32) vbodies) fun (r_18, vcount_19, vbodies_20) => some (r_18, errors, nI s, nI (aM A s), vcount_19, vbodies_20) else (if nI j = (1 : Int32) then bd (dX_dulls (aC A s) k (nI s) (nI (aM A s)) (0 : Int32) vbodies) fun (r_23, vcount_24, vbodies_25) => some (r_23, errors, nI s, nI (aM A s), vcount_24, vbodies_25) else (if nI j = (2 : Int32) then bd (dX_holds (aC A s) k (nI s) (nI (aM A s)) (0 : Int32) vbodies) fun (r_28, vcount_29, vbodies_30) => some (r_28, errors, nI s, nI (aM A s), vcount_29, vbodies_30) else bd (dX_tells (aC A s) k (nI s) (nI (aM A s)) (0 : Int32) vbodies) fun (r_32, vcount_33, vbodies_34) => some (r_32, errors, nI s, nI (aM A s), vcount_33, vbodies_34)))) = z → fX11_voice (nI s) (nI j) k errors vspoon vmark vcount vbodies h_spoons h_kind h_mark = z := fun z hz => by
        unfold fX11_voice fX10_of
        rw [qN, bd_of (c_isSj (by omega) (by omega)), b2_t hs, if_neg (by decide), show fX11_within (nI j) (0 : Int32) (3 : Int32) = _ from c_wi _ (nI 0) (nI 3), bd_q, b2_t c1, if_neg (by decide), ckI_s h8 (by omega), nI_clamp (by omega), qM, bd_q]
        dsimp only
        rw [ckI_s h8 (by omega), qC, ckI_s hJ (by omega), nI_clamp (by omega)]
        exact hz
      have g12 : ∀ z, (if nI j = (0 : Int32) then bd (fX12_shinesBy 8 (nI (aC A s)) k traced (0 : Int32) (nI s)) fun (r_27, traced_28, traceMany_29) => some (r_27, found, traced_28, traceMany_29, nI s) else (if nI j = (1 : Int32) then bd (fX12_dullsBy 8 (nI (aC A s)) k d traced (0 : Int32) (nI s)) fun (r_23, traced_24, traceMany_25) => some (r_23, found, traced_24, traceMany_25, nI s) else (if nI j = (2 : Int32) then bd (fX12_holdsBy 8 (nI (aC A s)) k d traced (0 : Int32) (nI s)) fun (r_19, traced_20, traceMany_21) => some (r_19, found, traced_20, traceMany_21, nI s) else bd (fX12_tellsBy 8 (nI (aC A s)) k d traced (0 : Int32) (nI s)) fun (r_15, traced_16, traceMany_17) => some (r_15, found, traced_16, traceMany_17, nI s)))) = z → fX12_voice (nI s) (nI j) k d found traced traceMany who = z := fun z hz => by
        unfold fX12_voice
        rw [bd_of (m_isSj r0 fN (by omega)), b2_t hs, if_neg (by decide), l_0, l_3, bd_of (m_in _ _ _), b2_t c1, if_neg (by decide), show fX12_of (nI s) (0 : Int32) d = some (nI (aC A s)) from (m_of d h8 (by decide)).trans (congrArg some rC), bd_q]
        exact hz
      rcases (show j = 0 ∨ j = 1 ∨ j = 2 ∨ j = 3 by omega) with rfl | rfl | rfl | rfl
      · obtain ⟨r, vc, vb, tr, tm, e1, e2, e3⟩ := V_sh hJ k (nI s) (nI (aM A s)) hv0
        exact ⟨r, errors, nI s, nI (aM A s), vc, vb, found, tr, tm, nI s, g11 _ (by rw [if_pos (show nI 0 = (0 : Int32) from rfl), bd_of e1]), g12 _ (by rw [if_pos (show nI 0 = (0 : Int32) from rfl), bd_of e2]), he, e3⟩
      · obtain ⟨r, vc, vb, tr, tm, e1, e2, e3⟩ := V_du h8 rC rM hJ k hv0
        exact ⟨r, errors, nI s, nI (aM A s), vc, vb, found, tr, tm, nI s, g11 _ (by rw [if_neg (by decide), if_pos (show nI 1 = (1 : Int32) from rfl), bd_of e1]), g12 _ (by rw [if_neg (by decide), if_pos (show nI 1 = (1 : Int32) from rfl), bd_of e2]), he, e3⟩
      · obtain ⟨r, vc, vb, tr, tm, e1, e2, e3⟩ := V_ho h8 rM hJ k hv0
        exact ⟨r, errors, nI s, nI (aM A s), vc, vb, found, tr, tm, nI s, g11 _ (by rw [if_neg (by decide), if_neg (by decide), if_pos (show nI 2 = (2 : Int32) from rfl), bd_of e1]), g12 _ (by rw [if_neg (by decide), if_neg (by decide), if_pos (show nI 2 = (2 : Int32) from rfl), bd_of e2]), he, e3⟩
      · obtain ⟨r, vc, vb, tr, tm, e1, e2, e3⟩ := V_te h8 rC rM hJ k hv0
        exact ⟨r, errors, nI s, nI (aM A s), vc, vb, found, tr, tm, nI s, g11 _ (by rw [if_neg (by decide), if_neg (by decide), if_neg (by decide), bd_of e1]), g12 _ (by rw [if_neg (by decide), if_neg (by decide), if_neg (by decide), bd_of e2]), he, e3⟩
    · refine ⟨(-1000000001 : Int32), upd errors 1 (errors 1 + nI 1), vspoon, vmark, vcount, vbodies, upd found 1 (found 1 + nI 1), traced, traceMany, who, ?_, ?_, Re_up he 1 (by decide), hv⟩
      · unfold fX11_voice
        rw [qN, bd_of (c_isSj (by omega) (by omega)), b2_t hs, if_neg (by decide), show fX11_within b (0 : Int32) (3 : Int32) = _ from c_wi _ (nI 0) (nI 3), bd_q, b2_f c1, if_pos (show nI 0 = (0 : Int32) from rfl), bd_of (c_ref1 _)]
      · unfold fX12_voice
        rw [bd_of (m_isSj r0 fN (by omega)), b2_t hs, if_neg (by decide), l_0, l_3, bd_of (m_in _ _ _), b2_f c1, if_pos (show nI 0 = (0 : Int32) from rfl), o_1, bd_of (m_fin1 _)]
  · refine ⟨(-1000000001 : Int32), upd errors 1 (errors 1 + nI 1), vspoon, vmark, vcount, vbodies, upd found 1 (found 1 + nI 1), traced, traceMany, who, ?_, ?_, Re_up he 1 (by decide), hv⟩
    · unfold fX11_voice
      rw [qN, bd_of (c_isSp _ _), b2_f c0, if_pos (show nI 0 = (0 : Int32) from rfl), bd_of (c_ref1 _)]
    · unfold fX12_voice
      rw [bd_of (m_isSp _ r0), b2_f c0, if_pos (show nI 0 = (0 : Int32) from rfl), o_1, bd_of (m_fin1 _)]
end E15
