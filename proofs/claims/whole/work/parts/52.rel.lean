/-! the relation between the class and the reference, and how it is kept up -/
theorem o_1m1 : (-1 : Int32) = m1 := by decide
theorem l_m1 : (-1 : Int64) = m1.toInt64 := by decide +kernel
theorem b2if {α : Sort _} {c : Prop} [Decidable c] (x y : α) : (if b2 c = nI 0 then x else y) = (if c then y else x) := by
  by_cases h : c
  · rw [b2_t h, if_neg (by decide), if_pos h]
  · rw [b2_f h, if_pos rfl, if_neg h]
def Re (errors found : Nat → Int32) : Prop := ∀ k, k < 6 → errors k = found k
theorem Re_up {errors found : Nat → Int32} (h : Re errors found) (k : Nat) (hk : k < 6) : Re (upd errors k (errors k + nI 1)) (upd found k (found k + nI 1)) := fun j hj => by
  by_cases e : j = k
  · subst e
    rw [upd_s, upd_s, h _ hj]
  · rw [upd_n e, upd_n e, h j hj]
theorem c_ref1 (errors : Nat → Int32) : fX11_refused (-1000000001 : Int32) errors = some ((-1000000001 : Int32), upd errors 1 (errors 1 + nI 1)) := rfl
theorem m_fin1 (found : Nat → Int32) : fX12_finds (nI 1) found = some ((-1000000001 : Int32), upd found 1 (found 1 + nI 1)) := rfl
theorem c_ref2 (errors : Nat → Int32) : fX11_refused (-1000000002 : Int32) errors = some ((-1000000002 : Int32), upd errors 2 (errors 2 + nI 1)) := rfl
theorem m_fin2 (found : Nat → Int32) : fX12_finds (nI 2) found = some ((-1000000002 : Int32), upd found 2 (found 2 + nI 1)) := rfl
theorem c_ref3 (errors : Nat → Int32) : fX11_refused (-1000000003 : Int32) errors = some ((-1000000003 : Int32), upd errors 3 (errors 3 + nI 1)) := rfl
theorem m_fin3 (found : Nat → Int32) : fX12_finds (nI 3) found = some ((-1000000003 : Int32), upd found 3 (found 3 + nI 1)) := rfl
theorem c_ref4 (errors : Nat → Int32) : fX11_refused (-1000000004 : Int32) errors = some ((-1000000004 : Int32), upd errors 4 (errors 4 + nI 1)) := rfl
theorem m_fin4 (found : Nat → Int32) : fX12_finds (nI 4) found = some ((-1000000004 : Int32), upd found 4 (found 4 + nI 1)) := rfl
theorem c_ref5 (errors : Nat → Int32) : fX11_refused (-1000000005 : Int32) errors = some ((-1000000005 : Int32), upd errors 5 (errors 5 + nI 1)) := rfl
theorem m_fin5 (found : Nat → Int32) : fX12_finds (nI 5) found = some ((-1000000005 : Int32), upd found 5 (found 5 + nI 1)) := rfl
theorem c_isWord (a : Int32) : fX11_isWord a = some (b2 (nI 0 ≤ a ∧ a ≤ nI 11)) := by
  unfold fX11_isWord
  rw [o_0, o_11, c_wi, bd_q, ck_s b2_z]
theorem c_isSetOfWords (a : Int32) : fX11_isSetOfWords a = some (b2 (nI 0 ≤ a ∧ a ≤ nI 4095)) := by
  unfold fX11_isSetOfWords
  rw [o_0, o_4095, c_wi, bd_q, ck_s b2_z]
theorem c_isUse (a : Int32) : fX11_isUse a = some (b2 (nI 0 ≤ a ∧ a ≤ nI 1)) := by
  unfold fX11_isUse
  rw [o_0, o_1, c_wi, bd_q, ck_s b2_z]
theorem c_isSheet (a : Int32) : fX11_isSheet a = some (b2 (nI 0 ≤ a ∧ a ≤ nI 3)) := by
  unfold fX11_isSheet
  rw [o_0, o_3, c_wi, bd_q, ck_s b2_z]
theorem c_isBehind (a : Int32) : fX11_isBehind a = some (b2 (nI 0 ≤ a ∧ a ≤ nI 60)) := by
  unfold fX11_isBehind
  rw [o_0, o_60, c_wi, bd_q, ck_s b2_z]
theorem c_mayB (a : Int32) : fX11_mayBeListed a = some (b2 (m1 ≤ a ∧ a ≤ nI 7)) := by
  unfold fX11_mayBeListed
  rw [o_1m1, o_7, c_wi, bd_q, ck_s b2_z]
theorem c_isSp (a : Int32) (n : Nat) : fX11_isSpoon a (nI n) = some (b2 (nI 0 ≤ a ∧ a ≤ nI n - nI 1)) := by
  unfold fX11_isSpoon
  rw [o_0, o_1, c_wi, bd_q, ck_s b2_z]
theorem m_isWord (a : Int32) : fX12_isWord a = some (b2 (nI 0 ≤ a ∧ a ≤ nI 11)) := by
  unfold fX12_isWord
  rw [l_0, l_11, m_in, bd_q, ck_s b2_z]
theorem m_areWords (a : Int32) : fX12_areWords a = some (b2 (nI 0 ≤ a ∧ a ≤ nI 4095)) := by
  unfold fX12_areWords
  rw [l_0, l_4095, m_in, bd_q, ck_s b2_z]
theorem m_isSheet (a : Int32) : fX12_isSheet a = some (b2 (nI 0 ≤ a ∧ a ≤ nI 3)) := by
  unfold fX12_isSheet
  rw [l_0, l_3, m_in, bd_q, ck_s b2_z]
theorem m_isAhead (a : Int32) : fX12_isAhead a = some (b2 (nI 0 ≤ a ∧ a ≤ nI 60)) := by
  unfold fX12_isAhead
  rw [l_0, l_60, m_in, bd_q, ck_s b2_z]
theorem m_isKm (a : Int32) : fX12_isKm a = some (b2 (nI 0 ≤ a ∧ a ≤ nI 69)) := by
  unfold fX12_isKm
  rw [l_0, l_69, m_in, bd_q, ck_s b2_z]
theorem bt_m1 {x : Int32} (h : m1 ≤ x ∧ x ≤ nI 7) : ∃ j, j ≤ 8 ∧ x = nI j - nI 1 := by
  rw [q_le, q_le, show m1.toInt = -1 by decide, nI_toInt (by decide)] at h
  exact ⟨(x.toInt + 1).toNat, by omega, Int32.toInt_inj.mp (by rw [pk_sub_toInt (by omega) (by decide)]; omega)⟩
/-- tape, z, what waits -/
def Ro (tape : Nat → Int32) (tapeCount z : Int32) (waiting : Nat → Int32) (waitingCount : Int32) (d : Nat → Int32) : Prop := z = d 3 ∧ (∃ tp, tp ≤ 50 ∧ tapeCount = nI tp ∧ d 4 = nI tp ∧ ∀ j, j < tp → ∃ b, b < 256 ∧ tape j = nI b ∧ d (276 + j) = nI b) ∧ ∃ wc, wc ≤ 20 ∧ waitingCount = nI wc ∧ d 5 = nI wc ∧ ∀ j, j < wc → waiting j = d (156 + j)
theorem Ro_sm {tape : Nat → Int32} {tapeCount z : Int32} {waiting : Nat → Int32} {waitingCount : Int32} {d d' : Nat → Int32} (h : Ro tape tapeCount z waiting waitingCount d) (g : Sm d d') : Ro tape tapeCount z waiting waitingCount d' := by
  obtain ⟨h1, ⟨tp, t1, t2, t3, t4⟩, wc, w1, w2, w3, w4⟩ := h
  obtain ⟨g3, g4, g5, gk⟩ := g
  refine ⟨h1.trans g3.symm, ⟨tp, t1, t2, g4.trans t3, fun j hj => ?_⟩, wc, w1, w2, g5.trans w3, fun j hj => (w4 j hj).trans (gk _ (by omega)).symm⟩
  obtain ⟨b, b1, b2, b3⟩ := t4 j hj
  exact ⟨b, b1, b2, (gk _ (by omega)).trans b3⟩
/-- a house, and the reference's row -/
abbrev Rh (weight : Nat → Int32) (known : Int32) (hour : Int32) (swS : Nat → Int32) (swW : Nat → Int32) (waS : Nat → Int32) (spoons : Int32) (kind : Nat → Int32) (mark : Nat → Int32) (silver : Nat → Int32) (fresh : Nat → Int64) (texts : Nat → Option Nat) (tape : Nat → Int32) (tapeCount : Int32) (z : Int32) (waiting : Nat → Int32) (waitingCount : Int32) (d : Nat → Int32) (L : List Nat) (tx : Nat → TXc) : Prop := ∃ (A : AS) (E : EVt), Wf A ∧ aH A ≤ 9999 ∧ RM d A ∧ RC A weight known hour swS swW waS spoons kind mark silver fresh ∧ TMc d E ∧ TCc texts L tx E ∧ Ro tape tapeCount z waiting waitingCount d
theorem RM_N {d : Nat → Int32} {A : AS} (h : RM d A) (v : Nat) : RM (upd d (0) (nI v)) (sN A v) := by
  obtain ⟨r0, r1, r2, rW, rB, rD, rS, rC, rM, rV, rF⟩ := h
  refine ⟨upd_s, (upd_n (by omega)).trans r1, (upd_n (by omega)).trans r2, fun x hx => (upd_n (by omega)).trans (rW x hx), fun x hx => (upd_n (by omega)).trans (rB x hx), fun x hx => (upd_n (by omega)).trans (rD x hx), fun x hx => (upd_n (by omega)).trans (rS x hx), fun x hx => (upd_n (by omega)).trans (rC x hx), fun x hx => (upd_n (by omega)).trans (rM x hx), fun x hx => (upd_n (by omega)).trans (rV x hx), fun x hx y hy => (upd_n (by omega)).trans (rF x hx y hy)⟩
theorem RM_H {d : Nat → Int32} {A : AS} (h : RM d A) (v : Nat) : RM (upd d (1) (nI v)) (sH A v) := by
  obtain ⟨r0, r1, r2, rW, rB, rD, rS, rC, rM, rV, rF⟩ := h
  refine ⟨(upd_n (by omega)).trans r0, upd_s, (upd_n (by omega)).trans r2, fun x hx => (upd_n (by omega)).trans (rW x hx), fun x hx => (upd_n (by omega)).trans (rB x hx), fun x hx => (upd_n (by omega)).trans (rD x hx), fun x hx => (upd_n (by omega)).trans (rS x hx), fun x hx => (upd_n (by omega)).trans (rC x hx), fun x hx => (upd_n (by omega)).trans (rM x hx), fun x hx => (upd_n (by omega)).trans (rV x hx), fun x hx y hy => (upd_n (by omega)).trans (rF x hx y hy)⟩
theorem RM_K {d : Nat → Int32} {A : AS} (h : RM d A) (v : Nat) : RM (upd d (2) (nI v)) (sK A v) := by
  obtain ⟨r0, r1, r2, rW, rB, rD, rS, rC, rM, rV, rF⟩ := h
  refine ⟨(upd_n (by omega)).trans r0, (upd_n (by omega)).trans r1, upd_s, fun x hx => (upd_n (by omega)).trans (rW x hx), fun x hx => (upd_n (by omega)).trans (rB x hx), fun x hx => (upd_n (by omega)).trans (rD x hx), fun x hx => (upd_n (by omega)).trans (rS x hx), fun x hx => (upd_n (by omega)).trans (rC x hx), fun x hx => (upd_n (by omega)).trans (rM x hx), fun x hx => (upd_n (by omega)).trans (rV x hx), fun x hx y hy => (upd_n (by omega)).trans (rF x hx y hy)⟩
theorem RM_W {d : Nat → Int32} {A : AS} (h : RM d A) {j : Nat} (v : Nat) (hj : j < 12) : RM (upd d (6 + j) (nI v)) (sW A (upN (aW A) j v)) := by
  obtain ⟨r0, r1, r2, rW, rB, rD, rS, rC, rM, rV, rF⟩ := h
  refine ⟨(upd_n (by omega)).trans r0, (upd_n (by omega)).trans r1, (upd_n (by omega)).trans r2, ?_, fun x hx => (upd_n (by omega)).trans (rB x hx), fun x hx => (upd_n (by omega)).trans (rD x hx), fun x hx => (upd_n (by omega)).trans (rS x hx), fun x hx => (upd_n (by omega)).trans (rC x hx), fun x hx => (upd_n (by omega)).trans (rM x hx), fun x hx => (upd_n (by omega)).trans (rV x hx), fun x hx y hy => (upd_n (by omega)).trans (rF x hx y hy)⟩
  intro x hx
  show _ = nI (upN (aW A) j v x)
  by_cases e : x = j
  · subst e
    rw [upd_s, upN_s]
  · rw [upd_n (by omega), upN_n e]
    exact rW x hx
theorem RM_B {d : Nat → Int32} {A : AS} (h : RM d A) {j : Nat} (v : Nat) (hj : j < 6) : RM (upd d (18 + j) (nI v - nI 1)) (sB A (upN (aB A) j v)) := by
  obtain ⟨r0, r1, r2, rW, rB, rD, rS, rC, rM, rV, rF⟩ := h
  refine ⟨(upd_n (by omega)).trans r0, (upd_n (by omega)).trans r1, (upd_n (by omega)).trans r2, fun x hx => (upd_n (by omega)).trans (rW x hx), ?_, fun x hx => (upd_n (by omega)).trans (rD x hx), fun x hx => (upd_n (by omega)).trans (rS x hx), fun x hx => (upd_n (by omega)).trans (rC x hx), fun x hx => (upd_n (by omega)).trans (rM x hx), fun x hx => (upd_n (by omega)).trans (rV x hx), fun x hx y hy => (upd_n (by omega)).trans (rF x hx y hy)⟩
  intro x hx
  show _ = nI (upN (aB A) j v x) - nI 1
  by_cases e : x = j
  · subst e
    rw [upd_s, upN_s]
  · rw [upd_n (by omega), upN_n e]
    exact rB x hx
theorem RM_D {d : Nat → Int32} {A : AS} (h : RM d A) {j : Nat} (v : Nat) (hj : j < 6) : RM (upd d (24 + j) (nI v)) (sD A (upN (aD A) j v)) := by
  obtain ⟨r0, r1, r2, rW, rB, rD, rS, rC, rM, rV, rF⟩ := h
  refine ⟨(upd_n (by omega)).trans r0, (upd_n (by omega)).trans r1, (upd_n (by omega)).trans r2, fun x hx => (upd_n (by omega)).trans (rW x hx), fun x hx => (upd_n (by omega)).trans (rB x hx), ?_, fun x hx => (upd_n (by omega)).trans (rS x hx), fun x hx => (upd_n (by omega)).trans (rC x hx), fun x hx => (upd_n (by omega)).trans (rM x hx), fun x hx => (upd_n (by omega)).trans (rV x hx), fun x hx y hy => (upd_n (by omega)).trans (rF x hx y hy)⟩
  intro x hx
  show _ = nI (upN (aD A) j v x)
  by_cases e : x = j
  · subst e
    rw [upd_s, upN_s]
  · rw [upd_n (by omega), upN_n e]
    exact rD x hx
theorem RM_S {d : Nat → Int32} {A : AS} (h : RM d A) {j : Nat} (v : Nat) (hj : j < 4) : RM (upd d (30 + j) (nI v - nI 1)) (sS A (upN (aS A) j v)) := by
  obtain ⟨r0, r1, r2, rW, rB, rD, rS, rC, rM, rV, rF⟩ := h
  refine ⟨(upd_n (by omega)).trans r0, (upd_n (by omega)).trans r1, (upd_n (by omega)).trans r2, fun x hx => (upd_n (by omega)).trans (rW x hx), fun x hx => (upd_n (by omega)).trans (rB x hx), fun x hx => (upd_n (by omega)).trans (rD x hx), ?_, fun x hx => (upd_n (by omega)).trans (rC x hx), fun x hx => (upd_n (by omega)).trans (rM x hx), fun x hx => (upd_n (by omega)).trans (rV x hx), fun x hx y hy => (upd_n (by omega)).trans (rF x hx y hy)⟩
  intro x hx
  show _ = nI (upN (aS A) j v x) - nI 1
  by_cases e : x = j
  · subst e
    rw [upd_s, upN_s]
  · rw [upd_n (by omega), upN_n e]
    exact rS x hx
theorem RM_C {d : Nat → Int32} {A : AS} (h : RM d A) {s : Nat} (v : Nat) (hs : s < 8) : RM (upd d (34 + 15 * s + 0) (nI v)) (sC A (upN (aC A) s v)) := by
  obtain ⟨r0, r1, r2, rW, rB, rD, rS, rC, rM, rV, rF⟩ := h
  refine ⟨(upd_n (by omega)).trans r0, (upd_n (by omega)).trans r1, (upd_n (by omega)).trans r2, fun x hx => (upd_n (by omega)).trans (rW x hx), fun x hx => (upd_n (by omega)).trans (rB x hx), fun x hx => (upd_n (by omega)).trans (rD x hx), fun x hx => (upd_n (by omega)).trans (rS x hx), ?_, fun x hx => (upd_n (by omega)).trans (rM x hx), fun x hx => (upd_n (by omega)).trans (rV x hx), fun x hx y hy => (upd_n (by omega)).trans (rF x hx y hy)⟩
  intro x hx
  show _ = nI (upN (aC A) s v x)
  by_cases e : x = s
  · subst e
    rw [upd_s, upN_s]
  · rw [upd_n (by omega), upN_n e]
    exact rC x hx
theorem RM_M {d : Nat → Int32} {A : AS} (h : RM d A) {s : Nat} (v : Nat) (hs : s < 8) : RM (upd d (34 + 15 * s + 1) (nI v)) (sM A (upN (aM A) s v)) := by
  obtain ⟨r0, r1, r2, rW, rB, rD, rS, rC, rM, rV, rF⟩ := h
  refine ⟨(upd_n (by omega)).trans r0, (upd_n (by omega)).trans r1, (upd_n (by omega)).trans r2, fun x hx => (upd_n (by omega)).trans (rW x hx), fun x hx => (upd_n (by omega)).trans (rB x hx), fun x hx => (upd_n (by omega)).trans (rD x hx), fun x hx => (upd_n (by omega)).trans (rS x hx), fun x hx => (upd_n (by omega)).trans (rC x hx), ?_, fun x hx => (upd_n (by omega)).trans (rV x hx), fun x hx y hy => (upd_n (by omega)).trans (rF x hx y hy)⟩
  intro x hx
  show _ = nI (upN (aM A) s v x)
  by_cases e : x = s
  · subst e
    rw [upd_s, upN_s]
  · rw [upd_n (by omega), upN_n e]
    exact rM x hx
theorem RM_V {d : Nat → Int32} {A : AS} (h : RM d A) {s : Nat} (v : Nat) (hs : s < 8) : RM (upd d (34 + 15 * s + 2) (nI v)) (sV A (upN (aV A) s v)) := by
  obtain ⟨r0, r1, r2, rW, rB, rD, rS, rC, rM, rV, rF⟩ := h
  refine ⟨(upd_n (by omega)).trans r0, (upd_n (by omega)).trans r1, (upd_n (by omega)).trans r2, fun x hx => (upd_n (by omega)).trans (rW x hx), fun x hx => (upd_n (by omega)).trans (rB x hx), fun x hx => (upd_n (by omega)).trans (rD x hx), fun x hx => (upd_n (by omega)).trans (rS x hx), fun x hx => (upd_n (by omega)).trans (rC x hx), fun x hx => (upd_n (by omega)).trans (rM x hx), ?_, fun x hx y hy => (upd_n (by omega)).trans (rF x hx y hy)⟩
  intro x hx
  show _ = nI (upN (aV A) s v x)
  by_cases e : x = s
  · subst e
    rw [upd_s, upN_s]
  · rw [upd_n (by omega), upN_n e]
    exact rV x hx
theorem RM_F {d : Nat → Int32} {A : AS} (h : RM d A) {s w : Nat} (v : Nat) (hs : s < 8) (hw : w < 12) : RM (upd d (34 + 15 * s + (3 + w)) (nI v)) (sF A (upF (aF A) s (upN (aF A s) w v))) := by
  obtain ⟨r0, r1, r2, rW, rB, rD, rS, rC, rM, rV, rF⟩ := h
  refine ⟨(upd_n (by omega)).trans r0, (upd_n (by omega)).trans r1, (upd_n (by omega)).trans r2, fun x hx => (upd_n (by omega)).trans (rW x hx), fun x hx => (upd_n (by omega)).trans (rB x hx), fun x hx => (upd_n (by omega)).trans (rD x hx), fun x hx => (upd_n (by omega)).trans (rS x hx), fun x hx => (upd_n (by omega)).trans (rC x hx), fun x hx => (upd_n (by omega)).trans (rM x hx), fun x hx => (upd_n (by omega)).trans (rV x hx), ?_⟩
  intro x hx y hy
  show _ = nI (upF (aF A) s (upN (aF A s) w v) x y)
  by_cases e : x = s
  · subst e
    rw [upF_s]
    by_cases e2 : y = w
    · subst e2
      rw [upd_s, upN_s]
    · rw [upd_n (by omega), upN_n e2]
      exact rF _ hx y hy
  · rw [upF_n e, upd_n (by omega)]
    exact rF x hx y hy
theorem RM_o {d : Nat → Int32} {A : AS} (h : RM d A) {k : Nat} (x : Int32) (hk : k = 3 ∨ k = 4 ∨ k = 5 ∨ 154 ≤ k) : RM (upd d k x) A := by
  obtain ⟨r0, r1, r2, rW, rB, rD, rS, rC, rM, rV, rF⟩ := h
  exact ⟨(upd_n (by omega)).trans r0, (upd_n (by omega)).trans r1, (upd_n (by omega)).trans r2, fun x hx => (upd_n (by omega)).trans (rW x hx), fun x hx => (upd_n (by omega)).trans (rB x hx), fun x hx => (upd_n (by omega)).trans (rD x hx), fun x hx => (upd_n (by omega)).trans (rS x hx), fun x hx => (upd_n (by omega)).trans (rC x hx), fun x hx => (upd_n (by omega)).trans (rM x hx), fun x hx => (upd_n (by omega)).trans (rV x hx), fun x hx y hy => (upd_n (by omega)).trans (rF x hx y hy)⟩
theorem TMc_u {d : Nat → Int32} {E : EVt} (h : TMc d E) {k : Nat} (x : Int32) (hk : k < 154 ∨ 156 ≤ k ∧ k < 176 ∨ 276 ≤ k) : TMc (upd d k x) E := fun use hu => by
  obtain ⟨co, len, h1, h2, h3, h4, h5⟩ := h use hu
  exact ⟨co, len, h1, h2, (upd_n (by omega)).trans h3, fun j hj => (upd_n (by omega)).trans (h4 j hj), h5⟩
theorem RC_W {A : AS} {weight : Nat → Int32} {known : Int32} {hour : Int32} {swS : Nat → Int32} {swW : Nat → Int32} {waS : Nat → Int32} {spoons : Int32} {kind : Nat → Int32} {mark : Nat → Int32} {silver : Nat → Int32} {fresh : Nat → Int64} (h : RC A weight known hour swS swW waS spoons kind mark silver fresh) {j : Nat} (v : Nat) : RC (sW A (upN (aW A) j v)) (upd weight j (nI v)) known hour swS swW waS spoons kind mark silver fresh := by
  obtain ⟨rW, rK, rH, rB, rD, rS, rN, rC, rM, rV, rF⟩ := h
  refine ⟨?_, rK, rH, rB, rD, rS, rN, rC, rM, rV, rF⟩
  intro x hx
  show _ = nI (upN (aW A) j v x)
  by_cases e : x = j
  · subst e
    rw [upd_s, upN_s]
  · rw [upd_n e, upN_n e]
    exact rW x hx
theorem RC_B {A : AS} {weight : Nat → Int32} {known : Int32} {hour : Int32} {swS : Nat → Int32} {swW : Nat → Int32} {waS : Nat → Int32} {spoons : Int32} {kind : Nat → Int32} {mark : Nat → Int32} {silver : Nat → Int32} {fresh : Nat → Int64} (h : RC A weight known hour swS swW waS spoons kind mark silver fresh) {j : Nat} (v : Nat) : RC (sB A (upN (aB A) j v)) weight known hour (upd swS j (nI v - nI 1)) swW waS spoons kind mark silver fresh := by
  obtain ⟨rW, rK, rH, rB, rD, rS, rN, rC, rM, rV, rF⟩ := h
  refine ⟨rW, rK, rH, ?_, rD, rS, rN, rC, rM, rV, rF⟩
  intro x hx
  show _ = nI (upN (aB A) j v x) - nI 1
  by_cases e : x = j
  · subst e
    rw [upd_s, upN_s]
  · rw [upd_n e, upN_n e]
    exact rB x hx
theorem RC_D {A : AS} {weight : Nat → Int32} {known : Int32} {hour : Int32} {swS : Nat → Int32} {swW : Nat → Int32} {waS : Nat → Int32} {spoons : Int32} {kind : Nat → Int32} {mark : Nat → Int32} {silver : Nat → Int32} {fresh : Nat → Int64} (h : RC A weight known hour swS swW waS spoons kind mark silver fresh) {j : Nat} (v : Nat) : RC (sD A (upN (aD A) j v)) weight known hour swS (upd swW j (nI v)) waS spoons kind mark silver fresh := by
  obtain ⟨rW, rK, rH, rB, rD, rS, rN, rC, rM, rV, rF⟩ := h
  refine ⟨rW, rK, rH, rB, ?_, rS, rN, rC, rM, rV, rF⟩
  intro x hx
  show _ = nI (upN (aD A) j v x)
  by_cases e : x = j
  · subst e
    rw [upd_s, upN_s]
  · rw [upd_n e, upN_n e]
    exact rD x hx
theorem RC_S {A : AS} {weight : Nat → Int32} {known : Int32} {hour : Int32} {swS : Nat → Int32} {swW : Nat → Int32} {waS : Nat → Int32} {spoons : Int32} {kind : Nat → Int32} {mark : Nat → Int32} {silver : Nat → Int32} {fresh : Nat → Int64} (h : RC A weight known hour swS swW waS spoons kind mark silver fresh) {j : Nat} (v : Nat) : RC (sS A (upN (aS A) j v)) weight known hour swS swW (upd waS j (nI v - nI 1)) spoons kind mark silver fresh := by
  obtain ⟨rW, rK, rH, rB, rD, rS, rN, rC, rM, rV, rF⟩ := h
  refine ⟨rW, rK, rH, rB, rD, ?_, rN, rC, rM, rV, rF⟩
  intro x hx
  show _ = nI (upN (aS A) j v x) - nI 1
  by_cases e : x = j
  · subst e
    rw [upd_s, upN_s]
  · rw [upd_n e, upN_n e]
    exact rS x hx
theorem RC_C {A : AS} {weight : Nat → Int32} {known : Int32} {hour : Int32} {swS : Nat → Int32} {swW : Nat → Int32} {waS : Nat → Int32} {spoons : Int32} {kind : Nat → Int32} {mark : Nat → Int32} {silver : Nat → Int32} {fresh : Nat → Int64} (h : RC A weight known hour swS swW waS spoons kind mark silver fresh) {s : Nat} (v : Nat) : RC (sC A (upN (aC A) s v)) weight known hour swS swW waS spoons (upd kind s (nI v)) mark silver fresh := by
  obtain ⟨rW, rK, rH, rB, rD, rS, rN, rC, rM, rV, rF⟩ := h
  refine ⟨rW, rK, rH, rB, rD, rS, rN, ?_, rM, rV, rF⟩
  intro x hx
  show _ = nI (upN (aC A) s v x)
  by_cases e : x = s
  · subst e
    rw [upd_s, upN_s]
  · rw [upd_n e, upN_n e]
    exact rC x hx
theorem RC_M {A : AS} {weight : Nat → Int32} {known : Int32} {hour : Int32} {swS : Nat → Int32} {swW : Nat → Int32} {waS : Nat → Int32} {spoons : Int32} {kind : Nat → Int32} {mark : Nat → Int32} {silver : Nat → Int32} {fresh : Nat → Int64} (h : RC A weight known hour swS swW waS spoons kind mark silver fresh) {s : Nat} (v : Nat) : RC (sM A (upN (aM A) s v)) weight known hour swS swW waS spoons kind (upd mark s (nI v)) silver fresh := by
  obtain ⟨rW, rK, rH, rB, rD, rS, rN, rC, rM, rV, rF⟩ := h
  refine ⟨rW, rK, rH, rB, rD, rS, rN, rC, ?_, rV, rF⟩
  intro x hx
  show _ = nI (upN (aM A) s v x)
  by_cases e : x = s
  · subst e
    rw [upd_s, upN_s]
  · rw [upd_n e, upN_n e]
    exact rM x hx
theorem RC_V {A : AS} {weight : Nat → Int32} {known : Int32} {hour : Int32} {swS : Nat → Int32} {swW : Nat → Int32} {waS : Nat → Int32} {spoons : Int32} {kind : Nat → Int32} {mark : Nat → Int32} {silver : Nat → Int32} {fresh : Nat → Int64} (h : RC A weight known hour swS swW waS spoons kind mark silver fresh) {s : Nat} (v : Nat) : RC (sV A (upN (aV A) s v)) weight known hour swS swW waS spoons kind mark (upd silver s (nI v)) fresh := by
  obtain ⟨rW, rK, rH, rB, rD, rS, rN, rC, rM, rV, rF⟩ := h
  refine ⟨rW, rK, rH, rB, rD, rS, rN, rC, rM, ?_, rF⟩
  intro x hx
  show _ = nI (upN (aV A) s v x)
  by_cases e : x = s
  · subst e
    rw [upd_s, upN_s]
  · rw [upd_n e, upN_n e]
    exact rV x hx
theorem RC_N {A : AS} {weight : Nat → Int32} {known : Int32} {hour : Int32} {swS : Nat → Int32} {swW : Nat → Int32} {waS : Nat → Int32} {spoons : Int32} {kind : Nat → Int32} {mark : Nat → Int32} {silver : Nat → Int32} {fresh : Nat → Int64} (h : RC A weight known hour swS swW waS spoons kind mark silver fresh) (v : Nat) : RC (sN A v) weight known hour swS swW waS (nI v) kind mark silver fresh := by
  obtain ⟨rW, rK, rH, rB, rD, rS, rN, rC, rM, rV, rF⟩ := h
  exact ⟨rW, rK, rH, rB, rD, rS, rfl, rC, rM, rV, rF⟩
theorem RC_K {A : AS} {weight : Nat → Int32} {known : Int32} {hour : Int32} {swS : Nat → Int32} {swW : Nat → Int32} {waS : Nat → Int32} {spoons : Int32} {kind : Nat → Int32} {mark : Nat → Int32} {silver : Nat → Int32} {fresh : Nat → Int64} (h : RC A weight known hour swS swW waS spoons kind mark silver fresh) (v : Nat) : RC (sK A v) weight (nI v) hour swS swW waS spoons kind mark silver fresh := by
  obtain ⟨rW, rK, rH, rB, rD, rS, rN, rC, rM, rV, rF⟩ := h
  exact ⟨rW, rfl, rH, rB, rD, rS, rN, rC, rM, rV, rF⟩
theorem RC_H {A : AS} {weight : Nat → Int32} {known : Int32} {hour : Int32} {swS : Nat → Int32} {swW : Nat → Int32} {waS : Nat → Int32} {spoons : Int32} {kind : Nat → Int32} {mark : Nat → Int32} {silver : Nat → Int32} {fresh : Nat → Int64} (h : RC A weight known hour swS swW waS spoons kind mark silver fresh) (v : Nat) : RC (sH A v) weight known (nI v) swS swW waS spoons kind mark silver fresh := by
  obtain ⟨rW, rK, rH, rB, rD, rS, rN, rC, rM, rV, rF⟩ := h
  exact ⟨rW, rK, rfl, rB, rD, rS, rN, rC, rM, rV, rF⟩
theorem RC_F {A : AS} {weight : Nat → Int32} {known : Int32} {hour : Int32} {swS : Nat → Int32} {swW : Nat → Int32} {waS : Nat → Int32} {spoons : Int32} {kind : Nat → Int32} {mark : Nat → Int32} {silver : Nat → Int32} {fresh : Nat → Int64} (h : RC A weight known hour swS swW waS spoons kind mark silver fresh) {s : Nat} (g : Nat → Nat) : RC (sF A (upF (aF A) s g)) weight known hour swS swW waS spoons kind mark silver (vp_updL fresh s (lN (pk12 g))) := by
  obtain ⟨rW, rK, rH, rB, rD, rS, rN, rC, rM, rV, rF⟩ := h
  refine ⟨rW, rK, rH, rB, rD, rS, rN, rC, rM, rV, fun x hx => ?_⟩
  show _ = lN (pk12 (upF (aF A) s g x))
  by_cases e : x = s
  · subst e
    rw [updL_s, upF_s]
  · rw [updL_n e, upF_n e]
    exact rF x hx
