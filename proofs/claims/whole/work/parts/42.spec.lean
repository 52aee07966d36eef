/-! what an hour knows, in plain numbers: N spoons, H hour, K known, W weights, B whom a swallow is of (and 1), D its word, S whom a wash is of (and 1), C kinds, M marks, V silver, F fresh -/
abbrev AS : Type := Nat × Nat × Nat × (Nat → Nat) × (Nat → Nat) × (Nat → Nat) × (Nat → Nat) × (Nat → Nat) × (Nat → Nat) × (Nat → Nat) × (Nat → Nat → Nat)
def aN (A : AS) : Nat := A.1
def aH (A : AS) : Nat := A.2.1
def aK (A : AS) : Nat := A.2.2.1
def aW (A : AS) : Nat → Nat := A.2.2.2.1
def aB (A : AS) : Nat → Nat := A.2.2.2.2.1
def aD (A : AS) : Nat → Nat := A.2.2.2.2.2.1
def aS (A : AS) : Nat → Nat := A.2.2.2.2.2.2.1
def aC (A : AS) : Nat → Nat := A.2.2.2.2.2.2.2.1
def aM (A : AS) : Nat → Nat := A.2.2.2.2.2.2.2.2.1
def aV (A : AS) : Nat → Nat := A.2.2.2.2.2.2.2.2.2.1
def aF (A : AS) : Nat → Nat → Nat := A.2.2.2.2.2.2.2.2.2.2
def sN (A : AS) (x : Nat) : AS := (x, aH A, aK A, aW A, aB A, aD A, aS A, aC A, aM A, aV A, aF A)
def sH (A : AS) (x : Nat) : AS := (aN A, x, aK A, aW A, aB A, aD A, aS A, aC A, aM A, aV A, aF A)
def sK (A : AS) (x : Nat) : AS := (aN A, aH A, x, aW A, aB A, aD A, aS A, aC A, aM A, aV A, aF A)
def sW (A : AS) (x : Nat → Nat) : AS := (aN A, aH A, aK A, x, aB A, aD A, aS A, aC A, aM A, aV A, aF A)
def sB (A : AS) (x : Nat → Nat) : AS := (aN A, aH A, aK A, aW A, x, aD A, aS A, aC A, aM A, aV A, aF A)
def sD (A : AS) (x : Nat → Nat) : AS := (aN A, aH A, aK A, aW A, aB A, x, aS A, aC A, aM A, aV A, aF A)
def sS (A : AS) (x : Nat → Nat) : AS := (aN A, aH A, aK A, aW A, aB A, aD A, x, aC A, aM A, aV A, aF A)
def sC (A : AS) (x : Nat → Nat) : AS := (aN A, aH A, aK A, aW A, aB A, aD A, aS A, x, aM A, aV A, aF A)
def sM (A : AS) (x : Nat → Nat) : AS := (aN A, aH A, aK A, aW A, aB A, aD A, aS A, aC A, x, aV A, aF A)
def sV (A : AS) (x : Nat → Nat) : AS := (aN A, aH A, aK A, aW A, aB A, aD A, aS A, aC A, aM A, x, aF A)
def sF (A : AS) (x : Nat → Nat → Nat) : AS := (aN A, aH A, aK A, aW A, aB A, aD A, aS A, aC A, aM A, aV A, x)
theorem as_NN (A : AS) (x : Nat) : aN (sN A x) = x := rfl
theorem as_NH (A : AS) (x : Nat) : aH (sN A x) = aH A := rfl
theorem as_NK (A : AS) (x : Nat) : aK (sN A x) = aK A := rfl
theorem as_NW (A : AS) (x : Nat) : aW (sN A x) = aW A := rfl
theorem as_NB (A : AS) (x : Nat) : aB (sN A x) = aB A := rfl
theorem as_ND (A : AS) (x : Nat) : aD (sN A x) = aD A := rfl
theorem as_NS (A : AS) (x : Nat) : aS (sN A x) = aS A := rfl
theorem as_NC (A : AS) (x : Nat) : aC (sN A x) = aC A := rfl
theorem as_NM (A : AS) (x : Nat) : aM (sN A x) = aM A := rfl
theorem as_NV (A : AS) (x : Nat) : aV (sN A x) = aV A := rfl
theorem as_NF (A : AS) (x : Nat) : aF (sN A x) = aF A := rfl
theorem as_HN (A : AS) (x : Nat) : aN (sH A x) = aN A := rfl
theorem as_HH (A : AS) (x : Nat) : aH (sH A x) = x := rfl
theorem as_HK (A : AS) (x : Nat) : aK (sH A x) = aK A := rfl
theorem as_HW (A : AS) (x : Nat) : aW (sH A x) = aW A := rfl
theorem as_HB (A : AS) (x : Nat) : aB (sH A x) = aB A := rfl
theorem as_HD (A : AS) (x : Nat) : aD (sH A x) = aD A := rfl
theorem as_HS (A : AS) (x : Nat) : aS (sH A x) = aS A := rfl
theorem as_HC (A : AS) (x : Nat) : aC (sH A x) = aC A := rfl
theorem as_HM (A : AS) (x : Nat) : aM (sH A x) = aM A := rfl
theorem as_HV (A : AS) (x : Nat) : aV (sH A x) = aV A := rfl
theorem as_HF (A : AS) (x : Nat) : aF (sH A x) = aF A := rfl
theorem as_KN (A : AS) (x : Nat) : aN (sK A x) = aN A := rfl
theorem as_KH (A : AS) (x : Nat) : aH (sK A x) = aH A := rfl
theorem as_KK (A : AS) (x : Nat) : aK (sK A x) = x := rfl
theorem as_KW (A : AS) (x : Nat) : aW (sK A x) = aW A := rfl
theorem as_KB (A : AS) (x : Nat) : aB (sK A x) = aB A := rfl
theorem as_KD (A : AS) (x : Nat) : aD (sK A x) = aD A := rfl
theorem as_KS (A : AS) (x : Nat) : aS (sK A x) = aS A := rfl
theorem as_KC (A : AS) (x : Nat) : aC (sK A x) = aC A := rfl
theorem as_KM (A : AS) (x : Nat) : aM (sK A x) = aM A := rfl
theorem as_KV (A : AS) (x : Nat) : aV (sK A x) = aV A := rfl
theorem as_KF (A : AS) (x : Nat) : aF (sK A x) = aF A := rfl
theorem as_WN (A : AS) (x : Nat → Nat) : aN (sW A x) = aN A := rfl
theorem as_WH (A : AS) (x : Nat → Nat) : aH (sW A x) = aH A := rfl
theorem as_WK (A : AS) (x : Nat → Nat) : aK (sW A x) = aK A := rfl
theorem as_WW (A : AS) (x : Nat → Nat) : aW (sW A x) = x := rfl
theorem as_WB (A : AS) (x : Nat → Nat) : aB (sW A x) = aB A := rfl
theorem as_WD (A : AS) (x : Nat → Nat) : aD (sW A x) = aD A := rfl
theorem as_WS (A : AS) (x : Nat → Nat) : aS (sW A x) = aS A := rfl
theorem as_WC (A : AS) (x : Nat → Nat) : aC (sW A x) = aC A := rfl
theorem as_WM (A : AS) (x : Nat → Nat) : aM (sW A x) = aM A := rfl
theorem as_WV (A : AS) (x : Nat → Nat) : aV (sW A x) = aV A := rfl
theorem as_WF (A : AS) (x : Nat → Nat) : aF (sW A x) = aF A := rfl
theorem as_BN (A : AS) (x : Nat → Nat) : aN (sB A x) = aN A := rfl
theorem as_BH (A : AS) (x : Nat → Nat) : aH (sB A x) = aH A := rfl
theorem as_BK (A : AS) (x : Nat → Nat) : aK (sB A x) = aK A := rfl
theorem as_BW (A : AS) (x : Nat → Nat) : aW (sB A x) = aW A := rfl
theorem as_BB (A : AS) (x : Nat → Nat) : aB (sB A x) = x := rfl
theorem as_BD (A : AS) (x : Nat → Nat) : aD (sB A x) = aD A := rfl
theorem as_BS (A : AS) (x : Nat → Nat) : aS (sB A x) = aS A := rfl
theorem as_BC (A : AS) (x : Nat → Nat) : aC (sB A x) = aC A := rfl
theorem as_BM (A : AS) (x : Nat → Nat) : aM (sB A x) = aM A := rfl
theorem as_BV (A : AS) (x : Nat → Nat) : aV (sB A x) = aV A := rfl
theorem as_BF (A : AS) (x : Nat → Nat) : aF (sB A x) = aF A := rfl
theorem as_DN (A : AS) (x : Nat → Nat) : aN (sD A x) = aN A := rfl
theorem as_DH (A : AS) (x : Nat → Nat) : aH (sD A x) = aH A := rfl
theorem as_DK (A : AS) (x : Nat → Nat) : aK (sD A x) = aK A := rfl
theorem as_DW (A : AS) (x : Nat → Nat) : aW (sD A x) = aW A := rfl
theorem as_DB (A : AS) (x : Nat → Nat) : aB (sD A x) = aB A := rfl
theorem as_DD (A : AS) (x : Nat → Nat) : aD (sD A x) = x := rfl
theorem as_DS (A : AS) (x : Nat → Nat) : aS (sD A x) = aS A := rfl
theorem as_DC (A : AS) (x : Nat → Nat) : aC (sD A x) = aC A := rfl
theorem as_DM (A : AS) (x : Nat → Nat) : aM (sD A x) = aM A := rfl
theorem as_DV (A : AS) (x : Nat → Nat) : aV (sD A x) = aV A := rfl
theorem as_DF (A : AS) (x : Nat → Nat) : aF (sD A x) = aF A := rfl
theorem as_SN (A : AS) (x : Nat → Nat) : aN (sS A x) = aN A := rfl
theorem as_SH (A : AS) (x : Nat → Nat) : aH (sS A x) = aH A := rfl
theorem as_SK (A : AS) (x : Nat → Nat) : aK (sS A x) = aK A := rfl
theorem as_SW (A : AS) (x : Nat → Nat) : aW (sS A x) = aW A := rfl
theorem as_SB (A : AS) (x : Nat → Nat) : aB (sS A x) = aB A := rfl
theorem as_SD (A : AS) (x : Nat → Nat) : aD (sS A x) = aD A := rfl
theorem as_SS (A : AS) (x : Nat → Nat) : aS (sS A x) = x := rfl
theorem as_SC (A : AS) (x : Nat → Nat) : aC (sS A x) = aC A := rfl
theorem as_SM (A : AS) (x : Nat → Nat) : aM (sS A x) = aM A := rfl
theorem as_SV (A : AS) (x : Nat → Nat) : aV (sS A x) = aV A := rfl
theorem as_SF (A : AS) (x : Nat → Nat) : aF (sS A x) = aF A := rfl
theorem as_CN (A : AS) (x : Nat → Nat) : aN (sC A x) = aN A := rfl
theorem as_CH (A : AS) (x : Nat → Nat) : aH (sC A x) = aH A := rfl
theorem as_CK (A : AS) (x : Nat → Nat) : aK (sC A x) = aK A := rfl
theorem as_CW (A : AS) (x : Nat → Nat) : aW (sC A x) = aW A := rfl
theorem as_CB (A : AS) (x : Nat → Nat) : aB (sC A x) = aB A := rfl
theorem as_CD (A : AS) (x : Nat → Nat) : aD (sC A x) = aD A := rfl
theorem as_CS (A : AS) (x : Nat → Nat) : aS (sC A x) = aS A := rfl
theorem as_CC (A : AS) (x : Nat → Nat) : aC (sC A x) = x := rfl
theorem as_CM (A : AS) (x : Nat → Nat) : aM (sC A x) = aM A := rfl
theorem as_CV (A : AS) (x : Nat → Nat) : aV (sC A x) = aV A := rfl
theorem as_CF (A : AS) (x : Nat → Nat) : aF (sC A x) = aF A := rfl
theorem as_MN (A : AS) (x : Nat → Nat) : aN (sM A x) = aN A := rfl
theorem as_MH (A : AS) (x : Nat → Nat) : aH (sM A x) = aH A := rfl
theorem as_MK (A : AS) (x : Nat → Nat) : aK (sM A x) = aK A := rfl
theorem as_MW (A : AS) (x : Nat → Nat) : aW (sM A x) = aW A := rfl
theorem as_MB (A : AS) (x : Nat → Nat) : aB (sM A x) = aB A := rfl
theorem as_MD (A : AS) (x : Nat → Nat) : aD (sM A x) = aD A := rfl
theorem as_MS (A : AS) (x : Nat → Nat) : aS (sM A x) = aS A := rfl
theorem as_MC (A : AS) (x : Nat → Nat) : aC (sM A x) = aC A := rfl
theorem as_MM (A : AS) (x : Nat → Nat) : aM (sM A x) = x := rfl
theorem as_MV (A : AS) (x : Nat → Nat) : aV (sM A x) = aV A := rfl
theorem as_MF (A : AS) (x : Nat → Nat) : aF (sM A x) = aF A := rfl
theorem as_VN (A : AS) (x : Nat → Nat) : aN (sV A x) = aN A := rfl
theorem as_VH (A : AS) (x : Nat → Nat) : aH (sV A x) = aH A := rfl
theorem as_VK (A : AS) (x : Nat → Nat) : aK (sV A x) = aK A := rfl
theorem as_VW (A : AS) (x : Nat → Nat) : aW (sV A x) = aW A := rfl
theorem as_VB (A : AS) (x : Nat → Nat) : aB (sV A x) = aB A := rfl
theorem as_VD (A : AS) (x : Nat → Nat) : aD (sV A x) = aD A := rfl
theorem as_VS (A : AS) (x : Nat → Nat) : aS (sV A x) = aS A := rfl
theorem as_VC (A : AS) (x : Nat → Nat) : aC (sV A x) = aC A := rfl
theorem as_VM (A : AS) (x : Nat → Nat) : aM (sV A x) = aM A := rfl
theorem as_VV (A : AS) (x : Nat → Nat) : aV (sV A x) = x := rfl
theorem as_VF (A : AS) (x : Nat → Nat) : aF (sV A x) = aF A := rfl
theorem as_FN (A : AS) (x : Nat → Nat → Nat) : aN (sF A x) = aN A := rfl
theorem as_FH (A : AS) (x : Nat → Nat → Nat) : aH (sF A x) = aH A := rfl
theorem as_FK (A : AS) (x : Nat → Nat → Nat) : aK (sF A x) = aK A := rfl
theorem as_FW (A : AS) (x : Nat → Nat → Nat) : aW (sF A x) = aW A := rfl
theorem as_FB (A : AS) (x : Nat → Nat → Nat) : aB (sF A x) = aB A := rfl
theorem as_FD (A : AS) (x : Nat → Nat → Nat) : aD (sF A x) = aD A := rfl
theorem as_FS (A : AS) (x : Nat → Nat → Nat) : aS (sF A x) = aS A := rfl
theorem as_FC (A : AS) (x : Nat → Nat → Nat) : aC (sF A x) = aC A := rfl
theorem as_FM (A : AS) (x : Nat → Nat → Nat) : aM (sF A x) = aM A := rfl
theorem as_FV (A : AS) (x : Nat → Nat → Nat) : aV (sF A x) = aV A := rfl
theorem as_FF (A : AS) (x : Nat → Nat → Nat) : aF (sF A x) = x := rfl
/-- the numbers keep their bounds -/
def Wf (A : AS) : Prop := aN A ≤ 8 ∧ aH A ≤ 10100 ∧ aK A < 4096 ∧ (∀ j, aW A j ≤ 9) ∧ (∀ j, aB A j ≤ 8) ∧ (∀ j, aD A j ≤ 11) ∧ (∀ j, aS A j ≤ 8) ∧ (∀ s, aC A s ≤ 6) ∧ (∀ s, aM A s ≤ 9) ∧ (∀ s, aV A s ≤ 99) ∧ ∀ s w, aF A s w ≤ 9
/-- what is held -/
def hld (x : Int32) (m : Nat) : Nat := min m x.toNatClampNeg
def limU (use : Nat) : Nat := if use = 0 then 9 else 20
theorem hld_le (x : Int32) (m : Nat) : hld x m ≤ m := Nat.min_le_left _ _
abbrev EVt : Type := Nat → Int32 → Int32 → Int32 → Int32
def staN (k m w s : Nat) : Nat := if k = 1 then 3 + w / 2 else if k = 3 then w else if k = 4 then 2 * (3 + w / 2) else if k = 5 then 3 + m / 3 else if k = 6 then (if s < 10 then 9 else w) else 3
def rdsN (k m : Nat) : Nat := if k = 1 then 2 else if k = 4 then (if 4 < m then 1 else 2) else if k = 2 then 5 else if k = 5 then 5 else if k = 6 then 9 else 3
def wrsN (k n : Nat) : Nat := if k = 1 then 2 else if k = 4 then 2 else if k = 3 then 3 else if k = 5 then (if n = 0 then 0 else 1) else if k = 6 then 3 + n else 1
def onN (f : Nat → Nat) : Nat := bitS (fun w => decide (1 ≤ f w)) 12
def geN (k : Nat) (f : Nat → Nat) : Nat := bitS (fun w => decide (k ≤ f w)) 12
theorem onN_lt (f : Nat → Nat) : onN f < 4096 := bitS_lt _ 12
theorem geN_lt (k : Nat) (f : Nat → Nat) : geN k f < 4096 := bitS_lt _ 12
/-- there is that spoon, and it isn't through -/
def whoN (A : AS) (b : Nat) : Prop := 1 ≤ b ∧ b ≤ aN A ∧ 0 < aV A (b - 1)
def swaV (E : EVt) (A : AS) (s w : Nat) : Nat := hld (E 0 (nI (staN (aC A s) (aM A s) (aW A w) (aV A s))) (nI (aW A w)) (nI (aV A s))) 9
def spS (E : EVt) (A : AS) : AS := if 1 ≤ aB A (aH A % 6) ∧ aB A (aH A % 6) ≤ aN A ∧ 0 < aV A (aB A (aH A % 6) - 1) then sF A (upF (aF A) (aB A (aH A % 6) - 1) (upN (aF A (aB A (aH A % 6) - 1)) (aD A (aH A % 6)) (max (swaV E A (aB A (aH A % 6) - 1) (aD A (aH A % 6))) (aF A (aB A (aH A % 6) - 1) (aD A (aH A % 6)))))) else A
def rubN (E : EVt) (A : AS) (s : Nat) : Nat := hld (E 1 (nI (wrsN (aC A s) (pc (onN (aF A s))))) (nI (aV A s)) (nI (pc (onN (aF A s))))) 20
def wshA (E : EVt) (A : AS) (s : Nat) : AS := sF (sK (sV A (upN (aV A) s (aV A s - rubN E A s))) ((aK A ||| geN (rdsN (aC A s) (aM A s)) (aF A s)) ||| (if aV A s - rubN E A s = 0 then onN (aF A s) else 0))) (upF (aF A) s (fun w => if aV A s - rubN E A s = 0 then 0 else aF A s w / 2))
def spW (E : EVt) (A : AS) : AS := if 1 ≤ aS A (aH A % 4) ∧ aS A (aH A % 4) ≤ aN A ∧ 0 < aV A (aS A (aH A % 4) - 1) then wshA E A (aS A (aH A % 4) - 1) else A
def spA (A : AS) : AS := sH (sF A (fun s w => if s < aN A then aF A s w - 1 else aF A s w)) (aH A + 1)
def stpA (E : EVt) (A : AS) : AS := spA (spW E (spS E A))
def runA (E : EVt) : Nat → AS → AS
  | 0, A => A
  | n + 1, A => stpA E (runA E n A)
/-- the reference's row of numbers tells them so -/
def RM (d : Nat → Int32) (A : AS) : Prop := d 0 = nI (aN A) ∧ d 1 = nI (aH A) ∧ d 2 = nI (aK A) ∧ (∀ j, j < 12 → d (6 + j) = nI (aW A j)) ∧ (∀ j, j < 6 → d (18 + j) = nI (aB A j) - nI 1) ∧ (∀ j, j < 6 → d (24 + j) = nI (aD A j)) ∧ (∀ j, j < 4 → d (30 + j) = nI (aS A j) - nI 1) ∧ (∀ s, s < 8 → d (34 + 15 * s + 0) = nI (aC A s)) ∧ (∀ s, s < 8 → d (34 + 15 * s + 1) = nI (aM A s)) ∧ (∀ s, s < 8 → d (34 + 15 * s + 2) = nI (aV A s)) ∧ ∀ s, s < 8 → ∀ w, w < 12 → d (34 + 15 * s + (3 + w)) = nI (aF A s w)
/-- nothing else in the row has changed -/
def Sm (d d' : Nat → Int32) : Prop := d' 3 = d 3 ∧ d' 4 = d 4 ∧ d' 5 = d 5 ∧ ∀ k, 154 ≤ k → d' k = d k
theorem Sm.rf {d : Nat → Int32} : Sm d d := ⟨rfl, rfl, rfl, fun _ _ => rfl⟩
theorem Sm.tr {d e f : Nat → Int32} (h : Sm d e) (g : Sm e f) : Sm d f := ⟨g.1.trans h.1, g.2.1.trans h.2.1, g.2.2.1.trans h.2.2.1, fun k hk => (g.2.2.2 k hk).trans (h.2.2.2 k hk)⟩
theorem runA_1 (E : EVt) : ∀ n A, runA E n (stpA E A) = runA E (n + 1) A
  | 0, _ => rfl
  | n + 1, A => by
    show stpA E (runA E n (stpA E A)) = _
    rw [runA_1 E n A]
    rfl
theorem Wf_sF {A : AS} {f : Nat → Nat → Nat} (h : Wf A) (hf : ∀ s w, f s w ≤ 9) : Wf (sF A f) := ⟨h.1, h.2.1, h.2.2.1, h.2.2.2.1, h.2.2.2.2.1, h.2.2.2.2.2.1, h.2.2.2.2.2.2.1, h.2.2.2.2.2.2.2.1, h.2.2.2.2.2.2.2.2.1, h.2.2.2.2.2.2.2.2.2.1, hf⟩
theorem Wf_sH {A : AS} {x : Nat} (h : Wf A) (hf : x ≤ 10100) : Wf (sH A x) := ⟨h.1, hf, h.2.2⟩
theorem Wf_sK {A : AS} {x : Nat} (h : Wf A) (hf : x < 4096) : Wf (sK A x) := ⟨h.1, h.2.1, hf, h.2.2.2⟩
theorem Wf_sV {A : AS} {f : Nat → Nat} (h : Wf A) (hf : ∀ s, f s ≤ 99) : Wf (sV A f) := ⟨h.1, h.2.1, h.2.2.1, h.2.2.2.1, h.2.2.2.2.1, h.2.2.2.2.2.1, h.2.2.2.2.2.2.1, h.2.2.2.2.2.2.2.1, h.2.2.2.2.2.2.2.2.1, hf, h.2.2.2.2.2.2.2.2.2.2⟩
theorem Wf_sN {A : AS} {x : Nat} (h : Wf A) (hf : x ≤ 8) : Wf (sN A x) := ⟨hf, h.2⟩
theorem Wf_sW {A : AS} {f : Nat → Nat} (h : Wf A) (hf : ∀ s, f s ≤ 9) : Wf (sW A f) := ⟨h.1, h.2.1, h.2.2.1, hf, h.2.2.2.2⟩
theorem Wf_sB {A : AS} {f : Nat → Nat} (h : Wf A) (hf : ∀ s, f s ≤ 8) : Wf (sB A f) := ⟨h.1, h.2.1, h.2.2.1, h.2.2.2.1, hf, h.2.2.2.2.2⟩
theorem Wf_sD {A : AS} {f : Nat → Nat} (h : Wf A) (hf : ∀ s, f s ≤ 11) : Wf (sD A f) := ⟨h.1, h.2.1, h.2.2.1, h.2.2.2.1, h.2.2.2.2.1, hf, h.2.2.2.2.2.2⟩
theorem Wf_sS {A : AS} {f : Nat → Nat} (h : Wf A) (hf : ∀ s, f s ≤ 8) : Wf (sS A f) := ⟨h.1, h.2.1, h.2.2.1, h.2.2.2.1, h.2.2.2.2.1, h.2.2.2.2.2.1, hf, h.2.2.2.2.2.2.2⟩
theorem Wf_sC {A : AS} {f : Nat → Nat} (h : Wf A) (hf : ∀ s, f s ≤ 6) : Wf (sC A f) := ⟨h.1, h.2.1, h.2.2.1, h.2.2.2.1, h.2.2.2.2.1, h.2.2.2.2.2.1, h.2.2.2.2.2.2.1, hf, h.2.2.2.2.2.2.2.2⟩
theorem Wf_sM {A : AS} {f : Nat → Nat} (h : Wf A) (hf : ∀ s, f s ≤ 9) : Wf (sM A f) := ⟨h.1, h.2.1, h.2.2.1, h.2.2.2.1, h.2.2.2.2.1, h.2.2.2.2.2.1, h.2.2.2.2.2.2.1, h.2.2.2.2.2.2.2.1, hf, h.2.2.2.2.2.2.2.2.2⟩
theorem upN_le {f : Nat → Nat} {i v b : Nat} (hf : ∀ k, f k ≤ b) (hv : v ≤ b) : ∀ k, upN f i v k ≤ b := fun k => by
  unfold upN
  split
  · exact hv
  · exact hf k
theorem upF_le {f : Nat → Nat → Nat} {i b : Nat} {g : Nat → Nat} (hf : ∀ k w, f k w ≤ b) (hv : ∀ w, g w ≤ b) : ∀ k w, upF f i g k w ≤ b := fun k w => by
  unfold upF
  split
  · exact hv w
  · exact hf k w
theorem Wf_spS {E : EVt} {A : AS} (h : Wf A) : Wf (spS E A) := by
  have hF := h.2.2.2.2.2.2.2.2.2.2
  unfold spS
  split
  · refine Wf_sF h (upF_le hF (upN_le (hF _) ?_))
    have h1 := hF (aB A (aH A % 6) - 1) (aD A (aH A % 6))
    have h2 : swaV E A (aB A (aH A % 6) - 1) (aD A (aH A % 6)) ≤ 9 := hld_le _ _
    omega
  · exact h
theorem Wf_wshA {E : EVt} {A : AS} (h : Wf A) (s : Nat) : Wf (wshA E A s) := by
  have hF := h.2.2.2.2.2.2.2.2.2.2
  have hV := h.2.2.2.2.2.2.2.2.2.1
  refine Wf_sF (Wf_sK (Wf_sV h (upN_le hV ?_)) ?_) (upF_le hF fun w => ?_)
  · have := hV s
    omega
  · refine Nat.or_lt_two_pow (n := 12) (Nat.or_lt_two_pow (n := 12) h.2.2.1 (geN_lt _ _)) ?_
    split
    · exact onN_lt _
    · decide
  · have := hF s w
    split <;> omega
theorem Wf_spW {E : EVt} {A : AS} (h : Wf A) : Wf (spW E A) := by
  unfold spW
  split
  · exact Wf_wshA h _
  · exact h
theorem Wf_spA {A : AS} (h : Wf A) (hH : aH A < 10100) : Wf (spA A) := by
  have hF := h.2.2.2.2.2.2.2.2.2.2
  refine Wf_sH (Wf_sF h fun s w => ?_) hH
  have := hF s w
  split <;> omega
theorem spS_H (E : EVt) (A : AS) : aH (spS E A) = aH A := by
  unfold spS
  split <;> rfl
theorem spW_H (E : EVt) (A : AS) : aH (spW E A) = aH A := by
  unfold spW
  split <;> rfl
theorem stpA_H (E : EVt) (A : AS) : aH (stpA E A) = aH A + 1 := by
  show aH (spW E (spS E A)) + 1 = _
  rw [spW_H, spS_H]
theorem runA_H (E : EVt) (A : AS) : ∀ n, aH (runA E n A) = aH A + n
  | 0 => rfl
  | n + 1 => by
    show aH (stpA E (runA E n A)) = _
    rw [stpA_H, runA_H E A n]
    omega
theorem Wf_stpA {E : EVt} {A : AS} (h : Wf A) (hH : aH A < 10100) : Wf (stpA E A) := Wf_spA (Wf_spW (Wf_spS h)) (by rw [spW_H, spS_H]; exact hH)
theorem Wf_runA {E : EVt} {A : AS} (h : Wf A) : ∀ n, aH A + n ≤ 10100 → Wf (runA E n A)
  | 0, _ => h
  | n + 1, hn => Wf_stpA (Wf_runA h n (by omega)) (by rw [runA_H]; omega)
theorem staN_lt {k m w s : Nat} (hm : m ≤ 9) (hw : w ≤ 9) : staN k m w s ≤ 14 := by
  unfold staN
  repeat' split
  all_goals omega
theorem rdsN_b (k m : Nat) : 0 < rdsN k m ∧ rdsN k m ≤ 9 := by
  unfold rdsN
  repeat' split
  all_goals omega
theorem wrsN_b {k n : Nat} (hn : n ≤ 12) : wrsN k n ≤ 15 := by
  unfold wrsN
  repeat' split
  all_goals omega
