/-! the class: an hour, hours -/
theorem bd_q {α β : Type} (a : α) (k : α → Option β) : bd (some a) k = k a := Option.some.inj (congrArg some rfl)
theorem bnd_q {α β : Type} (e : α) (k : α → β) : bnd e k = k e := Option.some.inj (congrArg some rfl)
theorem q_xor (a b : Nat) : nI a ^^^ nI b = nI (a ^^^ b) := by
  apply Int32.toBitVec_inj.1
  show BitVec.ofNat 32 a ^^^ BitVec.ofNat 32 b = BitVec.ofNat 32 (a ^^^ b)
  apply BitVec.eq_of_getLsbD_eq
  intro i hi
  simp [hi]
theorem c_flo {h m : Nat} (hh : h < 2 ^ 30) (h0 : 0 < m) (hm : m < 2 ^ 30) : fJ9_floorMod_7cf53 (nI h) (nI m) = some (nI (h % m)) := by
  have h1 : h ^^^ m < 2 ^ 30 := Nat.xor_lt_two_pow hh hm
  unfold fJ9_floorMod_7cf53
  rw [ck_s (by rw [o_0, nI_eq (by omega) (by omega)]; omega), bnd_s, pk_rem (by omega) h0 (by omega), q_xor, if_pos (nI_pos' (by omega))]
theorem c_place {h : Nat} (hh : h < 2 ^ 30) : fX3_swallowPlace (nI h) = some (nI (h % 6)) := by
  unfold fX3_swallowPlace
  rw [o_6, c_flo hh (by decide) (by decide)]
  rfl
def RC (A : AS) (weight : Nat → Int32) (known : Int32) (hour : Int32) (swS : Nat → Int32) (swW : Nat → Int32) (waS : Nat → Int32) (spoons : Int32) (kind : Nat → Int32) (mark : Nat → Int32) (silver : Nat → Int32) (fresh : Nat → Int64) : Prop := (∀ j, j < 12 → weight j = nI (aW A j)) ∧ known = nI (aK A) ∧ hour = nI (aH A) ∧ (∀ j, j < 6 → swS j = nI (aB A j) - nI 1) ∧ (∀ j, j < 6 → swW j = nI (aD A j)) ∧ (∀ j, j < 4 → waS j = nI (aS A j) - nI 1) ∧ spoons = nI (aN A) ∧ (∀ s, s < 8 → kind s = nI (aC A s)) ∧ (∀ s, s < 8 → mark s = nI (aM A s)) ∧ (∀ s, s < 8 → silver s = nI (aV A s)) ∧ ∀ s, s < 8 → fresh s = lN (pk12 (aF A s))
def GC (texts : Nat → Option Nat) (L : List Nat) (tx : Nat → TXc) (E : EVt) : Prop := ∀ use, use < 2 → ∀ (a b c : Int32) (tst : Nat → Nat → Int32), ∃ tst' : Nat → Nat → Int32, fX3_given (nI use) a b c texts L tx tst = some (nI (hld (E use a b c) (limU use)), tst')
theorem updL_s {f : Nat → Int64} {k : Nat} {x : Int64} : vp_updL f k x k = x := if_pos rfl
theorem updL_n {f : Nat → Int64} {k j : Nat} {x : Int64} (h : j ≠ k) : vp_updL f k x j = f j := if_neg h
section CH
variable {A : AS} {E : EVt} {weight : Nat → Int32} {known : Int32} {hour : Int32} {swS : Nat → Int32} {swW : Nat → Int32} {waS : Nat → Int32} {spoons : Int32} {kind : Nat → Int32} {mark : Nat → Int32} {silver : Nat → Int32} {fresh : Nat → Int64} {texts : Nat → Option Nat} {L : List Nat} {tx : Nat → TXc}
theorem c_who {b : Nat} (hb : b ≤ 8) (hN : aN A ≤ 8) (hV : ∀ s, s < 8 → silver s = nI (aV A s)) (fV : ∀ s, aV A s ≤ 99) : fX3_isWhole (nI b - nI 1) (nI (aN A)) silver = some (b2 (1 ≤ b ∧ b ≤ aN A ∧ 0 < aV A (b - 1))) := by
  unfold fX3_isWhole
  rw [o_0, o_1, c_wi, bd_s]
  by_cases c1 : 1 ≤ b ∧ b ≤ aN A
  · have h1 := fV (b - 1)
    rw [b2_t ((who_iff (by omega) (by omega)).mpr c1)]
    simp (disch := omega) only [pk_sub, hV, if_true, if_false, nI_add, pk_mul, nI_clamp, nI_leI, nI_ltI, nI_eq, ckI_s, bd_s, bnd_s, if_pos, if_neg, o_0, o_1, o_2, o_3, o_4, o_5, o_6, o_7, o_8, o_9, o_10, o_11, o_12, o_13, o_14, o_15, o_16, o_17, o_18, o_19, o_20, o_21, o_22, o_23, o_24, o_25, o_26, o_27, o_28, o_29, o_30, o_31, o_32, o_33, o_34, o_35, o_36, o_37, o_38, o_39, o_40, o_41, o_42, o_43, o_44, o_45, o_46, o_47, o_48, o_49, o_50, o_51, o_52, o_53, o_54, o_55, o_56, o_57, o_58, o_59, o_60, o_62, o_70, o_71, o_99, o_124, o_154, o_156, o_176, o_255, o_276, o_326, o_4095, o_9999, o_10000, o_10001, o_20000, o_20033]
    by_cases c2 : aV A (b - 1) ≤ 0
    · rw [if_pos c2, b2_f (by omega)]
    · rw [if_neg c2, b2_t (by omega)]
  · rw [b2_f (fun h => c1 ((who_iff (by omega) (by omega)).mp h)), if_pos rfl, b2_f (fun h => c1 ⟨h.1, h.2.1⟩)]
theorem c_on {s : Nat} (hs : s < 8) (hF : ∀ w, aF A s w ≤ 9) (h : fresh s = lN (pk12 (aF A s))) : fX3_wordsOn (nI s) fresh = some (nI (onN (aF A s))) := by
  have h1 : fX3_freshAtLeast (lN (pk12 (aF A s))) (nI 1) = some (nI (onN (aF A s))) := c_fAL hF (by decide) (by decide)
  simp (disch := omega) only [fX3_wordsOn, h, h1, if_true, if_false, nI_add, pk_mul, nI_clamp, nI_leI, nI_ltI, nI_eq, ckI_s, bd_s, bnd_s, if_pos, if_neg, o_0, o_1, o_2, o_3, o_4, o_5, o_6, o_7, o_8, o_9, o_10, o_11, o_12, o_13, o_14, o_15, o_16, o_17, o_18, o_19, o_20, o_21, o_22, o_23, o_24, o_25, o_26, o_27, o_28, o_29, o_30, o_31, o_32, o_33, o_34, o_35, o_36, o_37, o_38, o_39, o_40, o_41, o_42, o_43, o_44, o_45, o_46, o_47, o_48, o_49, o_50, o_51, o_52, o_53, o_54, o_55, o_56, o_57, o_58, o_59, o_60, o_62, o_70, o_71, o_99, o_124, o_154, o_156, o_176, o_255, o_276, o_326, o_4095, o_9999, o_10000, o_10001, o_20000, o_20033]
theorem d_sta {k m w v : Nat} (hk : k ≤ 6) (hm : m ≤ 9) (hw : w ≤ 9) (hv : v ≤ 99) : dX_stays k (nI m) (nI w) (nI v) = some (nI (staN k m w v)) := by
  rcases (show k = 0 ∨ k = 1 ∨ k = 2 ∨ k = 3 ∨ k = 4 ∨ k = 5 ∨ k = 6 by omega) with e | e | e | e | e | e | e <;> subst e
  · rfl
  · simp (disch := omega) only [dX_stays, fX2_stays_k2, fX8_stays_k2, pk_div, staN, if_true, if_false, nI_add, pk_mul, nI_clamp, nI_leI, nI_ltI, nI_eq, ckI_s, bd_s, bnd_s, if_pos, if_neg, o_0, o_1, o_2, o_3, o_4, o_5, o_6, o_7, o_8, o_9, o_10, o_11, o_12, o_13, o_14, o_15, o_16, o_17, o_18, o_19, o_20, o_21, o_22, o_23, o_24, o_25, o_26, o_27, o_28, o_29, o_30, o_31, o_32, o_33, o_34, o_35, o_36, o_37, o_38, o_39, o_40, o_41, o_42, o_43, o_44, o_45, o_46, o_47, o_48, o_49, o_50, o_51, o_52, o_53, o_54, o_55, o_56, o_57, o_58, o_59, o_60, o_62, o_70, o_71, o_99, o_124, o_154, o_156, o_176, o_255, o_276, o_326, o_4095, o_9999, o_10000, o_10001, o_20000, o_20033]
  · rfl
  · rfl
  · simp (disch := omega) only [dX_stays, fX6_stays_k6, fX2_stays_k6, fX8_stays_k6, pk_div, staN, if_true, if_false, nI_add, pk_mul, nI_clamp, nI_leI, nI_ltI, nI_eq, ckI_s, bd_s, bnd_s, if_pos, if_neg, o_0, o_1, o_2, o_3, o_4, o_5, o_6, o_7, o_8, o_9, o_10, o_11, o_12, o_13, o_14, o_15, o_16, o_17, o_18, o_19, o_20, o_21, o_22, o_23, o_24, o_25, o_26, o_27, o_28, o_29, o_30, o_31, o_32, o_33, o_34, o_35, o_36, o_37, o_38, o_39, o_40, o_41, o_42, o_43, o_44, o_45, o_46, o_47, o_48, o_49, o_50, o_51, o_52, o_53, o_54, o_55, o_56, o_57, o_58, o_59, o_60, o_62, o_70, o_71, o_99, o_124, o_154, o_156, o_176, o_255, o_276, o_326, o_4095, o_9999, o_10000, o_10001, o_20000, o_20033]
    rw [Nat.mul_comm]
  · simp (disch := omega) only [dX_stays, fX4_stays_k4, fX8_stays_k4, pk_div, staN, if_true, if_false, nI_add, pk_mul, nI_clamp, nI_leI, nI_ltI, nI_eq, ckI_s, bd_s, bnd_s, if_pos, if_neg, o_0, o_1, o_2, o_3, o_4, o_5, o_6, o_7, o_8, o_9, o_10, o_11, o_12, o_13, o_14, o_15, o_16, o_17, o_18, o_19, o_20, o_21, o_22, o_23, o_24, o_25, o_26, o_27, o_28, o_29, o_30, o_31, o_32, o_33, o_34, o_35, o_36, o_37, o_38, o_39, o_40, o_41, o_42, o_43, o_44, o_45, o_46, o_47, o_48, o_49, o_50, o_51, o_52, o_53, o_54, o_55, o_56, o_57, o_58, o_59, o_60, o_62, o_70, o_71, o_99, o_124, o_154, o_156, o_176, o_255, o_276, o_326, o_4095, o_9999, o_10000, o_10001, o_20000, o_20033]
  · by_cases h : v < 10
    · simp (disch := omega) only [dX_stays, fX1_stays_k1, fX5_stays_k1, staN, if_true, if_false, nI_add, pk_mul, nI_clamp, nI_leI, nI_ltI, nI_eq, ckI_s, bd_s, bnd_s, if_pos, if_neg, o_0, o_1, o_2, o_3, o_4, o_5, o_6, o_7, o_8, o_9, o_10, o_11, o_12, o_13, o_14, o_15, o_16, o_17, o_18, o_19, o_20, o_21, o_22, o_23, o_24, o_25, o_26, o_27, o_28, o_29, o_30, o_31, o_32, o_33, o_34, o_35, o_36, o_37, o_38, o_39, o_40, o_41, o_42, o_43, o_44, o_45, o_46, o_47, o_48, o_49, o_50, o_51, o_52, o_53, o_54, o_55, o_56, o_57, o_58, o_59, o_60, o_62, o_70, o_71, o_99, o_124, o_154, o_156, o_176, o_255, o_276, o_326, o_4095, o_9999, o_10000, o_10001, o_20000, o_20033]
    · simp (disch := omega) only [dX_stays, fX1_stays_k1, fX5_stays_k1, staN, if_true, if_false, nI_add, pk_mul, nI_clamp, nI_leI, nI_ltI, nI_eq, ckI_s, bd_s, bnd_s, if_pos, if_neg, o_0, o_1, o_2, o_3, o_4, o_5, o_6, o_7, o_8, o_9, o_10, o_11, o_12, o_13, o_14, o_15, o_16, o_17, o_18, o_19, o_20, o_21, o_22, o_23, o_24, o_25, o_26, o_27, o_28, o_29, o_30, o_31, o_32, o_33, o_34, o_35, o_36, o_37, o_38, o_39, o_40, o_41, o_42, o_43, o_44, o_45, o_46, o_47, o_48, o_49, o_50, o_51, o_52, o_53, o_54, o_55, o_56, o_57, o_58, o_59, o_60, o_62, o_70, o_71, o_99, o_124, o_154, o_156, o_176, o_255, o_276, o_326, o_4095, o_9999, o_10000, o_10001, o_20000, o_20033]
theorem d_rds {k m : Nat} (hk : k ≤ 6) (hm : m ≤ 9) : dX_reads k (nI m) = some (nI (rdsN k m)) := by
  rcases (show k = 0 ∨ k = 1 ∨ k = 2 ∨ k = 3 ∨ k = 4 ∨ k = 5 ∨ k = 6 by omega) with e | e | e | e | e | e | e <;> subst e
  · rfl
  · rfl
  · rfl
  · rfl
  · by_cases h : 4 < m
    · simp (disch := omega) only [dX_reads, fX6_reads_k6, fX2_reads_k6, rdsN, if_true, if_false, nI_add, pk_mul, nI_clamp, nI_leI, nI_ltI, nI_eq, ckI_s, bd_s, bnd_s, if_pos, if_neg, o_0, o_1, o_2, o_3, o_4, o_5, o_6, o_7, o_8, o_9, o_10, o_11, o_12, o_13, o_14, o_15, o_16, o_17, o_18, o_19, o_20, o_21, o_22, o_23, o_24, o_25, o_26, o_27, o_28, o_29, o_30, o_31, o_32, o_33, o_34, o_35, o_36, o_37, o_38, o_39, o_40, o_41, o_42, o_43, o_44, o_45, o_46, o_47, o_48, o_49, o_50, o_51, o_52, o_53, o_54, o_55, o_56, o_57, o_58, o_59, o_60, o_62, o_70, o_71, o_99, o_124, o_154, o_156, o_176, o_255, o_276, o_326, o_4095, o_9999, o_10000, o_10001, o_20000, o_20033]
    · simp (disch := omega) only [dX_reads, fX6_reads_k6, fX2_reads_k6, rdsN, if_true, if_false, nI_add, pk_mul, nI_clamp, nI_leI, nI_ltI, nI_eq, ckI_s, bd_s, bnd_s, if_pos, if_neg, o_0, o_1, o_2, o_3, o_4, o_5, o_6, o_7, o_8, o_9, o_10, o_11, o_12, o_13, o_14, o_15, o_16, o_17, o_18, o_19, o_20, o_21, o_22, o_23, o_24, o_25, o_26, o_27, o_28, o_29, o_30, o_31, o_32, o_33, o_34, o_35, o_36, o_37, o_38, o_39, o_40, o_41, o_42, o_43, o_44, o_45, o_46, o_47, o_48, o_49, o_50, o_51, o_52, o_53, o_54, o_55, o_56, o_57, o_58, o_59, o_60, o_62, o_70, o_71, o_99, o_124, o_154, o_156, o_176, o_255, o_276, o_326, o_4095, o_9999, o_10000, o_10001, o_20000, o_20033]
  · rfl
  · rfl
theorem d_wrs {k n : Nat} (hk : k ≤ 6) (hn : n ≤ 12) : dX_wears k (nI n) = some (nI (wrsN k n)) := by
  rcases (show k = 0 ∨ k = 1 ∨ k = 2 ∨ k = 3 ∨ k = 4 ∨ k = 5 ∨ k = 6 by omega) with e | e | e | e | e | e | e <;> subst e
  · rfl
  · rfl
  · rfl
  · rfl
  · rfl
  · by_cases h : n = 0
    · simp (disch := omega) only [dX_wears, fX4_wears_k4, fX8_wears_k4, wrsN, if_true, if_false, nI_add, pk_mul, nI_clamp, nI_leI, nI_ltI, nI_eq, ckI_s, bd_s, bnd_s, if_pos, if_neg, o_0, o_1, o_2, o_3, o_4, o_5, o_6, o_7, o_8, o_9, o_10, o_11, o_12, o_13, o_14, o_15, o_16, o_17, o_18, o_19, o_20, o_21, o_22, o_23, o_24, o_25, o_26, o_27, o_28, o_29, o_30, o_31, o_32, o_33, o_34, o_35, o_36, o_37, o_38, o_39, o_40, o_41, o_42, o_43, o_44, o_45, o_46, o_47, o_48, o_49, o_50, o_51, o_52, o_53, o_54, o_55, o_56, o_57, o_58, o_59, o_60, o_62, o_70, o_71, o_99, o_124, o_154, o_156, o_176, o_255, o_276, o_326, o_4095, o_9999, o_10000, o_10001, o_20000, o_20033]
    · simp (disch := omega) only [dX_wears, fX4_wears_k4, fX8_wears_k4, wrsN, if_true, if_false, nI_add, pk_mul, nI_clamp, nI_leI, nI_ltI, nI_eq, ckI_s, bd_s, bnd_s, if_pos, if_neg, o_0, o_1, o_2, o_3, o_4, o_5, o_6, o_7, o_8, o_9, o_10, o_11, o_12, o_13, o_14, o_15, o_16, o_17, o_18, o_19, o_20, o_21, o_22, o_23, o_24, o_25, o_26, o_27, o_28, o_29, o_30, o_31, o_32, o_33, o_34, o_35, o_36, o_37, o_38, o_39, o_40, o_41, o_42, o_43, o_44, o_45, o_46, o_47, o_48, o_49, o_50, o_51, o_52, o_53, o_54, o_55, o_56, o_57, o_58, o_59, o_60, o_62, o_70, o_71, o_99, o_124, o_154, o_156, o_176, o_255, o_276, o_326, o_4095, o_9999, o_10000, o_10001, o_20000, o_20033]
  · simp (disch := omega) only [dX_wears, fX1_wears_k1, fX5_wears_k1, wrsN, if_true, if_false, nI_add, pk_mul, nI_clamp, nI_leI, nI_ltI, nI_eq, ckI_s, bd_s, bnd_s, if_pos, if_neg, o_0, o_1, o_2, o_3, o_4, o_5, o_6, o_7, o_8, o_9, o_10, o_11, o_12, o_13, o_14, o_15, o_16, o_17, o_18, o_19, o_20, o_21, o_22, o_23, o_24, o_25, o_26, o_27, o_28, o_29, o_30, o_31, o_32, o_33, o_34, o_35, o_36, o_37, o_38, o_39, o_40, o_41, o_42, o_43, o_44, o_45, o_46, o_47, o_48, o_49, o_50, o_51, o_52, o_53, o_54, o_55, o_56, o_57, o_58, o_59, o_60, o_62, o_70, o_71, o_99, o_124, o_154, o_156, o_176, o_255, o_276, o_326, o_4095, o_9999, o_10000, o_10001, o_20000, o_20033]
theorem c_rub {s : Nat} (hW : Wf A) (hR : RC A weight known hour swS swW waS spoons kind mark silver fresh) (hG : GC texts L tx E) (hs : s < 8) (tst : Nat → Nat → Int32) : ∃ tst', fX3_rubOf (nI s) kind silver fresh texts L tx tst = some (nI (rubN E A s), tst') := by
  obtain ⟨rW, rK, rH, rB, rD, rS, rN, rC, rM, rV, rF⟩ := hR
  obtain ⟨fN, fH, fK, fW, fB, fD, fS, fC, fM, fV, fF⟩ := hW
  have h1 := fC s
  have h2 := pc_le (onN (aF A s))
  obtain ⟨tst', h3⟩ := hG 1 (by decide) (nI (wrsN (aC A s) (pc (onN (aF A s))))) (nI (aV A s)) (nI (pc (onN (aF A s)))) tst
  refine ⟨tst', ?_⟩
  have h4 : hld (E 1 (nI (wrsN (aC A s) (pc (onN (aF A s))))) (nI (aV A s)) (nI (pc (onN (aF A s))))) (limU 1) = rubN E A s := rfl
  rw [h4] at h3
  have e1 : (nI s).toNatClampNeg = s := nI_clamp (by omega)
  have e2 : (nI (aC A s)).toNatClampNeg = aC A s := nI_clamp (by omega)
  have h5 := d_wrs h1 h2
  unfold fX3_rubOf
  rw [bd_of (c_on hs (fF s) (rF s hs)), bd_of (c_bc (onN_lt _)), e1, rC s hs, ckI_s hs (by omega), ckI_s (by omega) (by omega), e2, bd_of h5, ckI_s hs (by omega), rV s hs, o_1, bd_of h3]
theorem c_sw (hW : Wf A) (hR : RC A weight known hour swS swW waS spoons kind mark silver fresh) (hG : GC texts L tx E) (tst : Nat → Nat → Int32) : ∃ fresh' tst', fX3_swallowNow weight hour swS swW spoons kind mark silver fresh texts L tx tst = some (fresh', tst') ∧ RC (spS E A) weight known hour swS swW waS spoons kind mark silver fresh' := by
  have hR0 := hR
  obtain ⟨rW, rK, rH, rB, rD, rS, rN, rC, rM, rV, rF⟩ := hR0
  obtain ⟨fN, fH, fK, fW, fB, fD, fS, fC, fM, fV, fF⟩ := hW
  have hb := fB (aH A % 6)
  have hdd := fD (aH A % 6)
  have hwho := c_who (A := A) hb fN rV fV
  unfold spS
  by_cases c1 : 1 ≤ aB A (aH A % 6) ∧ aB A (aH A % 6) ≤ aN A ∧ 0 < aV A (aB A (aH A % 6) - 1)
  · rw [b2_t c1, pk_sub c1.1] at hwho
    rw [if_pos c1]
    have hs : aB A (aH A % 6) - 1 < 8 := by omega
    have h1 := fC (aB A (aH A % 6) - 1)
    have h2 := fM (aB A (aH A % 6) - 1)
    have h3 := fW (aD A (aH A % 6))
    have h4 := fV (aB A (aH A % 6) - 1)
    have h5 := fF (aB A (aH A % 6) - 1) (aD A (aH A % 6))
    have h6 : swaV E A (aB A (aH A % 6) - 1) (aD A (aH A % 6)) ≤ 9 := hld_le _ _
    obtain ⟨tst', h7⟩ := hG 0 (by decide) (nI (staN (aC A (aB A (aH A % 6) - 1)) (aM A (aB A (aH A % 6) - 1)) (aW A (aD A (aH A % 6))) (aV A (aB A (aH A % 6) - 1)))) (nI (aW A (aD A (aH A % 6)))) (nI (aV A (aB A (aH A % 6) - 1))) tst
    have h8 : hld (E 0 (nI (staN (aC A (aB A (aH A % 6) - 1)) (aM A (aB A (aH A % 6) - 1)) (aW A (aD A (aH A % 6))) (aV A (aB A (aH A % 6) - 1)))) (nI (aW A (aD A (aH A % 6)))) (nI (aV A (aB A (aH A % 6) - 1)))) (limU 0) = swaV E A (aB A (aH A % 6) - 1) (aD A (aH A % 6)) := rfl
    rw [h8] at h7
    have hfi := c_fI (f := aF A (aB A (aH A % 6) - 1)) (fF _) (w := aD A (aH A % 6)) (by omega)
    have hwf := c_wF (f := aF A (aB A (aH A % 6) - 1)) (fF _) (w := aD A (aH A % 6)) (v := swaV E A (aB A (aH A % 6) - 1) (aD A (aH A % 6))) (by omega) h6
    by_cases c2 : swaV E A (aB A (aH A % 6) - 1) (aD A (aH A % 6)) ≤ aF A (aB A (aH A % 6) - 1) (aD A (aH A % 6))
    · refine ⟨fresh, tst', ?_, rW, rK, rH, rB, rD, rS, rN, rC, rM, rV, fun s hs => ?_⟩
      · simp (disch := omega) only [fX3_swallowNow, rH, c_place, rB, rN, hwho, rD, pk_sub, rC, rM, rW, rV, rF, d_sta, h7, hfi, if_true, if_false, nI_add, pk_mul, nI_clamp, nI_leI, nI_ltI, nI_eq, ckI_s, bd_s, bnd_s, if_pos, if_neg, o_0, o_1, o_2, o_3, o_4, o_5, o_6, o_7, o_8, o_9, o_10, o_11, o_12, o_13, o_14, o_15, o_16, o_17, o_18, o_19, o_20, o_21, o_22, o_23, o_24, o_25, o_26, o_27, o_28, o_29, o_30, o_31, o_32, o_33, o_34, o_35, o_36, o_37, o_38, o_39, o_40, o_41, o_42, o_43, o_44, o_45, o_46, o_47, o_48, o_49, o_50, o_51, o_52, o_53, o_54, o_55, o_56, o_57, o_58, o_59, o_60, o_62, o_70, o_71, o_99, o_124, o_154, o_156, o_176, o_255, o_276, o_326, o_4095, o_9999, o_10000, o_10001, o_20000, o_20033]
      · show _ = lN (pk12 (upF (aF A) _ _ s))
        rw [Nat.max_eq_right c2]
        by_cases hsi : s = aB A (aH A % 6) - 1
        · rw [hsi, upF_s, rF _ (by omega)]
          congr 2
          funext w
          by_cases hw : w = aD A (aH A % 6)
          · rw [hw, upN_s]
          · rw [upN_n hw]
        · rw [upF_n hsi, rF s hs]
    · refine ⟨vp_updL fresh (aB A (aH A % 6) - 1) (lN (pk12 (upN (aF A (aB A (aH A % 6) - 1)) (aD A (aH A % 6)) (swaV E A (aB A (aH A % 6) - 1) (aD A (aH A % 6)))))), tst', ?_, rW, rK, rH, rB, rD, rS, rN, rC, rM, rV, fun s hs => ?_⟩
      · simp (disch := omega) only [fX3_swallowNow, rH, c_place, rB, rN, hwho, rD, pk_sub, rC, rM, rW, rV, rF, d_sta, h7, hfi, hwf, if_true, if_false, nI_add, pk_mul, nI_clamp, nI_leI, nI_ltI, nI_eq, ckI_s, bd_s, bnd_s, if_pos, if_neg, o_0, o_1, o_2, o_3, o_4, o_5, o_6, o_7, o_8, o_9, o_10, o_11, o_12, o_13, o_14, o_15, o_16, o_17, o_18, o_19, o_20, o_21, o_22, o_23, o_24, o_25, o_26, o_27, o_28, o_29, o_30, o_31, o_32, o_33, o_34, o_35, o_36, o_37, o_38, o_39, o_40, o_41, o_42, o_43, o_44, o_45, o_46, o_47, o_48, o_49, o_50, o_51, o_52, o_53, o_54, o_55, o_56, o_57, o_58, o_59, o_60, o_62, o_70, o_71, o_99, o_124, o_154, o_156, o_176, o_255, o_276, o_326, o_4095, o_9999, o_10000, o_10001, o_20000, o_20033]
      · show _ = lN (pk12 (upF (aF A) _ _ s))
        rw [Nat.max_eq_left (by omega)]
        by_cases hsi : s = aB A (aH A % 6) - 1
        · rw [hsi, upF_s, updL_s]
        · rw [upF_n hsi, updL_n hsi, rF s hs]
  · rw [b2_f c1] at hwho
    rw [if_neg c1]
    refine ⟨fresh, tst, ?_, hR⟩
    simp (disch := omega) only [fX3_swallowNow, rH, c_place, rB, rN, hwho, if_true, if_false, nI_add, pk_mul, nI_clamp, nI_leI, nI_ltI, nI_eq, ckI_s, bd_s, bnd_s, if_pos, if_neg, o_0, o_1, o_2, o_3, o_4, o_5, o_6, o_7, o_8, o_9, o_10, o_11, o_12, o_13, o_14, o_15, o_16, o_17, o_18, o_19, o_20, o_21, o_22, o_23, o_24, o_25, o_26, o_27, o_28, o_29, o_30, o_31, o_32, o_33, o_34, o_35, o_36, o_37, o_38, o_39, o_40, o_41, o_42, o_43, o_44, o_45, o_46, o_47, o_48, o_49, o_50, o_51, o_52, o_53, o_54, o_55, o_56, o_57, o_58, o_59, o_60, o_62, o_70, o_71, o_99, o_124, o_154, o_156, o_176, o_255, o_276, o_326, o_4095, o_9999, o_10000, o_10001, o_20000, o_20033]
theorem jmax0 {v r : Nat} (hv : v ≤ 99) (hr : r ≤ 20) : jmax (nI 0) (nI v - nI r) = nI (v - r) := by
  have e : nI 0 < nI v - nI r ↔ r < v := by
    rw [q_lt, nI_toInt (by decide), pk_sub_toInt (by omega) (by omega)]
    omega
  unfold jmax
  by_cases h : r < v
  · rw [if_pos (e.mpr h), pk_sub (by omega)]
  · rw [if_neg (fun h2 => h (e.mp h2)), show v - r = 0 by omega]
theorem c_wa (hW : Wf A) (hR : RC A weight known hour swS swW waS spoons kind mark silver fresh) (hG : GC texts L tx E) (tst : Nat → Nat → Int32) : ∃ known' silver' fresh' tst', fX3_washNow known hour waS spoons kind mark silver fresh texts L tx tst = some (known', silver', fresh', tst') ∧ RC (spW E A) weight known' hour swS swW waS spoons kind mark silver' fresh' := by
  have hR0 := hR
  have hW0 := hW
  obtain ⟨rW, rK, rH, rB, rD, rS, rN, rC, rM, rV, rF⟩ := hR0
  obtain ⟨fN, fH, fK, fW, fB, fD, fS, fC, fM, fV, fF⟩ := hW0
  have hb := fS (aH A % 4)
  have hwho := c_who (A := A) hb fN rV fV
  have hfl := c_flo (h := aH A) (m := 4) (by omega) (by decide) (by decide)
  unfold spW
  by_cases c1 : 1 ≤ aS A (aH A % 4) ∧ aS A (aH A % 4) ≤ aN A ∧ 0 < aV A (aS A (aH A % 4) - 1)
  · rw [b2_t c1] at hwho
    rw [if_pos c1]
    have hs : aS A (aH A % 4) - 1 < 8 := by omega
    obtain ⟨tst', hrub⟩ := c_rub hW hR hG hs tst
    generalize hsv : aS A (aH A % 4) - 1 = s at *
    have h1 := fC s
    have h2 := fM s
    have h4 := fV s
    have h5 := rdsN_b (aC A s) (aM A s)
    have hrl : rubN E A s ≤ 20 := hld_le _ _
    have hge : fX3_freshAtLeast (lN (pk12 (aF A s))) (nI (rdsN (aC A s) (aM A s))) = some (nI (geN (rdsN (aC A s) (aM A s)) (aF A s))) := c_fAL (f := aF A s) (fF s) (k := rdsN (aC A s) (aM A s)) h5.1 h5.2
    have hon := c_on (A := A) (fresh := fresh) hs (fF s) (rF s hs)
    have hhv := c_hv (f := aF A s) (fF s)
    have hj := jmax0 (v := aV A s) (r := rubN E A s) h4 hrl
    have hsub : nI (aS A (aH A % 4)) - nI 1 = nI s := by rw [pk_sub c1.1, hsv]
    rw [hsub] at hwho
    by_cases hz : aV A s - rubN E A s = 0
    · refine ⟨nI (aK A ||| geN (rdsN (aC A s) (aM A s)) (aF A s) ||| onN (aF A s)), upd silver s (nI (aV A s - rubN E A s)), vp_updL fresh s 0, tst', ?_, rW, ?_, rH, rB, rD, rS, rN, rC, rM, fun j hj2 => ?_, fun j hj2 => ?_⟩
      · simp (disch := omega) only [fX3_washNow, rH, hfl, rS, rN, hsub, hwho, hrub, rC, rM, rF, rV, rK, d_rds, hge, hj, upd_s, hz, hon, q_or, if_true, if_false, nI_add, pk_mul, nI_clamp, nI_leI, nI_ltI, nI_eq, ckI_s, bd_q, bnd_q, if_pos, if_neg, o_0, o_1, o_2, o_3, o_4, o_5, o_6, o_7, o_8, o_9, o_10, o_11, o_12, o_13, o_14, o_15, o_16, o_17, o_18, o_19, o_20, o_21, o_22, o_23, o_24, o_25, o_26, o_27, o_28, o_29, o_30, o_31, o_32, o_33, o_34, o_35, o_36, o_37, o_38, o_39, o_40, o_41, o_42, o_43, o_44, o_45, o_46, o_47, o_48, o_49, o_50, o_51, o_52, o_53, o_54, o_55, o_56, o_57, o_58, o_59, o_60, o_62, o_70, o_71, o_99, o_124, o_154, o_156, o_176, o_255, o_276, o_326, o_4095, o_9999, o_10000, o_10001, o_20000, o_20033]
      · show _ = nI ((aK A ||| geN (rdsN (aC A s) (aM A s)) (aF A s)) ||| (if aV A s - rubN E A s = 0 then onN (aF A s) else 0))
        rw [if_pos hz]
      · show _ = nI (upN (aV A) s (aV A s - rubN E A s) j)
        by_cases hjs : j = s
        · subst hjs
          rw [upN_s, upd_s]
        · rw [upN_n hjs, upd_n hjs, rV j hj2]
      · show _ = lN (pk12 (upF (aF A) s (fun w => if aV A s - rubN E A s = 0 then 0 else aF A s w / 2) j))
        by_cases hjs : j = s
        · subst hjs
          rw [upF_s, updL_s]
          simp only [hz, if_true]
          rfl
        · rw [upF_n hjs, updL_n hjs, rF j hj2]
    · refine ⟨nI (aK A ||| geN (rdsN (aC A s) (aM A s)) (aF A s)), upd silver s (nI (aV A s - rubN E A s)), vp_updL fresh s (lN (pk12 (fun w => aF A s w / 2))), tst', ?_, rW, ?_, rH, rB, rD, rS, rN, rC, rM, fun j hj2 => ?_, fun j hj2 => ?_⟩
      · simp (disch := omega) only [fX3_washNow, rH, hfl, rS, rN, hsub, hwho, hrub, rC, rM, rF, rV, rK, d_rds, hge, hj, upd_s, hhv, q_or, if_true, if_false, nI_add, pk_mul, nI_clamp, nI_leI, nI_ltI, nI_eq, ckI_s, bd_q, bnd_q, if_pos, if_neg, o_0, o_1, o_2, o_3, o_4, o_5, o_6, o_7, o_8, o_9, o_10, o_11, o_12, o_13, o_14, o_15, o_16, o_17, o_18, o_19, o_20, o_21, o_22, o_23, o_24, o_25, o_26, o_27, o_28, o_29, o_30, o_31, o_32, o_33, o_34, o_35, o_36, o_37, o_38, o_39, o_40, o_41, o_42, o_43, o_44, o_45, o_46, o_47, o_48, o_49, o_50, o_51, o_52, o_53, o_54, o_55, o_56, o_57, o_58, o_59, o_60, o_62, o_70, o_71, o_99, o_124, o_154, o_156, o_176, o_255, o_276, o_326, o_4095, o_9999, o_10000, o_10001, o_20000, o_20033]
      · show _ = nI ((aK A ||| geN (rdsN (aC A s) (aM A s)) (aF A s)) ||| (if aV A s - rubN E A s = 0 then onN (aF A s) else 0))
        rw [if_neg hz, Nat.or_zero]
      · show _ = nI (upN (aV A) s (aV A s - rubN E A s) j)
        by_cases hjs : j = s
        · subst hjs
          rw [upN_s, upd_s]
        · rw [upN_n hjs, upd_n hjs, rV j hj2]
      · show _ = lN (pk12 (upF (aF A) s (fun w => if aV A s - rubN E A s = 0 then 0 else aF A s w / 2) j))
        by_cases hjs : j = s
        · subst hjs
          rw [upF_s, updL_s]
          simp only [hz, if_false]
        · rw [upF_n hjs, updL_n hjs, rF j hj2]
  · rw [b2_f c1] at hwho
    rw [if_neg c1]
    refine ⟨known, silver, fresh, tst, ?_, hR⟩
    simp (disch := omega) only [fX3_washNow, rH, hfl, rS, rN, hwho, if_true, if_false, nI_add, pk_mul, nI_clamp, nI_leI, nI_ltI, nI_eq, ckI_s, bd_q, bnd_q, if_pos, if_neg, o_0, o_1, o_2, o_3, o_4, o_5, o_6, o_7, o_8, o_9, o_10, o_11, o_12, o_13, o_14, o_15, o_16, o_17, o_18, o_19, o_20, o_21, o_22, o_23, o_24, o_25, o_26, o_27, o_28, o_29, o_30, o_31, o_32, o_33, o_34, o_35, o_36, o_37, o_38, o_39, o_40, o_41, o_42, o_43, o_44, o_45, o_46, o_47, o_48, o_49, o_50, o_51, o_52, o_53, o_54, o_55, o_56, o_57, o_58, o_59, o_60, o_62, o_70, o_71, o_99, o_124, o_154, o_156, o_176, o_255, o_276, o_326, o_4095, o_9999, o_10000, o_10001, o_20000, o_20033]
theorem c_hour (hW : Wf A) (hR : RC A weight known hour swS swW waS spoons kind mark silver fresh) (hG : GC texts L tx E) (hH : aH A < 10100) (n i : Nat) (hi : i < n) (hn : n ≤ 100) (tst : Nat → Nat → Int32) : ∃ known' hour' silver' fresh' tst', fX3_passHours_2B (nI n) weight swS swW waS spoons kind mark texts L tx (nI i) known hour silver fresh tst = some (.inl (nI (i + 1), known', hour', silver', fresh', tst')) ∧ RC (stpA E A) weight known' hour' swS swW waS spoons kind mark silver' fresh' := by
  obtain ⟨fr1, ts1, a1, a2⟩ := c_sw hW hR hG tst
  obtain ⟨kn2, sv2, fr2, ts2, b1, b2⟩ := c_wa (Wf_spS hW) a2 hG ts1
  obtain ⟨rW, rK, rH, rB, rD, rS, rN, rC, rM, rV, rF⟩ := b2
  obtain ⟨fN, fH, fK, fW, fB, fD, fS, fC, fM, fV, fF⟩ := Wf_spW (E := E) (Wf_spS (E := E) hW)
  have hH2 : aH (spW E (spS E A)) < 10100 := by rw [spW_H, spS_H]; exact hH
  have hlp : ∃ r, lp (fun σ : Int32 × (Nat → Int64) => fX3_passHours_17B (nI n) (nI i) weight kn2 hour swS swW waS spoons kind mark sv2 texts L tx ts2 (σ.1) (σ.2)) FU ((0 : Int32), fr2) = some r ∧ ∀ s, s < 8 → r.2 s = lN (pk12 (fun w => if s < aN (spW E (spS E A)) then aF (spW E (spS E A)) s w - 1 else aF (spW E (spS E A)) s w)) := by
    refine lpE _ (fun k σ => σ.1 = nI k ∧ ∀ s, s < 8 → σ.2 s = lN (pk12 (fun w => if s < k then aF (spW E (spS E A)) s w - 1 else aF (spW E (spS E A)) s w))) _ (aN (spW E (spS E A))) (fun k σ hk hI => ?_) (fun σ hI => ?_) (FU_lt (by omega)) _ ⟨rfl, fun s hs => ?_⟩
    · obtain ⟨x, f1⟩ := σ
      obtain ⟨e1, e2⟩ := hI
      dsimp only at e1 e2
      subst e1
      have h3 := e2 k (by omega)
      have h4 : (fun w => if k < k then aF (spW E (spS E A)) k w - 1 else aF (spW E (spS E A)) k w) = aF (spW E (spS E A)) k := by
        funext w
        rw [if_neg (by omega)]
      rw [h4] at h3
      have h5 := c_ag (f := aF (spW E (spS E A)) k) (fF k)
      refine Or.inl ⟨(nI (k + 1), vp_updL f1 k (lN (pk12 (fun w => aF (spW E (spS E A)) k w - 1)))), ?_, rfl, fun s hs => ?_⟩
      · simp (disch := omega) only [fX3_passHours_17B, rN, h3, h5, if_true, if_false, nI_add, pk_mul, nI_clamp, nI_leI, nI_ltI, nI_eq, ckI_s, bd_s, bnd_s, if_pos, if_neg, o_0, o_1, o_2, o_3, o_4, o_5, o_6, o_7, o_8, o_9, o_10, o_11, o_12, o_13, o_14, o_15, o_16, o_17, o_18, o_19, o_20, o_21, o_22, o_23, o_24, o_25, o_26, o_27, o_28, o_29, o_30, o_31, o_32, o_33, o_34, o_35, o_36, o_37, o_38, o_39, o_40, o_41, o_42, o_43, o_44, o_45, o_46, o_47, o_48, o_49, o_50, o_51, o_52, o_53, o_54, o_55, o_56, o_57, o_58, o_59, o_60, o_62, o_70, o_71, o_99, o_124, o_154, o_156, o_176, o_255, o_276, o_326, o_4095, o_9999, o_10000, o_10001, o_20000, o_20033]
      · dsimp only
        by_cases hsk : s = k
        · subst hsk
          rw [updL_s]
          congr 2
          funext w
          rw [if_pos (by omega)]
        · rw [updL_n hsk, e2 s hs]
          congr 2
          funext w
          by_cases h6 : s < k
          · rw [if_pos h6, if_pos (by omega)]
          · rw [if_neg h6, if_neg (by omega)]
    · obtain ⟨x, f1⟩ := σ
      obtain ⟨e1, e2⟩ := hI
      dsimp only at e1 e2
      subst e1
      refine ⟨(nI (aN (spW E (spS E A))), f1), ?_, e2⟩
      simp (disch := omega) only [fX3_passHours_17B, rN, if_true, if_false, nI_add, pk_mul, nI_clamp, nI_leI, nI_ltI, nI_eq, ckI_s, bd_s, bnd_s, if_pos, if_neg, o_0, o_1, o_2, o_3, o_4, o_5, o_6, o_7, o_8, o_9, o_10, o_11, o_12, o_13, o_14, o_15, o_16, o_17, o_18, o_19, o_20, o_21, o_22, o_23, o_24, o_25, o_26, o_27, o_28, o_29, o_30, o_31, o_32, o_33, o_34, o_35, o_36, o_37, o_38, o_39, o_40, o_41, o_42, o_43, o_44, o_45, o_46, o_47, o_48, o_49, o_50, o_51, o_52, o_53, o_54, o_55, o_56, o_57, o_58, o_59, o_60, o_62, o_70, o_71, o_99, o_124, o_154, o_156, o_176, o_255, o_276, o_326, o_4095, o_9999, o_10000, o_10001, o_20000, o_20033]
    · dsimp only
      rw [rF s hs]
      congr 2
  obtain ⟨⟨x, fr3⟩, h1, h2⟩ := hlp
  dsimp only at h2
  have h17 : fX3_passHours_17 (nI n) (nI i) (0 : Int32) weight kn2 hour swS swW waS spoons kind mark sv2 fr2 texts L tx ts2 = some (.inl (nI (i + 1), kn2, nI (aH (spW E (spS E A)) + 1), sv2, fr3, ts2)) := by
    unfold fX3_passHours_17
    refine (bd_of h1).trans ?_
    simp (disch := omega) only [rH, if_true, if_false, nI_add, pk_mul, nI_clamp, nI_leI, nI_ltI, nI_eq, ckI_s, bd_s, bnd_s, if_pos, if_neg, o_0, o_1, o_2, o_3, o_4, o_5, o_6, o_7, o_8, o_9, o_10, o_11, o_12, o_13, o_14, o_15, o_16, o_17, o_18, o_19, o_20, o_21, o_22, o_23, o_24, o_25, o_26, o_27, o_28, o_29, o_30, o_31, o_32, o_33, o_34, o_35, o_36, o_37, o_38, o_39, o_40, o_41, o_42, o_43, o_44, o_45, o_46, o_47, o_48, o_49, o_50, o_51, o_52, o_53, o_54, o_55, o_56, o_57, o_58, o_59, o_60, o_62, o_70, o_71, o_99, o_124, o_154, o_156, o_176, o_255, o_276, o_326, o_4095, o_9999, o_10000, o_10001, o_20000, o_20033]
  refine ⟨kn2, nI (aH (spW E (spS E A)) + 1), sv2, fr3, ts2, ?_, rW, rK, rfl, rB, rD, rS, rN, rC, rM, rV, h2⟩
  unfold fX3_passHours_2B
  rw [if_neg (by rw [nI_leI (by omega) (by omega)]; omega), bd_of a1]
  dsimp only
  rw [bd_of b1]
  exact h17
theorem c_hours (hW : Wf A) (hR : RC A weight known hour swS swW waS spoons kind mark silver fresh) (hG : GC texts L tx E) {n : Nat} (hn : n ≤ 100) (hH : aH A + n ≤ 10100) (tst : Nat → Nat → Int32) : ∃ known' hour' silver' fresh' tst', fX3_passHours (nI n) weight known hour swS swW waS spoons kind mark silver fresh texts L tx tst = some (known', hour', silver', fresh', tst') ∧ RC (runA E n A) weight known' hour' swS swW waS spoons kind mark silver' fresh' := by
  unfold fX3_passHours fX3_passHours_2
  obtain ⟨⟨x, k1, o1, v1, f1, t1⟩, h1, h2⟩ := lpE (fun σ : Int32 × Int32 × Int32 × (Nat → Int32) × (Nat → Int64) × (Nat → Nat → Int32) => fX3_passHours_2B (nI n) weight swS swW waS spoons kind mark texts L tx (σ.1) (σ.2.1) (σ.2.2.1) (σ.2.2.2.1) (σ.2.2.2.2.1) (σ.2.2.2.2.2)) (fun i σ => σ.1 = nI i ∧ RC (runA E i A) weight σ.2.1 σ.2.2.1 swS swW waS spoons kind mark σ.2.2.2.1 σ.2.2.2.2.1) (fun r => RC (runA E n A) weight r.2.1 r.2.2.1 swS swW waS spoons kind mark r.2.2.2.1 r.2.2.2.2.1) n
    (fun i σ hi hI => by
      obtain ⟨x, k1, o1, v1, f1, t1⟩ := σ
      obtain ⟨e1, e2⟩ := hI
      dsimp only at e1 e2
      subst e1
      obtain ⟨k2, o2, v2, f2, t2, g1, g2⟩ := c_hour (Wf_runA hW i (by omega)) e2 hG (by rw [runA_H]; omega) n i hi hn t1
      exact Or.inl ⟨_, g1, rfl, g2⟩)
    (fun σ hI => by
      obtain ⟨x, k1, o1, v1, f1, t1⟩ := σ
      obtain ⟨e1, e2⟩ := hI
      dsimp only at e1 e2
      subst e1
      refine ⟨(nI n, k1, o1, v1, f1, t1), ?_, e2⟩
      simp (disch := omega) only [fX3_passHours_2B, if_true, if_false, nI_add, pk_mul, nI_clamp, nI_leI, nI_ltI, nI_eq, ckI_s, bd_s, bnd_s, if_pos, if_neg, o_0, o_1, o_2, o_3, o_4, o_5, o_6, o_7, o_8, o_9, o_10, o_11, o_12, o_13, o_14, o_15, o_16, o_17, o_18, o_19, o_20, o_21, o_22, o_23, o_24, o_25, o_26, o_27, o_28, o_29, o_30, o_31, o_32, o_33, o_34, o_35, o_36, o_37, o_38, o_39, o_40, o_41, o_42, o_43, o_44, o_45, o_46, o_47, o_48, o_49, o_50, o_51, o_52, o_53, o_54, o_55, o_56, o_57, o_58, o_59, o_60, o_62, o_70, o_71, o_99, o_124, o_154, o_156, o_176, o_255, o_276, o_326, o_4095, o_9999, o_10000, o_10001, o_20000, o_20033])
    (FU_lt (by omega)) (nI 0, known, hour, silver, fresh, tst) ⟨rfl, hR⟩
  have h1 : lp (fun σ : Int32 × Int32 × Int32 × (Nat → Int32) × (Nat → Int64) × (Nat → Nat → Int32) => fX3_passHours_2B (nI n) weight swS swW waS spoons kind mark texts L tx (σ.1) (σ.2.1) (σ.2.2.1) (σ.2.2.2.1) (σ.2.2.2.2.1) (σ.2.2.2.2.2)) FU ((0 : Int32), known, hour, silver, fresh, tst) = some (x, k1, o1, v1, f1, t1) := h1
  exact ⟨k1, o1, v1, f1, t1, (bd_of h1).trans rfl, h2⟩
end CH
