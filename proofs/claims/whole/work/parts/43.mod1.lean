/-! the reference's small functions, and how an hour goes there -/
theorem l_0 : (0 : Int64) = (nI 0).toInt64 := by decide +kernel
theorem l_1 : (1 : Int64) = (nI 1).toInt64 := by decide +kernel
theorem l_2 : (2 : Int64) = (nI 2).toInt64 := by decide +kernel
theorem l_3 : (3 : Int64) = (nI 3).toInt64 := by decide +kernel
theorem l_5 : (5 : Int64) = (nI 5).toInt64 := by decide +kernel
theorem l_7 : (7 : Int64) = (nI 7).toInt64 := by decide +kernel
theorem l_8 : (8 : Int64) = (nI 8).toInt64 := by decide +kernel
theorem l_9 : (9 : Int64) = (nI 9).toInt64 := by decide +kernel
theorem l_11 : (11 : Int64) = (nI 11).toInt64 := by decide +kernel
theorem l_12 : (12 : Int64) = (nI 12).toInt64 := by decide +kernel
theorem l_16 : (16 : Int64) = (nI 16).toInt64 := by decide +kernel
theorem l_20 : (20 : Int64) = (nI 20).toInt64 := by decide +kernel
theorem l_30 : (30 : Int64) = (nI 30).toInt64 := by decide +kernel
theorem l_40 : (40 : Int64) = (nI 40).toInt64 := by decide +kernel
theorem l_60 : (60 : Int64) = (nI 60).toInt64 := by decide +kernel
theorem l_69 : (69 : Int64) = (nI 69).toInt64 := by decide +kernel
theorem l_99 : (99 : Int64) = (nI 99).toInt64 := by decide +kernel
theorem l_4095 : (4095 : Int64) = (nI 4095).toInt64 := by decide +kernel
theorem fa_wide_lt (a b : Int32) : a.toInt64 < b.toInt64 ↔ a < b := by rw [Int64.lt_iff_toInt_lt, q_lt, Int32.toInt_toInt64, Int32.toInt_toInt64]
theorem lgc_lt (x y : Int64) : lg_cmp x y < 0 ↔ x < y := by
  show (if y < x then (1 : Int32) else if x = y then 0 else -1) < 0 ↔ _
  by_cases h : y < x
  · rw [if_pos h]
    refine ⟨fun h2 => absurd h2 (by decide), fun h2 => ?_⟩
    rw [Int64.lt_iff_toInt_lt] at h h2
    omega
  · rw [if_neg h]
    by_cases h2 : x = y
    · rw [if_pos h2]
      subst h2
      exact ⟨fun h3 => absurd h3 (by decide), fun h3 => absurd h3 h⟩
    · rw [if_neg h2]
      refine ⟨fun _ => ?_, fun _ => by decide⟩
      rw [Int64.lt_iff_toInt_lt] at h ⊢
      rw [← Int64.toInt_inj] at h2
      omega
theorem lgc_gt (x y : Int64) : 0 < lg_cmp x y ↔ y < x := by
  show 0 < (if y < x then (1 : Int32) else if x = y then 0 else -1) ↔ _
  by_cases h : y < x
  · rw [if_pos h]
    exact ⟨fun _ => h, fun _ => by decide⟩
  · rw [if_neg h]
    refine ⟨fun h2 => ?_, fun h2 => absurd h2 h⟩
    split at h2 <;> exact absurd h2 (by decide)
/-- 1 or 0 -/
def b2 (c : Prop) [Decidable c] : Int32 := if c then nI 1 else nI 0
theorem b2_t {c : Prop} [Decidable c] (h : c) : b2 c = nI 1 := if_pos h
theorem b2_f {c : Prop} [Decidable c] (h : ¬ c) : b2 c = nI 0 := if_neg h
theorem b2_z {c : Prop} [Decidable c] : isZ (b2 c) = true := by
  unfold b2
  split <;> rfl
theorem b2_0 {c : Prop} [Decidable c] : (b2 c = nI 0) ↔ ¬ c := by
  unfold b2
  split
  · rename_i h
    exact ⟨fun h2 => absurd h2 (by decide), fun h2 => absurd h h2⟩
  · rename_i h
    exact ⟨fun _ => h, fun _ => rfl⟩
theorem m_in (x a b : Int32) : fX12_in x.toInt64 a.toInt64 b.toInt64 = some (b2 (a ≤ x ∧ x ≤ b)) := by
  unfold fX12_in
  by_cases h1 : x < a
  · rw [if_pos ((lgc_lt _ _).mpr ((fa_wide_lt _ _).mpr h1)), b2_f (by rw [q_lt] at h1; rw [q_le]; omega)]
    rfl
  · rw [if_neg (fun h => h1 ((fa_wide_lt _ _).mp ((lgc_lt _ _).mp h)))]
    by_cases h2 : b < x
    · rw [if_pos ((lgc_gt _ _).mpr ((fa_wide_lt _ _).mpr h2)), b2_f (by rw [q_lt] at h2; rw [q_le, q_le]; omega)]
      rfl
    · rw [if_neg (fun h => h2 ((fa_wide_lt _ _).mp ((lgc_gt _ _).mp h))), b2_t (by rw [q_lt] at h1 h2; rw [q_le, q_le]; omega)]
      rfl
theorem c_wi (x a b : Int32) : fX11_within x a b = some (b2 (a ≤ x ∧ x ≤ b)) := by
  unfold fX11_within
  by_cases h1 : x < a
  · rw [if_pos h1, b2_f (by rw [q_lt] at h1; rw [q_le]; omega)]
    rfl
  · rw [if_neg h1]
    by_cases h2 : b < x
    · rw [if_pos h2, b2_f (by rw [q_lt] at h2; rw [q_le, q_le]; omega)]
      rfl
    · rw [if_neg h2, b2_t (by rw [q_lt] at h1 h2; rw [q_le, q_le]; omega)]
      rfl
/-- a number between -/
theorem bt_of {x : Int32} {n : Nat} (hn : n < 2 ^ 31) (h : nI 0 ≤ x ∧ x ≤ nI n) : ∃ j, j ≤ n ∧ x = nI j := by
  rw [q_le, q_le, nI_toInt (by decide), nI_toInt hn] at h
  exact ⟨x.toInt.toNat, by omega, Int32.toInt_inj.mp (by rw [nI_toInt (by omega)]; omega)⟩
theorem bt_sp {x : Int32} {n : Nat} (hn : n < 2 ^ 30) (h : nI 0 ≤ x ∧ x ≤ nI n - nI 1) : ∃ j, j < n ∧ x = nI j := by
  rw [q_le, q_le, nI_toInt (by decide), pk_sub_toInt hn (by decide)] at h
  exact ⟨x.toInt.toNat, by omega, Int32.toInt_inj.mp (by rw [nI_toInt (by omega)]; omega)⟩
theorem sp_iff {b n : Nat} (hb : b < 2 ^ 30) (hn : n < 2 ^ 30) : (nI 0 ≤ nI b ∧ nI b ≤ nI n - nI 1) ↔ b < n := by
  rw [q_le, q_le, nI_toInt (by decide), nI_toInt (by omega), pk_sub_toInt hn (by decide)]
  omega
theorem who_iff {b n : Nat} (hb : b < 2 ^ 30) (hn : n < 2 ^ 30) : (nI 0 ≤ nI b - nI 1 ∧ nI b - nI 1 ≤ nI n - nI 1) ↔ (1 ≤ b ∧ b ≤ n) := by
  rw [q_le, q_le, nI_toInt (by decide), pk_sub_toInt hn (by decide), pk_sub_toInt hb (by decide)]
  omega
theorem hld_nI {j m : Nat} (hj : j < 2 ^ 31) : hld (nI j) m = min m j := by
  unfold hld
  rw [nI_clamp hj]
theorem m_held (x : Int32) {m : Nat} (hm : m < 2 ^ 31) : fX12_held x (nI 0) (nI m) = some (nI (hld x m)) := by
  unfold fX12_held
  by_cases h : nI 0 ≤ x
  · rw [if_pos h]
    obtain ⟨j, hj, rfl⟩ := nI_of (x := x) (by rw [q_lt]; rw [q_le] at h; have e : (nI 0).toInt = (0 : Int32).toInt := rfl; omega)
    rw [hld_nI hj]
    by_cases h2 : j ≤ m
    · rw [if_pos ((nI_leI hj hm).mpr h2), Nat.min_eq_right h2]
    · rw [if_neg (fun h3 => h2 ((nI_leI hj hm).mp h3)), Nat.min_eq_left (by omega)]
  · rw [if_neg h]
    have : x.toNatClampNeg = 0 := by
      rw [q_le, nI_toInt (by decide)] at h
      show x.toInt.toNat = 0
      omega
    unfold hld
    rw [this]
    simp
theorem m_of {s k : Nat} (d : Nat → Int32) (hs : s < 8) (hk : k < 15) : fX12_of (nI s) (nI k) d = some (d (34 + 15 * s + k)) := by
  simp (disch := omega) only [fX12_of, if_true, if_false, nI_add, pk_mul, nI_clamp, nI_leI, nI_ltI, nI_eq, ckI_s, bd_s, bnd_s, if_pos, if_neg, o_0, o_1, o_2, o_3, o_4, o_5, o_6, o_7, o_8, o_9, o_10, o_11, o_12, o_13, o_14, o_15, o_16, o_17, o_18, o_19, o_20, o_21, o_22, o_23, o_24, o_25, o_26, o_27, o_28, o_29, o_30, o_31, o_32, o_33, o_34, o_35, o_36, o_37, o_38, o_39, o_40, o_41, o_42, o_43, o_44, o_45, o_46, o_47, o_48, o_49, o_50, o_51, o_52, o_53, o_54, o_55, o_56, o_57, o_58, o_59, o_60, o_62, o_70, o_71, o_99, o_124, o_154, o_156, o_176, o_255, o_276, o_326, o_4095, o_9999, o_10000, o_10001, o_20000, o_20033]
theorem m_sets {s k : Nat} (d : Nat → Int32) (v : Int32) (hs : s < 8) (hk : k < 15) : fX12_sets (nI s) (nI k) v d = some (upd d (34 + 15 * s + k) v) := by
  simp (disch := omega) only [fX12_sets, if_true, if_false, nI_add, pk_mul, nI_clamp, nI_leI, nI_ltI, nI_eq, ckI_s, bd_s, bnd_s, if_pos, if_neg, o_0, o_1, o_2, o_3, o_4, o_5, o_6, o_7, o_8, o_9, o_10, o_11, o_12, o_13, o_14, o_15, o_16, o_17, o_18, o_19, o_20, o_21, o_22, o_23, o_24, o_25, o_26, o_27, o_28, o_29, o_30, o_31, o_32, o_33, o_34, o_35, o_36, o_37, o_38, o_39, o_40, o_41, o_42, o_43, o_44, o_45, o_46, o_47, o_48, o_49, o_50, o_51, o_52, o_53, o_54, o_55, o_56, o_57, o_58, o_59, o_60, o_62, o_70, o_71, o_99, o_124, o_154, o_156, o_176, o_255, o_276, o_326, o_4095, o_9999, o_10000, o_10001, o_20000, o_20033]
theorem m_on {d : Nat → Int32} {s : Nat} {f : Nat → Nat} (hs : s < 8) (hf : ∀ w, f w ≤ 9) (hd : ∀ w, w < 12 → d (34 + 15 * s + (3 + w)) = nI (f w)) : fX12_on (nI s) d = some (nI (onN f)) := by
  unfold fX12_on fX12_on_4
  refine (bd_of (lpF _ (fun i => (nI (bitS (fun w => decide (1 ≤ f w)) i), nI i)) (nI (bitS (fun w => decide (1 ≤ f w)) 12), nI 12) 12 (fun i hi => ?_) ?_ (FU_lt (by decide)))).trans rfl
  · have h2 := hf i
    by_cases h3 : f i ≤ 0
    · simp (disch := omega) only [fX12_on_4B, fX12_on_29, m_of, hd, q_or, Nat.or_zero, if_true, if_false, nI_add, pk_mul, nI_clamp, nI_leI, nI_ltI, nI_eq, ckI_s, bd_s, bnd_s, if_pos, if_neg, o_0, o_1, o_2, o_3, o_4, o_5, o_6, o_7, o_8, o_9, o_10, o_11, o_12, o_13, o_14, o_15, o_16, o_17, o_18, o_19, o_20, o_21, o_22, o_23, o_24, o_25, o_26, o_27, o_28, o_29, o_30, o_31, o_32, o_33, o_34, o_35, o_36, o_37, o_38, o_39, o_40, o_41, o_42, o_43, o_44, o_45, o_46, o_47, o_48, o_49, o_50, o_51, o_52, o_53, o_54, o_55, o_56, o_57, o_58, o_59, o_60, o_62, o_70, o_71, o_99, o_124, o_154, o_156, o_176, o_255, o_276, o_326, o_4095, o_9999, o_10000, o_10001, o_20000, o_20033]
      rw [bitS_f (p := fun w => decide (1 ≤ f w)) (by simp; omega)]
    · simp (disch := omega) only [fX12_on_4B, fX12_on_29, m_of, hd, q_shl1, if_true, if_false, nI_add, pk_mul, nI_clamp, nI_leI, nI_ltI, nI_eq, ckI_s, bd_s, bnd_s, if_pos, if_neg, o_0, o_1, o_2, o_3, o_4, o_5, o_6, o_7, o_8, o_9, o_10, o_11, o_12, o_13, o_14, o_15, o_16, o_17, o_18, o_19, o_20, o_21, o_22, o_23, o_24, o_25, o_26, o_27, o_28, o_29, o_30, o_31, o_32, o_33, o_34, o_35, o_36, o_37, o_38, o_39, o_40, o_41, o_42, o_43, o_44, o_45, o_46, o_47, o_48, o_49, o_50, o_51, o_52, o_53, o_54, o_55, o_56, o_57, o_58, o_59, o_60, o_62, o_70, o_71, o_99, o_124, o_154, o_156, o_176, o_255, o_276, o_326, o_4095, o_9999, o_10000, o_10001, o_20000, o_20033]
      rw [bitS_t (p := fun w => decide (1 ≤ f w)) (by simp; omega)]
  · simp (disch := omega) only [fX12_on_4B, if_true, if_false, nI_add, pk_mul, nI_clamp, nI_leI, nI_ltI, nI_eq, ckI_s, bd_s, bnd_s, if_pos, if_neg, o_0, o_1, o_2, o_3, o_4, o_5, o_6, o_7, o_8, o_9, o_10, o_11, o_12, o_13, o_14, o_15, o_16, o_17, o_18, o_19, o_20, o_21, o_22, o_23, o_24, o_25, o_26, o_27, o_28, o_29, o_30, o_31, o_32, o_33, o_34, o_35, o_36, o_37, o_38, o_39, o_40, o_41, o_42, o_43, o_44, o_45, o_46, o_47, o_48, o_49, o_50, o_51, o_52, o_53, o_54, o_55, o_56, o_57, o_58, o_59, o_60, o_62, o_70, o_71, o_99, o_124, o_154, o_156, o_176, o_255, o_276, o_326, o_4095, o_9999, o_10000, o_10001, o_20000, o_20033]
theorem m_isSp {d : Nat → Int32} {n : Nat} (x : Int32) (h : d 0 = nI n) : fX12_isSpoon x d = some (b2 (nI 0 ≤ x ∧ x ≤ nI n - nI 1)) := by
  simp (disch := omega) only [fX12_isSpoon, h, m_in, l_0, l_1, l_2, l_3, l_5, l_7, l_8, l_9, l_11, l_12, l_16, l_20, l_30, l_40, l_60, l_69, l_99, l_4095, ck_s b2_z, if_true, if_false, nI_add, pk_mul, nI_clamp, nI_leI, nI_ltI, nI_eq, ckI_s, bd_s, bnd_s, if_pos, if_neg, o_0, o_1, o_2, o_3, o_4, o_5, o_6, o_7, o_8, o_9, o_10, o_11, o_12, o_13, o_14, o_15, o_16, o_17, o_18, o_19, o_20, o_21, o_22, o_23, o_24, o_25, o_26, o_27, o_28, o_29, o_30, o_31, o_32, o_33, o_34, o_35, o_36, o_37, o_38, o_39, o_40, o_41, o_42, o_43, o_44, o_45, o_46, o_47, o_48, o_49, o_50, o_51, o_52, o_53, o_54, o_55, o_56, o_57, o_58, o_59, o_60, o_62, o_70, o_71, o_99, o_124, o_154, o_156, o_176, o_255, o_276, o_326, o_4095, o_9999, o_10000, o_10001, o_20000, o_20033]
theorem m_thr {d : Nat → Int32} {s v : Nat} (hs : s < 8) (hv : v ≤ 99) (h : d (34 + 15 * s + 2) = nI v) : fX12_isThrough (nI s) d = some (b2 (v = 0)) := by
  simp (disch := omega) only [fX12_isThrough, m_of, h, b2, if_true, if_false, nI_add, pk_mul, nI_clamp, nI_leI, nI_ltI, nI_eq, ckI_s, bd_s, bnd_s, if_pos, if_neg, o_0, o_1, o_2, o_3, o_4, o_5, o_6, o_7, o_8, o_9, o_10, o_11, o_12, o_13, o_14, o_15, o_16, o_17, o_18, o_19, o_20, o_21, o_22, o_23, o_24, o_25, o_26, o_27, o_28, o_29, o_30, o_31, o_32, o_33, o_34, o_35, o_36, o_37, o_38, o_39, o_40, o_41, o_42, o_43, o_44, o_45, o_46, o_47, o_48, o_49, o_50, o_51, o_52, o_53, o_54, o_55, o_56, o_57, o_58, o_59, o_60, o_62, o_70, o_71, o_99, o_124, o_154, o_156, o_176, o_255, o_276, o_326, o_4095, o_9999, o_10000, o_10001, o_20000, o_20033]
  split <;> rfl
section MH
variable {d : Nat → Int32} {A : AS} {E : EVt}
theorem m_stays {s w : Nat} (hW : Wf A) (hR : RM d A) (hs : s < 8) (hw : w < 12) : fX12_stays (nI s) (nI w) d = some (nI (staN (aC A s) (aM A s) (aW A w) (aV A s))) := by
  obtain ⟨r0, r1, r2, rW, rB, rD, rS, rC, rM, rV, rF⟩ := hR
  obtain ⟨fN, fH, fK, fW, fB, fD, fS, fC, fM, fV, fF⟩ := hW
  have h1 := fC s
  have h2 := fM s
  have h3 := fW w
  have h4 := fV s
  simp (disch := omega) only [fX12_stays, m_of, rC, rM, rV, rW, pk_div, if_true, if_false, nI_add, pk_mul, nI_clamp, nI_leI, nI_ltI, nI_eq, ckI_s, bd_s, bnd_s, if_pos, if_neg, o_0, o_1, o_2, o_3, o_4, o_5, o_6, o_7, o_8, o_9, o_10, o_11, o_12, o_13, o_14, o_15, o_16, o_17, o_18, o_19, o_20, o_21, o_22, o_23, o_24, o_25, o_26, o_27, o_28, o_29, o_30, o_31, o_32, o_33, o_34, o_35, o_36, o_37, o_38, o_39, o_40, o_41, o_42, o_43, o_44, o_45, o_46, o_47, o_48, o_49, o_50, o_51, o_52, o_53, o_54, o_55, o_56, o_57, o_58, o_59, o_60, o_62, o_70, o_71, o_99, o_124, o_154, o_156, o_176, o_255, o_276, o_326, o_4095, o_9999, o_10000, o_10001, o_20000, o_20033]
  unfold staN
  rcases (show aC A s = 0 ∨ aC A s = 1 ∨ aC A s = 2 ∨ aC A s = 3 ∨ aC A s = 4 ∨ aC A s = 5 ∨ aC A s = 6 by omega) with e | e | e | e | e | e | e <;> rw [e] <;> (try rfl)
  by_cases h5 : aV A s < 10
  · simp (disch := omega) only [if_true, if_false, if_pos, if_neg]
  · simp (disch := omega) only [if_true, if_false, if_pos, if_neg]
theorem m_reads {s : Nat} (hW : Wf A) (hR : RM d A) (hs : s < 8) : fX12_reads0 (nI s) d = some (nI (rdsN (aC A s) (aM A s))) := by
  obtain ⟨r0, r1, r2, rW, rB, rD, rS, rC, rM, rV, rF⟩ := hR
  obtain ⟨fN, fH, fK, fW, fB, fD, fS, fC, fM, fV, fF⟩ := hW
  have h1 := fC s
  have h2 := fM s
  simp (disch := omega) only [fX12_reads0, m_of, rC, rM, if_true, if_false, nI_add, pk_mul, nI_clamp, nI_leI, nI_ltI, nI_eq, ckI_s, bd_s, bnd_s, if_pos, if_neg, o_0, o_1, o_2, o_3, o_4, o_5, o_6, o_7, o_8, o_9, o_10, o_11, o_12, o_13, o_14, o_15, o_16, o_17, o_18, o_19, o_20, o_21, o_22, o_23, o_24, o_25, o_26, o_27, o_28, o_29, o_30, o_31, o_32, o_33, o_34, o_35, o_36, o_37, o_38, o_39, o_40, o_41, o_42, o_43, o_44, o_45, o_46, o_47, o_48, o_49, o_50, o_51, o_52, o_53, o_54, o_55, o_56, o_57, o_58, o_59, o_60, o_62, o_70, o_71, o_99, o_124, o_154, o_156, o_176, o_255, o_276, o_326, o_4095, o_9999, o_10000, o_10001, o_20000, o_20033]
  unfold rdsN
  rcases (show aC A s = 0 ∨ aC A s = 1 ∨ aC A s = 2 ∨ aC A s = 3 ∨ aC A s = 4 ∨ aC A s = 5 ∨ aC A s = 6 by omega) with e | e | e | e | e | e | e <;> rw [e] <;> (try rfl)
  by_cases h5 : 4 < aM A s
  · simp (disch := omega) only [if_true, if_false, if_pos, if_neg]
  · simp (disch := omega) only [if_true, if_false, if_pos, if_neg]
theorem m_wears {s : Nat} (hW : Wf A) (hR : RM d A) (hs : s < 8) : fX12_wears (nI s) d = some (nI (wrsN (aC A s) (pc (onN (aF A s))))) := by
  obtain ⟨r0, r1, r2, rW, rB, rD, rS, rC, rM, rV, rF⟩ := hR
  obtain ⟨fN, fH, fK, fW, fB, fD, fS, fC, fM, fV, fF⟩ := hW
  have h1 := fC s
  have h2 := pc_le (onN (aF A s))
  simp (disch := omega) only [fX12_wears, m_of, rC, m_on hs (fF s) (rF s hs), m_ones (onN_lt _), if_true, if_false, nI_add, pk_mul, nI_clamp, nI_leI, nI_ltI, nI_eq, ckI_s, bd_s, bnd_s, if_pos, if_neg, o_0, o_1, o_2, o_3, o_4, o_5, o_6, o_7, o_8, o_9, o_10, o_11, o_12, o_13, o_14, o_15, o_16, o_17, o_18, o_19, o_20, o_21, o_22, o_23, o_24, o_25, o_26, o_27, o_28, o_29, o_30, o_31, o_32, o_33, o_34, o_35, o_36, o_37, o_38, o_39, o_40, o_41, o_42, o_43, o_44, o_45, o_46, o_47, o_48, o_49, o_50, o_51, o_52, o_53, o_54, o_55, o_56, o_57, o_58, o_59, o_60, o_62, o_70, o_71, o_99, o_124, o_154, o_156, o_176, o_255, o_276, o_326, o_4095, o_9999, o_10000, o_10001, o_20000, o_20033]
  unfold wrsN
  rcases (show aC A s = 0 ∨ aC A s = 1 ∨ aC A s = 2 ∨ aC A s = 3 ∨ aC A s = 4 ∨ aC A s = 5 ∨ aC A s = 6 by omega) with e | e | e | e | e | e | e <;> rw [e] <;> (try rfl)
  by_cases h5 : pc (onN (aF A s)) = 0
  · simp (disch := omega) only [if_true, if_false, if_pos, if_neg]
  · simp (disch := omega) only [if_true, if_false, if_pos, if_neg]
/-- what the texts give -/
def TG (d : Nat → Int32) (E : EVt) : Prop := ∀ use, use < 2 → ∀ (a b c : Int32) (nm pl : Nat → Int32), ∃ n' p' : Nat → Int32, fX12_textGives (nI use) a b c d nm pl = some (nI (hld (E use a b c) (limU use)), n', p')
theorem m_rubs {s : Nat} (hW : Wf A) (hR : RM d A) (hT : TG d E) (hs : s < 8) (nm pl : Nat → Int32) : ∃ n' p', fX12_rubs (nI s) d nm pl = some (nI (rubN E A s), n', p') := by
  have h1 := m_wears hW hR hs
  obtain ⟨r0, r1, r2, rW, rB, rD, rS, rC, rM, rV, rF⟩ := hR
  obtain ⟨fN, fH, fK, fW, fB, fD, fS, fC, fM, fV, fF⟩ := hW
  obtain ⟨n', p', h2⟩ := hT 1 (by decide) (nI (wrsN (aC A s) (pc (onN (aF A s))))) (nI (aV A s)) (nI (pc (onN (aF A s)))) nm pl
  refine ⟨n', p', ?_⟩
  simp (disch := omega) only [fX12_rubs, h1, m_of, rV, m_on hs (fF s) (rF s hs), m_ones (onN_lt _), h2, if_true, if_false, nI_add, pk_mul, nI_clamp, nI_leI, nI_ltI, nI_eq, ckI_s, bd_s, bnd_s, if_pos, if_neg, o_0, o_1, o_2, o_3, o_4, o_5, o_6, o_7, o_8, o_9, o_10, o_11, o_12, o_13, o_14, o_15, o_16, o_17, o_18, o_19, o_20, o_21, o_22, o_23, o_24, o_25, o_26, o_27, o_28, o_29, o_30, o_31, o_32, o_33, o_34, o_35, o_36, o_37, o_38, o_39, o_40, o_41, o_42, o_43, o_44, o_45, o_46, o_47, o_48, o_49, o_50, o_51, o_52, o_53, o_54, o_55, o_56, o_57, o_58, o_59, o_60, o_62, o_70, o_71, o_99, o_124, o_154, o_156, o_176, o_255, o_276, o_326, o_4095, o_9999, o_10000, o_10001, o_20000, o_20033]
  rfl
theorem m_swallows {s w : Nat} (hW : Wf A) (hR : RM d A) (hT : TG d E) (hs : s < 8) (hw : w < 12) (nm pl : Nat → Int32) : ∃ n' p', fX12_swallows (nI s) (nI w) d nm pl = some (upd d (34 + 15 * s + (3 + w)) (nI (max (swaV E A s w) (aF A s w))), n', p') := by
  have h1 := m_stays hW hR hs hw
  obtain ⟨r0, r1, r2, rW, rB, rD, rS, rC, rM, rV, rF⟩ := hR
  obtain ⟨fN, fH, fK, fW, fB, fD, fS, fC, fM, fV, fF⟩ := hW
  obtain ⟨n', p', h2⟩ := hT 0 (by decide) (nI (staN (aC A s) (aM A s) (aW A w) (aV A s))) (nI (aW A w)) (nI (aV A s)) nm pl
  refine ⟨n', p', ?_⟩
  have h3 : hld (E 0 (nI (staN (aC A s) (aM A s) (aW A w) (aV A s))) (nI (aW A w)) (nI (aV A s))) (limU 0) = swaV E A s w := rfl
  have h4 : swaV E A s w ≤ 9 := hld_le _ _
  have h5 := fF s w
  rw [h3] at h2
  by_cases h6 : swaV E A s w ≤ aF A s w
  · rw [Nat.max_eq_right h6]
    simp (disch := omega) only [fX12_swallows, h1, m_of, m_sets, rV, rW, rF, h2, if_true, if_false, nI_add, pk_mul, nI_clamp, nI_leI, nI_ltI, nI_eq, ckI_s, bd_s, bnd_s, if_pos, if_neg, o_0, o_1, o_2, o_3, o_4, o_5, o_6, o_7, o_8, o_9, o_10, o_11, o_12, o_13, o_14, o_15, o_16, o_17, o_18, o_19, o_20, o_21, o_22, o_23, o_24, o_25, o_26, o_27, o_28, o_29, o_30, o_31, o_32, o_33, o_34, o_35, o_36, o_37, o_38, o_39, o_40, o_41, o_42, o_43, o_44, o_45, o_46, o_47, o_48, o_49, o_50, o_51, o_52, o_53, o_54, o_55, o_56, o_57, o_58, o_59, o_60, o_62, o_70, o_71, o_99, o_124, o_154, o_156, o_176, o_255, o_276, o_326, o_4095, o_9999, o_10000, o_10001, o_20000, o_20033]
  · rw [Nat.max_eq_left (by omega)]
    simp (disch := omega) only [fX12_swallows, h1, m_of, m_sets, rV, rW, rF, h2, if_true, if_false, nI_add, pk_mul, nI_clamp, nI_leI, nI_ltI, nI_eq, ckI_s, bd_s, bnd_s, if_pos, if_neg, o_0, o_1, o_2, o_3, o_4, o_5, o_6, o_7, o_8, o_9, o_10, o_11, o_12, o_13, o_14, o_15, o_16, o_17, o_18, o_19, o_20, o_21, o_22, o_23, o_24, o_25, o_26, o_27, o_28, o_29, o_30, o_31, o_32, o_33, o_34, o_35, o_36, o_37, o_38, o_39, o_40, o_41, o_42, o_43, o_44, o_45, o_46, o_47, o_48, o_49, o_50, o_51, o_52, o_53, o_54, o_55, o_56, o_57, o_58, o_59, o_60, o_62, o_70, o_71, o_99, o_124, o_154, o_156, o_176, o_255, o_276, o_326, o_4095, o_9999, o_10000, o_10001, o_20000, o_20033]
end MH
