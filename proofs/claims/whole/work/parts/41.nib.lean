/-! rows of twelve nibbles; counting members of a set of words -/
def pkn (f : Nat → Nat) : Nat → Nat
  | 0 => 0
  | n + 1 => pkn f n + f n * 16 ^ n
theorem pkn_lt {f : Nat → Nat} (hf : ∀ w, f w ≤ 15) : ∀ n, pkn f n < 16 ^ n
  | 0 => Nat.lt_of_lt_of_le (show 0 < 1 by decide) (Nat.le_refl _)
  | n + 1 => by
    show pkn f n + f n * 16 ^ n < _
    have h1 := pkn_lt hf n
    have h2 : f n * 16 ^ n ≤ 15 * 16 ^ n := Nat.mul_le_mul_right _ (hf n)
    rw [Nat.pow_succ]
    omega
theorem pkn_cong {f g : Nat → Nat} : ∀ {n : Nat}, (∀ k, k < n → f k = g k) → pkn f n = pkn g n
  | 0, _ => rfl
  | n + 1, h => by
    show pkn f n + _ = pkn g n + _
    rw [pkn_cong (n := n) fun k hk => h k (by omega), h n (by omega)]
theorem pow16 (n : Nat) : 16 ^ n = 2 ^ (4 * n) := by rw [Nat.pow_mul]
theorem pkn_tb {f : Nat → Nat} (hf : ∀ w, f w ≤ 15) (i : Nat) : ∀ n, (pkn f n).testBit i = (decide (i < 4 * n) && (f (i / 4)).testBit (i % 4))
  | 0 => by simp [pkn]
  | n + 1 => by
    show (pkn f n + f n * 16 ^ n).testBit i = _
    have h1 := pkn_lt hf n
    rw [pow16] at h1 ⊢
    rw [Nat.add_comm, Nat.mul_comm, Nat.testBit_two_pow_mul_add _ h1]
    by_cases hi : i < 4 * n
    · rw [if_pos hi, pkn_tb hf i n]
      simp only [hi, decide_true, Bool.true_and, show i < 4 * (n + 1) by omega]
    · rw [if_neg hi]
      by_cases h2 : i < 4 * (n + 1)
      · have e1 : i / 4 = n := by omega
        have e2 : i - 4 * n = i % 4 := by omega
        rw [e1, e2]
        simp only [h2, decide_true, Bool.true_and]
      · have : (f n).testBit (i - 4 * n) = false := by
          apply Nat.testBit_lt_two_pow
          have h3 := hf n
          have h4 : 2 ^ 4 ≤ 2 ^ (i - 4 * n) := Nat.pow_le_pow_right (by decide) (by omega)
          omega
        rw [this]
        simp only [h2, decide_false, Bool.false_and]
def pk12 (f : Nat → Nat) : Nat := pkn f 12
theorem pk12_lt {f : Nat → Nat} (hf : ∀ w, f w ≤ 15) : pk12 f < 2 ^ 48 := pkn_lt hf 12
theorem pk12_tb {f : Nat → Nat} (hf : ∀ w, f w ≤ 15) (i : Nat) : (pk12 f).testBit i = (decide (i < 48) && (f (i / 4)).testBit (i % 4)) := pkn_tb hf i 12
theorem nib_get {f : Nat → Nat} (hf : ∀ w, f w ≤ 15) {w : Nat} (hw : w < 12) : pk12 f / 2 ^ (4 * w) % 16 = f w := by
  apply Nat.eq_of_testBit_eq
  intro i
  rw [show (16 : Nat) = 2 ^ 4 from rfl, Nat.testBit_mod_two_pow, Nat.testBit_div_two_pow, pk12_tb hf]
  by_cases hi : i < 4
  · rw [show (i + 4 * w) / 4 = w by omega, show (i + 4 * w) % 4 = i by omega]
    simp only [hi, decide_true, Bool.true_and, show i + 4 * w < 48 by omega]
  · have : (f w).testBit i = false := by
      apply Nat.testBit_lt_two_pow
      have h3 := hf w
      have h4 : 2 ^ 4 ≤ 2 ^ i := Nat.pow_le_pow_right (by decide) (by omega)
      omega
    rw [this]
    simp only [hi, decide_false, Bool.false_and]
/-- one entry exchanged -/
def upN (f : Nat → Nat) (i v : Nat) : Nat → Nat := fun k => if k = i then v else f k
theorem upN_s {f : Nat → Nat} {i v : Nat} : upN f i v i = v := if_pos rfl
theorem upN_n {f : Nat → Nat} {i v k : Nat} (h : k ≠ i) : upN f i v k = f k := if_neg h
def upF (f : Nat → Nat → Nat) (i : Nat) (g : Nat → Nat) : Nat → Nat → Nat := fun k => if k = i then g else f k
theorem upF_s {f : Nat → Nat → Nat} {i : Nat} {g : Nat → Nat} : upF f i g i = g := if_pos rfl
theorem upF_n {f : Nat → Nat → Nat} {i : Nat} {g : Nat → Nat} {k : Nat} (h : k ≠ i) : upF f i g k = f k := if_neg h
theorem tb15 {w i : Nat} : (15 * 2 ^ (4 * w)).testBit i = (decide (4 * w ≤ i) && decide (i < 4 * w + 4)) := by
  rw [Nat.mul_comm, Nat.testBit_two_pow_mul]
  by_cases h : 4 * w ≤ i
  · rw [show (15 : Nat) = 2 ^ 4 - 1 from rfl, Nat.testBit_two_pow_sub_one]
    simp only [h, decide_true, Bool.true_and, decide_eq_decide]
    omega
  · simp [h]
theorem nib_set {f : Nat → Nat} (hf : ∀ w, f w ≤ 15) {w v : Nat} (hw : w < 12) (hv : v ≤ 15) : ((pk12 f &&& ((15 * 2 ^ (4 * w)) ^^^ (2 ^ 64 - 1))) ||| (v * 2 ^ (4 * w))) = pk12 (upN f w v) := by
  have hg : ∀ k, upN f w v k ≤ 15 := fun k => by
    unfold upN
    split
    · exact hv
    · exact hf k
  apply Nat.eq_of_testBit_eq
  intro i
  rw [Nat.testBit_or, Nat.testBit_and, Nat.testBit_xor, tb15, Nat.testBit_two_pow_sub_one, pk12_tb hf, pk12_tb hg, Nat.mul_comm v, Nat.testBit_two_pow_mul]
  by_cases h1 : i < 48
  · by_cases h2 : i / 4 = w
    · rw [h2, upN_s]
      have e2 : i - 4 * w = i % 4 := by omega
      rw [e2]
      simp [h1, show 4 * w ≤ i by omega, show i < 4 * w + 4 by omega, show i < 64 by omega]
    · rw [upN_n h2]
      by_cases h3 : 4 * w ≤ i
      · have h4 : ¬ i < 4 * w + 4 := by omega
        have : v.testBit (i - 4 * w) = false := by
          apply Nat.testBit_lt_two_pow
          have h5 : 2 ^ 4 ≤ 2 ^ (i - 4 * w) := Nat.pow_le_pow_right (by decide) (by omega)
          omega
        simp [h1, h3, h4, this, show i < 64 by omega]
      · simp [h1, h3, show i < 64 by omega]
  · by_cases h3 : 4 * w ≤ i
    · have : v.testBit (i - 4 * w) = false := by
        apply Nat.testBit_lt_two_pow
        have h5 : 2 ^ 4 ≤ 2 ^ (i - 4 * w) := Nat.pow_le_pow_right (by decide) (by omega)
        omega
      simp [h1, this]
    · omega
theorem tbM7 : ∀ i, i < 64 → (131354989131639 : Nat).testBit i = (decide (i < 48) && decide (i % 4 ≠ 3)) := by decide +kernel
theorem tbM1 : ∀ i, i < 64 → (18764998447377 : Nat).testBit i = (decide (i < 48) && decide (i % 4 = 0)) := by decide +kernel
theorem tb_hi {n i : Nat} (h : n < 2 ^ 48) (hi : ¬ i < 48) : n.testBit i = false := Nat.testBit_lt_two_pow (Nat.lt_of_lt_of_le h (Nat.pow_le_pow_right (by decide) (by omega)))
theorem half_tb {n i : Nat} : (n / 2).testBit i = n.testBit (i + 1) := by rw [← Nat.testBit_succ]
theorem nib_half {f : Nat → Nat} (hf : ∀ w, f w ≤ 15) : (pk12 f / 2 ^ 1) &&& 131354989131639 = pk12 (fun w => f w / 2) := by
  have hg : ∀ k, f k / 2 ≤ 15 := fun k => by have := hf k; omega
  apply Nat.eq_of_testBit_eq
  intro i
  by_cases hi : i < 48
  · rw [Nat.testBit_and, tbM7 i (by omega), Nat.testBit_div_two_pow, pk12_tb hf, pk12_tb hg, half_tb]
    by_cases h3 : i % 4 = 3
    · have : (f (i / 4)).testBit (i % 4 + 1) = false := by
        rw [h3]
        apply Nat.testBit_lt_two_pow
        have := hf (i / 4)
        omega
      simp [hi, h3]
      rw [h3] at this
      exact this
    · rw [show (i + 1) / 4 = i / 4 by omega, show (i + 1) % 4 = i % 4 + 1 by omega]
      by_cases h4 : i + 1 < 48
      · simp [hi, h3, h4]
      · omega
  · rw [Nat.testBit_and, tb_hi (n := 131354989131639) (by decide) hi, tb_hi (pk12_lt hg) hi, Bool.and_false]
/-- which of the nibbles are there -/
def any1 (f : Nat → Nat) : Nat → Nat := fun w => if f w = 0 then 0 else 1
theorem any_tb {x : Nat} (hx : x ≤ 15) : (x.testBit 0 || x.testBit 1 || (x.testBit 2 || x.testBit 3)) = decide (x ≠ 0) := by
  have h : ∀ y, y < 16 → (y.testBit 0 || y.testBit 1 || (y.testBit 2 || y.testBit 3)) = decide (y ≠ 0) := by decide
  exact h x (by omega)
theorem nib_any {f : Nat → Nat} (hf : ∀ w, f w ≤ 15) : ((pk12 f ||| pk12 f / 2 ^ 1) ||| ((pk12 f ||| pk12 f / 2 ^ 1) / 2 ^ 2)) &&& 18764998447377 = pk12 (any1 f) := by
  have hg : ∀ k, any1 f k ≤ 15 := fun k => by unfold any1; split <;> decide
  apply Nat.eq_of_testBit_eq
  intro i
  by_cases hi : i < 48
  · rw [Nat.testBit_and, tbM1 i (by omega), pk12_tb hg]
    by_cases h3 : i % 4 = 0
    · rw [Nat.testBit_or, Nat.testBit_div_two_pow, Nat.testBit_or, Nat.testBit_or, Nat.testBit_div_two_pow, Nat.testBit_div_two_pow, pk12_tb hf, pk12_tb hf, pk12_tb hf, pk12_tb hf]
      rw [show (i + 1) / 4 = i / 4 by omega, show (i + 2) / 4 = i / 4 by omega, show (i + 2 + 1) / 4 = i / 4 by omega, show (i + 1) % 4 = 1 by omega, show (i + 2) % 4 = 2 by omega, show (i + 2 + 1) % 4 = 3 by omega, h3]
      have h4 := any_tb (hf (i / 4))
      simp only [hi, show i + 1 < 48 by omega, show i + 2 < 48 by omega, show i + 2 + 1 < 48 by omega, decide_true, Bool.true_and, Bool.and_true]
      rw [h4]
      unfold any1
      by_cases h5 : f (i / 4) = 0
      · rw [h5]; decide
      · rw [if_neg h5]; simp [h5]
    · have : (any1 f (i / 4)).testBit (i % 4) = false := by
        unfold any1
        split
        · simp
        · apply Nat.testBit_lt_two_pow
          have : 2 ^ 1 ≤ 2 ^ (i % 4) := Nat.pow_le_pow_right (by decide) (by omega)
          omega
      simp [h3, this]
  · rw [Nat.testBit_and, tb_hi (n := 18764998447377) (by decide) hi, tb_hi (pk12_lt hg) hi, Bool.and_false]
theorem pkn_sub {f : Nat → Nat} : ∀ n, pkn f n = pkn (any1 f) n + pkn (fun w => f w - 1) n
  | 0 => rfl
  | n + 1 => by
    show pkn f n + f n * 16 ^ n = (pkn (any1 f) n + any1 f n * 16 ^ n) + (pkn (fun w => f w - 1) n + (f n - 1) * 16 ^ n)
    have h : f n = any1 f n + (f n - 1) := by unfold any1; split <;> omega
    have h2 : f n * 16 ^ n = any1 f n * 16 ^ n + (f n - 1) * 16 ^ n := by rw [← Nat.add_mul, ← h]
    rw [pkn_sub n, h2]
    omega
-- Int64
theorem L_shr {n k : Nat} (hn : n < 2 ^ 62) (hk : k < 64) : lushrJ (lN n) (nI k) = lN (n / 2 ^ k) := wb_shr (by omega) hk
theorem L_shl (n : Nat) {k : Nat} (hk : k < 64) : lshlJ (lN n) (nI k) = lN (n * 2 ^ k) := wb_shl n hk
theorem L_i (n : Nat) : (lN n).toInt32 &&& nI 15 = nI (n % 16) := by
  rw [lN_i, q_and, show (15 : Nat) = 2 ^ 4 - 1 from rfl, Nat.and_two_pow_sub_one_eq_mod]
theorem c_fI {f : Nat → Nat} (hf : ∀ w, f w ≤ 9) {w : Nat} (hw : w < 12) : fX3_freshIn (lN (pk12 f)) (nI w) = some (nI (f w)) := by
  have h15 : ∀ w, f w ≤ 15 := fun w => Nat.le_trans (hf w) (by decide)
  have h1 := pk12_lt h15
  unfold fX3_freshIn
  rw [o_4, o_15, pk_mul, L_shr (by omega) (by omega), L_i, nib_get h15 hw]
theorem c_wF {f : Nat → Nat} (hf : ∀ w, f w ≤ 9) {w v : Nat} (hw : w < 12) (hv : v ≤ 9) : fX3_withFresh (lN (pk12 f)) (nI w) (nI v) = some (lN (pk12 (upN f w v))) := by
  have h15 : ∀ w, f w ≤ 15 := fun w => Nat.le_trans (hf w) (by decide)
  unfold fX3_withFresh
  rw [o_4, pk_mul, show (15 : Int64) = lN 15 from rfl, show (-1 : Int64) = lN (2 ^ 64 - 1) from rfl, nI_l (by omega), L_shl _ (by omega), L_shl _ (by omega), fb_xorL, fb_andL, fb_orL, nib_set h15 hw (by omega)]
theorem c_hv {f : Nat → Nat} (hf : ∀ w, f w ≤ 9) : fX3_halved (lN (pk12 f)) = some (lN (pk12 (fun w => f w / 2))) := by
  have h15 : ∀ w, f w ≤ 15 := fun w => Nat.le_trans (hf w) (by decide)
  have h1 := pk12_lt h15
  unfold fX3_halved
  rw [o_1, L_shr (by omega) (by omega), show (131354989131639 : Int64) = lN 131354989131639 from rfl, fb_andL, nib_half h15]
theorem c_ag {f : Nat → Nat} (hf : ∀ w, f w ≤ 9) : fX3_aged (lN (pk12 f)) = some (lN (pk12 (fun w => f w - 1))) := by
  have h15 : ∀ w, f w ≤ 15 := fun w => Nat.le_trans (hf w) (by decide)
  have h1 := pk12_lt h15
  have h2 : pk12 f / 2 ^ 1 < 2 ^ 48 := by omega
  have h3 : pk12 f ||| pk12 f / 2 ^ 1 < 2 ^ 48 := Nat.or_lt_two_pow h1 h2
  have h4 := pkn_sub (f := f) 12
  unfold fX3_aged
  rw [bnd_s, bnd_s, o_1, o_2, L_shr (by omega) (by omega), fb_orL, L_shr (by omega) (by omega), fb_orL, show (18764998447377 : Int64) = lN 18764998447377 from rfl, fb_andL, nib_any h15, lN_sub (by unfold pk12; omega)]
  unfold pk12
  rw [h4, Nat.add_sub_cancel_left]
theorem c_fAL {f : Nat → Nat} (hf : ∀ w, f w ≤ 9) {k : Nat} (h0 : 0 < k) (hk : k ≤ 9) : fX3_freshAtLeast (lN (pk12 f)) (nI k) = some (nI (bitS (fun w => decide (k ≤ f w)) 12)) := by
  have h15 : ∀ w, f w ≤ 15 := fun w => Nat.le_trans (hf w) (by decide)
  have h1 := pk12_lt h15
  have hcmp : lg_cmp (lN (pk12 f)) 0 = 0 ↔ pk12 f = 0 := by
    show (if lN 0 < lN (pk12 f) then (1 : Int32) else if lN (pk12 f) = lN 0 then 0 else -1) = 0 ↔ _
    have e1 : lN 0 < lN (pk12 f) ↔ 0 < pk12 f := pk_lLT (by omega) (by omega)
    have e2 : lN (pk12 f) = lN 0 ↔ pk12 f = 0 := pk_lEQ (by omega) (by omega)
    simp only [e1, e2]
    by_cases h : pk12 f = 0
    · simp [h]
    · simp [h, Nat.pos_of_ne_zero h]
  unfold fX3_freshAtLeast
  by_cases h : pk12 f = 0
  · rw [if_pos (hcmp.mpr h)]
    have e : bitS (fun w => decide (k ≤ f w)) 12 = bitS (fun _ => false) 12 := bitS_cong fun w hw => by
      have h2 := nib_get h15 hw
      rw [h] at h2
      have h3 : f w = 0 := by rw [← h2]; simp
      simp [h3]
      omega
    rw [e]
    rfl
  · rw [if_neg (fun h2 => h (hcmp.mp h2))]
    unfold fX3_freshAtLeast_11
    refine (bd_of (lpF _ (fun i => (nI (bitS (fun w => decide (k ≤ f w)) i), nI i)) (nI (bitS (fun w => decide (k ≤ f w)) 12), nI 12) 12 (fun i hi => ?_) ?_ (FU_lt (by decide)))).trans rfl
    · have h2 := hf i
      by_cases h3 : k ≤ f i
      · simp (disch := omega) only [fX3_freshAtLeast_11B, fX3_freshAtLeast_35, c_fI hf, q_shl1, nI_add, pk_mul, nI_clamp, nI_leI, nI_ltI, nI_eq, ckI_s, bd_s, bnd_s, if_pos, if_neg, o_0, o_1, o_2, o_3, o_4, o_5, o_6, o_7, o_8, o_9, o_10, o_11, o_12, o_13, o_14, o_15, o_16, o_17, o_18, o_19, o_20, o_21, o_22, o_23, o_24, o_25, o_26, o_27, o_28, o_29, o_30, o_31, o_32, o_33, o_34, o_35, o_36, o_37, o_38, o_39, o_40, o_41, o_42, o_43, o_44, o_45, o_46, o_47, o_48, o_49, o_50, o_51, o_52, o_53, o_54, o_55, o_56, o_57, o_58, o_59, o_60, o_62, o_70, o_71, o_99, o_124, o_154, o_156, o_176, o_255, o_276, o_326, o_4095, o_9999, o_10000, o_10001, o_20000, o_20033]
        rw [bitS_t (p := fun w => decide (k ≤ f w)) (by simp [h3])]
      · simp (disch := omega) only [fX3_freshAtLeast_11B, fX3_freshAtLeast_35, c_fI hf, q_shl1, nI_add, pk_mul, nI_clamp, nI_leI, nI_ltI, nI_eq, ckI_s, bd_s, bnd_s, if_pos, if_neg, o_0, o_1, o_2, o_3, o_4, o_5, o_6, o_7, o_8, o_9, o_10, o_11, o_12, o_13, o_14, o_15, o_16, o_17, o_18, o_19, o_20, o_21, o_22, o_23, o_24, o_25, o_26, o_27, o_28, o_29, o_30, o_31, o_32, o_33, o_34, o_35, o_36, o_37, o_38, o_39, o_40, o_41, o_42, o_43, o_44, o_45, o_46, o_47, o_48, o_49, o_50, o_51, o_52, o_53, o_54, o_55, o_56, o_57, o_58, o_59, o_60, o_62, o_70, o_71, o_99, o_124, o_154, o_156, o_176, o_255, o_276, o_326, o_4095, o_9999, o_10000, o_10001, o_20000, o_20033]
        rw [bitS_f (p := fun w => decide (k ≤ f w)) (by simp; omega)]
    · simp (disch := omega) only [fX3_freshAtLeast_11B, nI_add, pk_mul, nI_clamp, nI_leI, nI_ltI, nI_eq, ckI_s, bd_s, bnd_s, if_pos, if_neg, o_0, o_1, o_2, o_3, o_4, o_5, o_6, o_7, o_8, o_9, o_10, o_11, o_12, o_13, o_14, o_15, o_16, o_17, o_18, o_19, o_20, o_21, o_22, o_23, o_24, o_25, o_26, o_27, o_28, o_29, o_30, o_31, o_32, o_33, o_34, o_35, o_36, o_37, o_38, o_39, o_40, o_41, o_42, o_43, o_44, o_45, o_46, o_47, o_48, o_49, o_50, o_51, o_52, o_53, o_54, o_55, o_56, o_57, o_58, o_59, o_60, o_62, o_70, o_71, o_99, o_124, o_154, o_156, o_176, o_255, o_276, o_326, o_4095, o_9999, o_10000, o_10001, o_20000, o_20033]
/-- how many of twelve -/
def pc (n : Nat) : Nat := n % 2 + n / 2 % 2 + n / 4 % 2 + n / 8 % 2 + n / 16 % 2 + n / 32 % 2 + n / 64 % 2 + n / 128 % 2 + n / 256 % 2 + n / 512 % 2 + n / 1024 % 2 + n / 2048 % 2
theorem pc_le (n : Nat) : pc n ≤ 12 := by unfold pc; omega
theorem c_bc0 : ∀ i, i < 64 → ∀ j, j < 64 → fJ6_bitCount_0f7a4 (nI (64 * i + j)) = some (nI (pc (64 * i + j))) := by decide +kernel
theorem c_bc {n : Nat} (h : n < 4096) : fJ6_bitCount_0f7a4 (nI n) = some (nI (pc n)) := by
  have := c_bc0 (n / 64) (by omega) (n % 64) (by omega)
  rw [show 64 * (n / 64) + n % 64 = n by omega] at this
  exact this
theorem m_ones0 : ∀ i, i < 64 → ∀ j, j < 64 → fX12_ones (nI (64 * i + j)) = some (nI (pc (64 * i + j))) := by decide +kernel
theorem m_ones {n : Nat} (h : n < 4096) : fX12_ones (nI n) = some (nI (pc n)) := by
  have := m_ones0 (n / 64) (by omega) (n % 64) (by omega)
  rw [show 64 * (n / 64) + n % 64 = n by omega] at this
  exact this
