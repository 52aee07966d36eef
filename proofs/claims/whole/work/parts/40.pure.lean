/-! pure rows: how a printed function runs -/
theorem bd_s {α β : Type} (a : α) (k : α → Option β) : bd (some a) k = k a := rfl
theorem bnd_s {α β : Type} (e : α) (k : α → β) : bnd e k = k e := rfl
theorem ck_s {β : Type} {c : Prop} [Decidable c] {k : Option β} (h : c) : ck c k = k := if_pos h
theorem inB_nI {j n : Nat} (h : j < n) (hj : j < 2 ^ 31) : inB (nI j) n = true := inB_iff.mpr (by rw [nI_toInt hj]; omega)
theorem ckI_s {β : Type} {j n : Nat} {k : Option β} (h : j < n) (hj : j < 2 ^ 31) : ckI (nI j) n k = k := if_pos (inB_nI h hj)
theorem onO_none {β : Type} (n : Option β) (k : Nat → Option β) : onO none n k = n := rfl
theorem onO_some {β : Type} (a : Nat) (n : Option β) (k : Nat → Option β) : onO (some a) n k = k a := rfl
theorem bd_of {α β : Type} {o : Option α} {a : α} {k : α → Option β} (h : o = some a) : bd o k = k a := by rw [h]; rfl
theorem o_0 : (0 : Int32) = nI 0 := rfl
theorem o_1 : (1 : Int32) = nI 1 := rfl
theorem o_2 : (2 : Int32) = nI 2 := rfl
theorem o_3 : (3 : Int32) = nI 3 := rfl
theorem o_4 : (4 : Int32) = nI 4 := rfl
theorem o_5 : (5 : Int32) = nI 5 := rfl
theorem o_6 : (6 : Int32) = nI 6 := rfl
theorem o_7 : (7 : Int32) = nI 7 := rfl
theorem o_8 : (8 : Int32) = nI 8 := rfl
theorem o_9 : (9 : Int32) = nI 9 := rfl
theorem o_10 : (10 : Int32) = nI 10 := rfl
theorem o_11 : (11 : Int32) = nI 11 := rfl
theorem o_12 : (12 : Int32) = nI 12 := rfl
theorem o_13 : (13 : Int32) = nI 13 := rfl
theorem o_14 : (14 : Int32) = nI 14 := rfl
theorem o_15 : (15 : Int32) = nI 15 := rfl
theorem o_16 : (16 : Int32) = nI 16 := rfl
theorem o_17 : (17 : Int32) = nI 17 := rfl
theorem o_18 : (18 : Int32) = nI 18 := rfl
theorem o_19 : (19 : Int32) = nI 19 := rfl
theorem o_20 : (20 : Int32) = nI 20 := rfl
theorem o_21 : (21 : Int32) = nI 21 := rfl
theorem o_22 : (22 : Int32) = nI 22 := rfl
theorem o_23 : (23 : Int32) = nI 23 := rfl
theorem o_24 : (24 : Int32) = nI 24 := rfl
theorem o_25 : (25 : Int32) = nI 25 := rfl
theorem o_26 : (26 : Int32) = nI 26 := rfl
theorem o_27 : (27 : Int32) = nI 27 := rfl
theorem o_28 : (28 : Int32) = nI 28 := rfl
theorem o_29 : (29 : Int32) = nI 29 := rfl
theorem o_30 : (30 : Int32) = nI 30 := rfl
theorem o_31 : (31 : Int32) = nI 31 := rfl
theorem o_32 : (32 : Int32) = nI 32 := rfl
theorem o_33 : (33 : Int32) = nI 33 := rfl
theorem o_34 : (34 : Int32) = nI 34 := rfl
theorem o_35 : (35 : Int32) = nI 35 := rfl
theorem o_36 : (36 : Int32) = nI 36 := rfl
theorem o_37 : (37 : Int32) = nI 37 := rfl
theorem o_38 : (38 : Int32) = nI 38 := rfl
theorem o_39 : (39 : Int32) = nI 39 := rfl
theorem o_40 : (40 : Int32) = nI 40 := rfl
theorem o_41 : (41 : Int32) = nI 41 := rfl
theorem o_42 : (42 : Int32) = nI 42 := rfl
theorem o_43 : (43 : Int32) = nI 43 := rfl
theorem o_44 : (44 : Int32) = nI 44 := rfl
theorem o_45 : (45 : Int32) = nI 45 := rfl
theorem o_46 : (46 : Int32) = nI 46 := rfl
theorem o_47 : (47 : Int32) = nI 47 := rfl
theorem o_48 : (48 : Int32) = nI 48 := rfl
theorem o_49 : (49 : Int32) = nI 49 := rfl
theorem o_50 : (50 : Int32) = nI 50 := rfl
theorem o_51 : (51 : Int32) = nI 51 := rfl
theorem o_52 : (52 : Int32) = nI 52 := rfl
theorem o_53 : (53 : Int32) = nI 53 := rfl
theorem o_54 : (54 : Int32) = nI 54 := rfl
theorem o_55 : (55 : Int32) = nI 55 := rfl
theorem o_56 : (56 : Int32) = nI 56 := rfl
theorem o_57 : (57 : Int32) = nI 57 := rfl
theorem o_58 : (58 : Int32) = nI 58 := rfl
theorem o_59 : (59 : Int32) = nI 59 := rfl
theorem o_60 : (60 : Int32) = nI 60 := rfl
theorem o_62 : (62 : Int32) = nI 62 := rfl
theorem o_70 : (70 : Int32) = nI 70 := rfl
theorem o_71 : (71 : Int32) = nI 71 := rfl
theorem o_99 : (99 : Int32) = nI 99 := rfl
theorem o_124 : (124 : Int32) = nI 124 := rfl
theorem o_154 : (154 : Int32) = nI 154 := rfl
theorem o_156 : (156 : Int32) = nI 156 := rfl
theorem o_176 : (176 : Int32) = nI 176 := rfl
theorem o_255 : (255 : Int32) = nI 255 := rfl
theorem o_276 : (276 : Int32) = nI 276 := rfl
theorem o_326 : (326 : Int32) = nI 326 := rfl
theorem o_4095 : (4095 : Int32) = nI 4095 := rfl
theorem o_9999 : (9999 : Int32) = nI 9999 := rfl
theorem o_10000 : (10000 : Int32) = nI 10000 := rfl
theorem o_10001 : (10001 : Int32) = nI 10001 := rfl
theorem o_20000 : (20000 : Int32) = nI 20000 := rfl
theorem o_20033 : (20033 : Int32) = nI 20033 := rfl
theorem o_m1 : (-1 : Int32) = nI 0 - nI 1 := by decide
theorem lp_inl {σ ρ : Type} {b : σ → Option (σ ⊕ ρ)} {n : Nat} {s t : σ} (h : b s = some (.inl t)) : lp b (n + 1) s = lp b n t := by
  show bd (b s) _ = _
  rw [h]
  rfl
theorem lp_inr {σ ρ : Type} {b : σ → Option (σ ⊕ ρ)} {n : Nat} {s : σ} {r : ρ} (h : b s = some (.inr r)) : lp b (n + 1) s = some r := by
  show bd (b s) _ = _
  rw [h]
  rfl
/-- a loop whose states are known -/
theorem lpG {σ ρ : Type} (b : σ → Option (σ ⊕ ρ)) (f : Nat → σ) (r : ρ) (n : Nat) (hs : ∀ i, i < n → b (f i) = some (.inl (f (i + 1)))) (he : b (f n) = some (.inr r)) : ∀ k i F : Nat, i + k = n → k < F → lp b F (f i) = some r := by
  intro k
  induction k with
  | zero =>
    intro i F hi hF
    obtain ⟨F, rfl⟩ : ∃ G, F = G + 1 := ⟨F - 1, by omega⟩
    have e : i = n := by omega
    subst e
    exact lp_inr he
  | succ k ih =>
    intro i F hi hF
    obtain ⟨F, rfl⟩ : ∃ G, F = G + 1 := ⟨F - 1, by omega⟩
    rw [lp_inl (hs i (by omega))]
    exact ih (i + 1) F (by omega) (by omega)
theorem lpF {σ ρ : Type} (b : σ → Option (σ ⊕ ρ)) (f : Nat → σ) (r : ρ) (n : Nat) (hs : ∀ i, i < n → b (f i) = some (.inl (f (i + 1)))) (he : b (f n) = some (.inr r)) (hn : n < FU) : lp b FU (f 0) = some r :=
  lpG b f r n hs he n 0 FU (by omega) hn
/-- a loop with an invariant, that may be left early -/
theorem lpEg {σ ρ : Type} (b : σ → Option (σ ⊕ ρ)) (I : Nat → σ → Prop) (Q : ρ → Prop) (n : Nat) (hs : ∀ i s, i < n → I i s → (∃ t, b s = some (.inl t) ∧ I (i + 1) t) ∨ ∃ r, b s = some (.inr r) ∧ Q r) (he : ∀ s, I n s → ∃ r, b s = some (.inr r) ∧ Q r) : ∀ k i F s, i + k = n → k < F → I i s → ∃ r, lp b F s = some r ∧ Q r := by
  intro k
  induction k with
  | zero =>
    intro i F s hi hF hI
    obtain ⟨F, rfl⟩ : ∃ G, F = G + 1 := ⟨F - 1, by omega⟩
    have e : i = n := by omega
    subst e
    obtain ⟨r, h1, h2⟩ := he s hI
    exact ⟨r, lp_inr h1, h2⟩
  | succ k ih =>
    intro i F s hi hF hI
    obtain ⟨F, rfl⟩ : ∃ G, F = G + 1 := ⟨F - 1, by omega⟩
    rcases hs i s (by omega) hI with ⟨t, h1, h2⟩ | ⟨r, h1, h2⟩
    · rw [lp_inl h1]
      exact ih (i + 1) F t (by omega) (by omega) h2
    · exact ⟨r, lp_inr h1, h2⟩
theorem lpE {σ ρ : Type} (b : σ → Option (σ ⊕ ρ)) (I : Nat → σ → Prop) (Q : ρ → Prop) (n : Nat) (hs : ∀ i s, i < n → I i s → (∃ t, b s = some (.inl t) ∧ I (i + 1) t) ∨ ∃ r, b s = some (.inr r) ∧ Q r) (he : ∀ s, I n s → ∃ r, b s = some (.inr r) ∧ Q r) (hn : n < FU) (s : σ) (h0 : I 0 s) : ∃ r, lp b FU s = some r ∧ Q r :=
  lpEg b I Q n hs he n 0 FU s (by omega) hn h0
/-- two loops side by side -/
theorem lpQg {σ ρ τ π : Type} (b : σ → Option (σ ⊕ ρ)) (c : τ → Option (τ ⊕ π)) (I : Nat → σ → τ → Prop) (Q : ρ → π → Prop) (n : Nat) (hs : ∀ i s t, i < n → I i s t → (∃ s' t', b s = some (.inl s') ∧ c t = some (.inl t') ∧ I (i + 1) s' t') ∨ ∃ r q, b s = some (.inr r) ∧ c t = some (.inr q) ∧ Q r q) (he : ∀ s t, I n s t → ∃ r q, b s = some (.inr r) ∧ c t = some (.inr q) ∧ Q r q) : ∀ k i F G s t, i + k = n → k < F → k < G → I i s t → ∃ r q, lp b F s = some r ∧ lp c G t = some q ∧ Q r q := by
  intro k
  induction k with
  | zero =>
    intro i F G s t hi hF hG hI
    obtain ⟨F, rfl⟩ : ∃ G, F = G + 1 := ⟨F - 1, by omega⟩
    obtain ⟨G, rfl⟩ : ∃ F, G = F + 1 := ⟨G - 1, by omega⟩
    have e : i = n := by omega
    subst e
    obtain ⟨r, q, h1, h2, h3⟩ := he s t hI
    exact ⟨r, q, lp_inr h1, lp_inr h2, h3⟩
  | succ k ih =>
    intro i F G s t hi hF hG hI
    obtain ⟨F, rfl⟩ : ∃ G, F = G + 1 := ⟨F - 1, by omega⟩
    obtain ⟨G, rfl⟩ : ∃ F, G = F + 1 := ⟨G - 1, by omega⟩
    rcases hs i s t (by omega) hI with ⟨s', t', h1, h2, h3⟩ | ⟨r, q, h1, h2, h3⟩
    · rw [lp_inl h1, lp_inl h2]
      exact ih (i + 1) F G s' t' (by omega) (by omega) (by omega) h3
    · exact ⟨r, q, lp_inr h1, lp_inr h2, h3⟩
theorem lpQ {σ ρ τ π : Type} (b : σ → Option (σ ⊕ ρ)) (c : τ → Option (τ ⊕ π)) (I : Nat → σ → τ → Prop) (Q : ρ → π → Prop) (n : Nat) (hs : ∀ i s t, i < n → I i s t → (∃ s' t', b s = some (.inl s') ∧ c t = some (.inl t') ∧ I (i + 1) s' t') ∨ ∃ r q, b s = some (.inr r) ∧ c t = some (.inr q) ∧ Q r q) (he : ∀ s t, I n s t → ∃ r q, b s = some (.inr r) ∧ c t = some (.inr q) ∧ Q r q) (hn : n < FU) (s : σ) (t : τ) (h0 : I 0 s t) : ∃ r q, lp b FU s = some r ∧ lp c FU t = some q ∧ Q r q :=
  lpQg b c I Q n hs he n 0 FU FU s t (by omega) hn hn h0
theorem FU_lt {n : Nat} (h : n ≤ 4096) : n < FU := Nat.lt_of_le_of_lt h (Nat.le_of_ble_eq_true rfl)
-- numbers
theorem q_le (a b : Int32) : a ≤ b ↔ a.toInt ≤ b.toInt := Int32.le_iff_toInt_le
theorem q_lt (a b : Int32) : a < b ↔ a.toInt < b.toInt := Int32.lt_iff_toInt_lt
theorem q_rng (x : Int32) : -2147483648 ≤ x.toInt ∧ x.toInt < 2147483648 := ⟨by have := Int32.le_toInt x; simpa using this, by have := Int32.toInt_lt x; simpa using this⟩
-- from the kit's starting texts
theorem fa_and (a b : Nat) : nI a &&& nI b = nI (a &&& b) := by
  apply Int32.toBitVec_inj.1
  show BitVec.ofNat 32 a &&& BitVec.ofNat 32 b = BitVec.ofNat 32 (a &&& b)
  apply BitVec.eq_of_getLsbD_eq
  intro i hi
  simp [hi]
theorem fa_or (a b : Nat) : nI a ||| nI b = nI (a ||| b) := by
  apply Int32.toBitVec_inj.1
  show BitVec.ofNat 32 a ||| BitVec.ofNat 32 b = BitVec.ofNat 32 (a ||| b)
  apply BitVec.eq_of_getLsbD_eq
  intro i hi
  simp [hi]
theorem fb_andL (a b : Nat) : lN a &&& lN b = lN (a &&& b) := by
  apply Int64.toBitVec_inj.1
  show BitVec.ofNat 64 a &&& BitVec.ofNat 64 b = BitVec.ofNat 64 (a &&& b)
  apply BitVec.eq_of_getLsbD_eq
  intro i hi
  simp [hi]
theorem fb_orL (a b : Nat) : lN a ||| lN b = lN (a ||| b) := by
  apply Int64.toBitVec_inj.1
  show BitVec.ofNat 64 a ||| BitVec.ofNat 64 b = BitVec.ofNat 64 (a ||| b)
  apply BitVec.eq_of_getLsbD_eq
  intro i hi
  simp [hi]
theorem fb_xorL (a b : Nat) : lN a ^^^ lN b = lN (a ^^^ b) := by
  apply Int64.toBitVec_inj.1
  show BitVec.ofNat 64 a ^^^ BitVec.ofNat 64 b = BitVec.ofNat 64 (a ^^^ b)
  apply BitVec.eq_of_getLsbD_eq
  intro i hi
  simp [hi]
theorem wb_tb (n : Nat) : (lN n).toBitVec = BitVec.ofNat 64 n := rfl
theorem wb_inj {a b : Int64} (h : a.toBitVec = b.toBitVec) : a = b := Int64.toBitVec_inj.mp h
theorem wb_tn {n : Nat} (h : n < 2 ^ 64) : (lN n).toBitVec.toNat = n := by rw [wb_tb, BitVec.toNat_ofNat, Nat.mod_eq_of_lt h]
theorem wb_c : ∀ k, k < 64 → ((nI k).toInt64 &&& 63) = lN k := by decide +kernel
theorem wb_cu : ∀ k, k < 64 → ((nI k).toInt64.toUInt64 &&& Int64.toUInt64 63) = UInt64.ofNat k := by decide +kernel
theorem wb_sm : ∀ k, k < 64 → (BitVec.ofNat 64 k).smod 64 = BitVec.ofNat 64 k := by decide +kernel
theorem wb_shr {n k : Nat} (hn : n < 2 ^ 64) (hk : k < 64) : ((lN n).toUInt64 >>> ((nI k).toInt64.toUInt64 &&& Int64.toUInt64 63)).toInt64 = lN (n / 2 ^ k) := by
  rw [wb_cu k hk]
  apply wb_inj
  apply BitVec.eq_of_toNat_eq
  show ((lN n).toUInt64 >>> UInt64.ofNat k).toNat = (BitVec.ofNat 64 _).toNat
  have h1 : (UInt64.ofNat k).toNat = k := by
    show (BitVec.ofNat 64 k).toNat = k
    rw [BitVec.toNat_ofNat, Nat.mod_eq_of_lt (by omega)]
  have h2 : (lN n).toUInt64.toNat = n := wb_tn hn
  rw [UInt64.toNat_shiftRight, h1, h2, Nat.mod_eq_of_lt hk, Nat.shiftRight_eq_div_pow, BitVec.toNat_ofNat, Nat.mod_eq_of_lt (Nat.lt_of_le_of_lt (Nat.div_le_self _ _) hn)]
theorem wb_shl (n : Nat) {k : Nat} (hk : k < 64) : lN n <<< ((nI k).toInt64 &&& 63) = lN (n * 2 ^ k) := by
  rw [wb_c k hk]
  apply wb_inj
  rw [Int64.toBitVec_shiftLeft, wb_tb, wb_tb, wb_tb, wb_sm k hk]
  apply BitVec.eq_of_toNat_eq
  rw [BitVec.shiftLeft_eq', BitVec.toNat_shiftLeft, BitVec.toNat_ofNat, BitVec.toNat_ofNat, BitVec.toNat_ofNat, Nat.mod_eq_of_lt (show k < 2 ^ 64 by omega), Nat.shiftLeft_eq, Nat.mul_mod, Nat.mod_mod, ← Nat.mul_mod]
theorem q_or (a b : Nat) : nI a ||| nI b = nI (a ||| b) := fa_or a b
theorem q_and (a b : Nat) : nI a &&& nI b = nI (a &&& b) := fa_and a b
theorem q_shl1 : ∀ k, k < 31 → (nI 1) <<< (nI k &&& nI 31) = nI (2 ^ k) := by decide +kernel
theorem q_amt : ∀ k, k < 32 → ((nI k &&& nI 31).toBitVec.smod 32).toNat = k := by decide +kernel
theorem q_shr {n k : Nat} (h : n < 2 ^ 31) (hk : k < 32) : nI n >>> (nI k &&& nI 31) = nI (n / 2 ^ k) := pk_shrN h _ k (q_amt k hk)
theorem q_bit (n : Nat) : nI n &&& nI 1 = nI (n % 2) := by rw [q_and, Nat.and_one_is_mod]
/-- a set of those for which p holds, below n -/
def bitS (p : Nat → Bool) : Nat → Nat
  | 0 => 0
  | n + 1 => bitS p n ||| (if p n = true then 2 ^ n else 0)
theorem bitS_lt (p : Nat → Bool) : ∀ n, bitS p n < 2 ^ n
  | 0 => Nat.two_pow_pos 0
  | n + 1 => by
    refine Nat.or_lt_two_pow (Nat.lt_of_lt_of_le (bitS_lt p n) (Nat.pow_le_pow_right (by decide) (by omega))) ?_
    split
    · exact Nat.pow_lt_pow_right (by decide) (by omega)
    · exact Nat.two_pow_pos _
theorem bitS_cong {p q : Nat → Bool} : ∀ {n : Nat}, (∀ k, k < n → p k = q k) → bitS p n = bitS q n
  | 0, _ => rfl
  | n + 1, h => by
    show bitS p n ||| _ = bitS q n ||| _
    rw [bitS_cong (n := n) fun k hk => h k (by omega), h n (by omega)]
theorem bitS_t {p : Nat → Bool} {n : Nat} (h : p n = true) : nI (bitS p n) ||| nI (2 ^ n) = nI (bitS p (n + 1)) := by
  rw [q_or]
  show _ = nI (bitS p n ||| _)
  rw [if_pos h]
theorem bitS_f {p : Nat → Bool} {n : Nat} (h : p n = false) : bitS p (n + 1) = bitS p n := by
  show bitS p n ||| _ = _
  rw [if_neg (by rw [h]; decide), Nat.or_zero]
theorem bitS_tb (p : Nat → Bool) (j : Nat) : ∀ n, (bitS p n).testBit j = (decide (j < n) && p j)
  | 0 => by simp [bitS]
  | n + 1 => by
    show (bitS p n ||| _).testBit j = _
    rw [Nat.testBit_or, bitS_tb p j n]
    by_cases hj : j = n
    · subst hj
      cases h : p j <;> simp
    · have : (if p n = true then 2 ^ n else 0 : Nat).testBit j = false := by
        split
        · rw [Nat.testBit_two_pow]; simp; omega
        · simp
      rw [this, Bool.or_false]
      congr 1
      simp only [decide_eq_decide]
      omega
