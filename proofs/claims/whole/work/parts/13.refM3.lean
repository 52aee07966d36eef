def fX12_done (sg : Int32) (v : Int32) (w : Int32) : Option (Int32) :=
  (if sg = (38 : Int32) then (if v = 0 then some (0 : Int32) else (if w = 0 then some (0 : Int32) else some (1 : Int32))) else (if sg = (42 : Int32) then some (v * w) else (if sg = (43 : Int32) then some (v + w) else (if sg = (45 : Int32) then some (v - w) else (if sg = (47 : Int32) then (if w = 0 then some (0 : Int32) else ck (¬ w = 0) (some (v / w))) else (if sg = (60 : Int32) then (if w ≤ v then some (0 : Int32) else some (1 : Int32)) else (if sg = (61 : Int32) then (if v = w then some (1 : Int32) else some (0 : Int32)) else (if sg = (62 : Int32) then (if v ≤ w then some (0 : Int32) else some (1 : Int32)) else (if sg = (124 : Int32) then (if v = 0 then (if w = 0 then some (0 : Int32) else some (1 : Int32)) else some (1 : Int32)) else (if w = 0 then some (0 : Int32) else ck (¬ w = 0) (some (v - v / w * w))))))))))))
set_option maxHeartbeats 4000000 in
set_option maxRecDepth 100000 in
theorem c_X12_done (l : Launch) (G : Nat → Nat) (D : va_G) (cA : Nat → ClassId) (sz : Nat) (sg : Int32) (v : Int32) (w : Int32) (rR : Int32) (h : fX12_done sg v w = some rR) : Met l yX12_done wsX12_done ({ frames := 0, cells := 0, slots := 0, locals := 0 } : Room) (PW G D (tyC cA) sz (wE) [.int sg, .int v, .int w]) (QI D (tyC cA) (va_A (wE) sz) rR (wE)) 0 0 (va_A (wE) sz) := by
  refine ent (cc := cX12_done) (maxL := 3) (ret := (some .int)) (fun A => QI D (tyC cA) A rR (wE)) (by decide +kernel) rfl (Nat.le_of_ble_eq_true rfl) ?_
  intro p e s m args below meth c A ls H hx hb hml hr hlk hts hown hA hK hE hP hD hS hv hmm
  have hv : lv_has ls 3 [(0, .int sg), (1, .int v), (2, .int w)] := hv
  generalize hQ : MQ below _ args s 0 0 A = Q
  have hP : va_P D vwCl (wE) H := hP
  unfold fX12_done at h
  refine lv_iload_n hx hb dX12_done_0 rfl (lv_at hv 0 rfl) ?_
  by_cases c_1 : sg = (38 : Int32)
  · refine lv_lookup (tgt := 98) (off := 97) hx hb dX12_done_1 (by decide) (by rw [c_1]; rfl) (by decide) ?_
    have h := ite_t c_1 h
    refine lv_iload_n hx hb dX12_done_98 rfl (lv_at hv 1 rfl) ?_
    refine lv_if_eq (tgt := 110) hx hb dX12_done_99 (by decide) (fun c_2 => ?_) (fun c_2 => ?_)
    · have h := ite_t c_2 h
      refine lv_iconst (v := (0 : Int32)) hx hb dX12_done_110 (by decide) ?_
      have h := Option.some.inj h
      have ee0 : (0 : Int32) = rR := congrArg (fun q => q) h
      subst ee0
      rw [← hQ]
      exact retI hx hb hr hlk hK hP hD hS dX12_done_111 ⟨Nat.le_of_ble_eq_true rfl, Nat.le_of_ble_eq_true rfl⟩
    · have h := ite_f c_2 h
      refine lv_iload_n hx hb dX12_done_102 rfl (lv_at hv 2 rfl) ?_
      refine lv_if_eq (tgt := 110) hx hb dX12_done_103 (by decide) (fun c_3 => ?_) (fun c_3 => ?_)
      · have h := ite_t c_3 h
        refine lv_iconst (v := (0 : Int32)) hx hb dX12_done_110 (by decide) ?_
        have h := Option.some.inj h
        have ee0 : (0 : Int32) = rR := congrArg (fun q => q) h
        subst ee0
        rw [← hQ]
        exact retI hx hb hr hlk hK hP hD hS dX12_done_111 ⟨Nat.le_of_ble_eq_true rfl, Nat.le_of_ble_eq_true rfl⟩
      · have h := ite_f c_3 h
        refine lv_iconst (v := (1 : Int32)) hx hb dX12_done_106 (by decide) ?_
        refine lv_goto (tgt := 111) hx hb dX12_done_107 (by decide) ?_
        have h := Option.some.inj h
        have ee0 : (1 : Int32) = rR := congrArg (fun q => q) h
        subst ee0
        rw [← hQ]
        exact retI hx hb hr hlk hK hP hD hS dX12_done_111 ⟨Nat.le_of_ble_eq_true rfl, Nat.le_of_ble_eq_true rfl⟩
  have h := ite_f c_1 h
  by_cases c_4 : sg = (42 : Int32)
  · refine lv_lookup (tgt := 153) (off := 152) hx hb dX12_done_1 (by decide) (by rw [c_4]; rfl) (by decide) ?_
    have h := ite_t c_4 h
    refine lv_iload_n hx hb dX12_done_153 rfl (lv_at hv 1 rfl) ?_
    refine lv_iload_n hx hb dX12_done_154 rfl (lv_at hv 2 rfl) ?_
    refine lv_imul hx hb dX12_done_155 ?_
    have h := Option.some.inj h
    have ee0 : (v * w) = rR := congrArg (fun q => q) h
    subst ee0
    rw [← hQ]
    exact retI hx hb hr hlk hK hP hD hS dX12_done_156 ⟨Nat.le_of_ble_eq_true rfl, Nat.le_of_ble_eq_true rfl⟩
  have h := ite_f c_4 h
  by_cases c_5 : sg = (43 : Int32)
  · refine lv_lookup (tgt := 145) (off := 144) hx hb dX12_done_1 (by decide) (by rw [c_5]; rfl) (by decide) ?_
    have h := ite_t c_5 h
    refine lv_iload_n hx hb dX12_done_145 rfl (lv_at hv 1 rfl) ?_
    refine lv_iload_n hx hb dX12_done_146 rfl (lv_at hv 2 rfl) ?_
    refine lv_iadd hx hb dX12_done_147 ?_
    have h := Option.some.inj h
    have ee0 : (v + w) = rR := congrArg (fun q => q) h
    subst ee0
    rw [← hQ]
    exact retI hx hb hr hlk hK hP hD hS dX12_done_148 ⟨Nat.le_of_ble_eq_true rfl, Nat.le_of_ble_eq_true rfl⟩
  have h := ite_f c_5 h
  by_cases c_6 : sg = (45 : Int32)
  · refine lv_lookup (tgt := 149) (off := 148) hx hb dX12_done_1 (by decide) (by rw [c_6]; rfl) (by decide) ?_
    have h := ite_t c_6 h
    refine lv_iload_n hx hb dX12_done_149 rfl (lv_at hv 1 rfl) ?_
    refine lv_iload_n hx hb dX12_done_150 rfl (lv_at hv 2 rfl) ?_
    refine lv_isub hx hb dX12_done_151 ?_
    have h := Option.some.inj h
    have ee0 : (v - w) = rR := congrArg (fun q => q) h
    subst ee0
    rw [← hQ]
    exact retI hx hb hr hlk hK hP hD hS dX12_done_152 ⟨Nat.le_of_ble_eq_true rfl, Nat.le_of_ble_eq_true rfl⟩
  have h := ite_f c_6 h
  by_cases c_7 : sg = (47 : Int32)
  · refine lv_lookup (tgt := 157) (off := 156) hx hb dX12_done_1 (by decide) (by rw [c_7]; rfl) (by decide) ?_
    have h := ite_t c_7 h
    refine lv_iload_n hx hb dX12_done_157 rfl (lv_at hv 2 rfl) ?_
    refine lv_if_ne (tgt := 165) hx hb dX12_done_158 (by decide) (fun c_8 => ?_) (fun c_8 => ?_)
    · have h := ite_f c_8 h
      refine lv_iload_n hx hb dX12_done_165 rfl (lv_at hv 1 rfl) ?_
      refine lv_iload_n hx hb dX12_done_166 rfl (lv_at hv 2 rfl) ?_
      obtain ⟨c_9, h⟩ := ck_ex h
      refine lv_idiv hx hb dX12_done_167 c_9 ?_
      have h := Option.some.inj h
      have ee0 : (v / w) = rR := congrArg (fun q => q) h
      subst ee0
      rw [← hQ]
      exact retI hx hb hr hlk hK hP hD hS dX12_done_168 ⟨Nat.le_of_ble_eq_true rfl, Nat.le_of_ble_eq_true rfl⟩
    · have h := ite_t c_8 h
      refine lv_iconst (v := (0 : Int32)) hx hb dX12_done_161 (by decide) ?_
      refine lv_goto (tgt := 168) hx hb dX12_done_162 (by decide) ?_
      have h := Option.some.inj h
      have ee0 : (0 : Int32) = rR := congrArg (fun q => q) h
      subst ee0
      rw [← hQ]
      exact retI hx hb hr hlk hK hP hD hS dX12_done_168 ⟨Nat.le_of_ble_eq_true rfl, Nat.le_of_ble_eq_true rfl⟩
  have h := ite_f c_7 h
  by_cases c_10 : sg = (60 : Int32)
  · refine lv_lookup (tgt := 112) (off := 111) hx hb dX12_done_1 (by decide) (by rw [c_10]; rfl) (by decide) ?_
    have h := ite_t c_10 h
    refine lv_iload_n hx hb dX12_done_112 rfl (lv_at hv 1 rfl) ?_
    refine lv_iload_n hx hb dX12_done_113 rfl (lv_at hv 2 rfl) ?_
    refine lv_icmp_ge (tgt := 121) hx hb dX12_done_114 (by decide) (fun c_11 => ?_) (fun c_11 => ?_)
    · have h := ite_t c_11 h
      refine lv_iconst (v := (0 : Int32)) hx hb dX12_done_121 (by decide) ?_
      have h := Option.some.inj h
      have ee0 : (0 : Int32) = rR := congrArg (fun q => q) h
      subst ee0
      rw [← hQ]
      exact retI hx hb hr hlk hK hP hD hS dX12_done_122 ⟨Nat.le_of_ble_eq_true rfl, Nat.le_of_ble_eq_true rfl⟩
    · have h := ite_f c_11 h
      refine lv_iconst (v := (1 : Int32)) hx hb dX12_done_117 (by decide) ?_
      refine lv_goto (tgt := 122) hx hb dX12_done_118 (by decide) ?_
      have h := Option.some.inj h
      have ee0 : (1 : Int32) = rR := congrArg (fun q => q) h
      subst ee0
      rw [← hQ]
      exact retI hx hb hr hlk hK hP hD hS dX12_done_122 ⟨Nat.le_of_ble_eq_true rfl, Nat.le_of_ble_eq_true rfl⟩
  have h := ite_f c_10 h
  by_cases c_12 : sg = (61 : Int32)
  · refine lv_lookup (tgt := 123) (off := 122) hx hb dX12_done_1 (by decide) (by rw [c_12]; rfl) (by decide) ?_
    have h := ite_t c_12 h
    refine lv_iload_n hx hb dX12_done_123 rfl (lv_at hv 1 rfl) ?_
    refine lv_iload_n hx hb dX12_done_124 rfl (lv_at hv 2 rfl) ?_
    refine lv_icmp_ne (tgt := 132) hx hb dX12_done_125 (by decide) (fun c_13 => ?_) (fun c_13 => ?_)
    · have h := ite_f c_13 h
      refine lv_iconst (v := (0 : Int32)) hx hb dX12_done_132 (by decide) ?_
      have h := Option.some.inj h
      have ee0 : (0 : Int32) = rR := congrArg (fun q => q) h
      subst ee0
      rw [← hQ]
      exact retI hx hb hr hlk hK hP hD hS dX12_done_133 ⟨Nat.le_of_ble_eq_true rfl, Nat.le_of_ble_eq_true rfl⟩
    · have h := ite_t c_13 h
      refine lv_iconst (v := (1 : Int32)) hx hb dX12_done_128 (by decide) ?_
      refine lv_goto (tgt := 133) hx hb dX12_done_129 (by decide) ?_
      have h := Option.some.inj h
      have ee0 : (1 : Int32) = rR := congrArg (fun q => q) h
      subst ee0
      rw [← hQ]
      exact retI hx hb hr hlk hK hP hD hS dX12_done_133 ⟨Nat.le_of_ble_eq_true rfl, Nat.le_of_ble_eq_true rfl⟩
  have h := ite_f c_12 h
  by_cases c_14 : sg = (62 : Int32)
  · refine lv_lookup (tgt := 134) (off := 133) hx hb dX12_done_1 (by decide) (by rw [c_14]; rfl) (by decide) ?_
    have h := ite_t c_14 h
    refine lv_iload_n hx hb dX12_done_134 rfl (lv_at hv 1 rfl) ?_
    refine lv_iload_n hx hb dX12_done_135 rfl (lv_at hv 2 rfl) ?_
    refine lv_icmp_le (tgt := 143) hx hb dX12_done_136 (by decide) (fun c_15 => ?_) (fun c_15 => ?_)
    · have h := ite_t c_15 h
      refine lv_iconst (v := (0 : Int32)) hx hb dX12_done_143 (by decide) ?_
      have h := Option.some.inj h
      have ee0 : (0 : Int32) = rR := congrArg (fun q => q) h
      subst ee0
      rw [← hQ]
      exact retI hx hb hr hlk hK hP hD hS dX12_done_144 ⟨Nat.le_of_ble_eq_true rfl, Nat.le_of_ble_eq_true rfl⟩
    · have h := ite_f c_15 h
      refine lv_iconst (v := (1 : Int32)) hx hb dX12_done_139 (by decide) ?_
      refine lv_goto (tgt := 144) hx hb dX12_done_140 (by decide) ?_
      have h := Option.some.inj h
      have ee0 : (1 : Int32) = rR := congrArg (fun q => q) h
      subst ee0
      rw [← hQ]
      exact retI hx hb hr hlk hK hP hD hS dX12_done_144 ⟨Nat.le_of_ble_eq_true rfl, Nat.le_of_ble_eq_true rfl⟩
  have h := ite_f c_14 h
  by_cases c_16 : sg = (124 : Int32)
  · refine lv_lookup (tgt := 84) (off := 83) hx hb dX12_done_1 (by decide) (by rw [c_16]; rfl) (by decide) ?_
    have h := ite_t c_16 h
    refine lv_iload_n hx hb dX12_done_84 rfl (lv_at hv 1 rfl) ?_
    refine lv_if_ne (tgt := 92) hx hb dX12_done_85 (by decide) (fun c_17 => ?_) (fun c_17 => ?_)
    · have h := ite_f c_17 h
      refine lv_iconst (v := (1 : Int32)) hx hb dX12_done_92 (by decide) ?_
      refine lv_goto (tgt := 97) hx hb dX12_done_93 (by decide) ?_
      have h := Option.some.inj h
      have ee0 : (1 : Int32) = rR := congrArg (fun q => q) h
      subst ee0
      rw [← hQ]
      exact retI hx hb hr hlk hK hP hD hS dX12_done_97 ⟨Nat.le_of_ble_eq_true rfl, Nat.le_of_ble_eq_true rfl⟩
    · have h := ite_t c_17 h
      refine lv_iload_n hx hb dX12_done_88 rfl (lv_at hv 2 rfl) ?_
      refine lv_if_eq (tgt := 96) hx hb dX12_done_89 (by decide) (fun c_18 => ?_) (fun c_18 => ?_)
      · have h := ite_t c_18 h
        refine lv_iconst (v := (0 : Int32)) hx hb dX12_done_96 (by decide) ?_
        have h := Option.some.inj h
        have ee0 : (0 : Int32) = rR := congrArg (fun q => q) h
        subst ee0
        rw [← hQ]
        exact retI hx hb hr hlk hK hP hD hS dX12_done_97 ⟨Nat.le_of_ble_eq_true rfl, Nat.le_of_ble_eq_true rfl⟩
      · have h := ite_f c_18 h
        refine lv_iconst (v := (1 : Int32)) hx hb dX12_done_92 (by decide) ?_
        refine lv_goto (tgt := 97) hx hb dX12_done_93 (by decide) ?_
        have h := Option.some.inj h
        have ee0 : (1 : Int32) = rR := congrArg (fun q => q) h
        subst ee0
        rw [← hQ]
        exact retI hx hb hr hlk hK hP hD hS dX12_done_97 ⟨Nat.le_of_ble_eq_true rfl, Nat.le_of_ble_eq_true rfl⟩
  have h := ite_f c_16 h
  refine lv_lookup (tgt := 169) (off := 168) hx hb dX12_done_1 (by decide) (by show Op.lookupswitch.offset [(38, 97), (42, 152), (43, 144), (45, 148), (47, 156), (60, 111), (61, 122), (62, 133), (124, 83)] (168) _ = _; rw [lv_osw (a := 38) c_1 (by decide), lv_osw (a := 42) c_4 (by decide), lv_osw (a := 43) c_5 (by decide), lv_osw (a := 45) c_6 (by decide), lv_osw (a := 47) c_7 (by decide), lv_osw (a := 60) c_10 (by decide), lv_osw (a := 61) c_12 (by decide), lv_osw (a := 62) c_14 (by decide), lv_osw (a := 124) c_16 (by decide)]; rfl) (by decide) ?_
  refine lv_iload_n hx hb dX12_done_169 rfl (lv_at hv 2 rfl) ?_
  refine lv_if_ne (tgt := 177) hx hb dX12_done_170 (by decide) (fun c_19 => ?_) (fun c_19 => ?_)
  · have h := ite_f c_19 h
    refine lv_iload_n hx hb dX12_done_177 rfl (lv_at hv 1 rfl) ?_
    refine lv_iload_n hx hb dX12_done_178 rfl (lv_at hv 2 rfl) ?_
    obtain ⟨c_20, h⟩ := ck_ex h
    refine lv_irem hx hb dX12_done_179 c_20 ?_
    have h := Option.some.inj h
    have ee0 : (v - v / w * w) = rR := congrArg (fun q => q) h
    subst ee0
    rw [← hQ]
    exact retI hx hb hr hlk hK hP hD hS dX12_done_180 ⟨Nat.le_of_ble_eq_true rfl, Nat.le_of_ble_eq_true rfl⟩
  · have h := ite_t c_19 h
    refine lv_iconst (v := (0 : Int32)) hx hb dX12_done_173 (by decide) ?_
    refine lv_goto (tgt := 180) hx hb dX12_done_174 (by decide) ?_
    have h := Option.some.inj h
    have ee0 : (0 : Int32) = rR := congrArg (fun q => q) h
    subst ee0
    rw [← hQ]
    exact retI hx hb hr hlk hK hP hD hS dX12_done_180 ⟨Nat.le_of_ble_eq_true rfl, Nat.le_of_ble_eq_true rfl⟩

def fX12_worked_135 (v1_5 : Int32) (v2_5 : Int32) (v3_135 : Int32) (v4_135 : Int32) (d : Nat → Int32) (names : Nat → Int32) (pile_135 : Nat → Int32) : Option ((Int32 × Int32 × (Nat → Int32)) ⊕ (Int32 × Int32 × (Nat → Int32))) :=
  bnd (v4_135 + (1 : Int32)) fun y_14 => some (.inl (v3_135, y_14, pile_135))
def fX12_worked_97 (v1_5 : Int32) (v2_5 : Int32) (v3_97 : Int32) (v4_97 : Int32) (k0_97 : Int32) (k1_97 : Int32) (d : Nat → Int32) (names : Nat → Int32) (pile_97 : Nat → Int32) : Option ((Int32 × Int32 × (Nat → Int32)) ⊕ (Int32 × Int32 × (Nat → Int32))) :=
  ckI k1_97 60 (bnd (upd pile_97 (k1_97).toNatClampNeg k0_97) fun pile_18 => fX12_worked_135 v1_5 v2_5 v3_97 v4_97 d names pile_18)
def fX12_worked_59 (v1_5 : Int32) (v2_5 : Int32) (v3_59 : Int32) (v4_59 : Int32) (k0_59 : Int32) (k1_59 : Int32) (d : Nat → Int32) (names : Nat → Int32) (pile_59 : Nat → Int32) : Option ((Int32 × Int32 × (Nat → Int32)) ⊕ (Int32 × Int32 × (Nat → Int32))) :=
  ckI k1_59 60 (bnd (upd pile_59 (k1_59).toNatClampNeg k0_59) fun pile_22 => bnd (v3_59 + (1 : Int32)) fun y_23 => fX12_worked_135 v1_5 v2_5 y_23 v4_59 d names pile_22)
def fX12_worked_5B (v1_5 : Int32) (v2_5 : Int32) (d : Nat → Int32) (names : Nat → Int32) (v3_5b : Int32) (v4_5b : Int32) (pile_5b : Nat → Int32) : Option ((Int32 × Int32 × (Nat → Int32)) ⊕ (Int32 × Int32 × (Nat → Int32))) :=
  (if (v1_5 + v2_5) ≤ v4_5b then some (.inr (v3_5b, v4_5b, pile_5b)) else ckI v4_5b 326 (bnd (d (v4_5b).toNatClampNeg) fun y_4 => (if (20000 : Int32) ≤ y_4 then (if y_4 = (20033 : Int32) then ckI (v3_5b - (1 : Int32)) 60 ((if (pile_5b ((v3_5b - (1 : Int32))).toNatClampNeg) = 0 then fX12_worked_97 v1_5 v2_5 v3_5b v4_5b (1 : Int32) (v3_5b - (1 : Int32)) d names pile_5b else fX12_worked_97 v1_5 v2_5 v3_5b v4_5b (0 : Int32) (v3_5b - (1 : Int32)) d names pile_5b)) else bnd (v3_5b + (-1 : Int32)) fun y_7 => ckI (y_7 - (1 : Int32)) 60 (ckI y_7 60 (bd (fX12_done (y_4 - (20000 : Int32)) (pile_5b ((y_7 - (1 : Int32))).toNatClampNeg) (pile_5b (y_7).toNatClampNeg)) fun r_10 => ckI (y_7 - (1 : Int32)) 60 (bnd (upd pile_5b ((y_7 - (1 : Int32))).toNatClampNeg r_10) fun pile_13 => fX12_worked_135 v1_5 v2_5 y_7 v4_5b d names pile_13)))) else (if (10000 : Int32) ≤ y_4 then ckI (y_4 - (10000 : Int32)) 3 (fX12_worked_59 v1_5 v2_5 v3_5b v4_5b (names ((y_4 - (10000 : Int32))).toNatClampNeg) v3_5b d names pile_5b) else fX12_worked_59 v1_5 v2_5 v3_5b v4_5b y_4 v3_5b d names pile_5b))))
def fX12_worked_5 (v1_5 : Int32) (v2_5 : Int32) (v3_5 : Int32) (v4_5 : Int32) (d : Nat → Int32) (names : Nat → Int32) (pile_5 : Nat → Int32) : Option (Int32 × (Nat → Int32)) :=
  bd (lp (fun σ : Int32 × Int32 × (Nat → Int32) => fX12_worked_5B v1_5 v2_5 d names (σ.1) (σ.2.1) (σ.2.2)) FU (v3_5, v4_5, pile_5)) fun ρ => match ρ with | (v3_5r, v4_5r, pile_5r) => ckI (0 : Int32) 60 (some ((pile_5r ((0 : Int32)).toNatClampNeg), pile_5r))
def fX12_worked (a : Int32) (n : Int32) (d : Nat → Int32) (names : Nat → Int32) (pile : Nat → Int32) : Option (Int32 × (Nat → Int32)) :=
  fX12_worked_5 a n (0 : Int32) a d names pile
set_option maxHeartbeats 4000000 in
set_option maxRecDepth 100000 in
theorem c_X12_worked (l : Launch) (G : Nat → Nat) (D : va_G) (cA : Nat → ClassId) (ad : Nat → Nat) (sz : Nat) (d : Nat → Int32) (kept : Nat → Int32) (aside : Nat → Int32) (images : Int32) (found : Nat → Int32) (base : Int32) (at0 : Int32) (size : Int32) (fault : Int32) (opened : Int32) (isRub : Int32) (names : Nat → Int32) (code : Nat → Int32) (coded : Int32) (pile : Nat → Int32) (needs : Nat → Int32) (traced : Nat → Int32) (traceMany : Int32) (who : Int32) (bitsOf : Nat → Int32) (sizeOf : Nat → Int32) (number : Nat → Int32) (lifted : Nat → Int32) (a : Int32) (n : Int32) (rR : Int32) (pileR : Nat → Int32) (h : fX12_worked a n d names pile = some (rR, pileR)) : Met l yX12_worked wsX12_worked ({ frames := 1, cells := 0, slots := 0, locals := 22 } : Room) (PW G D (tyC cA) sz (wM cA ad d kept aside images found base at0 size fault opened isRub names code coded pile needs traced traceMany who bitsOf sizeOf number lifted) [.ref (ad 0), .int a, .int n]) (QI D (tyC cA) (va_A (wM cA ad d kept aside images found base at0 size fault opened isRub names code coded pile needs traced traceMany who bitsOf sizeOf number lifted) sz) rR (wM cA ad d kept aside images found base at0 size fault opened isRub names code coded pileR needs traced traceMany who bitsOf sizeOf number lifted)) 0 0 (va_A (wM cA ad d kept aside images found base at0 size fault opened isRub names code coded pile needs traced traceMany who bitsOf sizeOf number lifted) sz) := by
  refine ent (cc := cX12_worked) (maxL := 6) (ret := (some .int)) (fun A => QI D (tyC cA) A rR (wM cA ad d kept aside images found base at0 size fault opened isRub names code coded pileR needs traced traceMany who bitsOf sizeOf number lifted)) (by decide +kernel) rfl (Nat.le_of_ble_eq_true rfl) ?_
  intro p e s m args below meth c A ls H hx hb hml hr hlk hts hown hA hK hE hP hD hS hv hmm
  have hv : lv_has ls 6 [(0, .ref (ad 0)), (1, .int a), (2, .int n)] := hv
  have in_12 : ∀ w ∈ u_ws RX12 TX12 23, w ∈ wsX12_worked := fun _ h => List.mem_cons_of_mem _ (List.mem_append_right _ h)
  have w_0 := hts (.fieldLink RX12 28 "SpoonsLastModel" "pile" "[I") (List.mem_of_getElem? (i := 2) rfl)
  have w_1 := hts (.fieldLink RX12 7 "SpoonsLastModel" "d" "[I") (List.mem_of_getElem? (i := 1) rfl)
  have w_2 := hts (.fieldLink RX12 22 "SpoonsLastModel" "names" "[I") (List.mem_of_getElem? (i := 3) rfl)
  generalize hQ : MQ below _ args s 0 0 A = Q
  have C_5 : ∀ (v1_5 : Int32) (v2_5 : Int32) (v3_5 : Int32) (v4_5 : Int32) (pile_5 : Nat → Int32), fX12_worked_5 v1_5 v2_5 v3_5 v4_5 d names pile_5 = some (rR, pileR) → WW p l e ({ frames := 1, cells := 0, slots := 0, locals := 22 } : Room) s m args below meth c D A 0 0 Q (wM cA ad d kept aside images found base at0 size fault opened isRub names code coded pile_5 needs traced traceMany who bitsOf sizeOf number lifted) 6 [(0, .ref (ad 0)), (1, .int v1_5), (2, .int v2_5), (3, .int v3_5), (4, .int v4_5)] 5 [] := by
    intro v1_5 v2_5 v3_5 v4_5 pile_5 h
    unfold fX12_worked_5 at h
    obtain ⟨⟨v3_5r, v4_5r, pile_5r⟩, ho, h⟩ := bd_ex h
    have LE : WW p l e ({ frames := 1, cells := 0, slots := 0, locals := 22 } : Room) s m args below meth c D A 0 0 Q (wM cA ad d kept aside images found base at0 size fault opened isRub names code coded pile_5r needs traced traceMany who bitsOf sizeOf number lifted) 6 [(0, .ref (ad 0))] 141 [] := by
      intro H locs ls hP hD hS hv
      refine lv_aload_n hx hb dX12_worked_141 rfl (lv_at hv 0 rfl) ?_
      refine va_get (D := D) (ci := 12) (v := .ref (ad 15)) (C := RX12) (T := TX12) (N := 23) hx hb hts in_12 hown hK hP 0 rfl rfl 14 (by decide) w_0 (fun _ h9 => h9) rfl dX12_worked_142 ?_
      refine lv_iconst (v := (0 : Int32)) hx hb dX12_worked_145 (by decide) ?_
      obtain ⟨c_1, h⟩ := ckI_ex h
      refine va_iald (D := D) hx hb hK hP 7 0 rfl rfl c_1 dX12_worked_146 ?_
      have h := Option.some.inj h
      have ee0 : (pile_5r ((0 : Int32)).toNatClampNeg) = rR := congrArg (fun q => q.1) h
      have ee1 : pile_5r = pileR := congrArg (fun q => q.2) h
      subst ee0
      subst ee1
      rw [← hQ]
      exact retI hx hb hr hlk hK hP hD hS dX12_worked_147 ⟨Nat.le_of_ble_eq_true rfl, Nat.le_of_ble_eq_true rfl⟩
    have LB : ∀ (nf : Nat) (v3_5b : Int32) (v4_5b : Int32) (pile_5b : Nat → Int32), lp (fun σ : Int32 × Int32 × (Nat → Int32) => fX12_worked_5B v1_5 v2_5 d names (σ.1) (σ.2.1) (σ.2.2)) nf (v3_5b, v4_5b, pile_5b) = some (v3_5r, v4_5r, pile_5r) → WW p l e ({ frames := 1, cells := 0, slots := 0, locals := 22 } : Room) s m args below meth c D A 0 0 Q (wM cA ad d kept aside images found base at0 size fault opened isRub names code coded pile_5b needs traced traceMany who bitsOf sizeOf number lifted) 6 [(0, .ref (ad 0)), (1, .int v1_5), (2, .int v2_5), (3, .int v3_5b), (4, .int v4_5b)] 5 [] := by
      intro nf
      induction nf with
      | zero => intro v3_5b v4_5b pile_5b hl; cases hl
      | succ nf ih =>
        intro v3_5b v4_5b pile_5b hl
        obtain ⟨x, h, hl⟩ := lp_ex hl
        have h : fX12_worked_5B v1_5 v2_5 d names v3_5b v4_5b pile_5b = some x := h
        unfold fX12_worked_5B at h
        have C_135 : ∀ (v3_135 : Int32) (v4_135 : Int32) (pile_135 : Nat → Int32) (x : (Int32 × Int32 × (Nat → Int32)) ⊕ (Int32 × Int32 × (Nat → Int32))), fX12_worked_135 v1_5 v2_5 v3_135 v4_135 d names pile_135 = some x → lpk (fun σ : Int32 × Int32 × (Nat → Int32) => fX12_worked_5B v1_5 v2_5 d names (σ.1) (σ.2.1) (σ.2.2)) nf x = some (v3_5r, v4_5r, pile_5r) → WW p l e ({ frames := 1, cells := 0, slots := 0, locals := 22 } : Room) s m args below meth c D A 0 0 Q (wM cA ad d kept aside images found base at0 size fault opened isRub names code coded pile_135 needs traced traceMany who bitsOf sizeOf number lifted) 6 [(0, .ref (ad 0)), (1, .int v1_5), (2, .int v2_5), (3, .int v3_135), (4, .int v4_135)] 135 [] := by
          intro v3_135 v4_135 pile_135 x h hl
          unfold fX12_worked_135 at h
          intro H locs ls hP hD hS hv
          obtain ⟨y_14, ey_14, h⟩ := bnd_ex h
          refine lv_iinc (v := y_14) (lv' := [(4, .int y_14), (0, .ref (ad 0)), (1, .int v1_5), (2, .int v2_5), (3, .int v3_135)]) hx hb dX12_worked_135 hv (k := 4) rfl (by rw [ey_14]; rfl) (by decide) rfl (fun ls hv => ?_)
          refine lv_goto (tgt := 5) hx hb dX12_worked_138 (by decide) ?_
          cases h
          exact ih v3_135 y_14 pile_135 hl _ _ _ hP hD hS (lv_sub hv [1, 2, 3, 4, 0] rfl)
        have C_97 : ∀ (v3_97 : Int32) (v4_97 : Int32) (k0_97 : Int32) (k1_97 : Int32) (pile_97 : Nat → Int32) (x : (Int32 × Int32 × (Nat → Int32)) ⊕ (Int32 × Int32 × (Nat → Int32))), fX12_worked_97 v1_5 v2_5 v3_97 v4_97 k0_97 k1_97 d names pile_97 = some x → lpk (fun σ : Int32 × Int32 × (Nat → Int32) => fX12_worked_5B v1_5 v2_5 d names (σ.1) (σ.2.1) (σ.2.2)) nf x = some (v3_5r, v4_5r, pile_5r) → WW p l e ({ frames := 1, cells := 0, slots := 0, locals := 22 } : Room) s m args below meth c D A 0 0 Q (wM cA ad d kept aside images found base at0 size fault opened isRub names code coded pile_97 needs traced traceMany who bitsOf sizeOf number lifted) 6 [(0, .ref (ad 0)), (1, .int v1_5), (2, .int v2_5), (3, .int v3_97), (4, .int v4_97)] 97 [.int k0_97, .int k1_97, .ref (ad 15)] := by
          intro v3_97 v4_97 k0_97 k1_97 pile_97 x h hl
          unfold fX12_worked_97 at h
          intro H locs ls hP hD hS hv
          obtain ⟨c_17, h⟩ := ckI_ex h
          obtain ⟨pile_18, epile_18, h⟩ := bnd_ex h
          refine va_iast (D := D) hx hb hK hP hD hS 7 0 rfl rfl c_17 dX12_worked_97 (fun H locs hP hD hS => ?_)
          rw [← epile_18] at hP hD
          have hP : va_P D vwCl (wM cA ad d kept aside images found base at0 size fault opened isRub names code coded pile_18 needs traced traceMany who bitsOf sizeOf number lifted) H := hP
          have hD : va_D A (wM cA ad d kept aside images found base at0 size fault opened isRub names code coded pile_18 needs traced traceMany who bitsOf sizeOf number lifted) := hD
          refine lv_goto (tgt := 135) hx hb dX12_worked_98 (by decide) ?_
          exact C_135 v3_97 v4_97 pile_18 _ h hl _ _ _ hP hD hS (lv_sub hv [0, 1, 2, 3, 4] rfl)
        have C_59 : ∀ (v3_59 : Int32) (v4_59 : Int32) (k0_59 : Int32) (k1_59 : Int32) (pile_59 : Nat → Int32) (x : (Int32 × Int32 × (Nat → Int32)) ⊕ (Int32 × Int32 × (Nat → Int32))), fX12_worked_59 v1_5 v2_5 v3_59 v4_59 k0_59 k1_59 d names pile_59 = some x → lpk (fun σ : Int32 × Int32 × (Nat → Int32) => fX12_worked_5B v1_5 v2_5 d names (σ.1) (σ.2.1) (σ.2.2)) nf x = some (v3_5r, v4_5r, pile_5r) → WW p l e ({ frames := 1, cells := 0, slots := 0, locals := 22 } : Room) s m args below meth c D A 0 0 Q (wM cA ad d kept aside images found base at0 size fault opened isRub names code coded pile_59 needs traced traceMany who bitsOf sizeOf number lifted) 6 [(0, .ref (ad 0)), (1, .int v1_5), (2, .int v2_5), (3, .int v3_59), (4, .int v4_59)] 59 [.int k0_59, .int k1_59, .ref (ad 15)] := by
          intro v3_59 v4_59 k0_59 k1_59 pile_59 x h hl
          unfold fX12_worked_59 at h
          intro H locs ls hP hD hS hv
          obtain ⟨c_21, h⟩ := ckI_ex h
          obtain ⟨pile_22, epile_22, h⟩ := bnd_ex h
          refine va_iast (D := D) hx hb hK hP hD hS 7 0 rfl rfl c_21 dX12_worked_59 (fun H locs hP hD hS => ?_)
          rw [← epile_22] at hP hD
          have hP : va_P D vwCl (wM cA ad d kept aside images found base at0 size fault opened isRub names code coded pile_22 needs traced traceMany who bitsOf sizeOf number lifted) H := hP
          have hD : va_D A (wM cA ad d kept aside images found base at0 size fault opened isRub names code coded pile_22 needs traced traceMany who bitsOf sizeOf number lifted) := hD
          obtain ⟨y_23, ey_23, h⟩ := bnd_ex h
          refine lv_iinc (v := y_23) (lv' := [(3, .int y_23), (0, .ref (ad 0)), (1, .int v1_5), (2, .int v2_5), (4, .int v4_59)]) hx hb dX12_worked_60 hv (k := 3) rfl (by rw [ey_23]; rfl) (by decide) rfl (fun ls hv => ?_)
          refine lv_goto (tgt := 135) hx hb dX12_worked_63 (by decide) ?_
          exact C_135 y_23 v4_59 pile_22 _ h hl _ _ _ hP hD hS (lv_sub hv [1, 2, 3, 0, 4] rfl)
        intro H locs ls hP hD hS hv
        refine lv_iload hx hb dX12_worked_5 (lv_at hv 4 rfl) ?_
        refine lv_iload_n hx hb dX12_worked_7 rfl (lv_at hv 1 rfl) ?_
        refine lv_iload_n hx hb dX12_worked_8 rfl (lv_at hv 2 rfl) ?_
        refine lv_iadd hx hb dX12_worked_9 ?_
        refine lv_icmp_ge (tgt := 141) hx hb dX12_worked_10 (by decide) (fun c_2 => ?_) (fun c_2 => ?_)
        · have h := ite_t c_2 h
          cases h
          have hl : some (v3_5b, v4_5b, pile_5b) = some (v3_5r, v4_5r, pile_5r) := hl
          have hl := Option.some.inj hl
          have ee0 : v3_5b = v3_5r := congrArg (fun q => q.1) hl
          have ee1 : v4_5b = v4_5r := congrArg (fun q => q.2.1) hl
          have ee2 : pile_5b = pile_5r := congrArg (fun q => q.2.2) hl
          subst ee0
          subst ee1
          subst ee2
          exact LE _ _ _ hP hD hS (lv_sub hv [0] rfl)
        · have h := ite_f c_2 h
          refine lv_aload_n hx hb dX12_worked_13 rfl (lv_at hv 0 rfl) ?_
          refine va_get (D := D) (ci := 12) (v := .ref (ad 1)) (C := RX12) (T := TX12) (N := 23) hx hb hts in_12 hown hK hP 0 rfl rfl 0 (by decide) w_1 (fun _ h9 => h9) rfl dX12_worked_14 ?_
          refine lv_iload hx hb dX12_worked_17 (lv_at hv 4 rfl) ?_
          obtain ⟨c_3, h⟩ := ckI_ex h
          refine va_iald (D := D) hx hb hK hP 1 0 rfl rfl c_3 dX12_worked_19 ?_
          obtain ⟨y_4, ey_4, h⟩ := bnd_ex h
          refine lv_nm ey_4 ?_
          refine lv_istore (lv' := [(5, .int y_4), (0, .ref (ad 0)), (1, .int v1_5), (2, .int v2_5), (3, .int v3_5b), (4, .int v4_5b)]) hx hb dX12_worked_20 hv (by decide) rfl (fun ls hv => ?_)
          refine lv_iload hx hb dX12_worked_22 (lv_at hv 0 rfl) ?_
          refine lv_sipush (v := (20000 : Int32)) hx hb dX12_worked_24 (by decide) ?_
          refine lv_icmp_ge (tgt := 66) hx hb dX12_worked_27 (by decide) (fun c_5 => ?_) (fun c_5 => ?_)
          · have h := ite_t c_5 h
            refine lv_iload hx hb dX12_worked_66 (lv_at hv 0 rfl) ?_
            refine lv_sipush (v := (20033 : Int32)) hx hb dX12_worked_68 (by decide) ?_
            refine lv_icmp_ne (tgt := 101) hx hb dX12_worked_71 (by decide) (fun c_6 => ?_) (fun c_6 => ?_)
            · have h := ite_f c_6 h
              obtain ⟨y_7, ey_7, h⟩ := bnd_ex h
              refine lv_iinc (v := y_7) (lv' := [(3, .int y_7), (5, .int y_4), (0, .ref (ad 0)), (1, .int v1_5), (2, .int v2_5), (4, .int v4_5b)]) hx hb dX12_worked_101 hv (k := 4) rfl (by rw [ey_7]; rfl) (by decide) rfl (fun ls hv => ?_)
              refine lv_aload_n hx hb dX12_worked_104 rfl (lv_at hv 2 rfl) ?_
              refine va_get (D := D) (ci := 12) (v := .ref (ad 15)) (C := RX12) (T := TX12) (N := 23) hx hb hts in_12 hown hK hP 0 rfl rfl 14 (by decide) w_0 (fun _ h9 => h9) rfl dX12_worked_105 ?_
              refine lv_iload_n hx hb dX12_worked_108 rfl (lv_at hv 0 rfl) ?_
              refine lv_iconst (v := (1 : Int32)) hx hb dX12_worked_109 (by decide) ?_
              refine lv_isub hx hb dX12_worked_110 ?_
              refine lv_iload hx hb dX12_worked_111 (lv_at hv 1 rfl) ?_
              refine lv_sipush (v := (20000 : Int32)) hx hb dX12_worked_113 (by decide) ?_
              refine lv_isub hx hb dX12_worked_116 ?_
              refine lv_aload_n hx hb dX12_worked_117 rfl (lv_at hv 2 rfl) ?_
              refine va_get (D := D) (ci := 12) (v := .ref (ad 15)) (C := RX12) (T := TX12) (N := 23) hx hb hts in_12 hown hK hP 0 rfl rfl 14 (by decide) w_0 (fun _ h9 => h9) rfl dX12_worked_118 ?_
              refine lv_iload_n hx hb dX12_worked_121 rfl (lv_at hv 0 rfl) ?_
              refine lv_iconst (v := (1 : Int32)) hx hb dX12_worked_122 (by decide) ?_
              refine lv_isub hx hb dX12_worked_123 ?_
              obtain ⟨c_8, h⟩ := ckI_ex h
              refine va_iald (D := D) hx hb hK hP 7 0 rfl rfl c_8 dX12_worked_124 ?_
              refine lv_aload_n hx hb dX12_worked_125 rfl (lv_at hv 2 rfl) ?_
              refine va_get (D := D) (ci := 12) (v := .ref (ad 15)) (C := RX12) (T := TX12) (N := 23) hx hb hts in_12 hown hK hP 0 rfl rfl 14 (by decide) w_0 (fun _ h9 => h9) rfl dX12_worked_126 ?_
              refine lv_iload_n hx hb dX12_worked_129 rfl (lv_at hv 0 rfl) ?_
              obtain ⟨c_9, h⟩ := ckI_ex h
              refine va_iald (D := D) hx hb hK hP 7 0 rfl rfl c_9 dX12_worked_130 ?_
              obtain ⟨r_10, hf_11, h⟩ := bd_ex h
              have sb := Sb.nil hP hD hS hA
              refine calI (va_runS (As := [.int (y_4 - (20000 : Int32)), .int (pile_5b ((y_7 - (1 : Int32))).toNatClampNeg), .int (pile_5b (y_7).toNatClampNeg)]) (rest := [.int (y_7 - (1 : Int32)), .ref (ad 15)]) ⟨hx, hb, hml, hown, hts⟩ (c_X12_done l G D cA  _ (y_4 - (20000 : Int32)) (pile_5b ((y_7 - (1 : Int32))).toNatClampNeg) (pile_5b (y_7).toNatClampNeg) r_10 hf_11) (va_cwS 3 hts gX12_worked_X12_done rfl rfl rfl (by decide +kernel) ⟨Nat.le_of_ble_eq_true rfl, Nat.le_of_ble_eq_true rfl⟩) (pvS hE hK hS sb) rfl rfl hv.1 rfl (lv_room (Nat.le_of_ble_eq_true rfl)) dX12_worked_131 ⟨Nat.le_of_ble_eq_true rfl, Nat.le_of_ble_eq_true rfl⟩) hS sb (Jn.nil hP hD) (fun H locs hP hD hS => ?_)
              have hP : va_P D vwCl (wM cA ad d kept aside images found base at0 size fault opened isRub names code coded pile_5b needs traced traceMany who bitsOf sizeOf number lifted) H := hP
              have hD : va_D A (wM cA ad d kept aside images found base at0 size fault opened isRub names code coded pile_5b needs traced traceMany who bitsOf sizeOf number lifted) := hD
              obtain ⟨c_12, h⟩ := ckI_ex h
              obtain ⟨pile_13, epile_13, h⟩ := bnd_ex h
              refine va_iast (D := D) hx hb hK hP hD hS 7 0 rfl rfl c_12 dX12_worked_134 (fun H locs hP hD hS => ?_)
              rw [← epile_13] at hP hD
              have hP : va_P D vwCl (wM cA ad d kept aside images found base at0 size fault opened isRub names code coded pile_13 needs traced traceMany who bitsOf sizeOf number lifted) H := hP
              have hD : va_D A (wM cA ad d kept aside images found base at0 size fault opened isRub names code coded pile_13 needs traced traceMany who bitsOf sizeOf number lifted) := hD
              exact C_135 y_7 v4_5b pile_13 _ h hl _ _ _ hP hD hS (lv_sub hv [2, 3, 4, 0, 5] rfl)
            · have h := ite_t c_6 h
              refine lv_aload_n hx hb dX12_worked_74 rfl (lv_at hv 1 rfl) ?_
              refine va_get (D := D) (ci := 12) (v := .ref (ad 15)) (C := RX12) (T := TX12) (N := 23) hx hb hts in_12 hown hK hP 0 rfl rfl 14 (by decide) w_0 (fun _ h9 => h9) rfl dX12_worked_75 ?_
              refine lv_iload_n hx hb dX12_worked_78 rfl (lv_at hv 4 rfl) ?_
              refine lv_iconst (v := (1 : Int32)) hx hb dX12_worked_79 (by decide) ?_
              refine lv_isub hx hb dX12_worked_80 ?_
              refine lv_aload_n hx hb dX12_worked_81 rfl (lv_at hv 1 rfl) ?_
              refine va_get (D := D) (ci := 12) (v := .ref (ad 15)) (C := RX12) (T := TX12) (N := 23) hx hb hts in_12 hown hK hP 0 rfl rfl 14 (by decide) w_0 (fun _ h9 => h9) rfl dX12_worked_82 ?_
              refine lv_iload_n hx hb dX12_worked_85 rfl (lv_at hv 4 rfl) ?_
              refine lv_iconst (v := (1 : Int32)) hx hb dX12_worked_86 (by decide) ?_
              refine lv_isub hx hb dX12_worked_87 ?_
              obtain ⟨c_15, h⟩ := ckI_ex h
              refine va_iald (D := D) hx hb hK hP 7 0 rfl rfl c_15 dX12_worked_88 ?_
              refine lv_if_ne (tgt := 96) hx hb dX12_worked_89 (by decide) (fun c_16 => ?_) (fun c_16 => ?_)
              · have h := ite_f c_16 h
                refine lv_iconst (v := (0 : Int32)) hx hb dX12_worked_96 (by decide) ?_
                exact C_97 v3_5b v4_5b (0 : Int32) (v3_5b - (1 : Int32)) pile_5b _ h hl _ _ _ hP hD hS (lv_sub hv [1, 2, 3, 4, 5] rfl)
              · have h := ite_t c_16 h
                refine lv_iconst (v := (1 : Int32)) hx hb dX12_worked_92 (by decide) ?_
                refine lv_goto (tgt := 97) hx hb dX12_worked_93 (by decide) ?_
                exact C_97 v3_5b v4_5b (1 : Int32) (v3_5b - (1 : Int32)) pile_5b _ h hl _ _ _ hP hD hS (lv_sub hv [1, 2, 3, 4, 5] rfl)
          · have h := ite_f c_5 h
            refine lv_aload_n hx hb dX12_worked_30 rfl (lv_at hv 1 rfl) ?_
            refine va_get (D := D) (ci := 12) (v := .ref (ad 15)) (C := RX12) (T := TX12) (N := 23) hx hb hts in_12 hown hK hP 0 rfl rfl 14 (by decide) w_0 (fun _ h9 => h9) rfl dX12_worked_31 ?_
            refine lv_iload_n hx hb dX12_worked_34 rfl (lv_at hv 4 rfl) ?_
            refine lv_iload hx hb dX12_worked_35 (lv_at hv 0 rfl) ?_
            refine lv_sipush (v := (10000 : Int32)) hx hb dX12_worked_37 (by decide) ?_
            refine lv_icmp_ge (tgt := 48) hx hb dX12_worked_40 (by decide) (fun c_19 => ?_) (fun c_19 => ?_)
            · have h := ite_t c_19 h
              refine lv_aload_n hx hb dX12_worked_48 rfl (lv_at hv 1 rfl) ?_
              refine va_get (D := D) (ci := 12) (v := .ref (ad 12)) (C := RX12) (T := TX12) (N := 23) hx hb hts in_12 hown hK hP 0 rfl rfl 11 (by decide) w_2 (fun _ h9 => h9) rfl dX12_worked_49 ?_
              refine lv_iload hx hb dX12_worked_52 (lv_at hv 0 rfl) ?_
              refine lv_sipush (v := (10000 : Int32)) hx hb dX12_worked_54 (by decide) ?_
              refine lv_isub hx hb dX12_worked_57 ?_
              obtain ⟨c_20, h⟩ := ckI_ex h
              refine va_iald (D := D) hx hb hK hP 5 0 rfl rfl c_20 dX12_worked_58 ?_
              exact C_59 v3_5b v4_5b (names ((y_4 - (10000 : Int32))).toNatClampNeg) v3_5b pile_5b _ h hl _ _ _ hP hD hS (lv_sub hv [1, 2, 3, 4, 5] rfl)
            · have h := ite_f c_19 h
              refine lv_iload hx hb dX12_worked_43 (lv_at hv 0 rfl) ?_
              refine lv_goto (tgt := 59) hx hb dX12_worked_45 (by decide) ?_
              exact C_59 v3_5b v4_5b y_4 v3_5b pile_5b _ h hl _ _ _ hP hD hS (lv_sub hv [1, 2, 3, 4, 5] rfl)
    exact LB FU v3_5 v4_5 pile_5 ho
  have hP : va_P D vwCl (wM cA ad d kept aside images found base at0 size fault opened isRub names code coded pile needs traced traceMany who bitsOf sizeOf number lifted) H := hP
  unfold fX12_worked at h
  refine lv_iconst (v := (0 : Int32)) hx hb dX12_worked_0 (by decide) ?_
  refine lv_istore_n (lv' := [(3, .int (0 : Int32)), (0, .ref (ad 0)), (1, .int a), (2, .int n)]) hx hb dX12_worked_1 rfl hv (by decide) rfl (fun ls hv => ?_)
  refine lv_iload_n hx hb dX12_worked_2 rfl (lv_at hv 2 rfl) ?_
  refine lv_istore (lv' := [(4, .int a), (3, .int (0 : Int32)), (0, .ref (ad 0)), (1, .int a), (2, .int n)]) hx hb dX12_worked_3 hv (by decide) rfl (fun ls hv => ?_)
  exact C_5 a n (0 : Int32) a pile h _ _ _ hP hD hS (lv_sub hv [2, 3, 4, 1, 0] rfl)

def fX12_feed_40B (v1_40 : Int64) (v3_40 : Int32) (found_40 : Nat → Int32) (v4_40b : Int32) (d_40b : Nat → Int32) : Option ((Int32 × (Nat → Int32)) ⊕ (Int32 × (Nat → Int32))) :=
  (if v3_40 ≤ v4_40b then some (.inr (v4_40b, d_40b)) else ckI (4 : Int32) 326 (bnd ((((lshrJ v1_40 ((8 : Int32) * v4_40b)) &&& (255 : Int64))).toInt32) fun y_9 => ckI ((276 : Int32) + (d_40b ((4 : Int32)).toNatClampNeg)) 326 (bnd (upd d_40b (((276 : Int32) + (d_40b ((4 : Int32)).toNatClampNeg))).toNatClampNeg y_9) fun d_11 => ckI (4 : Int32) 326 (bnd ((d_11 ((4 : Int32)).toNatClampNeg) + (1 : Int32)) fun y_13 => ckI (4 : Int32) 326 (bnd (upd d_11 ((4 : Int32)).toNatClampNeg y_13) fun d_15 => bnd (v4_40b + (1 : Int32)) fun y_16 => some (.inl (y_16, d_15)))))))
def fX12_feed_40 (v1_40 : Int64) (v3_40 : Int32) (v4_40 : Int32) (d_40 : Nat → Int32) (found_40 : Nat → Int32) : Option (Int32 × (Nat → Int32) × (Nat → Int32)) :=
  bd (lp (fun σ : Int32 × (Nat → Int32) => fX12_feed_40B v1_40 v3_40 found_40 (σ.1) (σ.2)) FU (v4_40, d_40)) fun ρ => match ρ with | (v4_40r, d_40r) => ckI (4 : Int32) 326 (some ((d_40r ((4 : Int32)).toNatClampNeg), d_40r, found_40))
def fX12_feed (word : Int64) (n : Int32) (d : Nat → Int32) (found : Nat → Int32) : Option (Int32 × (Nat → Int32) × (Nat → Int32)) :=
  bd (fX12_in ((n).toInt64) (1 : Int64) (8 : Int64)) fun r_1 => (if r_1 = 0 then bd (fX12_finds (1 : Int32) found) fun (r_20, found_21) => some (r_20, d, found_21) else ckI (4 : Int32) 326 ((if ((d ((4 : Int32)).toNatClampNeg) + n) ≤ (50 : Int32) then fX12_feed_40 word n (0 : Int32) d found else bd (fX12_finds (4 : Int32) found) fun (r_17, found_18) => some (r_17, d, found_18))))
set_option maxHeartbeats 4000000 in
set_option maxRecDepth 100000 in
theorem c_X12_feed (l : Launch) (G : Nat → Nat) (D : va_G) (cA : Nat → ClassId) (ad : Nat → Nat) (sz : Nat) (d : Nat → Int32) (kept : Nat → Int32) (aside : Nat → Int32) (images : Int32) (found : Nat → Int32) (base : Int32) (at0 : Int32) (size : Int32) (fault : Int32) (opened : Int32) (isRub : Int32) (names : Nat → Int32) (code : Nat → Int32) (coded : Int32) (pile : Nat → Int32) (needs : Nat → Int32) (traced : Nat → Int32) (traceMany : Int32) (who : Int32) (bitsOf : Nat → Int32) (sizeOf : Nat → Int32) (number : Nat → Int32) (lifted : Nat → Int32) (word : Int64) (n : Int32) (rR : Int32) (dR : Nat → Int32) (foundR : Nat → Int32) (h : fX12_feed word n d found = some (rR, dR, foundR)) : Met l yX12_feed wsX12_feed ({ frames := 1, cells := 0, slots := 0, locals := 25 } : Room) (PW G D (tyC cA) sz (wM cA ad d kept aside images found base at0 size fault opened isRub names code coded pile needs traced traceMany who bitsOf sizeOf number lifted) [.ref (ad 0), .long word, .int n]) (QI D (tyC cA) (va_A (wM cA ad d kept aside images found base at0 size fault opened isRub names code coded pile needs traced traceMany who bitsOf sizeOf number lifted) sz) rR (wM cA ad dR kept aside images foundR base at0 size fault opened isRub names code coded pile needs traced traceMany who bitsOf sizeOf number lifted)) 0 0 (va_A (wM cA ad d kept aside images found base at0 size fault opened isRub names code coded pile needs traced traceMany who bitsOf sizeOf number lifted) sz) := by
  refine ent (cc := cX12_feed) (maxL := 5) (ret := (some .int)) (fun A => QI D (tyC cA) A rR (wM cA ad dR kept aside images foundR base at0 size fault opened isRub names code coded pile needs traced traceMany who bitsOf sizeOf number lifted)) (by decide +kernel) rfl (Nat.le_of_ble_eq_true rfl) ?_
  intro p e s m args below meth c A ls H hx hb hml hr hlk hts hown hA hK hE hP hD hS hv hmm
  have hv : lv_has ls 5 [(0, .ref (ad 0)), (1, .long word), (3, .int n)] := hv
  have in_12 : ∀ w ∈ u_ws RX12 TX12 23, w ∈ wsX12_feed := fun _ h => List.mem_cons_of_mem _ (List.mem_append_right _ h)
  have w_0 := hts (.constantLong RX12 129 (8)) (List.mem_of_getElem? (i := 1) rfl)
  have w_1 := hts (.fieldLink RX12 7 "SpoonsLastModel" "d" "[I") (List.mem_of_getElem? (i := 2) rfl)
  have w_2 := hts (.constantLong RX12 134 (255)) (List.mem_of_getElem? (i := 3) rfl)
  generalize hQ : MQ below _ args s 0 0 A = Q
  have C_40 : ∀ (v1_40 : Int64) (v3_40 : Int32) (v4_40 : Int32) (d_40 : Nat → Int32) (found_40 : Nat → Int32), fX12_feed_40 v1_40 v3_40 v4_40 d_40 found_40 = some (rR, dR, foundR) → WW p l e ({ frames := 1, cells := 0, slots := 0, locals := 25 } : Room) s m args below meth c D A 0 0 Q (wM cA ad d_40 kept aside images found_40 base at0 size fault opened isRub names code coded pile needs traced traceMany who bitsOf sizeOf number lifted) 5 [(0, .ref (ad 0)), (1, .long v1_40), (3, .int v3_40), (4, .int v4_40)] 40 [] := by
    intro v1_40 v3_40 v4_40 d_40 found_40 h
    unfold fX12_feed_40 at h
    obtain ⟨⟨v4_40r, d_40r⟩, ho, h⟩ := bd_ex h
    have LE : WW p l e ({ frames := 1, cells := 0, slots := 0, locals := 25 } : Room) s m args below meth c D A 0 0 Q (wM cA ad d_40r kept aside images found_40 base at0 size fault opened isRub names code coded pile needs traced traceMany who bitsOf sizeOf number lifted) 5 [(0, .ref (ad 0))] 89 [] := by
      intro H locs ls hP hD hS hv
      refine lv_aload_n hx hb dX12_feed_89 rfl (lv_at hv 0 rfl) ?_
      refine va_get (D := D) (ci := 12) (v := .ref (ad 1)) (C := RX12) (T := TX12) (N := 23) hx hb hts in_12 hown hK hP 0 rfl rfl 0 (by decide) w_1 (fun _ h9 => h9) rfl dX12_feed_90 ?_
      refine lv_iconst (v := (4 : Int32)) hx hb dX12_feed_93 (by decide) ?_
      obtain ⟨c_6, h⟩ := ckI_ex h
      refine va_iald (D := D) hx hb hK hP 1 0 rfl rfl c_6 dX12_feed_94 ?_
      have h := Option.some.inj h
      have ee0 : (d_40r ((4 : Int32)).toNatClampNeg) = rR := congrArg (fun q => q.1) h
      have ee1 : d_40r = dR := congrArg (fun q => q.2.1) h
      have ee2 : found_40 = foundR := congrArg (fun q => q.2.2) h
      subst ee0
      subst ee1
      subst ee2
      rw [← hQ]
      exact retI hx hb hr hlk hK hP hD hS dX12_feed_95 ⟨Nat.le_of_ble_eq_true rfl, Nat.le_of_ble_eq_true rfl⟩
    have LB : ∀ (nf : Nat) (v4_40b : Int32) (d_40b : Nat → Int32), lp (fun σ : Int32 × (Nat → Int32) => fX12_feed_40B v1_40 v3_40 found_40 (σ.1) (σ.2)) nf (v4_40b, d_40b) = some (v4_40r, d_40r) → WW p l e ({ frames := 1, cells := 0, slots := 0, locals := 25 } : Room) s m args below meth c D A 0 0 Q (wM cA ad d_40b kept aside images found_40 base at0 size fault opened isRub names code coded pile needs traced traceMany who bitsOf sizeOf number lifted) 5 [(0, .ref (ad 0)), (1, .long v1_40), (3, .int v3_40), (4, .int v4_40b)] 40 [] := by
      intro nf
      induction nf with
      | zero => intro v4_40b d_40b hl; cases hl
      | succ nf ih =>
        intro v4_40b d_40b hl
        obtain ⟨x, h, hl⟩ := lp_ex hl
        have h : fX12_feed_40B v1_40 v3_40 found_40 v4_40b d_40b = some x := h
        unfold fX12_feed_40B at h
        intro H locs ls hP hD hS hv
        refine lv_iload hx hb dX12_feed_40 (lv_at hv 3 rfl) ?_
        refine lv_iload_n hx hb dX12_feed_42 rfl (lv_at hv 2 rfl) ?_
        refine lv_icmp_ge (tgt := 89) hx hb dX12_feed_43 (by decide) (fun c_7 => ?_) (fun c_7 => ?_)
        · have h := ite_t c_7 h
          cases h
          have hl : some (v4_40b, d_40b) = some (v4_40r, d_40r) := hl
          have hl := Option.some.inj hl
          have ee0 : v4_40b = v4_40r := congrArg (fun q => q.1) hl
          have ee1 : d_40b = d_40r := congrArg (fun q => q.2) hl
          subst ee0
          subst ee1
          exact LE _ _ _ hP hD hS (lv_sub hv [0] rfl)
        · have h := ite_f c_7 h
          refine lv_aload_n hx hb dX12_feed_46 rfl (lv_at hv 0 rfl) ?_
          refine va_get (D := D) (ci := 12) (v := .ref (ad 1)) (C := RX12) (T := TX12) (N := 23) hx hb hts in_12 hown hK hP 0 rfl rfl 0 (by decide) w_1 (fun _ h9 => h9) rfl dX12_feed_47 ?_
          refine lv_sipush (v := (276 : Int32)) hx hb dX12_feed_50 (by decide) ?_
          refine lv_aload_n hx hb dX12_feed_53 rfl (lv_at hv 0 rfl) ?_
          refine va_get (D := D) (ci := 12) (v := .ref (ad 1)) (C := RX12) (T := TX12) (N := 23) hx hb hts in_12 hown hK hP 0 rfl rfl 0 (by decide) w_1 (fun _ h9 => h9) rfl dX12_feed_54 ?_
          refine lv_iconst (v := (4 : Int32)) hx hb dX12_feed_57 (by decide) ?_
          obtain ⟨c_8, h⟩ := ckI_ex h
          refine va_iald (D := D) hx hb hK hP 1 0 rfl rfl c_8 dX12_feed_58 ?_
          refine lv_iadd hx hb dX12_feed_59 ?_
          refine lv_lload_n hx hb dX12_feed_60 rfl (lv_at hv 1 rfl) ?_
          refine lv_bipush (v := (8 : Int32)) hx hb dX12_feed_61 (by decide) ?_
          refine lv_iload hx hb dX12_feed_63 (lv_at hv 3 rfl) ?_
          refine lv_imul hx hb dX12_feed_65 ?_
          refine lv_lshr (v := (lshrJ v1_40 ((8 : Int32) * v4_40b))) hx hb dX12_feed_66 rfl ?_
          refine lv_ldc2 (v := (255 : Int64)) hx hb hown w_2 dX12_feed_67 ?_
          refine lv_land hx hb dX12_feed_70 ?_
          refine lv_l2i (v := (((lshrJ v1_40 ((8 : Int32) * v4_40b)) &&& (255 : Int64))).toInt32) hx hb dX12_feed_71 rfl ?_
          obtain ⟨y_9, ey_9, h⟩ := bnd_ex h
          refine lv_nm ey_9 ?_
          obtain ⟨c_10, h⟩ := ckI_ex h
          obtain ⟨d_11, ed_11, h⟩ := bnd_ex h
          refine va_iast (D := D) hx hb hK hP hD hS 1 0 rfl rfl c_10 dX12_feed_72 (fun H locs hP hD hS => ?_)
          rw [← ed_11] at hP hD
          have hP : va_P D vwCl (wM cA ad d_11 kept aside images found_40 base at0 size fault opened isRub names code coded pile needs traced traceMany who bitsOf sizeOf number lifted) H := hP
          have hD : va_D A (wM cA ad d_11 kept aside images found_40 base at0 size fault opened isRub names code coded pile needs traced traceMany who bitsOf sizeOf number lifted) := hD
          refine lv_aload_n hx hb dX12_feed_73 rfl (lv_at hv 0 rfl) ?_
          refine va_get (D := D) (ci := 12) (v := .ref (ad 1)) (C := RX12) (T := TX12) (N := 23) hx hb hts in_12 hown hK hP 0 rfl rfl 0 (by decide) w_1 (fun _ h9 => h9) rfl dX12_feed_74 ?_
          refine lv_iconst (v := (4 : Int32)) hx hb dX12_feed_77 (by decide) ?_
          refine lv_dup2_11 hx hb dX12_feed_78 rfl rfl ?_
          obtain ⟨c_12, h⟩ := ckI_ex h
          refine va_iald (D := D) hx hb hK hP 1 0 rfl rfl c_12 dX12_feed_79 ?_
          refine lv_iconst (v := (1 : Int32)) hx hb dX12_feed_80 (by decide) ?_
          refine lv_iadd hx hb dX12_feed_81 ?_
          obtain ⟨y_13, ey_13, h⟩ := bnd_ex h
          refine lv_nm ey_13 ?_
          obtain ⟨c_14, h⟩ := ckI_ex h
          obtain ⟨d_15, ed_15, h⟩ := bnd_ex h
          refine va_iast (D := D) hx hb hK hP hD hS 1 0 rfl rfl c_14 dX12_feed_82 (fun H locs hP hD hS => ?_)
          rw [← ed_15] at hP hD
          have hP : va_P D vwCl (wM cA ad d_15 kept aside images found_40 base at0 size fault opened isRub names code coded pile needs traced traceMany who bitsOf sizeOf number lifted) H := hP
          have hD : va_D A (wM cA ad d_15 kept aside images found_40 base at0 size fault opened isRub names code coded pile needs traced traceMany who bitsOf sizeOf number lifted) := hD
          obtain ⟨y_16, ey_16, h⟩ := bnd_ex h
          refine lv_iinc (v := y_16) (lv' := [(4, .int y_16), (0, .ref (ad 0)), (1, .long v1_40), (3, .int v3_40)]) hx hb dX12_feed_83 hv (k := 3) rfl (by rw [ey_16]; rfl) (by decide) rfl (fun ls hv => ?_)
          refine lv_goto (tgt := 40) hx hb dX12_feed_86 (by decide) ?_
          cases h
          exact ih y_16 d_15 hl _ _ _ hP hD hS (lv_sub hv [1, 2, 3, 0] rfl)
    exact LB FU v4_40 d_40 ho
  have hP : va_P D vwCl (wM cA ad d kept aside images found base at0 size fault opened isRub names code coded pile needs traced traceMany who bitsOf sizeOf number lifted) H := hP
  unfold fX12_feed at h
  refine lv_iload_n hx hb dX12_feed_0 rfl (lv_at hv 2 rfl) ?_
  refine lv_i2l (v := (n).toInt64) hx hb dX12_feed_1 rfl ?_
  refine lv_lconst (v := (1 : Int64)) hx hb dX12_feed_2 (by decide) ?_
  refine lv_ldc2 (v := (8 : Int64)) hx hb hown w_0 dX12_feed_3 ?_
  obtain ⟨r_1, hf_2, h⟩ := bd_ex h
  have sb := Sb.nil hP hD hS hA
  refine calI (va_runS (As := [.long (n).toInt64, .long (1 : Int64), .long (8 : Int64)]) (rest := []) ⟨hx, hb, hml, hown, hts⟩ (c_X12_in l G D cA  _ ((n).toInt64) (1 : Int64) (8 : Int64) r_1 hf_2) (va_cwS 3 hts gX12_feed_X12_in rfl rfl rfl (by decide +kernel) ⟨Nat.le_of_ble_eq_true rfl, Nat.le_of_ble_eq_true rfl⟩) (pvS hE hK hS sb) rfl rfl hv.1 rfl (lv_room (Nat.le_of_ble_eq_true rfl)) dX12_feed_6 ⟨Nat.le_of_ble_eq_true rfl, Nat.le_of_ble_eq_true rfl⟩) hS sb (Jn.nil hP hD) (fun H locs hP hD hS => ?_)
  have hP : va_P D vwCl (wM cA ad d kept aside images found base at0 size fault opened isRub names code coded pile needs traced traceMany who bitsOf sizeOf number lifted) H := hP
  have hD : va_D A (wM cA ad d kept aside images found base at0 size fault opened isRub names code coded pile needs traced traceMany who bitsOf sizeOf number lifted) := hD
  refine lv_if_ne (tgt := 18) hx hb dX12_feed_9 (by decide) (fun c_3 => ?_) (fun c_3 => ?_)
  · have h := ite_f c_3 h
    refine lv_aload_n hx hb dX12_feed_18 rfl (lv_at hv 0 rfl) ?_
    refine va_get (D := D) (ci := 12) (v := .ref (ad 1)) (C := RX12) (T := TX12) (N := 23) hx hb hts in_12 hown hK hP 0 rfl rfl 0 (by decide) w_1 (fun _ h9 => h9) rfl dX12_feed_19 ?_
    refine lv_iconst (v := (4 : Int32)) hx hb dX12_feed_22 (by decide) ?_
    obtain ⟨c_4, h⟩ := ckI_ex h
    refine va_iald (D := D) hx hb hK hP 1 0 rfl rfl c_4 dX12_feed_23 ?_
    refine lv_iload_n hx hb dX12_feed_24 rfl (lv_at hv 2 rfl) ?_
    refine lv_iadd hx hb dX12_feed_25 ?_
    refine lv_bipush (v := (50 : Int32)) hx hb dX12_feed_26 (by decide) ?_
    refine lv_icmp_le (tgt := 37) hx hb dX12_feed_28 (by decide) (fun c_5 => ?_) (fun c_5 => ?_)
    · have h := ite_t c_5 h
      refine lv_iconst (v := (0 : Int32)) hx hb dX12_feed_37 (by decide) ?_
      refine lv_istore (lv' := [(4, .int (0 : Int32)), (0, .ref (ad 0)), (1, .long word), (3, .int n)]) hx hb dX12_feed_38 hv (by decide) rfl (fun ls hv => ?_)
      exact C_40 word n (0 : Int32) d found h _ _ _ hP hD hS (lv_sub hv [1, 2, 3, 0] rfl)
    · have h := ite_f c_5 h
      refine lv_aload_n hx hb dX12_feed_31 rfl (lv_at hv 0 rfl) ?_
      refine lv_iconst (v := (4 : Int32)) hx hb dX12_feed_32 (by decide) ?_
      obtain ⟨⟨r_17, found_18⟩, hf_19, h⟩ := bd_ex h
      have sb := Sb.same hP hD hS hA
      refine calI (va_runV (As := [.int (4 : Int32)]) (rest := []) ⟨hx, hb, hml, hown, hts⟩ (c_X12_finds l G D cA ad _ d kept aside images found base at0 size fault opened isRub names code coded pile needs traced traceMany who bitsOf sizeOf number lifted (4 : Int32) r_17 found_18 hf_19) (cwV 1 hts gX12_feed_X12_finds rfl rfl rfl (by decide +kernel) ⟨Nat.le_of_ble_eq_true rfl, Nat.le_of_ble_eq_true rfl⟩) (pvV hE hK hS sb (va_recv hK hP (ci := 12) (q0 := 0) rfl rfl)) rfl rfl hv.1 rfl (lv_room (Nat.le_of_ble_eq_true rfl)) dX12_feed_33 ⟨Nat.le_of_ble_eq_true rfl, Nat.le_of_ble_eq_true rfl⟩) hS sb (Jn.same sb) (fun H locs hP hD hS => ?_)
      have hP : va_P D vwCl (wM cA ad d kept aside images found_18 base at0 size fault opened isRub names code coded pile needs traced traceMany who bitsOf sizeOf number lifted) H := hP
      have hD : va_D A (wM cA ad d kept aside images found_18 base at0 size fault opened isRub names code coded pile needs traced traceMany who bitsOf sizeOf number lifted) := hD
      have h := Option.some.inj h
      have ee0 : r_17 = rR := congrArg (fun q => q.1) h
      have ee1 : d = dR := congrArg (fun q => q.2.1) h
      have ee2 : found_18 = foundR := congrArg (fun q => q.2.2) h
      subst ee0
      subst ee1
      subst ee2
      rw [← hQ]
      exact retI hx hb hr hlk hK hP hD hS dX12_feed_36 ⟨Nat.le_of_ble_eq_true rfl, Nat.le_of_ble_eq_true rfl⟩
  · have h := ite_t c_3 h
    refine lv_aload_n hx hb dX12_feed_12 rfl (lv_at hv 0 rfl) ?_
    refine lv_iconst (v := (1 : Int32)) hx hb dX12_feed_13 (by decide) ?_
    obtain ⟨⟨r_20, found_21⟩, hf_22, h⟩ := bd_ex h
    have sb := Sb.same hP hD hS hA
    refine calI (va_runV (As := [.int (1 : Int32)]) (rest := []) ⟨hx, hb, hml, hown, hts⟩ (c_X12_finds l G D cA ad _ d kept aside images found base at0 size fault opened isRub names code coded pile needs traced traceMany who bitsOf sizeOf number lifted (1 : Int32) r_20 found_21 hf_22) (cwV 1 hts gX12_feed_X12_finds rfl rfl rfl (by decide +kernel) ⟨Nat.le_of_ble_eq_true rfl, Nat.le_of_ble_eq_true rfl⟩) (pvV hE hK hS sb (va_recv hK hP (ci := 12) (q0 := 0) rfl rfl)) rfl rfl hv.1 rfl (lv_room (Nat.le_of_ble_eq_true rfl)) dX12_feed_14 ⟨Nat.le_of_ble_eq_true rfl, Nat.le_of_ble_eq_true rfl⟩) hS sb (Jn.same sb) (fun H locs hP hD hS => ?_)
    have hP : va_P D vwCl (wM cA ad d kept aside images found_21 base at0 size fault opened isRub names code coded pile needs traced traceMany who bitsOf sizeOf number lifted) H := hP
    have hD : va_D A (wM cA ad d kept aside images found_21 base at0 size fault opened isRub names code coded pile needs traced traceMany who bitsOf sizeOf number lifted) := hD
    have h := Option.some.inj h
    have ee0 : r_20 = rR := congrArg (fun q => q.1) h
    have ee1 : d = dR := congrArg (fun q => q.2.1) h
    have ee2 : found_21 = foundR := congrArg (fun q => q.2.2) h
    subst ee0
    subst ee1
    subst ee2
    rw [← hQ]
    exact retI hx hb hr hlk hK hP hD hS dX12_feed_17 ⟨Nat.le_of_ble_eq_true rfl, Nat.le_of_ble_eq_true rfl⟩

def fX12_text_70B (v1_70 : Int32) (found_70 : Nat → Int32) (base_70 : Int32) (at0_70 : Int32) (size_70 : Int32) (fault_70 : Int32) (opened_70 : Int32) (isRub_70 : Int32) (code_70 : Nat → Int32) (coded_70 : Int32) (v3_70b : Int32) (d_70b : Nat → Int32) : Option ((Int32 × (Nat → Int32)) ⊕ (Int32 × (Nat → Int32))) :=
  (if coded_70 ≤ v3_70b then some (.inr (v3_70b, d_70b)) else ckI v3_70b 60 (bnd (code_70 (v3_70b).toNatClampNeg) fun y_22 => ckI (((176 : Int32) + ((50 : Int32) * v1_70)) + v3_70b) 326 (bnd (upd d_70b ((((176 : Int32) + ((50 : Int32) * v1_70)) + v3_70b)).toNatClampNeg y_22) fun d_24 => bnd (v3_70b + (1 : Int32)) fun y_25 => some (.inl (y_25, d_24)))))
def fX12_text_70 (v1_70 : Int32) (v3_70 : Int32) (d_70 : Nat → Int32) (found_70 : Nat → Int32) (base_70 : Int32) (at0_70 : Int32) (size_70 : Int32) (fault_70 : Int32) (opened_70 : Int32) (isRub_70 : Int32) (code_70 : Nat → Int32) (coded_70 : Int32) : Option (Int32 × (Nat → Int32) × (Nat → Int32) × Int32 × Int32 × Int32 × Int32 × Int32 × Int32 × (Nat → Int32) × Int32) :=
  bd (lp (fun σ : Int32 × (Nat → Int32) => fX12_text_70B v1_70 found_70 base_70 at0_70 size_70 fault_70 opened_70 isRub_70 code_70 coded_70 (σ.1) (σ.2)) FU (v3_70, d_70)) fun ρ => match ρ with | (v3_70r, d_70r) => some ((1 : Int32), d_70r, found_70, base_70, at0_70, size_70, fault_70, opened_70, isRub_70, code_70, coded_70)
def fX12_text (use : Int32) (d : Nat → Int32) (found : Nat → Int32) (base : Int32) (at0 : Int32) (size : Int32) (fault : Int32) (opened : Int32) (isRub : Int32) (code : Nat → Int32) (coded : Int32) : Option (Int32 × (Nat → Int32) × (Nat → Int32) × Int32 × Int32 × Int32 × Int32 × Int32 × Int32 × (Nat → Int32) × Int32) :=
  bd (fX12_in ((use).toInt64) (0 : Int64) (1 : Int64)) fun r_1 => (if r_1 = 0 then bd (fX12_finds (1 : Int32) found) fun (r_26, found_27) => some (r_26, d, found_27, base, at0, size, fault, opened, isRub, code, coded) else ckI (4 : Int32) 326 (bnd (d ((4 : Int32)).toNatClampNeg) fun y_5 => ckI (4 : Int32) 326 (bnd (upd d ((4 : Int32)).toNatClampNeg (0 : Int32)) fun d_7 => bd (fX12_reads (276 : Int32) y_5 use d_7 base at0 size fault opened isRub code coded) fun (base_8, at0_9, size_10, fault_11, opened_12, isRub_13, code_14, coded_15) => (if fault_11 < 0 then ckI ((154 : Int32) + use) 326 (bnd (upd d_7 (((154 : Int32) + use)).toNatClampNeg coded_15) fun d_19 => fX12_text_70 use (0 : Int32) d_19 found base_8 at0_9 size_10 fault_11 opened_12 isRub_13 code_14 coded_15) else some (((-10 : Int32) - fault_11), d_7, found, base_8, at0_9, size_10, fault_11, opened_12, isRub_13, code_14, coded_15)))))
set_option maxHeartbeats 4000000 in
set_option maxRecDepth 100000 in
theorem c_X12_text (l : Launch) (G : Nat → Nat) (D : va_G) (cA : Nat → ClassId) (ad : Nat → Nat) (sz : Nat) (d : Nat → Int32) (kept : Nat → Int32) (aside : Nat → Int32) (images : Int32) (found : Nat → Int32) (base : Int32) (at0 : Int32) (size : Int32) (fault : Int32) (opened : Int32) (isRub : Int32) (names : Nat → Int32) (code : Nat → Int32) (coded : Int32) (pile : Nat → Int32) (needs : Nat → Int32) (traced : Nat → Int32) (traceMany : Int32) (who : Int32) (bitsOf : Nat → Int32) (sizeOf : Nat → Int32) (number : Nat → Int32) (lifted : Nat → Int32) (use : Int32) (rR : Int32) (dR : Nat → Int32) (foundR : Nat → Int32) (baseR : Int32) (at0R : Int32) (sizeR : Int32) (faultR : Int32) (openedR : Int32) (isRubR : Int32) (codeR : Nat → Int32) (codedR : Int32) (h : fX12_text use d found base at0 size fault opened isRub code coded = some (rR, dR, foundR, baseR, at0R, sizeR, faultR, openedR, isRubR, codeR, codedR)) : Met l yX12_text wsX12_text ({ frames := 63, cells := 0, slots := 0, locals := 1334 } : Room) (PW G D (tyC cA) sz (wM cA ad d kept aside images found base at0 size fault opened isRub names code coded pile needs traced traceMany who bitsOf sizeOf number lifted) [.ref (ad 0), .int use]) (QI D (tyC cA) (va_A (wM cA ad d kept aside images found base at0 size fault opened isRub names code coded pile needs traced traceMany who bitsOf sizeOf number lifted) sz) rR (wM cA ad dR kept aside images foundR baseR at0R sizeR faultR openedR isRubR names codeR codedR pile needs traced traceMany who bitsOf sizeOf number lifted)) 0 0 (va_A (wM cA ad d kept aside images found base at0 size fault opened isRub names code coded pile needs traced traceMany who bitsOf sizeOf number lifted) sz) := by
  refine ent (cc := cX12_text) (maxL := 4) (ret := (some .int)) (fun A => QI D (tyC cA) A rR (wM cA ad dR kept aside images foundR baseR at0R sizeR faultR openedR isRubR names codeR codedR pile needs traced traceMany who bitsOf sizeOf number lifted)) (by decide +kernel) rfl (Nat.le_of_ble_eq_true rfl) ?_
  intro p e s m args below meth c A ls H hx hb hml hr hlk hts hown hA hK hE hP hD hS hv hmm
  have hv : lv_has ls 4 [(0, .ref (ad 0)), (1, .int use)] := hv
  have in_12 : ∀ w ∈ u_ws RX12 TX12 23, w ∈ wsX12_text := fun _ h => List.mem_cons_of_mem _ (List.mem_append_right _ h)
  have w_0 := hts (.fieldLink RX12 7 "SpoonsLastModel" "d" "[I") (List.mem_of_getElem? (i := 1) rfl)
  have w_1 := hts (.fieldLink RX12 65 "SpoonsLastModel" "fault" "I") (List.mem_of_getElem? (i := 2) rfl)
  have w_2 := hts (.fieldLink RX12 79 "SpoonsLastModel" "coded" "I") (List.mem_of_getElem? (i := 3) rfl)
  have w_3 := hts (.fieldLink RX12 25 "SpoonsLastModel" "code" "[I") (List.mem_of_getElem? (i := 4) rfl)
  generalize hQ : MQ below _ args s 0 0 A = Q
  have C_70 : ∀ (v1_70 : Int32) (v3_70 : Int32) (d_70 : Nat → Int32) (found_70 : Nat → Int32) (base_70 : Int32) (at0_70 : Int32) (size_70 : Int32) (fault_70 : Int32) (opened_70 : Int32) (isRub_70 : Int32) (code_70 : Nat → Int32) (coded_70 : Int32), fX12_text_70 v1_70 v3_70 d_70 found_70 base_70 at0_70 size_70 fault_70 opened_70 isRub_70 code_70 coded_70 = some (rR, dR, foundR, baseR, at0R, sizeR, faultR, openedR, isRubR, codeR, codedR) → WW p l e ({ frames := 63, cells := 0, slots := 0, locals := 1334 } : Room) s m args below meth c D A 0 0 Q (wM cA ad d_70 kept aside images found_70 base_70 at0_70 size_70 fault_70 opened_70 isRub_70 names code_70 coded_70 pile needs traced traceMany who bitsOf sizeOf number lifted) 4 [(0, .ref (ad 0)), (1, .int v1_70), (3, .int v3_70)] 70 [] := by
    intro v1_70 v3_70 d_70 found_70 base_70 at0_70 size_70 fault_70 opened_70 isRub_70 code_70 coded_70 h
    unfold fX12_text_70 at h
    obtain ⟨⟨v3_70r, d_70r⟩, ho, h⟩ := bd_ex h
    have LE : WW p l e ({ frames := 63, cells := 0, slots := 0, locals := 1334 } : Room) s m args below meth c D A 0 0 Q (wM cA ad d_70r kept aside images found_70 base_70 at0_70 size_70 fault_70 opened_70 isRub_70 names code_70 coded_70 pile needs traced traceMany who bitsOf sizeOf number lifted) 4 [] 105 [] := by
      intro H locs ls hP hD hS hv
      refine lv_iconst (v := (1 : Int32)) hx hb dX12_text_105 (by decide) ?_
      have h := Option.some.inj h
      have ee0 : (1 : Int32) = rR := congrArg (fun q => q.1) h
      have ee1 : d_70r = dR := congrArg (fun q => q.2.1) h
      have ee2 : found_70 = foundR := congrArg (fun q => q.2.2.1) h
      have ee3 : base_70 = baseR := congrArg (fun q => q.2.2.2.1) h
      have ee4 : at0_70 = at0R := congrArg (fun q => q.2.2.2.2.1) h
      have ee5 : size_70 = sizeR := congrArg (fun q => q.2.2.2.2.2.1) h
      have ee6 : fault_70 = faultR := congrArg (fun q => q.2.2.2.2.2.2.1) h
      have ee7 : opened_70 = openedR := congrArg (fun q => q.2.2.2.2.2.2.2.1) h
      have ee8 : isRub_70 = isRubR := congrArg (fun q => q.2.2.2.2.2.2.2.2.1) h
      have ee9 : code_70 = codeR := congrArg (fun q => q.2.2.2.2.2.2.2.2.2.1) h
      have ee10 : coded_70 = codedR := congrArg (fun q => q.2.2.2.2.2.2.2.2.2.2) h
      subst ee0
      subst ee1
      subst ee2
      subst ee3
      subst ee4
      subst ee5
      subst ee6
      subst ee7
      subst ee8
      subst ee9
      subst ee10
      rw [← hQ]
      exact retI hx hb hr hlk hK hP hD hS dX12_text_106 ⟨Nat.le_of_ble_eq_true rfl, Nat.le_of_ble_eq_true rfl⟩
    have LB : ∀ (nf : Nat) (v3_70b : Int32) (d_70b : Nat → Int32), lp (fun σ : Int32 × (Nat → Int32) => fX12_text_70B v1_70 found_70 base_70 at0_70 size_70 fault_70 opened_70 isRub_70 code_70 coded_70 (σ.1) (σ.2)) nf (v3_70b, d_70b) = some (v3_70r, d_70r) → WW p l e ({ frames := 63, cells := 0, slots := 0, locals := 1334 } : Room) s m args below meth c D A 0 0 Q (wM cA ad d_70b kept aside images found_70 base_70 at0_70 size_70 fault_70 opened_70 isRub_70 names code_70 coded_70 pile needs traced traceMany who bitsOf sizeOf number lifted) 4 [(0, .ref (ad 0)), (1, .int v1_70), (3, .int v3_70b)] 70 [] := by
      intro nf
      induction nf with
      | zero => intro v3_70b d_70b hl; cases hl
      | succ nf ih =>
        intro v3_70b d_70b hl
        obtain ⟨x, h, hl⟩ := lp_ex hl
        have h : fX12_text_70B v1_70 found_70 base_70 at0_70 size_70 fault_70 opened_70 isRub_70 code_70 coded_70 v3_70b d_70b = some x := h
        unfold fX12_text_70B at h
        intro H locs ls hP hD hS hv
        refine lv_iload_n hx hb dX12_text_70 rfl (lv_at hv 2 rfl) ?_
        refine lv_aload_n hx hb dX12_text_71 rfl (lv_at hv 0 rfl) ?_
        refine va_get (D := D) (ci := 12) (v := .int coded_70) (C := RX12) (T := TX12) (N := 23) hx hb hts in_12 hown hK hP 0 rfl rfl 13 (by decide) w_2 (fun _ h9 => h9) rfl dX12_text_72 ?_
        refine lv_icmp_ge (tgt := 105) hx hb dX12_text_75 (by decide) (fun c_20 => ?_) (fun c_20 => ?_)
        · have h := ite_t c_20 h
          cases h
          have hl : some (v3_70b, d_70b) = some (v3_70r, d_70r) := hl
          have hl := Option.some.inj hl
          have ee0 : v3_70b = v3_70r := congrArg (fun q => q.1) hl
          have ee1 : d_70b = d_70r := congrArg (fun q => q.2) hl
          subst ee0
          subst ee1
          exact LE _ _ _ hP hD hS (lv_sub hv [] rfl)
        · have h := ite_f c_20 h
          refine lv_aload_n hx hb dX12_text_78 rfl (lv_at hv 0 rfl) ?_
          refine va_get (D := D) (ci := 12) (v := .ref (ad 1)) (C := RX12) (T := TX12) (N := 23) hx hb hts in_12 hown hK hP 0 rfl rfl 0 (by decide) w_0 (fun _ h9 => h9) rfl dX12_text_79 ?_
          refine lv_sipush (v := (176 : Int32)) hx hb dX12_text_82 (by decide) ?_
          refine lv_bipush (v := (50 : Int32)) hx hb dX12_text_85 (by decide) ?_
          refine lv_iload_n hx hb dX12_text_87 rfl (lv_at hv 1 rfl) ?_
          refine lv_imul hx hb dX12_text_88 ?_
          refine lv_iadd hx hb dX12_text_89 ?_
          refine lv_iload_n hx hb dX12_text_90 rfl (lv_at hv 2 rfl) ?_
          refine lv_iadd hx hb dX12_text_91 ?_
          refine lv_aload_n hx hb dX12_text_92 rfl (lv_at hv 0 rfl) ?_
          refine va_get (D := D) (ci := 12) (v := .ref (ad 13)) (C := RX12) (T := TX12) (N := 23) hx hb hts in_12 hown hK hP 0 rfl rfl 12 (by decide) w_3 (fun _ h9 => h9) rfl dX12_text_93 ?_
          refine lv_iload_n hx hb dX12_text_96 rfl (lv_at hv 2 rfl) ?_
          obtain ⟨c_21, h⟩ := ckI_ex h
          refine va_iald (D := D) hx hb hK hP 6 0 rfl rfl c_21 dX12_text_97 ?_
          obtain ⟨y_22, ey_22, h⟩ := bnd_ex h
          refine lv_nm ey_22 ?_
          obtain ⟨c_23, h⟩ := ckI_ex h
          obtain ⟨d_24, ed_24, h⟩ := bnd_ex h
          refine va_iast (D := D) hx hb hK hP hD hS 1 0 rfl rfl c_23 dX12_text_98 (fun H locs hP hD hS => ?_)
          rw [← ed_24] at hP hD
          have hP : va_P D vwCl (wM cA ad d_24 kept aside images found_70 base_70 at0_70 size_70 fault_70 opened_70 isRub_70 names code_70 coded_70 pile needs traced traceMany who bitsOf sizeOf number lifted) H := hP
          have hD : va_D A (wM cA ad d_24 kept aside images found_70 base_70 at0_70 size_70 fault_70 opened_70 isRub_70 names code_70 coded_70 pile needs traced traceMany who bitsOf sizeOf number lifted) := hD
          obtain ⟨y_25, ey_25, h⟩ := bnd_ex h
          refine lv_iinc (v := y_25) (lv' := [(3, .int y_25), (0, .ref (ad 0)), (1, .int v1_70)]) hx hb dX12_text_99 hv (k := 2) rfl (by rw [ey_25]; rfl) (by decide) rfl (fun ls hv => ?_)
          refine lv_goto (tgt := 70) hx hb dX12_text_102 (by decide) ?_
          cases h
          exact ih y_25 d_24 hl _ _ _ hP hD hS (lv_sub hv [1, 2, 0] rfl)
    exact LB FU v3_70 d_70 ho
  have hP : va_P D vwCl (wM cA ad d kept aside images found base at0 size fault opened isRub names code coded pile needs traced traceMany who bitsOf sizeOf number lifted) H := hP
  unfold fX12_text at h
  refine lv_iload_n hx hb dX12_text_0 rfl (lv_at hv 1 rfl) ?_
  refine lv_i2l (v := (use).toInt64) hx hb dX12_text_1 rfl ?_
  refine lv_lconst (v := (0 : Int64)) hx hb dX12_text_2 (by decide) ?_
  refine lv_lconst (v := (1 : Int64)) hx hb dX12_text_3 (by decide) ?_
  obtain ⟨r_1, hf_2, h⟩ := bd_ex h
  have sb := Sb.nil hP hD hS hA
  refine calI (va_runS (As := [.long (use).toInt64, .long (0 : Int64), .long (1 : Int64)]) (rest := []) ⟨hx, hb, hml, hown, hts⟩ (c_X12_in l G D cA  _ ((use).toInt64) (0 : Int64) (1 : Int64) r_1 hf_2) (va_cwS 3 hts gX12_text_X12_in rfl rfl rfl (by decide +kernel) ⟨Nat.le_of_ble_eq_true rfl, Nat.le_of_ble_eq_true rfl⟩) (pvS hE hK hS sb) rfl rfl hv.1 rfl (lv_room (Nat.le_of_ble_eq_true rfl)) dX12_text_4 ⟨Nat.le_of_ble_eq_true rfl, Nat.le_of_ble_eq_true rfl⟩) hS sb (Jn.nil hP hD) (fun H locs hP hD hS => ?_)
  have hP : va_P D vwCl (wM cA ad d kept aside images found base at0 size fault opened isRub names code coded pile needs traced traceMany who bitsOf sizeOf number lifted) H := hP
  have hD : va_D A (wM cA ad d kept aside images found base at0 size fault opened isRub names code coded pile needs traced traceMany who bitsOf sizeOf number lifted) := hD
  refine lv_if_ne (tgt := 16) hx hb dX12_text_7 (by decide) (fun c_3 => ?_) (fun c_3 => ?_)
  · have h := ite_f c_3 h
    refine lv_aload_n hx hb dX12_text_16 rfl (lv_at hv 0 rfl) ?_
    refine va_get (D := D) (ci := 12) (v := .ref (ad 1)) (C := RX12) (T := TX12) (N := 23) hx hb hts in_12 hown hK hP 0 rfl rfl 0 (by decide) w_0 (fun _ h9 => h9) rfl dX12_text_17 ?_
    refine lv_iconst (v := (4 : Int32)) hx hb dX12_text_20 (by decide) ?_
    obtain ⟨c_4, h⟩ := ckI_ex h
    refine va_iald (D := D) hx hb hK hP 1 0 rfl rfl c_4 dX12_text_21 ?_
    obtain ⟨y_5, ey_5, h⟩ := bnd_ex h
    refine lv_nm ey_5 ?_
    refine lv_istore_n (lv' := [(2, .int y_5), (0, .ref (ad 0)), (1, .int use)]) hx hb dX12_text_22 rfl hv (by decide) rfl (fun ls hv => ?_)
    refine lv_aload_n hx hb dX12_text_23 rfl (lv_at hv 1 rfl) ?_
    refine va_get (D := D) (ci := 12) (v := .ref (ad 1)) (C := RX12) (T := TX12) (N := 23) hx hb hts in_12 hown hK hP 0 rfl rfl 0 (by decide) w_0 (fun _ h9 => h9) rfl dX12_text_24 ?_
    refine lv_iconst (v := (4 : Int32)) hx hb dX12_text_27 (by decide) ?_
    refine lv_iconst (v := (0 : Int32)) hx hb dX12_text_28 (by decide) ?_
    obtain ⟨c_6, h⟩ := ckI_ex h
    obtain ⟨d_7, ed_7, h⟩ := bnd_ex h
    refine va_iast (D := D) hx hb hK hP hD hS 1 0 rfl rfl c_6 dX12_text_29 (fun H locs hP hD hS => ?_)
    rw [← ed_7] at hP hD
    have hP : va_P D vwCl (wM cA ad d_7 kept aside images found base at0 size fault opened isRub names code coded pile needs traced traceMany who bitsOf sizeOf number lifted) H := hP
    have hD : va_D A (wM cA ad d_7 kept aside images found base at0 size fault opened isRub names code coded pile needs traced traceMany who bitsOf sizeOf number lifted) := hD
    refine lv_aload_n hx hb dX12_text_30 rfl (lv_at hv 1 rfl) ?_
    refine lv_sipush (v := (276 : Int32)) hx hb dX12_text_31 (by decide) ?_
    refine lv_iload_n hx hb dX12_text_34 rfl (lv_at hv 0 rfl) ?_
    refine lv_iload_n hx hb dX12_text_35 rfl (lv_at hv 2 rfl) ?_
    obtain ⟨⟨base_8, at0_9, size_10, fault_11, opened_12, isRub_13, code_14, coded_15⟩, hf_16, h⟩ := bd_ex h
    have sb := Sb.same hP hD hS hA
    refine calV (va_runV (As := [.int (276 : Int32), .int y_5, .int use]) (rest := []) ⟨hx, hb, hml, hown, hts⟩ (c_X12_reads l G D cA ad _ d_7 kept aside images found base at0 size fault opened isRub names code coded pile needs traced traceMany who bitsOf sizeOf number lifted (276 : Int32) y_5 use base_8 at0_9 size_10 fault_11 opened_12 isRub_13 code_14 coded_15 hf_16) (cwV 3 hts gX12_text_X12_reads rfl rfl rfl (by decide +kernel) ⟨Nat.le_of_ble_eq_true rfl, Nat.le_of_ble_eq_true rfl⟩) (pvV hE hK hS sb (va_recv hK hP (ci := 12) (q0 := 0) rfl rfl)) rfl rfl hv.1 rfl (lv_room (Nat.le_of_ble_eq_true rfl)) dX12_text_36 ⟨Nat.le_of_ble_eq_true rfl, Nat.le_of_ble_eq_true rfl⟩) hS sb (Jn.same sb) (fun H locs hP hD hS => ?_)
    have hP : va_P D vwCl (wM cA ad d_7 kept aside images found base_8 at0_9 size_10 fault_11 opened_12 isRub_13 names code_14 coded_15 pile needs traced traceMany who bitsOf sizeOf number lifted) H := hP
    have hD : va_D A (wM cA ad d_7 kept aside images found base_8 at0_9 size_10 fault_11 opened_12 isRub_13 names code_14 coded_15 pile needs traced traceMany who bitsOf sizeOf number lifted) := hD
    refine lv_aload_n hx hb dX12_text_39 rfl (lv_at hv 1 rfl) ?_
    refine va_get (D := D) (ci := 12) (v := .int fault_11) (C := RX12) (T := TX12) (N := 23) hx hb hts in_12 hown hK hP 0 rfl rfl 8 (by decide) w_1 (fun _ h9 => h9) rfl dX12_text_40 ?_
    refine lv_if_lt (tgt := 54) hx hb dX12_text_43 (by decide) (fun c_17 => ?_) (fun c_17 => ?_)
    · have h := ite_t c_17 h
      refine lv_aload_n hx hb dX12_text_54 rfl (lv_at hv 1 rfl) ?_
      refine va_get (D := D) (ci := 12) (v := .ref (ad 1)) (C := RX12) (T := TX12) (N := 23) hx hb hts in_12 hown hK hP 0 rfl rfl 0 (by decide) w_0 (fun _ h9 => h9) rfl dX12_text_55 ?_
      refine lv_sipush (v := (154 : Int32)) hx hb dX12_text_58 (by decide) ?_
      refine lv_iload_n hx hb dX12_text_61 rfl (lv_at hv 2 rfl) ?_
      refine lv_iadd hx hb dX12_text_62 ?_
      refine lv_aload_n hx hb dX12_text_63 rfl (lv_at hv 1 rfl) ?_
      refine va_get (D := D) (ci := 12) (v := .int coded_15) (C := RX12) (T := TX12) (N := 23) hx hb hts in_12 hown hK hP 0 rfl rfl 13 (by decide) w_2 (fun _ h9 => h9) rfl dX12_text_64 ?_
      obtain ⟨c_18, h⟩ := ckI_ex h
      obtain ⟨d_19, ed_19, h⟩ := bnd_ex h
      refine va_iast (D := D) hx hb hK hP hD hS 1 0 rfl rfl c_18 dX12_text_67 (fun H locs hP hD hS => ?_)
      rw [← ed_19] at hP hD
      have hP : va_P D vwCl (wM cA ad d_19 kept aside images found base_8 at0_9 size_10 fault_11 opened_12 isRub_13 names code_14 coded_15 pile needs traced traceMany who bitsOf sizeOf number lifted) H := hP
      have hD : va_D A (wM cA ad d_19 kept aside images found base_8 at0_9 size_10 fault_11 opened_12 isRub_13 names code_14 coded_15 pile needs traced traceMany who bitsOf sizeOf number lifted) := hD
      refine lv_iconst (v := (0 : Int32)) hx hb dX12_text_68 (by decide) ?_
      refine lv_istore_n (lv' := [(3, .int (0 : Int32)), (2, .int y_5), (0, .ref (ad 0)), (1, .int use)]) hx hb dX12_text_69 rfl hv (by decide) rfl (fun ls hv => ?_)
      exact C_70 use (0 : Int32) d_19 found base_8 at0_9 size_10 fault_11 opened_12 isRub_13 code_14 coded_15 h _ _ _ hP hD hS (lv_sub hv [2, 3, 0] rfl)
    · have h := ite_f c_17 h
      refine lv_bipush (v := (-10 : Int32)) hx hb dX12_text_46 (by decide) ?_
      refine lv_aload_n hx hb dX12_text_48 rfl (lv_at hv 1 rfl) ?_
      refine va_get (D := D) (ci := 12) (v := .int fault_11) (C := RX12) (T := TX12) (N := 23) hx hb hts in_12 hown hK hP 0 rfl rfl 8 (by decide) w_1 (fun _ h9 => h9) rfl dX12_text_49 ?_
      refine lv_isub hx hb dX12_text_52 ?_
      have h := Option.some.inj h
      have ee0 : ((-10 : Int32) - fault_11) = rR := congrArg (fun q => q.1) h
      have ee1 : d_7 = dR := congrArg (fun q => q.2.1) h
      have ee2 : found = foundR := congrArg (fun q => q.2.2.1) h
      have ee3 : base_8 = baseR := congrArg (fun q => q.2.2.2.1) h
      have ee4 : at0_9 = at0R := congrArg (fun q => q.2.2.2.2.1) h
      have ee5 : size_10 = sizeR := congrArg (fun q => q.2.2.2.2.2.1) h
      have ee6 : fault_11 = faultR := congrArg (fun q => q.2.2.2.2.2.2.1) h
      have ee7 : opened_12 = openedR := congrArg (fun q => q.2.2.2.2.2.2.2.1) h
      have ee8 : isRub_13 = isRubR := congrArg (fun q => q.2.2.2.2.2.2.2.2.1) h
      have ee9 : code_14 = codeR := congrArg (fun q => q.2.2.2.2.2.2.2.2.2.1) h
      have ee10 : coded_15 = codedR := congrArg (fun q => q.2.2.2.2.2.2.2.2.2.2) h
      subst ee0
      subst ee1
      subst ee2
      subst ee3
      subst ee4
      subst ee5
      subst ee6
      subst ee7
      subst ee8
      subst ee9
      subst ee10
      rw [← hQ]
      exact retI hx hb hr hlk hK hP hD hS dX12_text_53 ⟨Nat.le_of_ble_eq_true rfl, Nat.le_of_ble_eq_true rfl⟩
  · have h := ite_t c_3 h
    refine lv_aload_n hx hb dX12_text_10 rfl (lv_at hv 0 rfl) ?_
    refine lv_iconst (v := (1 : Int32)) hx hb dX12_text_11 (by decide) ?_
    obtain ⟨⟨r_26, found_27⟩, hf_28, h⟩ := bd_ex h
    have sb := Sb.same hP hD hS hA
    refine calI (va_runV (As := [.int (1 : Int32)]) (rest := []) ⟨hx, hb, hml, hown, hts⟩ (c_X12_finds l G D cA ad _ d kept aside images found base at0 size fault opened isRub names code coded pile needs traced traceMany who bitsOf sizeOf number lifted (1 : Int32) r_26 found_27 hf_28) (cwV 1 hts gX12_text_X12_finds rfl rfl rfl (by decide +kernel) ⟨Nat.le_of_ble_eq_true rfl, Nat.le_of_ble_eq_true rfl⟩) (pvV hE hK hS sb (va_recv hK hP (ci := 12) (q0 := 0) rfl rfl)) rfl rfl hv.1 rfl (lv_room (Nat.le_of_ble_eq_true rfl)) dX12_text_12 ⟨Nat.le_of_ble_eq_true rfl, Nat.le_of_ble_eq_true rfl⟩) hS sb (Jn.same sb) (fun H locs hP hD hS => ?_)
    have hP : va_P D vwCl (wM cA ad d kept aside images found_27 base at0 size fault opened isRub names code coded pile needs traced traceMany who bitsOf sizeOf number lifted) H := hP
    have hD : va_D A (wM cA ad d kept aside images found_27 base at0 size fault opened isRub names code coded pile needs traced traceMany who bitsOf sizeOf number lifted) := hD
    have h := Option.some.inj h
    have ee0 : r_26 = rR := congrArg (fun q => q.1) h
    have ee1 : d = dR := congrArg (fun q => q.2.1) h
    have ee2 : found_27 = foundR := congrArg (fun q => q.2.2.1) h
    have ee3 : base = baseR := congrArg (fun q => q.2.2.2.1) h
    have ee4 : at0 = at0R := congrArg (fun q => q.2.2.2.2.1) h
    have ee5 : size = sizeR := congrArg (fun q => q.2.2.2.2.2.1) h
    have ee6 : fault = faultR := congrArg (fun q => q.2.2.2.2.2.2.1) h
    have ee7 : opened = openedR := congrArg (fun q => q.2.2.2.2.2.2.2.1) h
    have ee8 : isRub = isRubR := congrArg (fun q => q.2.2.2.2.2.2.2.2.1) h
    have ee9 : code = codeR := congrArg (fun q => q.2.2.2.2.2.2.2.2.2.1) h
    have ee10 : coded = codedR := congrArg (fun q => q.2.2.2.2.2.2.2.2.2.2) h
    subst ee0
    subst ee1
    subst ee2
    subst ee3
    subst ee4
    subst ee5
    subst ee6
    subst ee7
    subst ee8
    subst ee9
    subst ee10
    rw [← hQ]
    exact retI hx hb hr hlk hK hP hD hS dX12_text_15 ⟨Nat.le_of_ble_eq_true rfl, Nat.le_of_ble_eq_true rfl⟩

def fX12_textGives_62 (v1_62 : Int32) (v5_62 : Int32) (d : Nat → Int32) (names_62 : Nat → Int32) (pile_62 : Nat → Int32) : Option (Int32 × (Nat → Int32) × (Nat → Int32)) :=
  (if v1_62 = 0 then bd (fX12_held v5_62 (0 : Int32) (9 : Int32)) fun r_6 => some (r_6, names_62, pile_62) else bd (fX12_held v5_62 (0 : Int32) (20 : Int32)) fun r_4 => some (r_4, names_62, pile_62))
def fX12_textGives (use : Int32) (a : Int32) (b : Int32) (k : Int32) (d : Nat → Int32) (names : Nat → Int32) (pile : Nat → Int32) : Option (Int32 × (Nat → Int32) × (Nat → Int32)) :=
  ckI ((154 : Int32) + use) 326 ((if (d (((154 : Int32) + use)).toNatClampNeg) ≤ 0 then fX12_textGives_62 use a d names pile else ckI (0 : Int32) 3 (bnd (upd names ((0 : Int32)).toNatClampNeg a) fun names_9 => ckI (1 : Int32) 3 (bnd (upd names_9 ((1 : Int32)).toNatClampNeg b) fun names_11 => ckI (2 : Int32) 3 (bnd (upd names_11 ((2 : Int32)).toNatClampNeg k) fun names_13 => ckI ((154 : Int32) + use) 326 (bd (fX12_worked ((176 : Int32) + ((50 : Int32) * use)) (d (((154 : Int32) + use)).toNatClampNeg) d names_13 pile) fun (r_15, pile_16) => fX12_textGives_62 use r_15 d names_13 pile_16))))))
set_option maxHeartbeats 4000000 in
set_option maxRecDepth 100000 in
theorem c_X12_textGives (l : Launch) (G : Nat → Nat) (D : va_G) (cA : Nat → ClassId) (ad : Nat → Nat) (sz : Nat) (d : Nat → Int32) (kept : Nat → Int32) (aside : Nat → Int32) (images : Int32) (found : Nat → Int32) (base : Int32) (at0 : Int32) (size : Int32) (fault : Int32) (opened : Int32) (isRub : Int32) (names : Nat → Int32) (code : Nat → Int32) (coded : Int32) (pile : Nat → Int32) (needs : Nat → Int32) (traced : Nat → Int32) (traceMany : Int32) (who : Int32) (bitsOf : Nat → Int32) (sizeOf : Nat → Int32) (number : Nat → Int32) (lifted : Nat → Int32) (use : Int32) (a : Int32) (b : Int32) (k : Int32) (rR : Int32) (namesR : Nat → Int32) (pileR : Nat → Int32) (h : fX12_textGives use a b k d names pile = some (rR, namesR, pileR)) : Met l yX12_textGives wsX12_textGives ({ frames := 2, cells := 0, slots := 0, locals := 47 } : Room) (PW G D (tyC cA) sz (wM cA ad d kept aside images found base at0 size fault opened isRub names code coded pile needs traced traceMany who bitsOf sizeOf number lifted) [.ref (ad 0), .int use, .int a, .int b, .int k]) (QI D (tyC cA) (va_A (wM cA ad d kept aside images found base at0 size fault opened isRub names code coded pile needs traced traceMany who bitsOf sizeOf number lifted) sz) rR (wM cA ad d kept aside images found base at0 size fault opened isRub namesR code coded pileR needs traced traceMany who bitsOf sizeOf number lifted)) 0 0 (va_A (wM cA ad d kept aside images found base at0 size fault opened isRub names code coded pile needs traced traceMany who bitsOf sizeOf number lifted) sz) := by
  refine ent (cc := cX12_textGives) (maxL := 6) (ret := (some .int)) (fun A => QI D (tyC cA) A rR (wM cA ad d kept aside images found base at0 size fault opened isRub namesR code coded pileR needs traced traceMany who bitsOf sizeOf number lifted)) (by decide +kernel) rfl (Nat.le_of_ble_eq_true rfl) ?_
  intro p e s m args below meth c A ls H hx hb hml hr hlk hts hown hA hK hE hP hD hS hv hmm
  have hv : lv_has ls 6 [(0, .ref (ad 0)), (1, .int use), (2, .int a), (3, .int b), (4, .int k)] := hv
  have in_12 : ∀ w ∈ u_ws RX12 TX12 23, w ∈ wsX12_textGives := fun _ h => List.mem_cons_of_mem _ (List.mem_append_right _ h)
  have w_0 := hts (.fieldLink RX12 7 "SpoonsLastModel" "d" "[I") (List.mem_of_getElem? (i := 1) rfl)
  have w_1 := hts (.fieldLink RX12 22 "SpoonsLastModel" "names" "[I") (List.mem_of_getElem? (i := 2) rfl)
  generalize hQ : MQ below _ args s 0 0 A = Q
  have C_62 : ∀ (v1_62 : Int32) (v5_62 : Int32) (names_62 : Nat → Int32) (pile_62 : Nat → Int32), fX12_textGives_62 v1_62 v5_62 d names_62 pile_62 = some (rR, namesR, pileR) → WW p l e ({ frames := 2, cells := 0, slots := 0, locals := 47 } : Room) s m args below meth c D A 0 0 Q (wM cA ad d kept aside images found base at0 size fault opened isRub names_62 code coded pile_62 needs traced traceMany who bitsOf sizeOf number lifted) 6 [(1, .int v1_62), (5, .int v5_62)] 62 [] := by
    intro v1_62 v5_62 names_62 pile_62 h
    unfold fX12_textGives_62 at h
    intro H locs ls hP hD hS hv
    refine lv_iload hx hb dX12_textGives_62 (lv_at hv 1 rfl) ?_
    refine lv_iconst (v := (0 : Int32)) hx hb dX12_textGives_64 (by decide) ?_
    refine lv_iload_n hx hb dX12_textGives_65 rfl (lv_at hv 0 rfl) ?_
    refine lv_if_ne (tgt := 74) hx hb dX12_textGives_66 (by decide) (fun c_3 => ?_) (fun c_3 => ?_)
    · have h := ite_f c_3 h
      refine lv_bipush (v := (20 : Int32)) hx hb dX12_textGives_74 (by decide) ?_
      obtain ⟨r_4, hf_5, h⟩ := bd_ex h
      have sb := Sb.nil hP hD hS hA
      refine calI (va_runS (As := [.int v5_62, .int (0 : Int32), .int (20 : Int32)]) (rest := []) ⟨hx, hb, hml, hown, hts⟩ (c_X12_held l G D cA  _ v5_62 (0 : Int32) (20 : Int32) r_4 hf_5) (va_cwS 3 hts gX12_textGives_X12_held rfl rfl rfl (by decide +kernel) ⟨Nat.le_of_ble_eq_true rfl, Nat.le_of_ble_eq_true rfl⟩) (pvS hE hK hS sb) rfl rfl hv.1 rfl (lv_room (Nat.le_of_ble_eq_true rfl)) dX12_textGives_76 ⟨Nat.le_of_ble_eq_true rfl, Nat.le_of_ble_eq_true rfl⟩) hS sb (Jn.nil hP hD) (fun H locs hP hD hS => ?_)
      have hP : va_P D vwCl (wM cA ad d kept aside images found base at0 size fault opened isRub names_62 code coded pile_62 needs traced traceMany who bitsOf sizeOf number lifted) H := hP
      have hD : va_D A (wM cA ad d kept aside images found base at0 size fault opened isRub names_62 code coded pile_62 needs traced traceMany who bitsOf sizeOf number lifted) := hD
      have h := Option.some.inj h
      have ee0 : r_4 = rR := congrArg (fun q => q.1) h
      have ee1 : names_62 = namesR := congrArg (fun q => q.2.1) h
      have ee2 : pile_62 = pileR := congrArg (fun q => q.2.2) h
      subst ee0
      subst ee1
      subst ee2
      rw [← hQ]
      exact retI hx hb hr hlk hK hP hD hS dX12_textGives_79 ⟨Nat.le_of_ble_eq_true rfl, Nat.le_of_ble_eq_true rfl⟩
    · have h := ite_t c_3 h
      refine lv_bipush (v := (9 : Int32)) hx hb dX12_textGives_69 (by decide) ?_
      refine lv_goto (tgt := 76) hx hb dX12_textGives_71 (by decide) ?_
      obtain ⟨r_6, hf_7, h⟩ := bd_ex h
      have sb := Sb.nil hP hD hS hA
      refine calI (va_runS (As := [.int v5_62, .int (0 : Int32), .int (9 : Int32)]) (rest := []) ⟨hx, hb, hml, hown, hts⟩ (c_X12_held l G D cA  _ v5_62 (0 : Int32) (9 : Int32) r_6 hf_7) (va_cwS 3 hts gX12_textGives_X12_held rfl rfl rfl (by decide +kernel) ⟨Nat.le_of_ble_eq_true rfl, Nat.le_of_ble_eq_true rfl⟩) (pvS hE hK hS sb) rfl rfl hv.1 rfl (lv_room (Nat.le_of_ble_eq_true rfl)) dX12_textGives_76 ⟨Nat.le_of_ble_eq_true rfl, Nat.le_of_ble_eq_true rfl⟩) hS sb (Jn.nil hP hD) (fun H locs hP hD hS => ?_)
      have hP : va_P D vwCl (wM cA ad d kept aside images found base at0 size fault opened isRub names_62 code coded pile_62 needs traced traceMany who bitsOf sizeOf number lifted) H := hP
      have hD : va_D A (wM cA ad d kept aside images found base at0 size fault opened isRub names_62 code coded pile_62 needs traced traceMany who bitsOf sizeOf number lifted) := hD
      have h := Option.some.inj h
      have ee0 : r_6 = rR := congrArg (fun q => q.1) h
      have ee1 : names_62 = namesR := congrArg (fun q => q.2.1) h
      have ee2 : pile_62 = pileR := congrArg (fun q => q.2.2) h
      subst ee0
      subst ee1
      subst ee2
      rw [← hQ]
      exact retI hx hb hr hlk hK hP hD hS dX12_textGives_79 ⟨Nat.le_of_ble_eq_true rfl, Nat.le_of_ble_eq_true rfl⟩
  have hP : va_P D vwCl (wM cA ad d kept aside images found base at0 size fault opened isRub names code coded pile needs traced traceMany who bitsOf sizeOf number lifted) H := hP
  unfold fX12_textGives at h
  refine lv_iload_n hx hb dX12_textGives_0 rfl (lv_at hv 2 rfl) ?_
  refine lv_istore (lv' := [(5, .int a), (0, .ref (ad 0)), (1, .int use), (2, .int a), (3, .int b), (4, .int k)]) hx hb dX12_textGives_1 hv (by decide) rfl (fun ls hv => ?_)
  refine lv_aload_n hx hb dX12_textGives_3 rfl (lv_at hv 1 rfl) ?_
  refine va_get (D := D) (ci := 12) (v := .ref (ad 1)) (C := RX12) (T := TX12) (N := 23) hx hb hts in_12 hown hK hP 0 rfl rfl 0 (by decide) w_0 (fun _ h9 => h9) rfl dX12_textGives_4 ?_
  refine lv_sipush (v := (154 : Int32)) hx hb dX12_textGives_7 (by decide) ?_
  refine lv_iload_n hx hb dX12_textGives_10 rfl (lv_at hv 2 rfl) ?_
  refine lv_iadd hx hb dX12_textGives_11 ?_
  obtain ⟨c_1, h⟩ := ckI_ex h
  refine va_iald (D := D) hx hb hK hP 1 0 rfl rfl c_1 dX12_textGives_12 ?_
  refine lv_if_le (tgt := 62) hx hb dX12_textGives_13 (by decide) (fun c_2 => ?_) (fun c_2 => ?_)
  · have h := ite_t c_2 h
    exact C_62 use a names pile h _ _ _ hP hD hS (lv_sub hv [2, 0] rfl)
  · have h := ite_f c_2 h
    refine lv_aload_n hx hb dX12_textGives_16 rfl (lv_at hv 1 rfl) ?_
    refine va_get (D := D) (ci := 12) (v := .ref (ad 12)) (C := RX12) (T := TX12) (N := 23) hx hb hts in_12 hown hK hP 0 rfl rfl 11 (by decide) w_1 (fun _ h9 => h9) rfl dX12_textGives_17 ?_
    refine lv_iconst (v := (0 : Int32)) hx hb dX12_textGives_20 (by decide) ?_
    refine lv_iload_n hx hb dX12_textGives_21 rfl (lv_at hv 3 rfl) ?_
    obtain ⟨c_8, h⟩ := ckI_ex h
    obtain ⟨names_9, enames_9, h⟩ := bnd_ex h
    refine va_iast (D := D) hx hb hK hP hD hS 5 0 rfl rfl c_8 dX12_textGives_22 (fun H locs hP hD hS => ?_)
    rw [← enames_9] at hP hD
    have hP : va_P D vwCl (wM cA ad d kept aside images found base at0 size fault opened isRub names_9 code coded pile needs traced traceMany who bitsOf sizeOf number lifted) H := hP
    have hD : va_D A (wM cA ad d kept aside images found base at0 size fault opened isRub names_9 code coded pile needs traced traceMany who bitsOf sizeOf number lifted) := hD
    refine lv_aload_n hx hb dX12_textGives_23 rfl (lv_at hv 1 rfl) ?_
    refine va_get (D := D) (ci := 12) (v := .ref (ad 12)) (C := RX12) (T := TX12) (N := 23) hx hb hts in_12 hown hK hP 0 rfl rfl 11 (by decide) w_1 (fun _ h9 => h9) rfl dX12_textGives_24 ?_
    refine lv_iconst (v := (1 : Int32)) hx hb dX12_textGives_27 (by decide) ?_
    refine lv_iload_n hx hb dX12_textGives_28 rfl (lv_at hv 4 rfl) ?_
    obtain ⟨c_10, h⟩ := ckI_ex h
    obtain ⟨names_11, enames_11, h⟩ := bnd_ex h
    refine va_iast (D := D) hx hb hK hP hD hS 5 0 rfl rfl c_10 dX12_textGives_29 (fun H locs hP hD hS => ?_)
    rw [← enames_11] at hP hD
    have hP : va_P D vwCl (wM cA ad d kept aside images found base at0 size fault opened isRub names_11 code coded pile needs traced traceMany who bitsOf sizeOf number lifted) H := hP
    have hD : va_D A (wM cA ad d kept aside images found base at0 size fault opened isRub names_11 code coded pile needs traced traceMany who bitsOf sizeOf number lifted) := hD
    refine lv_aload_n hx hb dX12_textGives_30 rfl (lv_at hv 1 rfl) ?_
    refine va_get (D := D) (ci := 12) (v := .ref (ad 12)) (C := RX12) (T := TX12) (N := 23) hx hb hts in_12 hown hK hP 0 rfl rfl 11 (by decide) w_1 (fun _ h9 => h9) rfl dX12_textGives_31 ?_
    refine lv_iconst (v := (2 : Int32)) hx hb dX12_textGives_34 (by decide) ?_
    refine lv_iload hx hb dX12_textGives_35 (lv_at hv 5 rfl) ?_
    obtain ⟨c_12, h⟩ := ckI_ex h
    obtain ⟨names_13, enames_13, h⟩ := bnd_ex h
    refine va_iast (D := D) hx hb hK hP hD hS 5 0 rfl rfl c_12 dX12_textGives_37 (fun H locs hP hD hS => ?_)
    rw [← enames_13] at hP hD
    have hP : va_P D vwCl (wM cA ad d kept aside images found base at0 size fault opened isRub names_13 code coded pile needs traced traceMany who bitsOf sizeOf number lifted) H := hP
    have hD : va_D A (wM cA ad d kept aside images found base at0 size fault opened isRub names_13 code coded pile needs traced traceMany who bitsOf sizeOf number lifted) := hD
    refine lv_aload_n hx hb dX12_textGives_38 rfl (lv_at hv 1 rfl) ?_
    refine lv_sipush (v := (176 : Int32)) hx hb dX12_textGives_39 (by decide) ?_
    refine lv_bipush (v := (50 : Int32)) hx hb dX12_textGives_42 (by decide) ?_
    refine lv_iload_n hx hb dX12_textGives_44 rfl (lv_at hv 2 rfl) ?_
    refine lv_imul hx hb dX12_textGives_45 ?_
    refine lv_iadd hx hb dX12_textGives_46 ?_
    refine lv_aload_n hx hb dX12_textGives_47 rfl (lv_at hv 1 rfl) ?_
    refine va_get (D := D) (ci := 12) (v := .ref (ad 1)) (C := RX12) (T := TX12) (N := 23) hx hb hts in_12 hown hK hP 0 rfl rfl 0 (by decide) w_0 (fun _ h9 => h9) rfl dX12_textGives_48 ?_
    refine lv_sipush (v := (154 : Int32)) hx hb dX12_textGives_51 (by decide) ?_
    refine lv_iload_n hx hb dX12_textGives_54 rfl (lv_at hv 2 rfl) ?_
    refine lv_iadd hx hb dX12_textGives_55 ?_
    obtain ⟨c_14, h⟩ := ckI_ex h
    refine va_iald (D := D) hx hb hK hP 1 0 rfl rfl c_14 dX12_textGives_56 ?_
    obtain ⟨⟨r_15, pile_16⟩, hf_17, h⟩ := bd_ex h
    have sb := Sb.same hP hD hS hA
    refine calI (va_runV (As := [.int ((176 : Int32) + ((50 : Int32) * use)), .int (d (((154 : Int32) + use)).toNatClampNeg)]) (rest := []) ⟨hx, hb, hml, hown, hts⟩ (c_X12_worked l G D cA ad _ d kept aside images found base at0 size fault opened isRub names_13 code coded pile needs traced traceMany who bitsOf sizeOf number lifted ((176 : Int32) + ((50 : Int32) * use)) (d (((154 : Int32) + use)).toNatClampNeg) r_15 pile_16 hf_17) (cwV 2 hts gX12_textGives_X12_worked rfl rfl rfl (by decide +kernel) ⟨Nat.le_of_ble_eq_true rfl, Nat.le_of_ble_eq_true rfl⟩) (pvV hE hK hS sb (va_recv hK hP (ci := 12) (q0 := 0) rfl rfl)) rfl rfl hv.1 rfl (lv_room (Nat.le_of_ble_eq_true rfl)) dX12_textGives_57 ⟨Nat.le_of_ble_eq_true rfl, Nat.le_of_ble_eq_true rfl⟩) hS sb (Jn.same sb) (fun H locs hP hD hS => ?_)
    have hP : va_P D vwCl (wM cA ad d kept aside images found base at0 size fault opened isRub names_13 code coded pile_16 needs traced traceMany who bitsOf sizeOf number lifted) H := hP
    have hD : va_D A (wM cA ad d kept aside images found base at0 size fault opened isRub names_13 code coded pile_16 needs traced traceMany who bitsOf sizeOf number lifted) := hD
    refine lv_istore (lv' := [(5, .int r_15), (0, .ref (ad 0)), (1, .int use), (2, .int a), (3, .int b), (4, .int k)]) hx hb dX12_textGives_60 hv (by decide) rfl (fun ls hv => ?_)
    exact C_62 use r_15 names_13 pile_16 h _ _ _ hP hD hS (lv_sub hv [2, 0] rfl)

def fX12_law (use : Int32) (a : Int32) (b : Int32) (k : Int32) (d : Nat → Int32) (found : Nat → Int32) (names : Nat → Int32) (pile : Nat → Int32) : Option (Int32 × (Nat → Int32) × (Nat → Int32) × (Nat → Int32)) :=
  bd (fX12_in ((use).toInt64) (0 : Int64) (1 : Int64)) fun r_1 => (if r_1 = 0 then bd (fX12_finds (1 : Int32) found) fun (r_4, found_5) => some (r_4, found_5, names, pile) else bd (fX12_textGives use a b k d names pile) fun (r_7, names_8, pile_9) => some (r_7, found, names_8, pile_9))
set_option maxHeartbeats 4000000 in
set_option maxRecDepth 100000 in
theorem c_X12_law (l : Launch) (G : Nat → Nat) (D : va_G) (cA : Nat → ClassId) (ad : Nat → Nat) (sz : Nat) (d : Nat → Int32) (kept : Nat → Int32) (aside : Nat → Int32) (images : Int32) (found : Nat → Int32) (base : Int32) (at0 : Int32) (size : Int32) (fault : Int32) (opened : Int32) (isRub : Int32) (names : Nat → Int32) (code : Nat → Int32) (coded : Int32) (pile : Nat → Int32) (needs : Nat → Int32) (traced : Nat → Int32) (traceMany : Int32) (who : Int32) (bitsOf : Nat → Int32) (sizeOf : Nat → Int32) (number : Nat → Int32) (lifted : Nat → Int32) (use : Int32) (a : Int32) (b : Int32) (k : Int32) (rR : Int32) (foundR : Nat → Int32) (namesR : Nat → Int32) (pileR : Nat → Int32) (h : fX12_law use a b k d found names pile = some (rR, foundR, namesR, pileR)) : Met l yX12_law wsX12_law ({ frames := 3, cells := 0, slots := 0, locals := 72 } : Room) (PW G D (tyC cA) sz (wM cA ad d kept aside images found base at0 size fault opened isRub names code coded pile needs traced traceMany who bitsOf sizeOf number lifted) [.ref (ad 0), .int use, .int a, .int b, .int k]) (QI D (tyC cA) (va_A (wM cA ad d kept aside images found base at0 size fault opened isRub names code coded pile needs traced traceMany who bitsOf sizeOf number lifted) sz) rR (wM cA ad d kept aside images foundR base at0 size fault opened isRub namesR code coded pileR needs traced traceMany who bitsOf sizeOf number lifted)) 0 0 (va_A (wM cA ad d kept aside images found base at0 size fault opened isRub names code coded pile needs traced traceMany who bitsOf sizeOf number lifted) sz) := by
  refine ent (cc := cX12_law) (maxL := 5) (ret := (some .int)) (fun A => QI D (tyC cA) A rR (wM cA ad d kept aside images foundR base at0 size fault opened isRub namesR code coded pileR needs traced traceMany who bitsOf sizeOf number lifted)) (by decide +kernel) rfl (Nat.le_of_ble_eq_true rfl) ?_
  intro p e s m args below meth c A ls H hx hb hml hr hlk hts hown hA hK hE hP hD hS hv hmm
  have hv : lv_has ls 5 [(0, .ref (ad 0)), (1, .int use), (2, .int a), (3, .int b), (4, .int k)] := hv
  generalize hQ : MQ below _ args s 0 0 A = Q
  have hP : va_P D vwCl (wM cA ad d kept aside images found base at0 size fault opened isRub names code coded pile needs traced traceMany who bitsOf sizeOf number lifted) H := hP
  unfold fX12_law at h
  refine lv_iload_n hx hb dX12_law_0 rfl (lv_at hv 1 rfl) ?_
  refine lv_i2l (v := (use).toInt64) hx hb dX12_law_1 rfl ?_
  refine lv_lconst (v := (0 : Int64)) hx hb dX12_law_2 (by decide) ?_
  refine lv_lconst (v := (1 : Int64)) hx hb dX12_law_3 (by decide) ?_
  obtain ⟨r_1, hf_2, h⟩ := bd_ex h
  have sb := Sb.nil hP hD hS hA
  refine calI (va_runS (As := [.long (use).toInt64, .long (0 : Int64), .long (1 : Int64)]) (rest := []) ⟨hx, hb, hml, hown, hts⟩ (c_X12_in l G D cA  _ ((use).toInt64) (0 : Int64) (1 : Int64) r_1 hf_2) (va_cwS 3 hts gX12_law_X12_in rfl rfl rfl (by decide +kernel) ⟨Nat.le_of_ble_eq_true rfl, Nat.le_of_ble_eq_true rfl⟩) (pvS hE hK hS sb) rfl rfl hv.1 rfl (lv_room (Nat.le_of_ble_eq_true rfl)) dX12_law_4 ⟨Nat.le_of_ble_eq_true rfl, Nat.le_of_ble_eq_true rfl⟩) hS sb (Jn.nil hP hD) (fun H locs hP hD hS => ?_)
  have hP : va_P D vwCl (wM cA ad d kept aside images found base at0 size fault opened isRub names code coded pile needs traced traceMany who bitsOf sizeOf number lifted) H := hP
  have hD : va_D A (wM cA ad d kept aside images found base at0 size fault opened isRub names code coded pile needs traced traceMany who bitsOf sizeOf number lifted) := hD
  refine lv_if_eq (tgt := 22) hx hb dX12_law_7 (by decide) (fun c_3 => ?_) (fun c_3 => ?_)
  · have h := ite_t c_3 h
    refine lv_aload_n hx hb dX12_law_22 rfl (lv_at hv 0 rfl) ?_
    refine lv_iconst (v := (1 : Int32)) hx hb dX12_law_23 (by decide) ?_
    obtain ⟨⟨r_4, found_5⟩, hf_6, h⟩ := bd_ex h
    have sb := Sb.same hP hD hS hA
    refine calI (va_runV (As := [.int (1 : Int32)]) (rest := []) ⟨hx, hb, hml, hown, hts⟩ (c_X12_finds l G D cA ad _ d kept aside images found base at0 size fault opened isRub names code coded pile needs traced traceMany who bitsOf sizeOf number lifted (1 : Int32) r_4 found_5 hf_6) (cwV 1 hts gX12_law_X12_finds rfl rfl rfl (by decide +kernel) ⟨Nat.le_of_ble_eq_true rfl, Nat.le_of_ble_eq_true rfl⟩) (pvV hE hK hS sb (va_recv hK hP (ci := 12) (q0 := 0) rfl rfl)) rfl rfl hv.1 rfl (lv_room (Nat.le_of_ble_eq_true rfl)) dX12_law_24 ⟨Nat.le_of_ble_eq_true rfl, Nat.le_of_ble_eq_true rfl⟩) hS sb (Jn.same sb) (fun H locs hP hD hS => ?_)
    have hP : va_P D vwCl (wM cA ad d kept aside images found_5 base at0 size fault opened isRub names code coded pile needs traced traceMany who bitsOf sizeOf number lifted) H := hP
    have hD : va_D A (wM cA ad d kept aside images found_5 base at0 size fault opened isRub names code coded pile needs traced traceMany who bitsOf sizeOf number lifted) := hD
    have h := Option.some.inj h
    have ee0 : r_4 = rR := congrArg (fun q => q.1) h
    have ee1 : found_5 = foundR := congrArg (fun q => q.2.1) h
    have ee2 : names = namesR := congrArg (fun q => q.2.2.1) h
    have ee3 : pile = pileR := congrArg (fun q => q.2.2.2) h
    subst ee0
    subst ee1
    subst ee2
    subst ee3
    rw [← hQ]
    exact retI hx hb hr hlk hK hP hD hS dX12_law_27 ⟨Nat.le_of_ble_eq_true rfl, Nat.le_of_ble_eq_true rfl⟩
  · have h := ite_f c_3 h
    refine lv_aload_n hx hb dX12_law_10 rfl (lv_at hv 0 rfl) ?_
    refine lv_iload_n hx hb dX12_law_11 rfl (lv_at hv 1 rfl) ?_
    refine lv_iload_n hx hb dX12_law_12 rfl (lv_at hv 2 rfl) ?_
    refine lv_iload_n hx hb dX12_law_13 rfl (lv_at hv 3 rfl) ?_
    refine lv_iload hx hb dX12_law_14 (lv_at hv 4 rfl) ?_
    obtain ⟨⟨r_7, names_8, pile_9⟩, hf_10, h⟩ := bd_ex h
    have sb := Sb.same hP hD hS hA
    refine calI (va_runV (As := [.int use, .int a, .int b, .int k]) (rest := []) ⟨hx, hb, hml, hown, hts⟩ (c_X12_textGives l G D cA ad _ d kept aside images found base at0 size fault opened isRub names code coded pile needs traced traceMany who bitsOf sizeOf number lifted use a b k r_7 names_8 pile_9 hf_10) (cwV 4 hts gX12_law_X12_textGives rfl rfl rfl (by decide +kernel) ⟨Nat.le_of_ble_eq_true rfl, Nat.le_of_ble_eq_true rfl⟩) (pvV hE hK hS sb (va_recv hK hP (ci := 12) (q0 := 0) rfl rfl)) rfl rfl hv.1 rfl (lv_room (Nat.le_of_ble_eq_true rfl)) dX12_law_16 ⟨Nat.le_of_ble_eq_true rfl, Nat.le_of_ble_eq_true rfl⟩) hS sb (Jn.same sb) (fun H locs hP hD hS => ?_)
    have hP : va_P D vwCl (wM cA ad d kept aside images found base at0 size fault opened isRub names_8 code coded pile_9 needs traced traceMany who bitsOf sizeOf number lifted) H := hP
    have hD : va_D A (wM cA ad d kept aside images found base at0 size fault opened isRub names_8 code coded pile_9 needs traced traceMany who bitsOf sizeOf number lifted) := hD
    refine lv_goto (tgt := 27) hx hb dX12_law_19 (by decide) ?_
    have h := Option.some.inj h
    have ee0 : r_7 = rR := congrArg (fun q => q.1) h
    have ee1 : found = foundR := congrArg (fun q => q.2.1) h
    have ee2 : names_8 = namesR := congrArg (fun q => q.2.2.1) h
    have ee3 : pile_9 = pileR := congrArg (fun q => q.2.2.2) h
    subst ee0
    subst ee1
    subst ee2
    subst ee3
    rw [← hQ]
    exact retI hx hb hr hlk hK hP hD hS dX12_law_27 ⟨Nat.le_of_ble_eq_true rfl, Nat.le_of_ble_eq_true rfl⟩

def fX12_on_29 (v1_4 : Int32) (v3_29 : Int32) (k0_29 : Int32) (k1_29 : Int32) (d : Nat → Int32) : Option ((Int32 × Int32) ⊕ (Int32 × Int32)) :=
  bnd (k1_29 ||| k0_29) fun y_5 => bnd (v3_29 + (1 : Int32)) fun y_6 => some (.inl (y_5, y_6))
def fX12_on_4B (v1_4 : Int32) (d : Nat → Int32) (v2_4b : Int32) (v3_4b : Int32) : Option ((Int32 × Int32) ⊕ (Int32 × Int32)) :=
  (if (12 : Int32) ≤ v3_4b then some (.inr (v2_4b, v3_4b)) else bd (fX12_of v1_4 ((3 : Int32) + v3_4b) d) fun r_2 => (if r_2 ≤ 0 then fX12_on_29 v1_4 v3_4b (0 : Int32) v2_4b d else fX12_on_29 v1_4 v3_4b ((1 : Int32) <<< (v3_4b &&& 31)) v2_4b d))
def fX12_on_4 (v1_4 : Int32) (v2_4 : Int32) (v3_4 : Int32) (d : Nat → Int32) : Option (Int32) :=
  bd (lp (fun σ : Int32 × Int32 => fX12_on_4B v1_4 d (σ.1) (σ.2)) FU (v2_4, v3_4)) fun ρ => match ρ with | (v2_4r, v3_4r) => some v2_4r
def fX12_on (a : Int32) (d : Nat → Int32) : Option (Int32) :=
  fX12_on_4 a (0 : Int32) (0 : Int32) d
set_option maxHeartbeats 4000000 in
set_option maxRecDepth 100000 in
theorem c_X12_on (l : Launch) (G : Nat → Nat) (D : va_G) (cA : Nat → ClassId) (ad : Nat → Nat) (sz : Nat) (d : Nat → Int32) (kept : Nat → Int32) (aside : Nat → Int32) (images : Int32) (found : Nat → Int32) (base : Int32) (at0 : Int32) (size : Int32) (fault : Int32) (opened : Int32) (isRub : Int32) (names : Nat → Int32) (code : Nat → Int32) (coded : Int32) (pile : Nat → Int32) (needs : Nat → Int32) (traced : Nat → Int32) (traceMany : Int32) (who : Int32) (bitsOf : Nat → Int32) (sizeOf : Nat → Int32) (number : Nat → Int32) (lifted : Nat → Int32) (a : Int32) (rR : Int32) (h : fX12_on a d = some rR) : Met l yX12_on wsX12_on ({ frames := 1, cells := 0, slots := 0, locals := 22 } : Room) (PW G D (tyC cA) sz (wM cA ad d kept aside images found base at0 size fault opened isRub names code coded pile needs traced traceMany who bitsOf sizeOf number lifted) [.ref (ad 0), .int a]) (QI D (tyC cA) (va_A (wM cA ad d kept aside images found base at0 size fault opened isRub names code coded pile needs traced traceMany who bitsOf sizeOf number lifted) sz) rR (wM cA ad d kept aside images found base at0 size fault opened isRub names code coded pile needs traced traceMany who bitsOf sizeOf number lifted)) 0 0 (va_A (wM cA ad d kept aside images found base at0 size fault opened isRub names code coded pile needs traced traceMany who bitsOf sizeOf number lifted) sz) := by
  refine ent (cc := cX12_on) (maxL := 4) (ret := (some .int)) (fun A => QI D (tyC cA) A rR (wM cA ad d kept aside images found base at0 size fault opened isRub names code coded pile needs traced traceMany who bitsOf sizeOf number lifted)) (by decide +kernel) rfl (Nat.le_of_ble_eq_true rfl) ?_
  intro p e s m args below meth c A ls H hx hb hml hr hlk hts hown hA hK hE hP hD hS hv hmm
  have hv : lv_has ls 4 [(0, .ref (ad 0)), (1, .int a)] := hv
  generalize hQ : MQ below _ args s 0 0 A = Q
  have C_4 : ∀ (v1_4 : Int32) (v2_4 : Int32) (v3_4 : Int32), fX12_on_4 v1_4 v2_4 v3_4 d = some rR → WW p l e ({ frames := 1, cells := 0, slots := 0, locals := 22 } : Room) s m args below meth c D A 0 0 Q (wM cA ad d kept aside images found base at0 size fault opened isRub names code coded pile needs traced traceMany who bitsOf sizeOf number lifted) 4 [(0, .ref (ad 0)), (1, .int v1_4), (2, .int v2_4), (3, .int v3_4)] 4 [] := by
    intro v1_4 v2_4 v3_4 h
    unfold fX12_on_4 at h
    obtain ⟨⟨v2_4r, v3_4r⟩, ho, h⟩ := bd_ex h
    have LE : WW p l e ({ frames := 1, cells := 0, slots := 0, locals := 22 } : Room) s m args below meth c D A 0 0 Q (wM cA ad d kept aside images found base at0 size fault opened isRub names code coded pile needs traced traceMany who bitsOf sizeOf number lifted) 4 [(2, .int v2_4r)] 37 [] := by
      intro H locs ls hP hD hS hv
      refine lv_iload_n hx hb dX12_on_37 rfl (lv_at hv 0 rfl) ?_
      have h := Option.some.inj h
      have ee0 : v2_4r = rR := congrArg (fun q => q) h
      subst ee0
      rw [← hQ]
      exact retI hx hb hr hlk hK hP hD hS dX12_on_38 ⟨Nat.le_of_ble_eq_true rfl, Nat.le_of_ble_eq_true rfl⟩
    have LB : ∀ (nf : Nat) (v2_4b : Int32) (v3_4b : Int32), lp (fun σ : Int32 × Int32 => fX12_on_4B v1_4 d (σ.1) (σ.2)) nf (v2_4b, v3_4b) = some (v2_4r, v3_4r) → WW p l e ({ frames := 1, cells := 0, slots := 0, locals := 22 } : Room) s m args below meth c D A 0 0 Q (wM cA ad d kept aside images found base at0 size fault opened isRub names code coded pile needs traced traceMany who bitsOf sizeOf number lifted) 4 [(0, .ref (ad 0)), (1, .int v1_4), (2, .int v2_4b), (3, .int v3_4b)] 4 [] := by
      intro nf
      induction nf with
      | zero => intro v2_4b v3_4b hl; cases hl
      | succ nf ih =>
        intro v2_4b v3_4b hl
        obtain ⟨x, h, hl⟩ := lp_ex hl
        have h : fX12_on_4B v1_4 d v2_4b v3_4b = some x := h
        unfold fX12_on_4B at h
        have C_29 : ∀ (v3_29 : Int32) (k0_29 : Int32) (k1_29 : Int32) (x : (Int32 × Int32) ⊕ (Int32 × Int32)), fX12_on_29 v1_4 v3_29 k0_29 k1_29 d = some x → lpk (fun σ : Int32 × Int32 => fX12_on_4B v1_4 d (σ.1) (σ.2)) nf x = some (v2_4r, v3_4r) → WW p l e ({ frames := 1, cells := 0, slots := 0, locals := 22 } : Room) s m args below meth c D A 0 0 Q (wM cA ad d kept aside images found base at0 size fault opened isRub names code coded pile needs traced traceMany who bitsOf sizeOf number lifted) 4 [(0, .ref (ad 0)), (1, .int v1_4), (3, .int v3_29)] 29 [.int k0_29, .int k1_29] := by
          intro v3_29 k0_29 k1_29 x h hl
          unfold fX12_on_29 at h
          intro H locs ls hP hD hS hv
          refine lv_ior hx hb dX12_on_29 ?_
          obtain ⟨y_5, ey_5, h⟩ := bnd_ex h
          refine lv_nm ey_5 ?_
          refine lv_istore_n (lv' := [(2, .int y_5), (0, .ref (ad 0)), (1, .int v1_4), (3, .int v3_29)]) hx hb dX12_on_30 rfl hv (by decide) rfl (fun ls hv => ?_)
          obtain ⟨y_6, ey_6, h⟩ := bnd_ex h
          refine lv_iinc (v := y_6) (lv' := [(3, .int y_6), (2, .int y_5), (0, .ref (ad 0)), (1, .int v1_4)]) hx hb dX12_on_31 hv (k := 3) rfl (by rw [ey_6]; rfl) (by decide) rfl (fun ls hv => ?_)
          refine lv_goto (tgt := 4) hx hb dX12_on_34 (by decide) ?_
          cases h
          exact ih y_5 y_6 hl _ _ _ hP hD hS (lv_sub hv [2, 3, 1, 0] rfl)
        intro H locs ls hP hD hS hv
        refine lv_iload_n hx hb dX12_on_4 rfl (lv_at hv 3 rfl) ?_
        refine lv_bipush (v := (12 : Int32)) hx hb dX12_on_5 (by decide) ?_
        refine lv_icmp_ge (tgt := 37) hx hb dX12_on_7 (by decide) (fun c_1 => ?_) (fun c_1 => ?_)
        · have h := ite_t c_1 h
          cases h
          have hl : some (v2_4b, v3_4b) = some (v2_4r, v3_4r) := hl
          have hl := Option.some.inj hl
          have ee0 : v2_4b = v2_4r := congrArg (fun q => q.1) hl
          have ee1 : v3_4b = v3_4r := congrArg (fun q => q.2) hl
          subst ee0
          subst ee1
          exact LE _ _ _ hP hD hS (lv_sub hv [2] rfl)
        · have h := ite_f c_1 h
          refine lv_iload_n hx hb dX12_on_10 rfl (lv_at hv 2 rfl) ?_
          refine lv_aload_n hx hb dX12_on_11 rfl (lv_at hv 0 rfl) ?_
          refine lv_iload_n hx hb dX12_on_12 rfl (lv_at hv 1 rfl) ?_
          refine lv_iconst (v := (3 : Int32)) hx hb dX12_on_13 (by decide) ?_
          refine lv_iload_n hx hb dX12_on_14 rfl (lv_at hv 3 rfl) ?_
          refine lv_iadd hx hb dX12_on_15 ?_
          obtain ⟨r_2, hf_3, h⟩ := bd_ex h
          have sb := Sb.same hP hD hS hA
          refine calI (va_runV (As := [.int v1_4, .int ((3 : Int32) + v3_4b)]) (rest := [.int v2_4b]) ⟨hx, hb, hml, hown, hts⟩ (c_X12_of l G D cA ad _ d kept aside images found base at0 size fault opened isRub names code coded pile needs traced traceMany who bitsOf sizeOf number lifted v1_4 ((3 : Int32) + v3_4b) r_2 hf_3) (cwV 2 hts gX12_on_X12_of rfl rfl rfl (by decide +kernel) ⟨Nat.le_of_ble_eq_true rfl, Nat.le_of_ble_eq_true rfl⟩) (pvV hE hK hS sb (va_recv hK hP (ci := 12) (q0 := 0) rfl rfl)) rfl rfl hv.1 rfl (lv_room (Nat.le_of_ble_eq_true rfl)) dX12_on_16 ⟨Nat.le_of_ble_eq_true rfl, Nat.le_of_ble_eq_true rfl⟩) hS sb (Jn.same sb) (fun H locs hP hD hS => ?_)
          have hP : va_P D vwCl (wM cA ad d kept aside images found base at0 size fault opened isRub names code coded pile needs traced traceMany who bitsOf sizeOf number lifted) H := hP
          have hD : va_D A (wM cA ad d kept aside images found base at0 size fault opened isRub names code coded pile needs traced traceMany who bitsOf sizeOf number lifted) := hD
          refine lv_if_le (tgt := 28) hx hb dX12_on_19 (by decide) (fun c_4 => ?_) (fun c_4 => ?_)
          · have h := ite_t c_4 h
            refine lv_iconst (v := (0 : Int32)) hx hb dX12_on_28 (by decide) ?_
            exact C_29 v3_4b (0 : Int32) v2_4b _ h hl _ _ _ hP hD hS (lv_sub hv [0, 1, 3] rfl)
          · have h := ite_f c_4 h
            refine lv_iconst (v := (1 : Int32)) hx hb dX12_on_22 (by decide) ?_
            refine lv_iload_n hx hb dX12_on_23 rfl (lv_at hv 3 rfl) ?_
            refine lv_ishl hx hb dX12_on_24 ?_
            refine lv_goto (tgt := 29) hx hb dX12_on_25 (by decide) ?_
            exact C_29 v3_4b ((1 : Int32) <<< (v3_4b &&& 31)) v2_4b _ h hl _ _ _ hP hD hS (lv_sub hv [0, 1, 3] rfl)
    exact LB FU v2_4 v3_4 ho
  have hP : va_P D vwCl (wM cA ad d kept aside images found base at0 size fault opened isRub names code coded pile needs traced traceMany who bitsOf sizeOf number lifted) H := hP
  unfold fX12_on at h
  refine lv_iconst (v := (0 : Int32)) hx hb dX12_on_0 (by decide) ?_
  refine lv_istore_n (lv' := [(2, .int (0 : Int32)), (0, .ref (ad 0)), (1, .int a)]) hx hb dX12_on_1 rfl hv (by decide) rfl (fun ls hv => ?_)
  refine lv_iconst (v := (0 : Int32)) hx hb dX12_on_2 (by decide) ?_
  refine lv_istore_n (lv' := [(3, .int (0 : Int32)), (2, .int (0 : Int32)), (0, .ref (ad 0)), (1, .int a)]) hx hb dX12_on_3 rfl hv (by decide) rfl (fun ls hv => ?_)
  exact C_4 a (0 : Int32) (0 : Int32) h _ _ _ hP hD hS (lv_sub hv [2, 3, 1, 0] rfl)

def fX12_isThrough (a : Int32) (d : Nat → Int32) : Option (Int32) :=
  bd (fX12_of a (2 : Int32) d) fun r_1 => (if r_1 = 0 then some (1 : Int32) else some (0 : Int32))
set_option maxHeartbeats 4000000 in
set_option maxRecDepth 100000 in
theorem c_X12_isThrough (l : Launch) (G : Nat → Nat) (D : va_G) (cA : Nat → ClassId) (ad : Nat → Nat) (sz : Nat) (d : Nat → Int32) (kept : Nat → Int32) (aside : Nat → Int32) (images : Int32) (found : Nat → Int32) (base : Int32) (at0 : Int32) (size : Int32) (fault : Int32) (opened : Int32) (isRub : Int32) (names : Nat → Int32) (code : Nat → Int32) (coded : Int32) (pile : Nat → Int32) (needs : Nat → Int32) (traced : Nat → Int32) (traceMany : Int32) (who : Int32) (bitsOf : Nat → Int32) (sizeOf : Nat → Int32) (number : Nat → Int32) (lifted : Nat → Int32) (a : Int32) (rR : Int32) (h : fX12_isThrough a d = some rR) : Met l yX12_isThrough wsX12_isThrough ({ frames := 1, cells := 0, slots := 0, locals := 22 } : Room) (PW G D (tyC cA) sz (wM cA ad d kept aside images found base at0 size fault opened isRub names code coded pile needs traced traceMany who bitsOf sizeOf number lifted) [.ref (ad 0), .int a]) (QI D (tyC cA) (va_A (wM cA ad d kept aside images found base at0 size fault opened isRub names code coded pile needs traced traceMany who bitsOf sizeOf number lifted) sz) rR (wM cA ad d kept aside images found base at0 size fault opened isRub names code coded pile needs traced traceMany who bitsOf sizeOf number lifted)) 0 0 (va_A (wM cA ad d kept aside images found base at0 size fault opened isRub names code coded pile needs traced traceMany who bitsOf sizeOf number lifted) sz) := by
  refine ent (cc := cX12_isThrough) (maxL := 2) (ret := (some .boolean)) (fun A => QI D (tyC cA) A rR (wM cA ad d kept aside images found base at0 size fault opened isRub names code coded pile needs traced traceMany who bitsOf sizeOf number lifted)) (by decide +kernel) rfl (Nat.le_of_ble_eq_true rfl) ?_
  intro p e s m args below meth c A ls H hx hb hml hr hlk hts hown hA hK hE hP hD hS hv hmm
  have hv : lv_has ls 2 [(0, .ref (ad 0)), (1, .int a)] := hv
  generalize hQ : MQ below _ args s 0 0 A = Q
  have hP : va_P D vwCl (wM cA ad d kept aside images found base at0 size fault opened isRub names code coded pile needs traced traceMany who bitsOf sizeOf number lifted) H := hP
  unfold fX12_isThrough at h
  refine lv_aload_n hx hb dX12_isThrough_0 rfl (lv_at hv 0 rfl) ?_
  refine lv_iload_n hx hb dX12_isThrough_1 rfl (lv_at hv 1 rfl) ?_
  refine lv_iconst (v := (2 : Int32)) hx hb dX12_isThrough_2 (by decide) ?_
  obtain ⟨r_1, hf_2, h⟩ := bd_ex h
  have sb := Sb.same hP hD hS hA
  refine calI (va_runV (As := [.int a, .int (2 : Int32)]) (rest := []) ⟨hx, hb, hml, hown, hts⟩ (c_X12_of l G D cA ad _ d kept aside images found base at0 size fault opened isRub names code coded pile needs traced traceMany who bitsOf sizeOf number lifted a (2 : Int32) r_1 hf_2) (cwV 2 hts gX12_isThrough_X12_of rfl rfl rfl (by decide +kernel) ⟨Nat.le_of_ble_eq_true rfl, Nat.le_of_ble_eq_true rfl⟩) (pvV hE hK hS sb (va_recv hK hP (ci := 12) (q0 := 0) rfl rfl)) rfl rfl hv.1 rfl (lv_room (Nat.le_of_ble_eq_true rfl)) dX12_isThrough_3 ⟨Nat.le_of_ble_eq_true rfl, Nat.le_of_ble_eq_true rfl⟩) hS sb (Jn.same sb) (fun H locs hP hD hS => ?_)
  have hP : va_P D vwCl (wM cA ad d kept aside images found base at0 size fault opened isRub names code coded pile needs traced traceMany who bitsOf sizeOf number lifted) H := hP
  have hD : va_D A (wM cA ad d kept aside images found base at0 size fault opened isRub names code coded pile needs traced traceMany who bitsOf sizeOf number lifted) := hD
  refine lv_if_ne (tgt := 13) hx hb dX12_isThrough_6 (by decide) (fun c_3 => ?_) (fun c_3 => ?_)
  · have h := ite_f c_3 h
    refine lv_iconst (v := (0 : Int32)) hx hb dX12_isThrough_13 (by decide) ?_
    have h := Option.some.inj h
    have ee0 : (0 : Int32) = rR := congrArg (fun q => q) h
    subst ee0
    rw [← hQ]
    exact retZ (by decide) hx hb hr hlk hK hP hD hS dX12_isThrough_14 ⟨Nat.le_of_ble_eq_true rfl, Nat.le_of_ble_eq_true rfl⟩
  · have h := ite_t c_3 h
    refine lv_iconst (v := (1 : Int32)) hx hb dX12_isThrough_9 (by decide) ?_
    refine lv_goto (tgt := 14) hx hb dX12_isThrough_10 (by decide) ?_
    have h := Option.some.inj h
    have ee0 : (1 : Int32) = rR := congrArg (fun q => q) h
    subst ee0
    rw [← hQ]
    exact retZ (by decide) hx hb hr hlk hK hP hD hS dX12_isThrough_14 ⟨Nat.le_of_ble_eq_true rfl, Nat.le_of_ble_eq_true rfl⟩

def fX12_stays (a : Int32) (b : Int32) (d : Nat → Int32) : Option (Int32) :=
  ckI ((6 : Int32) + b) 326 (bnd (d (((6 : Int32) + b)).toNatClampNeg) fun y_2 => bd (fX12_of a (0 : Int32) d) fun r_3 => (if r_3 = (1 : Int32) then some ((3 : Int32) + (y_2 / (2 : Int32))) else (if r_3 = (2 : Int32) then some (3 : Int32) else (if r_3 = (3 : Int32) then some y_2 else (if r_3 = (4 : Int32) then some ((2 : Int32) * ((3 : Int32) + (y_2 / (2 : Int32)))) else (if r_3 = (5 : Int32) then bd (fX12_of a (1 : Int32) d) fun r_10 => some ((3 : Int32) + (r_10 / (3 : Int32))) else (if r_3 = (6 : Int32) then bd (fX12_of a (2 : Int32) d) fun r_13 => (if (10 : Int32) ≤ r_13 then some y_2 else some (9 : Int32)) else some (3 : Int32))))))))
set_option maxHeartbeats 4000000 in
set_option maxRecDepth 100000 in
theorem c_X12_stays (l : Launch) (G : Nat → Nat) (D : va_G) (cA : Nat → ClassId) (ad : Nat → Nat) (sz : Nat) (d : Nat → Int32) (kept : Nat → Int32) (aside : Nat → Int32) (images : Int32) (found : Nat → Int32) (base : Int32) (at0 : Int32) (size : Int32) (fault : Int32) (opened : Int32) (isRub : Int32) (names : Nat → Int32) (code : Nat → Int32) (coded : Int32) (pile : Nat → Int32) (needs : Nat → Int32) (traced : Nat → Int32) (traceMany : Int32) (who : Int32) (bitsOf : Nat → Int32) (sizeOf : Nat → Int32) (number : Nat → Int32) (lifted : Nat → Int32) (a : Int32) (b : Int32) (rR : Int32) (h : fX12_stays a b d = some rR) : Met l yX12_stays wsX12_stays ({ frames := 1, cells := 0, slots := 0, locals := 22 } : Room) (PW G D (tyC cA) sz (wM cA ad d kept aside images found base at0 size fault opened isRub names code coded pile needs traced traceMany who bitsOf sizeOf number lifted) [.ref (ad 0), .int a, .int b]) (QI D (tyC cA) (va_A (wM cA ad d kept aside images found base at0 size fault opened isRub names code coded pile needs traced traceMany who bitsOf sizeOf number lifted) sz) rR (wM cA ad d kept aside images found base at0 size fault opened isRub names code coded pile needs traced traceMany who bitsOf sizeOf number lifted)) 0 0 (va_A (wM cA ad d kept aside images found base at0 size fault opened isRub names code coded pile needs traced traceMany who bitsOf sizeOf number lifted) sz) := by
  refine ent (cc := cX12_stays) (maxL := 4) (ret := (some .int)) (fun A => QI D (tyC cA) A rR (wM cA ad d kept aside images found base at0 size fault opened isRub names code coded pile needs traced traceMany who bitsOf sizeOf number lifted)) (by decide +kernel) rfl (Nat.le_of_ble_eq_true rfl) ?_
  intro p e s m args below meth c A ls H hx hb hml hr hlk hts hown hA hK hE hP hD hS hv hmm
  have hv : lv_has ls 4 [(0, .ref (ad 0)), (1, .int a), (2, .int b)] := hv
  have in_12 : ∀ w ∈ u_ws RX12 TX12 23, w ∈ wsX12_stays := fun _ h => List.mem_cons_of_mem _ (List.mem_append_right _ h)
  have w_0 := hts (.fieldLink RX12 7 "SpoonsLastModel" "d" "[I") (List.mem_of_getElem? (i := 1) rfl)
  generalize hQ : MQ below _ args s 0 0 A = Q
  have hP : va_P D vwCl (wM cA ad d kept aside images found base at0 size fault opened isRub names code coded pile needs traced traceMany who bitsOf sizeOf number lifted) H := hP
  unfold fX12_stays at h
  refine lv_aload_n hx hb dX12_stays_0 rfl (lv_at hv 0 rfl) ?_
  refine va_get (D := D) (ci := 12) (v := .ref (ad 1)) (C := RX12) (T := TX12) (N := 23) hx hb hts in_12 hown hK hP 0 rfl rfl 0 (by decide) w_0 (fun _ h9 => h9) rfl dX12_stays_1 ?_
  refine lv_bipush (v := (6 : Int32)) hx hb dX12_stays_4 (by decide) ?_
  refine lv_iload_n hx hb dX12_stays_6 rfl (lv_at hv 2 rfl) ?_
  refine lv_iadd hx hb dX12_stays_7 ?_
  obtain ⟨c_1, h⟩ := ckI_ex h
  refine va_iald (D := D) hx hb hK hP 1 0 rfl rfl c_1 dX12_stays_8 ?_
  obtain ⟨y_2, ey_2, h⟩ := bnd_ex h
  refine lv_nm ey_2 ?_
  refine lv_istore_n (lv' := [(3, .int y_2), (0, .ref (ad 0)), (1, .int a), (2, .int b)]) hx hb dX12_stays_9 rfl hv (by decide) rfl (fun ls hv => ?_)
  refine lv_aload_n hx hb dX12_stays_10 rfl (lv_at hv 1 rfl) ?_
  refine lv_iload_n hx hb dX12_stays_11 rfl (lv_at hv 2 rfl) ?_
  refine lv_iconst (v := (0 : Int32)) hx hb dX12_stays_12 (by decide) ?_
  obtain ⟨r_3, hf_4, h⟩ := bd_ex h
  have sb := Sb.same hP hD hS hA
  refine calI (va_runV (As := [.int a, .int (0 : Int32)]) (rest := []) ⟨hx, hb, hml, hown, hts⟩ (c_X12_of l G D cA ad _ d kept aside images found base at0 size fault opened isRub names code coded pile needs traced traceMany who bitsOf sizeOf number lifted a (0 : Int32) r_3 hf_4) (cwV 2 hts gX12_stays_X12_of rfl rfl rfl (by decide +kernel) ⟨Nat.le_of_ble_eq_true rfl, Nat.le_of_ble_eq_true rfl⟩) (pvV hE hK hS sb (va_recv hK hP (ci := 12) (q0 := 0) rfl rfl)) rfl rfl hv.1 rfl (lv_room (Nat.le_of_ble_eq_true rfl)) dX12_stays_13 ⟨Nat.le_of_ble_eq_true rfl, Nat.le_of_ble_eq_true rfl⟩) hS sb (Jn.same sb) (fun H locs hP hD hS => ?_)
  have hP : va_P D vwCl (wM cA ad d kept aside images found base at0 size fault opened isRub names code coded pile needs traced traceMany who bitsOf sizeOf number lifted) H := hP
  have hD : va_D A (wM cA ad d kept aside images found base at0 size fault opened isRub names code coded pile needs traced traceMany who bitsOf sizeOf number lifted) := hD
  by_cases c_5 : r_3 = (1 : Int32)
  · refine lv_tableIn (tgt := 56) (off := 40) hx hb dX12_stays_16 (by rw [c_5]; decide) (by rw [c_5]; decide) (by rw [c_5]; rfl) (by decide) ?_
    have h := ite_t c_5 h
    refine lv_iconst (v := (3 : Int32)) hx hb dX12_stays_56 (by decide) ?_
    refine lv_iload_n hx hb dX12_stays_57 rfl (lv_at hv 0 rfl) ?_
    refine lv_iconst (v := (2 : Int32)) hx hb dX12_stays_58 (by decide) ?_
    refine lv_idiv hx hb dX12_stays_59 (by decide) ?_
    refine lv_iadd hx hb dX12_stays_60 ?_
    have h := Option.some.inj h
    have ee0 : ((3 : Int32) + (y_2 / (2 : Int32))) = rR := congrArg (fun q => q) h
    subst ee0
    rw [← hQ]
    exact retI hx hb hr hlk hK hP hD hS dX12_stays_61 ⟨Nat.le_of_ble_eq_true rfl, Nat.le_of_ble_eq_true rfl⟩
  have h := ite_f c_5 h
  by_cases c_6 : r_3 = (2 : Int32)
  · refine lv_tableIn (tgt := 101) (off := 85) hx hb dX12_stays_16 (by rw [c_6]; decide) (by rw [c_6]; decide) (by rw [c_6]; rfl) (by decide) ?_
    have h := ite_t c_6 h
    refine lv_iconst (v := (3 : Int32)) hx hb dX12_stays_101 (by decide) ?_
    have h := Option.some.inj h
    have ee0 : (3 : Int32) = rR := congrArg (fun q => q) h
    subst ee0
    rw [← hQ]
    exact retI hx hb hr hlk hK hP hD hS dX12_stays_102 ⟨Nat.le_of_ble_eq_true rfl, Nat.le_of_ble_eq_true rfl⟩
  have h := ite_f c_6 h
  by_cases c_7 : r_3 = (3 : Int32)
  · refine lv_tableIn (tgt := 62) (off := 46) hx hb dX12_stays_16 (by rw [c_7]; decide) (by rw [c_7]; decide) (by rw [c_7]; rfl) (by decide) ?_
    have h := ite_t c_7 h
    refine lv_iload_n hx hb dX12_stays_62 rfl (lv_at hv 0 rfl) ?_
    have h := Option.some.inj h
    have ee0 : y_2 = rR := congrArg (fun q => q) h
    subst ee0
    rw [← hQ]
    exact retI hx hb hr hlk hK hP hD hS dX12_stays_63 ⟨Nat.le_of_ble_eq_true rfl, Nat.le_of_ble_eq_true rfl⟩
  have h := ite_f c_7 h
  by_cases c_8 : r_3 = (4 : Int32)
  · refine lv_tableIn (tgt := 64) (off := 48) hx hb dX12_stays_16 (by rw [c_8]; decide) (by rw [c_8]; decide) (by rw [c_8]; rfl) (by decide) ?_
    have h := ite_t c_8 h
    refine lv_iconst (v := (2 : Int32)) hx hb dX12_stays_64 (by decide) ?_
    refine lv_iconst (v := (3 : Int32)) hx hb dX12_stays_65 (by decide) ?_
    refine lv_iload_n hx hb dX12_stays_66 rfl (lv_at hv 0 rfl) ?_
    refine lv_iconst (v := (2 : Int32)) hx hb dX12_stays_67 (by decide) ?_
    refine lv_idiv hx hb dX12_stays_68 (by decide) ?_
    refine lv_iadd hx hb dX12_stays_69 ?_
    refine lv_imul hx hb dX12_stays_70 ?_
    have h := Option.some.inj h
    have ee0 : ((2 : Int32) * ((3 : Int32) + (y_2 / (2 : Int32)))) = rR := congrArg (fun q => q) h
    subst ee0
    rw [← hQ]
    exact retI hx hb hr hlk hK hP hD hS dX12_stays_71 ⟨Nat.le_of_ble_eq_true rfl, Nat.le_of_ble_eq_true rfl⟩
  have h := ite_f c_8 h
  by_cases c_9 : r_3 = (5 : Int32)
  · refine lv_tableIn (tgt := 72) (off := 56) hx hb dX12_stays_16 (by rw [c_9]; decide) (by rw [c_9]; decide) (by rw [c_9]; rfl) (by decide) ?_
    have h := ite_t c_9 h
    refine lv_iconst (v := (3 : Int32)) hx hb dX12_stays_72 (by decide) ?_
    refine lv_aload_n hx hb dX12_stays_73 rfl (lv_at hv 1 rfl) ?_
    refine lv_iload_n hx hb dX12_stays_74 rfl (lv_at hv 2 rfl) ?_
    refine lv_iconst (v := (1 : Int32)) hx hb dX12_stays_75 (by decide) ?_
    obtain ⟨r_10, hf_11, h⟩ := bd_ex h
    have sb := Sb.same hP hD hS hA
    refine calI (va_runV (As := [.int a, .int (1 : Int32)]) (rest := [.int (3 : Int32)]) ⟨hx, hb, hml, hown, hts⟩ (c_X12_of l G D cA ad _ d kept aside images found base at0 size fault opened isRub names code coded pile needs traced traceMany who bitsOf sizeOf number lifted a (1 : Int32) r_10 hf_11) (cwV 2 hts gX12_stays_X12_of rfl rfl rfl (by decide +kernel) ⟨Nat.le_of_ble_eq_true rfl, Nat.le_of_ble_eq_true rfl⟩) (pvV hE hK hS sb (va_recv hK hP (ci := 12) (q0 := 0) rfl rfl)) rfl rfl hv.1 rfl (lv_room (Nat.le_of_ble_eq_true rfl)) dX12_stays_76 ⟨Nat.le_of_ble_eq_true rfl, Nat.le_of_ble_eq_true rfl⟩) hS sb (Jn.same sb) (fun H locs hP hD hS => ?_)
    have hP : va_P D vwCl (wM cA ad d kept aside images found base at0 size fault opened isRub names code coded pile needs traced traceMany who bitsOf sizeOf number lifted) H := hP
    have hD : va_D A (wM cA ad d kept aside images found base at0 size fault opened isRub names code coded pile needs traced traceMany who bitsOf sizeOf number lifted) := hD
    refine lv_iconst (v := (3 : Int32)) hx hb dX12_stays_79 (by decide) ?_
    refine lv_idiv hx hb dX12_stays_80 (by decide) ?_
    refine lv_iadd hx hb dX12_stays_81 ?_
    have h := Option.some.inj h
    have ee0 : ((3 : Int32) + (r_10 / (3 : Int32))) = rR := congrArg (fun q => q) h
    subst ee0
    rw [← hQ]
    exact retI hx hb hr hlk hK hP hD hS dX12_stays_82 ⟨Nat.le_of_ble_eq_true rfl, Nat.le_of_ble_eq_true rfl⟩
  have h := ite_f c_9 h
  by_cases c_12 : r_3 = (6 : Int32)
  · refine lv_tableIn (tgt := 83) (off := 67) hx hb dX12_stays_16 (by rw [c_12]; decide) (by rw [c_12]; decide) (by rw [c_12]; rfl) (by decide) ?_
    have h := ite_t c_12 h
    refine lv_aload_n hx hb dX12_stays_83 rfl (lv_at hv 1 rfl) ?_
    refine lv_iload_n hx hb dX12_stays_84 rfl (lv_at hv 2 rfl) ?_
    refine lv_iconst (v := (2 : Int32)) hx hb dX12_stays_85 (by decide) ?_
    obtain ⟨r_13, hf_14, h⟩ := bd_ex h
    have sb := Sb.same hP hD hS hA
    refine calI (va_runV (As := [.int a, .int (2 : Int32)]) (rest := []) ⟨hx, hb, hml, hown, hts⟩ (c_X12_of l G D cA ad _ d kept aside images found base at0 size fault opened isRub names code coded pile needs traced traceMany who bitsOf sizeOf number lifted a (2 : Int32) r_13 hf_14) (cwV 2 hts gX12_stays_X12_of rfl rfl rfl (by decide +kernel) ⟨Nat.le_of_ble_eq_true rfl, Nat.le_of_ble_eq_true rfl⟩) (pvV hE hK hS sb (va_recv hK hP (ci := 12) (q0 := 0) rfl rfl)) rfl rfl hv.1 rfl (lv_room (Nat.le_of_ble_eq_true rfl)) dX12_stays_86 ⟨Nat.le_of_ble_eq_true rfl, Nat.le_of_ble_eq_true rfl⟩) hS sb (Jn.same sb) (fun H locs hP hD hS => ?_)
    have hP : va_P D vwCl (wM cA ad d kept aside images found base at0 size fault opened isRub names code coded pile needs traced traceMany who bitsOf sizeOf number lifted) H := hP
    have hD : va_D A (wM cA ad d kept aside images found base at0 size fault opened isRub names code coded pile needs traced traceMany who bitsOf sizeOf number lifted) := hD
    refine lv_bipush (v := (10 : Int32)) hx hb dX12_stays_89 (by decide) ?_
    refine lv_icmp_ge (tgt := 99) hx hb dX12_stays_91 (by decide) (fun c_15 => ?_) (fun c_15 => ?_)
    · have h := ite_t c_15 h
      refine lv_iload_n hx hb dX12_stays_99 rfl (lv_at hv 0 rfl) ?_
      have h := Option.some.inj h
      have ee0 : y_2 = rR := congrArg (fun q => q) h
      subst ee0
      rw [← hQ]
      exact retI hx hb hr hlk hK hP hD hS dX12_stays_100 ⟨Nat.le_of_ble_eq_true rfl, Nat.le_of_ble_eq_true rfl⟩
    · have h := ite_f c_15 h
      refine lv_bipush (v := (9 : Int32)) hx hb dX12_stays_94 (by decide) ?_
      refine lv_goto (tgt := 100) hx hb dX12_stays_96 (by decide) ?_
      have h := Option.some.inj h
      have ee0 : (9 : Int32) = rR := congrArg (fun q => q) h
      subst ee0
      rw [← hQ]
      exact retI hx hb hr hlk hK hP hD hS dX12_stays_100 ⟨Nat.le_of_ble_eq_true rfl, Nat.le_of_ble_eq_true rfl⟩
  have h := ite_f c_12 h
  have nc_5 := lv_neT c_5 (show ((1 : Int32)).toInt = 1 from rfl)
  have nc_6 := lv_neT c_6 (show ((2 : Int32)).toInt = 2 from rfl)
  have nc_7 := lv_neT c_7 (show ((3 : Int32)).toInt = 3 from rfl)
  have nc_8 := lv_neT c_8 (show ((4 : Int32)).toInt = 4 from rfl)
  have nc_9 := lv_neT c_9 (show ((5 : Int32)).toInt = 5 from rfl)
  have nc_12 := lv_neT c_12 (show ((6 : Int32)).toInt = 6 from rfl)
  refine lv_tableOut (tgt := 101) hx hb dX12_stays_16 (by omega) (by decide) ?_
  refine lv_iconst (v := (3 : Int32)) hx hb dX12_stays_101 (by decide) ?_
  have h := Option.some.inj h
  have ee0 : (3 : Int32) = rR := congrArg (fun q => q) h
  subst ee0
  rw [← hQ]
  exact retI hx hb hr hlk hK hP hD hS dX12_stays_102 ⟨Nat.le_of_ble_eq_true rfl, Nat.le_of_ble_eq_true rfl⟩

def fX12_reads0 (a : Int32) (d : Nat → Int32) : Option (Int32) :=
  bd (fX12_of a (0 : Int32) d) fun r_1 => (if r_1 = (1 : Int32) then some (2 : Int32) else (if r_1 = (2 : Int32) then some (5 : Int32) else (if r_1 = (3 : Int32) then some (3 : Int32) else (if r_1 = (4 : Int32) then bd (fX12_of a (1 : Int32) d) fun r_7 => (if r_7 ≤ (4 : Int32) then some (2 : Int32) else some (1 : Int32)) else (if r_1 = (5 : Int32) then some (5 : Int32) else (if r_1 = (6 : Int32) then some (9 : Int32) else some (3 : Int32)))))))
set_option maxHeartbeats 4000000 in
set_option maxRecDepth 100000 in
theorem c_X12_reads0 (l : Launch) (G : Nat → Nat) (D : va_G) (cA : Nat → ClassId) (ad : Nat → Nat) (sz : Nat) (d : Nat → Int32) (kept : Nat → Int32) (aside : Nat → Int32) (images : Int32) (found : Nat → Int32) (base : Int32) (at0 : Int32) (size : Int32) (fault : Int32) (opened : Int32) (isRub : Int32) (names : Nat → Int32) (code : Nat → Int32) (coded : Int32) (pile : Nat → Int32) (needs : Nat → Int32) (traced : Nat → Int32) (traceMany : Int32) (who : Int32) (bitsOf : Nat → Int32) (sizeOf : Nat → Int32) (number : Nat → Int32) (lifted : Nat → Int32) (a : Int32) (rR : Int32) (h : fX12_reads0 a d = some rR) : Met l yX12_reads0 wsX12_reads0 ({ frames := 1, cells := 0, slots := 0, locals := 22 } : Room) (PW G D (tyC cA) sz (wM cA ad d kept aside images found base at0 size fault opened isRub names code coded pile needs traced traceMany who bitsOf sizeOf number lifted) [.ref (ad 0), .int a]) (QI D (tyC cA) (va_A (wM cA ad d kept aside images found base at0 size fault opened isRub names code coded pile needs traced traceMany who bitsOf sizeOf number lifted) sz) rR (wM cA ad d kept aside images found base at0 size fault opened isRub names code coded pile needs traced traceMany who bitsOf sizeOf number lifted)) 0 0 (va_A (wM cA ad d kept aside images found base at0 size fault opened isRub names code coded pile needs traced traceMany who bitsOf sizeOf number lifted) sz) := by
  refine ent (cc := cX12_reads0) (maxL := 2) (ret := (some .int)) (fun A => QI D (tyC cA) A rR (wM cA ad d kept aside images found base at0 size fault opened isRub names code coded pile needs traced traceMany who bitsOf sizeOf number lifted)) (by decide +kernel) rfl (Nat.le_of_ble_eq_true rfl) ?_
  intro p e s m args below meth c A ls H hx hb hml hr hlk hts hown hA hK hE hP hD hS hv hmm
  have hv : lv_has ls 2 [(0, .ref (ad 0)), (1, .int a)] := hv
  generalize hQ : MQ below _ args s 0 0 A = Q
  have hP : va_P D vwCl (wM cA ad d kept aside images found base at0 size fault opened isRub names code coded pile needs traced traceMany who bitsOf sizeOf number lifted) H := hP
  unfold fX12_reads0 at h
  refine lv_aload_n hx hb dX12_reads0_0 rfl (lv_at hv 0 rfl) ?_
  refine lv_iload_n hx hb dX12_reads0_1 rfl (lv_at hv 1 rfl) ?_
  refine lv_iconst (v := (0 : Int32)) hx hb dX12_reads0_2 (by decide) ?_
  obtain ⟨r_1, hf_2, h⟩ := bd_ex h
  have sb := Sb.same hP hD hS hA
  refine calI (va_runV (As := [.int a, .int (0 : Int32)]) (rest := []) ⟨hx, hb, hml, hown, hts⟩ (c_X12_of l G D cA ad _ d kept aside images found base at0 size fault opened isRub names code coded pile needs traced traceMany who bitsOf sizeOf number lifted a (0 : Int32) r_1 hf_2) (cwV 2 hts gX12_reads0_X12_of rfl rfl rfl (by decide +kernel) ⟨Nat.le_of_ble_eq_true rfl, Nat.le_of_ble_eq_true rfl⟩) (pvV hE hK hS sb (va_recv hK hP (ci := 12) (q0 := 0) rfl rfl)) rfl rfl hv.1 rfl (lv_room (Nat.le_of_ble_eq_true rfl)) dX12_reads0_3 ⟨Nat.le_of_ble_eq_true rfl, Nat.le_of_ble_eq_true rfl⟩) hS sb (Jn.same sb) (fun H locs hP hD hS => ?_)
  have hP : va_P D vwCl (wM cA ad d kept aside images found base at0 size fault opened isRub names code coded pile needs traced traceMany who bitsOf sizeOf number lifted) H := hP
  have hD : va_D A (wM cA ad d kept aside images found base at0 size fault opened isRub names code coded pile needs traced traceMany who bitsOf sizeOf number lifted) := hD
  by_cases c_3 : r_1 = (1 : Int32)
  · refine lv_tableIn (tgt := 44) (off := 38) hx hb dX12_reads0_6 (by rw [c_3]; decide) (by rw [c_3]; decide) (by rw [c_3]; rfl) (by decide) ?_
    have h := ite_t c_3 h
    refine lv_iconst (v := (2 : Int32)) hx hb dX12_reads0_44 (by decide) ?_
    have h := Option.some.inj h
    have ee0 : (2 : Int32) = rR := congrArg (fun q => q) h
    subst ee0
    rw [← hQ]
    exact retI hx hb hr hlk hK hP hD hS dX12_reads0_45 ⟨Nat.le_of_ble_eq_true rfl, Nat.le_of_ble_eq_true rfl⟩
  have h := ite_f c_3 h
  by_cases c_4 : r_1 = (2 : Int32)
  · refine lv_tableIn (tgt := 62) (off := 56) hx hb dX12_reads0_6 (by rw [c_4]; decide) (by rw [c_4]; decide) (by rw [c_4]; rfl) (by decide) ?_
    have h := ite_t c_4 h
    refine lv_iconst (v := (5 : Int32)) hx hb dX12_reads0_62 (by decide) ?_
    have h := Option.some.inj h
    have ee0 : (5 : Int32) = rR := congrArg (fun q => q) h
    subst ee0
    rw [← hQ]
    exact retI hx hb hr hlk hK hP hD hS dX12_reads0_63 ⟨Nat.le_of_ble_eq_true rfl, Nat.le_of_ble_eq_true rfl⟩
  have h := ite_f c_4 h
  by_cases c_5 : r_1 = (3 : Int32)
  · refine lv_tableIn (tgt := 67) (off := 61) hx hb dX12_reads0_6 (by rw [c_5]; decide) (by rw [c_5]; decide) (by rw [c_5]; rfl) (by decide) ?_
    have h := ite_t c_5 h
    refine lv_iconst (v := (3 : Int32)) hx hb dX12_reads0_67 (by decide) ?_
    have h := Option.some.inj h
    have ee0 : (3 : Int32) = rR := congrArg (fun q => q) h
    subst ee0
    rw [← hQ]
    exact retI hx hb hr hlk hK hP hD hS dX12_reads0_68 ⟨Nat.le_of_ble_eq_true rfl, Nat.le_of_ble_eq_true rfl⟩
  have h := ite_f c_5 h
  by_cases c_6 : r_1 = (4 : Int32)
  · refine lv_tableIn (tgt := 46) (off := 40) hx hb dX12_reads0_6 (by rw [c_6]; decide) (by rw [c_6]; decide) (by rw [c_6]; rfl) (by decide) ?_
    have h := ite_t c_6 h
    refine lv_aload_n hx hb dX12_reads0_46 rfl (lv_at hv 0 rfl) ?_
    refine lv_iload_n hx hb dX12_reads0_47 rfl (lv_at hv 1 rfl) ?_
    refine lv_iconst (v := (1 : Int32)) hx hb dX12_reads0_48 (by decide) ?_
    obtain ⟨r_7, hf_8, h⟩ := bd_ex h
    have sb := Sb.same hP hD hS hA
    refine calI (va_runV (As := [.int a, .int (1 : Int32)]) (rest := []) ⟨hx, hb, hml, hown, hts⟩ (c_X12_of l G D cA ad _ d kept aside images found base at0 size fault opened isRub names code coded pile needs traced traceMany who bitsOf sizeOf number lifted a (1 : Int32) r_7 hf_8) (cwV 2 hts gX12_reads0_X12_of rfl rfl rfl (by decide +kernel) ⟨Nat.le_of_ble_eq_true rfl, Nat.le_of_ble_eq_true rfl⟩) (pvV hE hK hS sb (va_recv hK hP (ci := 12) (q0 := 0) rfl rfl)) rfl rfl hv.1 rfl (lv_room (Nat.le_of_ble_eq_true rfl)) dX12_reads0_49 ⟨Nat.le_of_ble_eq_true rfl, Nat.le_of_ble_eq_true rfl⟩) hS sb (Jn.same sb) (fun H locs hP hD hS => ?_)
    have hP : va_P D vwCl (wM cA ad d kept aside images found base at0 size fault opened isRub names code coded pile needs traced traceMany who bitsOf sizeOf number lifted) H := hP
    have hD : va_D A (wM cA ad d kept aside images found base at0 size fault opened isRub names code coded pile needs traced traceMany who bitsOf sizeOf number lifted) := hD
    refine lv_iconst (v := (4 : Int32)) hx hb dX12_reads0_52 (by decide) ?_
    refine lv_icmp_le (tgt := 60) hx hb dX12_reads0_53 (by decide) (fun c_9 => ?_) (fun c_9 => ?_)
    · have h := ite_t c_9 h
      refine lv_iconst (v := (2 : Int32)) hx hb dX12_reads0_60 (by decide) ?_
      have h := Option.some.inj h
      have ee0 : (2 : Int32) = rR := congrArg (fun q => q) h
      subst ee0
      rw [← hQ]
      exact retI hx hb hr hlk hK hP hD hS dX12_reads0_61 ⟨Nat.le_of_ble_eq_true rfl, Nat.le_of_ble_eq_true rfl⟩
    · have h := ite_f c_9 h
      refine lv_iconst (v := (1 : Int32)) hx hb dX12_reads0_56 (by decide) ?_
      refine lv_goto (tgt := 61) hx hb dX12_reads0_57 (by decide) ?_
      have h := Option.some.inj h
      have ee0 : (1 : Int32) = rR := congrArg (fun q => q) h
      subst ee0
      rw [← hQ]
      exact retI hx hb hr hlk hK hP hD hS dX12_reads0_61 ⟨Nat.le_of_ble_eq_true rfl, Nat.le_of_ble_eq_true rfl⟩
  have h := ite_f c_6 h
  by_cases c_10 : r_1 = (5 : Int32)
  · refine lv_tableIn (tgt := 62) (off := 56) hx hb dX12_reads0_6 (by rw [c_10]; decide) (by rw [c_10]; decide) (by rw [c_10]; rfl) (by decide) ?_
    have h := ite_t c_10 h
    refine lv_iconst (v := (5 : Int32)) hx hb dX12_reads0_62 (by decide) ?_
    have h := Option.some.inj h
    have ee0 : (5 : Int32) = rR := congrArg (fun q => q) h
    subst ee0
    rw [← hQ]
    exact retI hx hb hr hlk hK hP hD hS dX12_reads0_63 ⟨Nat.le_of_ble_eq_true rfl, Nat.le_of_ble_eq_true rfl⟩
  have h := ite_f c_10 h
  by_cases c_11 : r_1 = (6 : Int32)
  · refine lv_tableIn (tgt := 64) (off := 58) hx hb dX12_reads0_6 (by rw [c_11]; decide) (by rw [c_11]; decide) (by rw [c_11]; rfl) (by decide) ?_
    have h := ite_t c_11 h
    refine lv_bipush (v := (9 : Int32)) hx hb dX12_reads0_64 (by decide) ?_
    have h := Option.some.inj h
    have ee0 : (9 : Int32) = rR := congrArg (fun q => q) h
    subst ee0
    rw [← hQ]
    exact retI hx hb hr hlk hK hP hD hS dX12_reads0_66 ⟨Nat.le_of_ble_eq_true rfl, Nat.le_of_ble_eq_true rfl⟩
  have h := ite_f c_11 h
  have nc_3 := lv_neT c_3 (show ((1 : Int32)).toInt = 1 from rfl)
  have nc_4 := lv_neT c_4 (show ((2 : Int32)).toInt = 2 from rfl)
  have nc_5 := lv_neT c_5 (show ((3 : Int32)).toInt = 3 from rfl)
  have nc_6 := lv_neT c_6 (show ((4 : Int32)).toInt = 4 from rfl)
  have nc_10 := lv_neT c_10 (show ((5 : Int32)).toInt = 5 from rfl)
  have nc_11 := lv_neT c_11 (show ((6 : Int32)).toInt = 6 from rfl)
  refine lv_tableOut (tgt := 67) hx hb dX12_reads0_6 (by omega) (by decide) ?_
  refine lv_iconst (v := (3 : Int32)) hx hb dX12_reads0_67 (by decide) ?_
  have h := Option.some.inj h
  have ee0 : (3 : Int32) = rR := congrArg (fun q => q) h
  subst ee0
  rw [← hQ]
  exact retI hx hb hr hlk hK hP hD hS dX12_reads0_68 ⟨Nat.le_of_ble_eq_true rfl, Nat.le_of_ble_eq_true rfl⟩

def fX12_wears (a : Int32) (d : Nat → Int32) : Option (Int32) :=
  bd (fX12_on a d) fun r_1 => bd (fX12_ones r_1) fun r_3 => bd (fX12_of a (0 : Int32) d) fun r_5 => (if r_5 = (1 : Int32) then some (2 : Int32) else (if r_5 = (2 : Int32) then some (1 : Int32) else (if r_5 = (3 : Int32) then some (3 : Int32) else (if r_5 = (4 : Int32) then some (2 : Int32) else (if r_5 = (5 : Int32) then (if r_3 = 0 then some (0 : Int32) else some (1 : Int32)) else (if r_5 = (6 : Int32) then some ((3 : Int32) + r_3) else some (1 : Int32)))))))
set_option maxHeartbeats 4000000 in
set_option maxRecDepth 100000 in
theorem c_X12_wears (l : Launch) (G : Nat → Nat) (D : va_G) (cA : Nat → ClassId) (ad : Nat → Nat) (sz : Nat) (d : Nat → Int32) (kept : Nat → Int32) (aside : Nat → Int32) (images : Int32) (found : Nat → Int32) (base : Int32) (at0 : Int32) (size : Int32) (fault : Int32) (opened : Int32) (isRub : Int32) (names : Nat → Int32) (code : Nat → Int32) (coded : Int32) (pile : Nat → Int32) (needs : Nat → Int32) (traced : Nat → Int32) (traceMany : Int32) (who : Int32) (bitsOf : Nat → Int32) (sizeOf : Nat → Int32) (number : Nat → Int32) (lifted : Nat → Int32) (a : Int32) (rR : Int32) (h : fX12_wears a d = some rR) : Met l yX12_wears wsX12_wears ({ frames := 2, cells := 0, slots := 0, locals := 45 } : Room) (PW G D (tyC cA) sz (wM cA ad d kept aside images found base at0 size fault opened isRub names code coded pile needs traced traceMany who bitsOf sizeOf number lifted) [.ref (ad 0), .int a]) (QI D (tyC cA) (va_A (wM cA ad d kept aside images found base at0 size fault opened isRub names code coded pile needs traced traceMany who bitsOf sizeOf number lifted) sz) rR (wM cA ad d kept aside images found base at0 size fault opened isRub names code coded pile needs traced traceMany who bitsOf sizeOf number lifted)) 0 0 (va_A (wM cA ad d kept aside images found base at0 size fault opened isRub names code coded pile needs traced traceMany who bitsOf sizeOf number lifted) sz) := by
  refine ent (cc := cX12_wears) (maxL := 3) (ret := (some .int)) (fun A => QI D (tyC cA) A rR (wM cA ad d kept aside images found base at0 size fault opened isRub names code coded pile needs traced traceMany who bitsOf sizeOf number lifted)) (by decide +kernel) rfl (Nat.le_of_ble_eq_true rfl) ?_
  intro p e s m args below meth c A ls H hx hb hml hr hlk hts hown hA hK hE hP hD hS hv hmm
  have hv : lv_has ls 3 [(0, .ref (ad 0)), (1, .int a)] := hv
  generalize hQ : MQ below _ args s 0 0 A = Q
  have hP : va_P D vwCl (wM cA ad d kept aside images found base at0 size fault opened isRub names code coded pile needs traced traceMany who bitsOf sizeOf number lifted) H := hP
  unfold fX12_wears at h
  refine lv_aload_n hx hb dX12_wears_0 rfl (lv_at hv 0 rfl) ?_
  refine lv_iload_n hx hb dX12_wears_1 rfl (lv_at hv 1 rfl) ?_
  obtain ⟨r_1, hf_2, h⟩ := bd_ex h
  have sb := Sb.same hP hD hS hA
  refine calI (va_runV (As := [.int a]) (rest := []) ⟨hx, hb, hml, hown, hts⟩ (c_X12_on l G D cA ad _ d kept aside images found base at0 size fault opened isRub names code coded pile needs traced traceMany who bitsOf sizeOf number lifted a r_1 hf_2) (cwV 1 hts gX12_wears_X12_on rfl rfl rfl (by decide +kernel) ⟨Nat.le_of_ble_eq_true rfl, Nat.le_of_ble_eq_true rfl⟩) (pvV hE hK hS sb (va_recv hK hP (ci := 12) (q0 := 0) rfl rfl)) rfl rfl hv.1 rfl (lv_room (Nat.le_of_ble_eq_true rfl)) dX12_wears_2 ⟨Nat.le_of_ble_eq_true rfl, Nat.le_of_ble_eq_true rfl⟩) hS sb (Jn.same sb) (fun H locs hP hD hS => ?_)
  have hP : va_P D vwCl (wM cA ad d kept aside images found base at0 size fault opened isRub names code coded pile needs traced traceMany who bitsOf sizeOf number lifted) H := hP
  have hD : va_D A (wM cA ad d kept aside images found base at0 size fault opened isRub names code coded pile needs traced traceMany who bitsOf sizeOf number lifted) := hD
  obtain ⟨r_3, hf_4, h⟩ := bd_ex h
  have sb := Sb.nil hP hD hS hA
  refine calI (va_runS (As := [.int r_1]) (rest := []) ⟨hx, hb, hml, hown, hts⟩ (c_X12_ones l G D cA  _ r_1 r_3 hf_4) (va_cwS 1 hts gX12_wears_X12_ones rfl rfl rfl (by decide +kernel) ⟨Nat.le_of_ble_eq_true rfl, Nat.le_of_ble_eq_true rfl⟩) (pvS hE hK hS sb) rfl rfl hv.1 rfl (lv_room (Nat.le_of_ble_eq_true rfl)) dX12_wears_5 ⟨Nat.le_of_ble_eq_true rfl, Nat.le_of_ble_eq_true rfl⟩) hS sb (Jn.nil hP hD) (fun H locs hP hD hS => ?_)
  have hP : va_P D vwCl (wM cA ad d kept aside images found base at0 size fault opened isRub names code coded pile needs traced traceMany who bitsOf sizeOf number lifted) H := hP
  have hD : va_D A (wM cA ad d kept aside images found base at0 size fault opened isRub names code coded pile needs traced traceMany who bitsOf sizeOf number lifted) := hD
  refine lv_istore_n (lv' := [(2, .int r_3), (0, .ref (ad 0)), (1, .int a)]) hx hb dX12_wears_8 rfl hv (by decide) rfl (fun ls hv => ?_)
  refine lv_aload_n hx hb dX12_wears_9 rfl (lv_at hv 1 rfl) ?_
  refine lv_iload_n hx hb dX12_wears_10 rfl (lv_at hv 2 rfl) ?_
  refine lv_iconst (v := (0 : Int32)) hx hb dX12_wears_11 (by decide) ?_
  obtain ⟨r_5, hf_6, h⟩ := bd_ex h
  have sb := Sb.same hP hD hS hA
  refine calI (va_runV (As := [.int a, .int (0 : Int32)]) (rest := []) ⟨hx, hb, hml, hown, hts⟩ (c_X12_of l G D cA ad _ d kept aside images found base at0 size fault opened isRub names code coded pile needs traced traceMany who bitsOf sizeOf number lifted a (0 : Int32) r_5 hf_6) (cwV 2 hts gX12_wears_X12_of rfl rfl rfl (by decide +kernel) ⟨Nat.le_of_ble_eq_true rfl, Nat.le_of_ble_eq_true rfl⟩) (pvV hE hK hS sb (va_recv hK hP (ci := 12) (q0 := 0) rfl rfl)) rfl rfl hv.1 rfl (lv_room (Nat.le_of_ble_eq_true rfl)) dX12_wears_12 ⟨Nat.le_of_ble_eq_true rfl, Nat.le_of_ble_eq_true rfl⟩) hS sb (Jn.same sb) (fun H locs hP hD hS => ?_)
  have hP : va_P D vwCl (wM cA ad d kept aside images found base at0 size fault opened isRub names code coded pile needs traced traceMany who bitsOf sizeOf number lifted) H := hP
  have hD : va_D A (wM cA ad d kept aside images found base at0 size fault opened isRub names code coded pile needs traced traceMany who bitsOf sizeOf number lifted) := hD
  by_cases c_7 : r_5 = (1 : Int32)
  · refine lv_tableIn (tgt := 52) (off := 37) hx hb dX12_wears_15 (by rw [c_7]; decide) (by rw [c_7]; decide) (by rw [c_7]; rfl) (by decide) ?_
    have h := ite_t c_7 h
    refine lv_iconst (v := (2 : Int32)) hx hb dX12_wears_52 (by decide) ?_
    have h := Option.some.inj h
    have ee0 : (2 : Int32) = rR := congrArg (fun q => q) h
    subst ee0
    rw [← hQ]
    exact retI hx hb hr hlk hK hP hD hS dX12_wears_53 ⟨Nat.le_of_ble_eq_true rfl, Nat.le_of_ble_eq_true rfl⟩
  have h := ite_f c_7 h
  by_cases c_8 : r_5 = (2 : Int32)
  · refine lv_tableIn (tgt := 70) (off := 55) hx hb dX12_wears_15 (by rw [c_8]; decide) (by rw [c_8]; decide) (by rw [c_8]; rfl) (by decide) ?_
    have h := ite_t c_8 h
    refine lv_iconst (v := (1 : Int32)) hx hb dX12_wears_70 (by decide) ?_
    have h := Option.some.inj h
    have ee0 : (1 : Int32) = rR := congrArg (fun q => q) h
    subst ee0
    rw [← hQ]
    exact retI hx hb hr hlk hK hP hD hS dX12_wears_71 ⟨Nat.le_of_ble_eq_true rfl, Nat.le_of_ble_eq_true rfl⟩
  have h := ite_f c_8 h
  by_cases c_9 : r_5 = (3 : Int32)
  · refine lv_tableIn (tgt := 54) (off := 39) hx hb dX12_wears_15 (by rw [c_9]; decide) (by rw [c_9]; decide) (by rw [c_9]; rfl) (by decide) ?_
    have h := ite_t c_9 h
    refine lv_iconst (v := (3 : Int32)) hx hb dX12_wears_54 (by decide) ?_
    have h := Option.some.inj h
    have ee0 : (3 : Int32) = rR := congrArg (fun q => q) h
    subst ee0
    rw [← hQ]
    exact retI hx hb hr hlk hK hP hD hS dX12_wears_55 ⟨Nat.le_of_ble_eq_true rfl, Nat.le_of_ble_eq_true rfl⟩
  have h := ite_f c_9 h
  by_cases c_10 : r_5 = (4 : Int32)
  · refine lv_tableIn (tgt := 52) (off := 37) hx hb dX12_wears_15 (by rw [c_10]; decide) (by rw [c_10]; decide) (by rw [c_10]; rfl) (by decide) ?_
    have h := ite_t c_10 h
    refine lv_iconst (v := (2 : Int32)) hx hb dX12_wears_52 (by decide) ?_
    have h := Option.some.inj h
    have ee0 : (2 : Int32) = rR := congrArg (fun q => q) h
    subst ee0
    rw [← hQ]
    exact retI hx hb hr hlk hK hP hD hS dX12_wears_53 ⟨Nat.le_of_ble_eq_true rfl, Nat.le_of_ble_eq_true rfl⟩
  have h := ite_f c_10 h
  by_cases c_11 : r_5 = (5 : Int32)
  · refine lv_tableIn (tgt := 56) (off := 41) hx hb dX12_wears_15 (by rw [c_11]; decide) (by rw [c_11]; decide) (by rw [c_11]; rfl) (by decide) ?_
    have h := ite_t c_11 h
    refine lv_iload_n hx hb dX12_wears_56 rfl (lv_at hv 0 rfl) ?_
    refine lv_if_ne (tgt := 64) hx hb dX12_wears_57 (by decide) (fun c_12 => ?_) (fun c_12 => ?_)
    · have h := ite_f c_12 h
      refine lv_iconst (v := (1 : Int32)) hx hb dX12_wears_64 (by decide) ?_
      have h := Option.some.inj h
      have ee0 : (1 : Int32) = rR := congrArg (fun q => q) h
      subst ee0
      rw [← hQ]
      exact retI hx hb hr hlk hK hP hD hS dX12_wears_65 ⟨Nat.le_of_ble_eq_true rfl, Nat.le_of_ble_eq_true rfl⟩
    · have h := ite_t c_12 h
      refine lv_iconst (v := (0 : Int32)) hx hb dX12_wears_60 (by decide) ?_
      refine lv_goto (tgt := 65) hx hb dX12_wears_61 (by decide) ?_
      have h := Option.some.inj h
      have ee0 : (0 : Int32) = rR := congrArg (fun q => q) h
      subst ee0
      rw [← hQ]
      exact retI hx hb hr hlk hK hP hD hS dX12_wears_65 ⟨Nat.le_of_ble_eq_true rfl, Nat.le_of_ble_eq_true rfl⟩
  have h := ite_f c_11 h
  by_cases c_13 : r_5 = (6 : Int32)
  · refine lv_tableIn (tgt := 66) (off := 51) hx hb dX12_wears_15 (by rw [c_13]; decide) (by rw [c_13]; decide) (by rw [c_13]; rfl) (by decide) ?_
    have h := ite_t c_13 h
    refine lv_iconst (v := (3 : Int32)) hx hb dX12_wears_66 (by decide) ?_
    refine lv_iload_n hx hb dX12_wears_67 rfl (lv_at hv 0 rfl) ?_
    refine lv_iadd hx hb dX12_wears_68 ?_
    have h := Option.some.inj h
    have ee0 : ((3 : Int32) + r_3) = rR := congrArg (fun q => q) h
    subst ee0
    rw [← hQ]
    exact retI hx hb hr hlk hK hP hD hS dX12_wears_69 ⟨Nat.le_of_ble_eq_true rfl, Nat.le_of_ble_eq_true rfl⟩
  have h := ite_f c_13 h
  have nc_7 := lv_neT c_7 (show ((1 : Int32)).toInt = 1 from rfl)
  have nc_8 := lv_neT c_8 (show ((2 : Int32)).toInt = 2 from rfl)
  have nc_9 := lv_neT c_9 (show ((3 : Int32)).toInt = 3 from rfl)
  have nc_10 := lv_neT c_10 (show ((4 : Int32)).toInt = 4 from rfl)
  have nc_11 := lv_neT c_11 (show ((5 : Int32)).toInt = 5 from rfl)
  have nc_13 := lv_neT c_13 (show ((6 : Int32)).toInt = 6 from rfl)
  refine lv_tableOut (tgt := 70) hx hb dX12_wears_15 (by omega) (by decide) ?_
  refine lv_iconst (v := (1 : Int32)) hx hb dX12_wears_70 (by decide) ?_
  have h := Option.some.inj h
  have ee0 : (1 : Int32) = rR := congrArg (fun q => q) h
  subst ee0
  rw [← hQ]
  exact retI hx hb hr hlk hK hP hD hS dX12_wears_71 ⟨Nat.le_of_ble_eq_true rfl, Nat.le_of_ble_eq_true rfl⟩

def fX12_rubs (a : Int32) (d : Nat → Int32) (names : Nat → Int32) (pile : Nat → Int32) : Option (Int32 × (Nat → Int32) × (Nat → Int32)) :=
  bd (fX12_wears a d) fun r_1 => bd (fX12_of a (2 : Int32) d) fun r_3 => bd (fX12_on a d) fun r_5 => bd (fX12_ones r_5) fun r_7 => bd (fX12_textGives (1 : Int32) r_1 r_3 r_7 d names pile) fun (r_9, names_10, pile_11) => some (r_9, names_10, pile_11)
set_option maxHeartbeats 4000000 in
set_option maxRecDepth 100000 in
theorem c_X12_rubs (l : Launch) (G : Nat → Nat) (D : va_G) (cA : Nat → ClassId) (ad : Nat → Nat) (sz : Nat) (d : Nat → Int32) (kept : Nat → Int32) (aside : Nat → Int32) (images : Int32) (found : Nat → Int32) (base : Int32) (at0 : Int32) (size : Int32) (fault : Int32) (opened : Int32) (isRub : Int32) (names : Nat → Int32) (code : Nat → Int32) (coded : Int32) (pile : Nat → Int32) (needs : Nat → Int32) (traced : Nat → Int32) (traceMany : Int32) (who : Int32) (bitsOf : Nat → Int32) (sizeOf : Nat → Int32) (number : Nat → Int32) (lifted : Nat → Int32) (a : Int32) (rR : Int32) (namesR : Nat → Int32) (pileR : Nat → Int32) (h : fX12_rubs a d names pile = some (rR, namesR, pileR)) : Met l yX12_rubs wsX12_rubs ({ frames := 3, cells := 0, slots := 0, locals := 72 } : Room) (PW G D (tyC cA) sz (wM cA ad d kept aside images found base at0 size fault opened isRub names code coded pile needs traced traceMany who bitsOf sizeOf number lifted) [.ref (ad 0), .int a]) (QI D (tyC cA) (va_A (wM cA ad d kept aside images found base at0 size fault opened isRub names code coded pile needs traced traceMany who bitsOf sizeOf number lifted) sz) rR (wM cA ad d kept aside images found base at0 size fault opened isRub namesR code coded pileR needs traced traceMany who bitsOf sizeOf number lifted)) 0 0 (va_A (wM cA ad d kept aside images found base at0 size fault opened isRub names code coded pile needs traced traceMany who bitsOf sizeOf number lifted) sz) := by
  refine ent (cc := cX12_rubs) (maxL := 2) (ret := (some .int)) (fun A => QI D (tyC cA) A rR (wM cA ad d kept aside images found base at0 size fault opened isRub namesR code coded pileR needs traced traceMany who bitsOf sizeOf number lifted)) (by decide +kernel) rfl (Nat.le_of_ble_eq_true rfl) ?_
  intro p e s m args below meth c A ls H hx hb hml hr hlk hts hown hA hK hE hP hD hS hv hmm
  have hv : lv_has ls 2 [(0, .ref (ad 0)), (1, .int a)] := hv
  generalize hQ : MQ below _ args s 0 0 A = Q
  have hP : va_P D vwCl (wM cA ad d kept aside images found base at0 size fault opened isRub names code coded pile needs traced traceMany who bitsOf sizeOf number lifted) H := hP
  unfold fX12_rubs at h
  refine lv_aload_n hx hb dX12_rubs_0 rfl (lv_at hv 0 rfl) ?_
  refine lv_iconst (v := (1 : Int32)) hx hb dX12_rubs_1 (by decide) ?_
  refine lv_aload_n hx hb dX12_rubs_2 rfl (lv_at hv 0 rfl) ?_
  refine lv_iload_n hx hb dX12_rubs_3 rfl (lv_at hv 1 rfl) ?_
  obtain ⟨r_1, hf_2, h⟩ := bd_ex h
  have sb := Sb.same hP hD hS hA
  refine calI (va_runV (As := [.int a]) (rest := [.int (1 : Int32), .ref (ad 0)]) ⟨hx, hb, hml, hown, hts⟩ (c_X12_wears l G D cA ad _ d kept aside images found base at0 size fault opened isRub names code coded pile needs traced traceMany who bitsOf sizeOf number lifted a r_1 hf_2) (cwV 1 hts gX12_rubs_X12_wears rfl rfl rfl (by decide +kernel) ⟨Nat.le_of_ble_eq_true rfl, Nat.le_of_ble_eq_true rfl⟩) (pvV hE hK hS sb (va_recv hK hP (ci := 12) (q0 := 0) rfl rfl)) rfl rfl hv.1 rfl (lv_room (Nat.le_of_ble_eq_true rfl)) dX12_rubs_4 ⟨Nat.le_of_ble_eq_true rfl, Nat.le_of_ble_eq_true rfl⟩) hS sb (Jn.same sb) (fun H locs hP hD hS => ?_)
  have hP : va_P D vwCl (wM cA ad d kept aside images found base at0 size fault opened isRub names code coded pile needs traced traceMany who bitsOf sizeOf number lifted) H := hP
  have hD : va_D A (wM cA ad d kept aside images found base at0 size fault opened isRub names code coded pile needs traced traceMany who bitsOf sizeOf number lifted) := hD
  refine lv_aload_n hx hb dX12_rubs_7 rfl (lv_at hv 0 rfl) ?_
  refine lv_iload_n hx hb dX12_rubs_8 rfl (lv_at hv 1 rfl) ?_
  refine lv_iconst (v := (2 : Int32)) hx hb dX12_rubs_9 (by decide) ?_
  obtain ⟨r_3, hf_4, h⟩ := bd_ex h
  have sb := Sb.same hP hD hS hA
  refine calI (va_runV (As := [.int a, .int (2 : Int32)]) (rest := [.int r_1, .int (1 : Int32), .ref (ad 0)]) ⟨hx, hb, hml, hown, hts⟩ (c_X12_of l G D cA ad _ d kept aside images found base at0 size fault opened isRub names code coded pile needs traced traceMany who bitsOf sizeOf number lifted a (2 : Int32) r_3 hf_4) (cwV 2 hts gX12_rubs_X12_of rfl rfl rfl (by decide +kernel) ⟨Nat.le_of_ble_eq_true rfl, Nat.le_of_ble_eq_true rfl⟩) (pvV hE hK hS sb (va_recv hK hP (ci := 12) (q0 := 0) rfl rfl)) rfl rfl hv.1 rfl (lv_room (Nat.le_of_ble_eq_true rfl)) dX12_rubs_10 ⟨Nat.le_of_ble_eq_true rfl, Nat.le_of_ble_eq_true rfl⟩) hS sb (Jn.same sb) (fun H locs hP hD hS => ?_)
  have hP : va_P D vwCl (wM cA ad d kept aside images found base at0 size fault opened isRub names code coded pile needs traced traceMany who bitsOf sizeOf number lifted) H := hP
  have hD : va_D A (wM cA ad d kept aside images found base at0 size fault opened isRub names code coded pile needs traced traceMany who bitsOf sizeOf number lifted) := hD
  refine lv_aload_n hx hb dX12_rubs_13 rfl (lv_at hv 0 rfl) ?_
  refine lv_iload_n hx hb dX12_rubs_14 rfl (lv_at hv 1 rfl) ?_
  obtain ⟨r_5, hf_6, h⟩ := bd_ex h
  have sb := Sb.same hP hD hS hA
  refine calI (va_runV (As := [.int a]) (rest := [.int r_3, .int r_1, .int (1 : Int32), .ref (ad 0)]) ⟨hx, hb, hml, hown, hts⟩ (c_X12_on l G D cA ad _ d kept aside images found base at0 size fault opened isRub names code coded pile needs traced traceMany who bitsOf sizeOf number lifted a r_5 hf_6) (cwV 1 hts gX12_rubs_X12_on rfl rfl rfl (by decide +kernel) ⟨Nat.le_of_ble_eq_true rfl, Nat.le_of_ble_eq_true rfl⟩) (pvV hE hK hS sb (va_recv hK hP (ci := 12) (q0 := 0) rfl rfl)) rfl rfl hv.1 rfl (lv_room (Nat.le_of_ble_eq_true rfl)) dX12_rubs_15 ⟨Nat.le_of_ble_eq_true rfl, Nat.le_of_ble_eq_true rfl⟩) hS sb (Jn.same sb) (fun H locs hP hD hS => ?_)
  have hP : va_P D vwCl (wM cA ad d kept aside images found base at0 size fault opened isRub names code coded pile needs traced traceMany who bitsOf sizeOf number lifted) H := hP
  have hD : va_D A (wM cA ad d kept aside images found base at0 size fault opened isRub names code coded pile needs traced traceMany who bitsOf sizeOf number lifted) := hD
  obtain ⟨r_7, hf_8, h⟩ := bd_ex h
  have sb := Sb.nil hP hD hS hA
  refine calI (va_runS (As := [.int r_5]) (rest := [.int r_3, .int r_1, .int (1 : Int32), .ref (ad 0)]) ⟨hx, hb, hml, hown, hts⟩ (c_X12_ones l G D cA  _ r_5 r_7 hf_8) (va_cwS 1 hts gX12_rubs_X12_ones rfl rfl rfl (by decide +kernel) ⟨Nat.le_of_ble_eq_true rfl, Nat.le_of_ble_eq_true rfl⟩) (pvS hE hK hS sb) rfl rfl hv.1 rfl (lv_room (Nat.le_of_ble_eq_true rfl)) dX12_rubs_18 ⟨Nat.le_of_ble_eq_true rfl, Nat.le_of_ble_eq_true rfl⟩) hS sb (Jn.nil hP hD) (fun H locs hP hD hS => ?_)
  have hP : va_P D vwCl (wM cA ad d kept aside images found base at0 size fault opened isRub names code coded pile needs traced traceMany who bitsOf sizeOf number lifted) H := hP
  have hD : va_D A (wM cA ad d kept aside images found base at0 size fault opened isRub names code coded pile needs traced traceMany who bitsOf sizeOf number lifted) := hD
  obtain ⟨⟨r_9, names_10, pile_11⟩, hf_12, h⟩ := bd_ex h
  have sb := Sb.same hP hD hS hA
  refine calI (va_runV (As := [.int (1 : Int32), .int r_1, .int r_3, .int r_7]) (rest := []) ⟨hx, hb, hml, hown, hts⟩ (c_X12_textGives l G D cA ad _ d kept aside images found base at0 size fault opened isRub names code coded pile needs traced traceMany who bitsOf sizeOf number lifted (1 : Int32) r_1 r_3 r_7 r_9 names_10 pile_11 hf_12) (cwV 4 hts gX12_rubs_X12_textGives rfl rfl rfl (by decide +kernel) ⟨Nat.le_of_ble_eq_true rfl, Nat.le_of_ble_eq_true rfl⟩) (pvV hE hK hS sb (va_recv hK hP (ci := 12) (q0 := 0) rfl rfl)) rfl rfl hv.1 rfl (lv_room (Nat.le_of_ble_eq_true rfl)) dX12_rubs_21 ⟨Nat.le_of_ble_eq_true rfl, Nat.le_of_ble_eq_true rfl⟩) hS sb (Jn.same sb) (fun H locs hP hD hS => ?_)
  have hP : va_P D vwCl (wM cA ad d kept aside images found base at0 size fault opened isRub names_10 code coded pile_11 needs traced traceMany who bitsOf sizeOf number lifted) H := hP
  have hD : va_D A (wM cA ad d kept aside images found base at0 size fault opened isRub names_10 code coded pile_11 needs traced traceMany who bitsOf sizeOf number lifted) := hD
  have h := Option.some.inj h
  have ee0 : r_9 = rR := congrArg (fun q => q.1) h
  have ee1 : names_10 = namesR := congrArg (fun q => q.2.1) h
  have ee2 : pile_11 = pileR := congrArg (fun q => q.2.2) h
  subst ee0
  subst ee1
  subst ee2
  rw [← hQ]
  exact retI hx hb hr hlk hK hP hD hS dX12_rubs_24 ⟨Nat.le_of_ble_eq_true rfl, Nat.le_of_ble_eq_true rfl⟩

def fX12_swallows (a : Int32) (b : Int32) (d : Nat → Int32) (names : Nat → Int32) (pile : Nat → Int32) : Option ((Nat → Int32) × (Nat → Int32) × (Nat → Int32)) :=
  bd (fX12_stays a b d) fun r_1 => ckI ((6 : Int32) + b) 326 (bd (fX12_of a (2 : Int32) d) fun r_4 => bd (fX12_textGives (0 : Int32) r_1 (d (((6 : Int32) + b)).toNatClampNeg) r_4 d names pile) fun (r_6, names_7, pile_8) => bd (fX12_of a ((3 : Int32) + b) d) fun r_10 => (if r_6 ≤ r_10 then bd (fX12_of a ((3 : Int32) + b) d) fun r_13 => bd (fX12_sets a ((3 : Int32) + b) r_13 d) fun d_15 => some (d_15, names_7, pile_8) else bd (fX12_sets a ((3 : Int32) + b) r_6 d) fun d_17 => some (d_17, names_7, pile_8)))
set_option maxHeartbeats 4000000 in
set_option maxRecDepth 100000 in
theorem c_X12_swallows (l : Launch) (G : Nat → Nat) (D : va_G) (cA : Nat → ClassId) (ad : Nat → Nat) (sz : Nat) (d : Nat → Int32) (kept : Nat → Int32) (aside : Nat → Int32) (images : Int32) (found : Nat → Int32) (base : Int32) (at0 : Int32) (size : Int32) (fault : Int32) (opened : Int32) (isRub : Int32) (names : Nat → Int32) (code : Nat → Int32) (coded : Int32) (pile : Nat → Int32) (needs : Nat → Int32) (traced : Nat → Int32) (traceMany : Int32) (who : Int32) (bitsOf : Nat → Int32) (sizeOf : Nat → Int32) (number : Nat → Int32) (lifted : Nat → Int32) (a : Int32) (b : Int32) (dR : Nat → Int32) (namesR : Nat → Int32) (pileR : Nat → Int32) (h : fX12_swallows a b d names pile = some (dR, namesR, pileR)) : Met l yX12_swallows wsX12_swallows ({ frames := 3, cells := 0, slots := 0, locals := 72 } : Room) (PW G D (tyC cA) sz (wM cA ad d kept aside images found base at0 size fault opened isRub names code coded pile needs traced traceMany who bitsOf sizeOf number lifted) [.ref (ad 0), .int a, .int b]) (QV D (tyC cA) (va_A (wM cA ad d kept aside images found base at0 size fault opened isRub names code coded pile needs traced traceMany who bitsOf sizeOf number lifted) sz) (wM cA ad dR kept aside images found base at0 size fault opened isRub namesR code coded pileR needs traced traceMany who bitsOf sizeOf number lifted)) 0 0 (va_A (wM cA ad d kept aside images found base at0 size fault opened isRub names code coded pile needs traced traceMany who bitsOf sizeOf number lifted) sz) := by
  refine ent (cc := cX12_swallows) (maxL := 4) (ret := none) (fun A => QV D (tyC cA) A (wM cA ad dR kept aside images found base at0 size fault opened isRub namesR code coded pileR needs traced traceMany who bitsOf sizeOf number lifted)) (by decide +kernel) rfl (Nat.le_of_ble_eq_true rfl) ?_
  intro p e s m args below meth c A ls H hx hb hml hr hlk hts hown hA hK hE hP hD hS hv hmm
  have hv : lv_has ls 4 [(0, .ref (ad 0)), (1, .int a), (2, .int b)] := hv
  have in_12 : ∀ w ∈ u_ws RX12 TX12 23, w ∈ wsX12_swallows := fun _ h => List.mem_cons_of_mem _ (List.mem_append_right _ h)
  have w_0 := hts (.fieldLink RX12 7 "SpoonsLastModel" "d" "[I") (List.mem_of_getElem? (i := 1) rfl)
  generalize hQ : MQ below _ args s 0 0 A = Q
  have hP : va_P D vwCl (wM cA ad d kept aside images found base at0 size fault opened isRub names code coded pile needs traced traceMany who bitsOf sizeOf number lifted) H := hP
  unfold fX12_swallows at h
  refine lv_aload_n hx hb dX12_swallows_0 rfl (lv_at hv 0 rfl) ?_
  refine lv_iconst (v := (0 : Int32)) hx hb dX12_swallows_1 (by decide) ?_
  refine lv_aload_n hx hb dX12_swallows_2 rfl (lv_at hv 0 rfl) ?_
  refine lv_iload_n hx hb dX12_swallows_3 rfl (lv_at hv 1 rfl) ?_
  refine lv_iload_n hx hb dX12_swallows_4 rfl (lv_at hv 2 rfl) ?_
  obtain ⟨r_1, hf_2, h⟩ := bd_ex h
  have sb := Sb.same hP hD hS hA
  refine calI (va_runV (As := [.int a, .int b]) (rest := [.int (0 : Int32), .ref (ad 0)]) ⟨hx, hb, hml, hown, hts⟩ (c_X12_stays l G D cA ad _ d kept aside images found base at0 size fault opened isRub names code coded pile needs traced traceMany who bitsOf sizeOf number lifted a b r_1 hf_2) (cwV 2 hts gX12_swallows_X12_stays rfl rfl rfl (by decide +kernel) ⟨Nat.le_of_ble_eq_true rfl, Nat.le_of_ble_eq_true rfl⟩) (pvV hE hK hS sb (va_recv hK hP (ci := 12) (q0 := 0) rfl rfl)) rfl rfl hv.1 rfl (lv_room (Nat.le_of_ble_eq_true rfl)) dX12_swallows_5 ⟨Nat.le_of_ble_eq_true rfl, Nat.le_of_ble_eq_true rfl⟩) hS sb (Jn.same sb) (fun H locs hP hD hS => ?_)
  have hP : va_P D vwCl (wM cA ad d kept aside images found base at0 size fault opened isRub names code coded pile needs traced traceMany who bitsOf sizeOf number lifted) H := hP
  have hD : va_D A (wM cA ad d kept aside images found base at0 size fault opened isRub names code coded pile needs traced traceMany who bitsOf sizeOf number lifted) := hD
  refine lv_aload_n hx hb dX12_swallows_8 rfl (lv_at hv 0 rfl) ?_
  refine va_get (D := D) (ci := 12) (v := .ref (ad 1)) (C := RX12) (T := TX12) (N := 23) hx hb hts in_12 hown hK hP 0 rfl rfl 0 (by decide) w_0 (fun _ h9 => h9) rfl dX12_swallows_9 ?_
  refine lv_bipush (v := (6 : Int32)) hx hb dX12_swallows_12 (by decide) ?_
  refine lv_iload_n hx hb dX12_swallows_14 rfl (lv_at hv 2 rfl) ?_
  refine lv_iadd hx hb dX12_swallows_15 ?_
  obtain ⟨c_3, h⟩ := ckI_ex h
  refine va_iald (D := D) hx hb hK hP 1 0 rfl rfl c_3 dX12_swallows_16 ?_
  refine lv_aload_n hx hb dX12_swallows_17 rfl (lv_at hv 0 rfl) ?_
  refine lv_iload_n hx hb dX12_swallows_18 rfl (lv_at hv 1 rfl) ?_
  refine lv_iconst (v := (2 : Int32)) hx hb dX12_swallows_19 (by decide) ?_
  obtain ⟨r_4, hf_5, h⟩ := bd_ex h
  have sb := Sb.same hP hD hS hA
  refine calI (va_runV (As := [.int a, .int (2 : Int32)]) (rest := [.int (d (((6 : Int32) + b)).toNatClampNeg), .int r_1, .int (0 : Int32), .ref (ad 0)]) ⟨hx, hb, hml, hown, hts⟩ (c_X12_of l G D cA ad _ d kept aside images found base at0 size fault opened isRub names code coded pile needs traced traceMany who bitsOf sizeOf number lifted a (2 : Int32) r_4 hf_5) (cwV 2 hts gX12_swallows_X12_of rfl rfl rfl (by decide +kernel) ⟨Nat.le_of_ble_eq_true rfl, Nat.le_of_ble_eq_true rfl⟩) (pvV hE hK hS sb (va_recv hK hP (ci := 12) (q0 := 0) rfl rfl)) rfl rfl hv.1 rfl (lv_room (Nat.le_of_ble_eq_true rfl)) dX12_swallows_20 ⟨Nat.le_of_ble_eq_true rfl, Nat.le_of_ble_eq_true rfl⟩) hS sb (Jn.same sb) (fun H locs hP hD hS => ?_)
  have hP : va_P D vwCl (wM cA ad d kept aside images found base at0 size fault opened isRub names code coded pile needs traced traceMany who bitsOf sizeOf number lifted) H := hP
  have hD : va_D A (wM cA ad d kept aside images found base at0 size fault opened isRub names code coded pile needs traced traceMany who bitsOf sizeOf number lifted) := hD
  obtain ⟨⟨r_6, names_7, pile_8⟩, hf_9, h⟩ := bd_ex h
  have sb := Sb.same hP hD hS hA
  refine calI (va_runV (As := [.int (0 : Int32), .int r_1, .int (d (((6 : Int32) + b)).toNatClampNeg), .int r_4]) (rest := []) ⟨hx, hb, hml, hown, hts⟩ (c_X12_textGives l G D cA ad _ d kept aside images found base at0 size fault opened isRub names code coded pile needs traced traceMany who bitsOf sizeOf number lifted (0 : Int32) r_1 (d (((6 : Int32) + b)).toNatClampNeg) r_4 r_6 names_7 pile_8 hf_9) (cwV 4 hts gX12_swallows_X12_textGives rfl rfl rfl (by decide +kernel) ⟨Nat.le_of_ble_eq_true rfl, Nat.le_of_ble_eq_true rfl⟩) (pvV hE hK hS sb (va_recv hK hP (ci := 12) (q0 := 0) rfl rfl)) rfl rfl hv.1 rfl (lv_room (Nat.le_of_ble_eq_true rfl)) dX12_swallows_23 ⟨Nat.le_of_ble_eq_true rfl, Nat.le_of_ble_eq_true rfl⟩) hS sb (Jn.same sb) (fun H locs hP hD hS => ?_)
  have hP : va_P D vwCl (wM cA ad d kept aside images found base at0 size fault opened isRub names_7 code coded pile_8 needs traced traceMany who bitsOf sizeOf number lifted) H := hP
  have hD : va_D A (wM cA ad d kept aside images found base at0 size fault opened isRub names_7 code coded pile_8 needs traced traceMany who bitsOf sizeOf number lifted) := hD
  refine lv_istore_n (lv' := [(3, .int r_6), (0, .ref (ad 0)), (1, .int a), (2, .int b)]) hx hb dX12_swallows_26 rfl hv (by decide) rfl (fun ls hv => ?_)
  refine lv_aload_n hx hb dX12_swallows_27 rfl (lv_at hv 1 rfl) ?_
  refine lv_iload_n hx hb dX12_swallows_28 rfl (lv_at hv 2 rfl) ?_
  refine lv_iconst (v := (3 : Int32)) hx hb dX12_swallows_29 (by decide) ?_
  refine lv_iload_n hx hb dX12_swallows_30 rfl (lv_at hv 3 rfl) ?_
  refine lv_iadd hx hb dX12_swallows_31 ?_
  refine lv_iload_n hx hb dX12_swallows_32 rfl (lv_at hv 0 rfl) ?_
  refine lv_aload_n hx hb dX12_swallows_33 rfl (lv_at hv 1 rfl) ?_
  refine lv_iload_n hx hb dX12_swallows_34 rfl (lv_at hv 2 rfl) ?_
  refine lv_iconst (v := (3 : Int32)) hx hb dX12_swallows_35 (by decide) ?_
  refine lv_iload_n hx hb dX12_swallows_36 rfl (lv_at hv 3 rfl) ?_
  refine lv_iadd hx hb dX12_swallows_37 ?_
  obtain ⟨r_10, hf_11, h⟩ := bd_ex h
  have sb := Sb.same hP hD hS hA
  refine calI (va_runV (As := [.int a, .int ((3 : Int32) + b)]) (rest := [.int r_6, .int ((3 : Int32) + b), .int a, .ref (ad 0)]) ⟨hx, hb, hml, hown, hts⟩ (c_X12_of l G D cA ad _ d kept aside images found base at0 size fault opened isRub names_7 code coded pile_8 needs traced traceMany who bitsOf sizeOf number lifted a ((3 : Int32) + b) r_10 hf_11) (cwV 2 hts gX12_swallows_X12_of rfl rfl rfl (by decide +kernel) ⟨Nat.le_of_ble_eq_true rfl, Nat.le_of_ble_eq_true rfl⟩) (pvV hE hK hS sb (va_recv hK hP (ci := 12) (q0 := 0) rfl rfl)) rfl rfl hv.1 rfl (lv_room (Nat.le_of_ble_eq_true rfl)) dX12_swallows_38 ⟨Nat.le_of_ble_eq_true rfl, Nat.le_of_ble_eq_true rfl⟩) hS sb (Jn.same sb) (fun H locs hP hD hS => ?_)
  have hP : va_P D vwCl (wM cA ad d kept aside images found base at0 size fault opened isRub names_7 code coded pile_8 needs traced traceMany who bitsOf sizeOf number lifted) H := hP
  have hD : va_D A (wM cA ad d kept aside images found base at0 size fault opened isRub names_7 code coded pile_8 needs traced traceMany who bitsOf sizeOf number lifted) := hD
  refine lv_icmp_le (tgt := 48) hx hb dX12_swallows_41 (by decide) (fun c_12 => ?_) (fun c_12 => ?_)
  · have h := ite_t c_12 h
    refine lv_aload_n hx hb dX12_swallows_48 rfl (lv_at hv 1 rfl) ?_
    refine lv_iload_n hx hb dX12_swallows_49 rfl (lv_at hv 2 rfl) ?_
    refine lv_iconst (v := (3 : Int32)) hx hb dX12_swallows_50 (by decide) ?_
    refine lv_iload_n hx hb dX12_swallows_51 rfl (lv_at hv 3 rfl) ?_
    refine lv_iadd hx hb dX12_swallows_52 ?_
    obtain ⟨r_13, hf_14, h⟩ := bd_ex h
    have sb := Sb.same hP hD hS hA
    refine calI (va_runV (As := [.int a, .int ((3 : Int32) + b)]) (rest := [.int ((3 : Int32) + b), .int a, .ref (ad 0)]) ⟨hx, hb, hml, hown, hts⟩ (c_X12_of l G D cA ad _ d kept aside images found base at0 size fault opened isRub names_7 code coded pile_8 needs traced traceMany who bitsOf sizeOf number lifted a ((3 : Int32) + b) r_13 hf_14) (cwV 2 hts gX12_swallows_X12_of rfl rfl rfl (by decide +kernel) ⟨Nat.le_of_ble_eq_true rfl, Nat.le_of_ble_eq_true rfl⟩) (pvV hE hK hS sb (va_recv hK hP (ci := 12) (q0 := 0) rfl rfl)) rfl rfl hv.1 rfl (lv_room (Nat.le_of_ble_eq_true rfl)) dX12_swallows_53 ⟨Nat.le_of_ble_eq_true rfl, Nat.le_of_ble_eq_true rfl⟩) hS sb (Jn.same sb) (fun H locs hP hD hS => ?_)
    have hP : va_P D vwCl (wM cA ad d kept aside images found base at0 size fault opened isRub names_7 code coded pile_8 needs traced traceMany who bitsOf sizeOf number lifted) H := hP
    have hD : va_D A (wM cA ad d kept aside images found base at0 size fault opened isRub names_7 code coded pile_8 needs traced traceMany who bitsOf sizeOf number lifted) := hD
    obtain ⟨d_15, hf_16, h⟩ := bd_ex h
    have sb := Sb.same hP hD hS hA
    refine calV (va_runV (As := [.int a, .int ((3 : Int32) + b), .int r_13]) (rest := []) ⟨hx, hb, hml, hown, hts⟩ (c_X12_sets l G D cA ad _ d kept aside images found base at0 size fault opened isRub names_7 code coded pile_8 needs traced traceMany who bitsOf sizeOf number lifted a ((3 : Int32) + b) r_13 d_15 hf_16) (cwV 3 hts gX12_swallows_X12_sets rfl rfl rfl (by decide +kernel) ⟨Nat.le_of_ble_eq_true rfl, Nat.le_of_ble_eq_true rfl⟩) (pvV hE hK hS sb (va_recv hK hP (ci := 12) (q0 := 0) rfl rfl)) rfl rfl hv.1 rfl (lv_room (Nat.le_of_ble_eq_true rfl)) dX12_swallows_56 ⟨Nat.le_of_ble_eq_true rfl, Nat.le_of_ble_eq_true rfl⟩) hS sb (Jn.same sb) (fun H locs hP hD hS => ?_)
    have hP : va_P D vwCl (wM cA ad d_15 kept aside images found base at0 size fault opened isRub names_7 code coded pile_8 needs traced traceMany who bitsOf sizeOf number lifted) H := hP
    have hD : va_D A (wM cA ad d_15 kept aside images found base at0 size fault opened isRub names_7 code coded pile_8 needs traced traceMany who bitsOf sizeOf number lifted) := hD
    have h := Option.some.inj h
    have ee0 : d_15 = dR := congrArg (fun q => q.1) h
    have ee1 : names_7 = namesR := congrArg (fun q => q.2.1) h
    have ee2 : pile_8 = pileR := congrArg (fun q => q.2.2) h
    subst ee0
    subst ee1
    subst ee2
    rw [← hQ]
    exact retV hx hb hr hlk hK hP hD hS dX12_swallows_59 ⟨Nat.le_of_ble_eq_true rfl, Nat.le_of_ble_eq_true rfl⟩
  · have h := ite_f c_12 h
    refine lv_iload_n hx hb dX12_swallows_44 rfl (lv_at hv 0 rfl) ?_
    refine lv_goto (tgt := 56) hx hb dX12_swallows_45 (by decide) ?_
    obtain ⟨d_17, hf_18, h⟩ := bd_ex h
    have sb := Sb.same hP hD hS hA
    refine calV (va_runV (As := [.int a, .int ((3 : Int32) + b), .int r_6]) (rest := []) ⟨hx, hb, hml, hown, hts⟩ (c_X12_sets l G D cA ad _ d kept aside images found base at0 size fault opened isRub names_7 code coded pile_8 needs traced traceMany who bitsOf sizeOf number lifted a ((3 : Int32) + b) r_6 d_17 hf_18) (cwV 3 hts gX12_swallows_X12_sets rfl rfl rfl (by decide +kernel) ⟨Nat.le_of_ble_eq_true rfl, Nat.le_of_ble_eq_true rfl⟩) (pvV hE hK hS sb (va_recv hK hP (ci := 12) (q0 := 0) rfl rfl)) rfl rfl hv.1 rfl (lv_room (Nat.le_of_ble_eq_true rfl)) dX12_swallows_56 ⟨Nat.le_of_ble_eq_true rfl, Nat.le_of_ble_eq_true rfl⟩) hS sb (Jn.same sb) (fun H locs hP hD hS => ?_)
    have hP : va_P D vwCl (wM cA ad d_17 kept aside images found base at0 size fault opened isRub names_7 code coded pile_8 needs traced traceMany who bitsOf sizeOf number lifted) H := hP
    have hD : va_D A (wM cA ad d_17 kept aside images found base at0 size fault opened isRub names_7 code coded pile_8 needs traced traceMany who bitsOf sizeOf number lifted) := hD
    have h := Option.some.inj h
    have ee0 : d_17 = dR := congrArg (fun q => q.1) h
    have ee1 : names_7 = namesR := congrArg (fun q => q.2.1) h
    have ee2 : pile_8 = pileR := congrArg (fun q => q.2.2) h
    subst ee0
    subst ee1
    subst ee2
    rw [← hQ]
    exact retV hx hb hr hlk hK hP hD hS dX12_swallows_59 ⟨Nat.le_of_ble_eq_true rfl, Nat.le_of_ble_eq_true rfl⟩

def fX12_washes_153 (v1_120 : Int32) (v4_120 : Int32) (v5_153 : Int32) (k0_153 : Int32) (k1_153 : Int32) (k2_153 : Int32) (d_153 : Nat → Int32) (names_120 : Nat → Int32) (pile_120 : Nat → Int32) : Option ((Int32 × (Nat → Int32)) ⊕ (Int32 × (Nat → Int32))) :=
  bd (fX12_sets k2_153 k1_153 k0_153 d_153) fun d_24 => bnd (v5_153 + (1 : Int32)) fun y_26 => some (.inl (y_26, d_24))
def fX12_washes_120B (v1_120 : Int32) (v4_120 : Int32) (names_120 : Nat → Int32) (pile_120 : Nat → Int32) (v5_120b : Int32) (d_120b : Nat → Int32) : Option ((Int32 × (Nat → Int32)) ⊕ (Int32 × (Nat → Int32))) :=
  (if (12 : Int32) ≤ v5_120b then some (.inr (v5_120b, d_120b)) else (if v4_120 = 0 then bd (fX12_of v1_120 ((3 : Int32) + v5_120b) d_120b) fun r_22 => fX12_washes_153 v1_120 v4_120 v5_120b (r_22 / (2 : Int32)) ((3 : Int32) + v5_120b) v1_120 d_120b names_120 pile_120 else fX12_washes_153 v1_120 v4_120 v5_120b (0 : Int32) ((3 : Int32) + v5_120b) v1_120 d_120b names_120 pile_120))
def fX12_washes_120 (v1_120 : Int32) (v4_120 : Int32) (v5_120 : Int32) (d_120 : Nat → Int32) (names_120 : Nat → Int32) (pile_120 : Nat → Int32) : Option ((Nat → Int32) × (Nat → Int32) × (Nat → Int32)) :=
  bd (lp (fun σ : Int32 × (Nat → Int32) => fX12_washes_120B v1_120 v4_120 names_120 pile_120 (σ.1) (σ.2)) FU (v5_120, d_120)) fun ρ => match ρ with | (v5_120r, d_120r) => some (d_120r, names_120, pile_120)
def fX12_washes_115 (v1_115 : Int32) (v4_115 : Int32) (k0_115 : Int32) (k1_115 : Int32) (k2_115 : Int32) (d_115 : Nat → Int32) (names_115 : Nat → Int32) (pile_115 : Nat → Int32) : Option ((Nat → Int32) × (Nat → Int32) × (Nat → Int32)) :=
  bnd (k1_115 ||| k0_115) fun y_17 => ckI k2_115 326 (bnd (upd d_115 (k2_115).toNatClampNeg y_17) fun d_19 => fX12_washes_120 v1_115 v4_115 (0 : Int32) d_19 names_115 pile_115)
def fX12_washes_63 (v1_15 : Int32) (v2_15 : Int32) (v3_15 : Int32) (v4_63 : Int32) (k0_63 : Int32) (k1_63 : Int32) (k2_63 : Int32) (d_63 : Nat → Int32) (names_15 : Nat → Int32) (pile_15 : Nat → Int32) : Option ((Int32 × (Nat → Int32)) ⊕ (Int32 × (Nat → Int32))) :=
  bnd (k1_63 ||| k0_63) fun y_32 => ckI k2_63 326 (bnd (upd d_63 (k2_63).toNatClampNeg y_32) fun d_34 => bnd (v4_63 + (1 : Int32)) fun y_35 => some (.inl (y_35, d_34)))
def fX12_washes_62 (v1_15 : Int32) (v2_15 : Int32) (v3_15 : Int32) (v4_62 : Int32) (k0_62 : Int32) (k1_62 : Int32) (d_62 : Nat → Int32) (names_15 : Nat → Int32) (pile_15 : Nat → Int32) : Option ((Int32 × (Nat → Int32)) ⊕ (Int32 × (Nat → Int32))) :=
  fX12_washes_63 v1_15 v2_15 v3_15 v4_62 (0 : Int32) k0_62 k1_62 d_62 names_15 pile_15
def fX12_washes_15B (v1_15 : Int32) (v2_15 : Int32) (v3_15 : Int32) (names_15 : Nat → Int32) (pile_15 : Nat → Int32) (v4_15b : Int32) (d_15b : Nat → Int32) : Option ((Int32 × (Nat → Int32)) ⊕ (Int32 × (Nat → Int32))) :=
  (if (12 : Int32) ≤ v4_15b then some (.inr (v4_15b, d_15b)) else bd (fX12_of v1_15 ((3 : Int32) + v4_15b) d_15b) fun r_28 => ckI (2 : Int32) 326 ((if r_28 ≤ 0 then fX12_washes_62 v1_15 v2_15 v3_15 v4_15b (d_15b ((2 : Int32)).toNatClampNeg) (2 : Int32) d_15b names_15 pile_15 else bd (fX12_reads0 v1_15 d_15b) fun r_36 => (if r_28 < r_36 then fX12_washes_62 v1_15 v2_15 v3_15 v4_15b (d_15b ((2 : Int32)).toNatClampNeg) (2 : Int32) d_15b names_15 pile_15 else fX12_washes_63 v1_15 v2_15 v3_15 v4_15b ((1 : Int32) <<< (v4_15b &&& 31)) (d_15b ((2 : Int32)).toNatClampNeg) (2 : Int32) d_15b names_15 pile_15))))
def fX12_washes_15 (v1_15 : Int32) (v2_15 : Int32) (v3_15 : Int32) (v4_15 : Int32) (d_15 : Nat → Int32) (names_15 : Nat → Int32) (pile_15 : Nat → Int32) : Option ((Nat → Int32) × (Nat → Int32) × (Nat → Int32)) :=
  bd (lp (fun σ : Int32 × (Nat → Int32) => fX12_washes_15B v1_15 v2_15 v3_15 names_15 pile_15 (σ.1) (σ.2)) FU (v4_15, d_15)) fun ρ => match ρ with | (v4_15r, d_15r) => bd (fX12_of v1_15 (2 : Int32) d_15r) fun r_7 => bd (fX12_held (r_7 - v3_15) (0 : Int32) (99 : Int32)) fun r_9 => bd (fX12_sets v1_15 (2 : Int32) r_9 d_15r) fun d_11 => bd (fX12_isThrough v1_15 d_11) fun r_13 => ckI (2 : Int32) 326 ((if r_13 = 0 then fX12_washes_115 v1_15 r_13 (0 : Int32) (d_11 ((2 : Int32)).toNatClampNeg) (2 : Int32) d_11 names_15 pile_15 else fX12_washes_115 v1_15 r_13 v2_15 (d_11 ((2 : Int32)).toNatClampNeg) (2 : Int32) d_11 names_15 pile_15))
def fX12_washes (a : Int32) (d : Nat → Int32) (names : Nat → Int32) (pile : Nat → Int32) : Option ((Nat → Int32) × (Nat → Int32) × (Nat → Int32)) :=
  bd (fX12_on a d) fun r_1 => bd (fX12_rubs a d names pile) fun (r_3, names_4, pile_5) => fX12_washes_15 a r_1 r_3 (0 : Int32) d names_4 pile_5
set_option maxHeartbeats 4000000 in
set_option maxRecDepth 100000 in
theorem c_X12_washes (l : Launch) (G : Nat → Nat) (D : va_G) (cA : Nat → ClassId) (ad : Nat → Nat) (sz : Nat) (d : Nat → Int32) (kept : Nat → Int32) (aside : Nat → Int32) (images : Int32) (found : Nat → Int32) (base : Int32) (at0 : Int32) (size : Int32) (fault : Int32) (opened : Int32) (isRub : Int32) (names : Nat → Int32) (code : Nat → Int32) (coded : Int32) (pile : Nat → Int32) (needs : Nat → Int32) (traced : Nat → Int32) (traceMany : Int32) (who : Int32) (bitsOf : Nat → Int32) (sizeOf : Nat → Int32) (number : Nat → Int32) (lifted : Nat → Int32) (a : Int32) (dR : Nat → Int32) (namesR : Nat → Int32) (pileR : Nat → Int32) (h : fX12_washes a d names pile = some (dR, namesR, pileR)) : Met l yX12_washes wsX12_washes ({ frames := 4, cells := 0, slots := 0, locals := 93 } : Room) (PW G D (tyC cA) sz (wM cA ad d kept aside images found base at0 size fault opened isRub names code coded pile needs traced traceMany who bitsOf sizeOf number lifted) [.ref (ad 0), .int a]) (QV D (tyC cA) (va_A (wM cA ad d kept aside images found base at0 size fault opened isRub names code coded pile needs traced traceMany who bitsOf sizeOf number lifted) sz) (wM cA ad dR kept aside images found base at0 size fault opened isRub namesR code coded pileR needs traced traceMany who bitsOf sizeOf number lifted)) 0 0 (va_A (wM cA ad d kept aside images found base at0 size fault opened isRub names code coded pile needs traced traceMany who bitsOf sizeOf number lifted) sz) := by
  refine ent (cc := cX12_washes) (maxL := 6) (ret := none) (fun A => QV D (tyC cA) A (wM cA ad dR kept aside images found base at0 size fault opened isRub namesR code coded pileR needs traced traceMany who bitsOf sizeOf number lifted)) (by decide +kernel) rfl (Nat.le_of_ble_eq_true rfl) ?_
  intro p e s m args below meth c A ls H hx hb hml hr hlk hts hown hA hK hE hP hD hS hv hmm
  have hv : lv_has ls 6 [(0, .ref (ad 0)), (1, .int a)] := hv
  have in_12 : ∀ w ∈ u_ws RX12 TX12 23, w ∈ wsX12_washes := fun _ h => List.mem_cons_of_mem _ (List.mem_append_right _ h)
  have w_0 := hts (.fieldLink RX12 7 "SpoonsLastModel" "d" "[I") (List.mem_of_getElem? (i := 1) rfl)
  generalize hQ : MQ below _ args s 0 0 A = Q
  have C_120 : ∀ (v1_120 : Int32) (v4_120 : Int32) (v5_120 : Int32) (d_120 : Nat → Int32) (names_120 : Nat → Int32) (pile_120 : Nat → Int32), fX12_washes_120 v1_120 v4_120 v5_120 d_120 names_120 pile_120 = some (dR, namesR, pileR) → WW p l e ({ frames := 4, cells := 0, slots := 0, locals := 93 } : Room) s m args below meth c D A 0 0 Q (wM cA ad d_120 kept aside images found base at0 size fault opened isRub names_120 code coded pile_120 needs traced traceMany who bitsOf sizeOf number lifted) 6 [(0, .ref (ad 0)), (1, .int v1_120), (4, .int v4_120), (5, .int v5_120)] 120 [] := by
    intro v1_120 v4_120 v5_120 d_120 names_120 pile_120 h
    unfold fX12_washes_120 at h
    obtain ⟨⟨v5_120r, d_120r⟩, ho, h⟩ := bd_ex h
    have LE : WW p l e ({ frames := 4, cells := 0, slots := 0, locals := 93 } : Room) s m args below meth c D A 0 0 Q (wM cA ad d_120r kept aside images found base at0 size fault opened isRub names_120 code coded pile_120 needs traced traceMany who bitsOf sizeOf number lifted) 6 [] 162 [] := by
      intro H locs ls hP hD hS hv
      have h := Option.some.inj h
      have ee0 : d_120r = dR := congrArg (fun q => q.1) h
      have ee1 : names_120 = namesR := congrArg (fun q => q.2.1) h
      have ee2 : pile_120 = pileR := congrArg (fun q => q.2.2) h
      subst ee0
      subst ee1
      subst ee2
      rw [← hQ]
      exact retV hx hb hr hlk hK hP hD hS dX12_washes_162 ⟨Nat.le_of_ble_eq_true rfl, Nat.le_of_ble_eq_true rfl⟩
    have LB : ∀ (nf : Nat) (v5_120b : Int32) (d_120b : Nat → Int32), lp (fun σ : Int32 × (Nat → Int32) => fX12_washes_120B v1_120 v4_120 names_120 pile_120 (σ.1) (σ.2)) nf (v5_120b, d_120b) = some (v5_120r, d_120r) → WW p l e ({ frames := 4, cells := 0, slots := 0, locals := 93 } : Room) s m args below meth c D A 0 0 Q (wM cA ad d_120b kept aside images found base at0 size fault opened isRub names_120 code coded pile_120 needs traced traceMany who bitsOf sizeOf number lifted) 6 [(0, .ref (ad 0)), (1, .int v1_120), (4, .int v4_120), (5, .int v5_120b)] 120 [] := by
      intro nf
      induction nf with
      | zero => intro v5_120b d_120b hl; cases hl
      | succ nf ih =>
        intro v5_120b d_120b hl
        obtain ⟨x, h, hl⟩ := lp_ex hl
        have h : fX12_washes_120B v1_120 v4_120 names_120 pile_120 v5_120b d_120b = some x := h
        unfold fX12_washes_120B at h
        have C_153 : ∀ (v5_153 : Int32) (k0_153 : Int32) (k1_153 : Int32) (k2_153 : Int32) (d_153 : Nat → Int32) (x : (Int32 × (Nat → Int32)) ⊕ (Int32 × (Nat → Int32))), fX12_washes_153 v1_120 v4_120 v5_153 k0_153 k1_153 k2_153 d_153 names_120 pile_120 = some x → lpk (fun σ : Int32 × (Nat → Int32) => fX12_washes_120B v1_120 v4_120 names_120 pile_120 (σ.1) (σ.2)) nf x = some (v5_120r, d_120r) → WW p l e ({ frames := 4, cells := 0, slots := 0, locals := 93 } : Room) s m args below meth c D A 0 0 Q (wM cA ad d_153 kept aside images found base at0 size fault opened isRub names_120 code coded pile_120 needs traced traceMany who bitsOf sizeOf number lifted) 6 [(0, .ref (ad 0)), (1, .int v1_120), (4, .int v4_120), (5, .int v5_153)] 153 [.int k0_153, .int k1_153, .int k2_153, .ref (ad 0)] := by
          intro v5_153 k0_153 k1_153 k2_153 d_153 x h hl
          unfold fX12_washes_153 at h
          intro H locs ls hP hD hS hv
          obtain ⟨d_24, hf_25, h⟩ := bd_ex h
          have sb := Sb.same hP hD hS hA
          refine calV (va_runV (As := [.int k2_153, .int k1_153, .int k0_153]) (rest := []) ⟨hx, hb, hml, hown, hts⟩ (c_X12_sets l G D cA ad _ d_153 kept aside images found base at0 size fault opened isRub names_120 code coded pile_120 needs traced traceMany who bitsOf sizeOf number lifted k2_153 k1_153 k0_153 d_24 hf_25) (cwV 3 hts gX12_washes_X12_sets rfl rfl rfl (by decide +kernel) ⟨Nat.le_of_ble_eq_true rfl, Nat.le_of_ble_eq_true rfl⟩) (pvV hE hK hS sb (va_recv hK hP (ci := 12) (q0 := 0) rfl rfl)) rfl rfl hv.1 rfl (lv_room (Nat.le_of_ble_eq_true rfl)) dX12_washes_153 ⟨Nat.le_of_ble_eq_true rfl, Nat.le_of_ble_eq_true rfl⟩) hS sb (Jn.same sb) (fun H locs hP hD hS => ?_)
          have hP : va_P D vwCl (wM cA ad d_24 kept aside images found base at0 size fault opened isRub names_120 code coded pile_120 needs traced traceMany who bitsOf sizeOf number lifted) H := hP
          have hD : va_D A (wM cA ad d_24 kept aside images found base at0 size fault opened isRub names_120 code coded pile_120 needs traced traceMany who bitsOf sizeOf number lifted) := hD
          obtain ⟨y_26, ey_26, h⟩ := bnd_ex h
          refine lv_iinc (v := y_26) (lv' := [(5, .int y_26), (0, .ref (ad 0)), (1, .int v1_120), (4, .int v4_120)]) hx hb dX12_washes_156 hv (k := 3) rfl (by rw [ey_26]; rfl) (by decide) rfl (fun ls hv => ?_)
          refine lv_goto (tgt := 120) hx hb dX12_washes_159 (by decide) ?_
          cases h
          exact ih y_26 d_24 hl _ _ _ hP hD hS (lv_sub hv [1, 2, 3, 0] rfl)
        intro H locs ls hP hD hS hv
        refine lv_iload hx hb dX12_washes_120 (lv_at hv 3 rfl) ?_
        refine lv_bipush (v := (12 : Int32)) hx hb dX12_washes_122 (by decide) ?_
        refine lv_icmp_ge (tgt := 162) hx hb dX12_washes_124 (by decide) (fun c_20 => ?_) (fun c_20 => ?_)
        · have h := ite_t c_20 h
          cases h
          have hl : some (v5_120b, d_120b) = some (v5_120r, d_120r) := hl
          have hl := Option.some.inj hl
          have ee0 : v5_120b = v5_120r := congrArg (fun q => q.1) hl
          have ee1 : d_120b = d_120r := congrArg (fun q => q.2) hl
          subst ee0
          subst ee1
          exact LE _ _ _ hP hD hS (lv_sub hv [] rfl)
        · have h := ite_f c_20 h
          refine lv_aload_n hx hb dX12_washes_127 rfl (lv_at hv 0 rfl) ?_
          refine lv_iload_n hx hb dX12_washes_128 rfl (lv_at hv 1 rfl) ?_
          refine lv_iconst (v := (3 : Int32)) hx hb dX12_washes_129 (by decide) ?_
          refine lv_iload hx hb dX12_washes_130 (lv_at hv 3 rfl) ?_
          refine lv_iadd hx hb dX12_washes_132 ?_
          refine lv_iload hx hb dX12_washes_133 (lv_at hv 2 rfl) ?_
          refine lv_if_eq (tgt := 142) hx hb dX12_washes_135 (by decide) (fun c_21 => ?_) (fun c_21 => ?_)
          · have h := ite_t c_21 h
            refine lv_aload_n hx hb dX12_washes_142 rfl (lv_at hv 0 rfl) ?_
            refine lv_iload_n hx hb dX12_washes_143 rfl (lv_at hv 1 rfl) ?_
            refine lv_iconst (v := (3 : Int32)) hx hb dX12_washes_144 (by decide) ?_
            refine lv_iload hx hb dX12_washes_145 (lv_at hv 3 rfl) ?_
            refine lv_iadd hx hb dX12_washes_147 ?_
            obtain ⟨r_22, hf_23, h⟩ := bd_ex h
            have sb := Sb.same hP hD hS hA
            refine calI (va_runV (As := [.int v1_120, .int ((3 : Int32) + v5_120b)]) (rest := [.int ((3 : Int32) + v5_120b), .int v1_120, .ref (ad 0)]) ⟨hx, hb, hml, hown, hts⟩ (c_X12_of l G D cA ad _ d_120b kept aside images found base at0 size fault opened isRub names_120 code coded pile_120 needs traced traceMany who bitsOf sizeOf number lifted v1_120 ((3 : Int32) + v5_120b) r_22 hf_23) (cwV 2 hts gX12_washes_X12_of rfl rfl rfl (by decide +kernel) ⟨Nat.le_of_ble_eq_true rfl, Nat.le_of_ble_eq_true rfl⟩) (pvV hE hK hS sb (va_recv hK hP (ci := 12) (q0 := 0) rfl rfl)) rfl rfl hv.1 rfl (lv_room (Nat.le_of_ble_eq_true rfl)) dX12_washes_148 ⟨Nat.le_of_ble_eq_true rfl, Nat.le_of_ble_eq_true rfl⟩) hS sb (Jn.same sb) (fun H locs hP hD hS => ?_)
            have hP : va_P D vwCl (wM cA ad d_120b kept aside images found base at0 size fault opened isRub names_120 code coded pile_120 needs traced traceMany who bitsOf sizeOf number lifted) H := hP
            have hD : va_D A (wM cA ad d_120b kept aside images found base at0 size fault opened isRub names_120 code coded pile_120 needs traced traceMany who bitsOf sizeOf number lifted) := hD
            refine lv_iconst (v := (2 : Int32)) hx hb dX12_washes_151 (by decide) ?_
            refine lv_idiv hx hb dX12_washes_152 (by decide) ?_
            exact C_153 v5_120b (r_22 / (2 : Int32)) ((3 : Int32) + v5_120b) v1_120 d_120b _ h hl _ _ _ hP hD hS (lv_sub hv [0, 1, 2, 3] rfl)
          · have h := ite_f c_21 h
            refine lv_iconst (v := (0 : Int32)) hx hb dX12_washes_138 (by decide) ?_
            refine lv_goto (tgt := 153) hx hb dX12_washes_139 (by decide) ?_
            exact C_153 v5_120b (0 : Int32) ((3 : Int32) + v5_120b) v1_120 d_120b _ h hl _ _ _ hP hD hS (lv_sub hv [0, 1, 2, 3] rfl)
    exact LB FU v5_120 d_120 ho
  have C_115 : ∀ (v1_115 : Int32) (v4_115 : Int32) (k0_115 : Int32) (k1_115 : Int32) (k2_115 : Int32) (d_115 : Nat → Int32) (names_115 : Nat → Int32) (pile_115 : Nat → Int32), fX12_washes_115 v1_115 v4_115 k0_115 k1_115 k2_115 d_115 names_115 pile_115 = some (dR, namesR, pileR) → WW p l e ({ frames := 4, cells := 0, slots := 0, locals := 93 } : Room) s m args below meth c D A 0 0 Q (wM cA ad d_115 kept aside images found base at0 size fault opened isRub names_115 code coded pile_115 needs traced traceMany who bitsOf sizeOf number lifted) 6 [(0, .ref (ad 0)), (1, .int v1_115), (4, .int v4_115)] 115 [.int k0_115, .int k1_115, .int k2_115, .ref (ad 1)] := by
    intro v1_115 v4_115 k0_115 k1_115 k2_115 d_115 names_115 pile_115 h
    unfold fX12_washes_115 at h
    intro H locs ls hP hD hS hv
    refine lv_ior hx hb dX12_washes_115 ?_
    obtain ⟨y_17, ey_17, h⟩ := bnd_ex h
    refine lv_nm ey_17 ?_
    obtain ⟨c_18, h⟩ := ckI_ex h
    obtain ⟨d_19, ed_19, h⟩ := bnd_ex h
    refine va_iast (D := D) hx hb hK hP hD hS 1 0 rfl rfl c_18 dX12_washes_116 (fun H locs hP hD hS => ?_)
    rw [← ed_19] at hP hD
    have hP : va_P D vwCl (wM cA ad d_19 kept aside images found base at0 size fault opened isRub names_115 code coded pile_115 needs traced traceMany who bitsOf sizeOf number lifted) H := hP
    have hD : va_D A (wM cA ad d_19 kept aside images found base at0 size fault opened isRub names_115 code coded pile_115 needs traced traceMany who bitsOf sizeOf number lifted) := hD
    refine lv_iconst (v := (0 : Int32)) hx hb dX12_washes_117 (by decide) ?_
    refine lv_istore (lv' := [(5, .int (0 : Int32)), (0, .ref (ad 0)), (1, .int v1_115), (4, .int v4_115)]) hx hb dX12_washes_118 hv (by decide) rfl (fun ls hv => ?_)
    exact C_120 v1_115 v4_115 (0 : Int32) d_19 names_115 pile_115 h _ _ _ hP hD hS (lv_sub hv [1, 2, 3, 0] rfl)
  have C_15 : ∀ (v1_15 : Int32) (v2_15 : Int32) (v3_15 : Int32) (v4_15 : Int32) (d_15 : Nat → Int32) (names_15 : Nat → Int32) (pile_15 : Nat → Int32), fX12_washes_15 v1_15 v2_15 v3_15 v4_15 d_15 names_15 pile_15 = some (dR, namesR, pileR) → WW p l e ({ frames := 4, cells := 0, slots := 0, locals := 93 } : Room) s m args below meth c D A 0 0 Q (wM cA ad d_15 kept aside images found base at0 size fault opened isRub names_15 code coded pile_15 needs traced traceMany who bitsOf sizeOf number lifted) 6 [(0, .ref (ad 0)), (1, .int v1_15), (2, .int v2_15), (3, .int v3_15), (4, .int v4_15)] 15 [] := by
    intro v1_15 v2_15 v3_15 v4_15 d_15 names_15 pile_15 h
    unfold fX12_washes_15 at h
    obtain ⟨⟨v4_15r, d_15r⟩, ho, h⟩ := bd_ex h
    have LE : WW p l e ({ frames := 4, cells := 0, slots := 0, locals := 93 } : Room) s m args below meth c D A 0 0 Q (wM cA ad d_15r kept aside images found base at0 size fault opened isRub names_15 code coded pile_15 needs traced traceMany who bitsOf sizeOf number lifted) 6 [(0, .ref (ad 0)), (1, .int v1_15), (2, .int v2_15), (3, .int v3_15)] 71 [] := by
      intro H locs ls hP hD hS hv
      refine lv_aload_n hx hb dX12_washes_71 rfl (lv_at hv 0 rfl) ?_
      refine lv_iload_n hx hb dX12_washes_72 rfl (lv_at hv 1 rfl) ?_
      refine lv_iconst (v := (2 : Int32)) hx hb dX12_washes_73 (by decide) ?_
      refine lv_aload_n hx hb dX12_washes_74 rfl (lv_at hv 0 rfl) ?_
      refine lv_iload_n hx hb dX12_washes_75 rfl (lv_at hv 1 rfl) ?_
      refine lv_iconst (v := (2 : Int32)) hx hb dX12_washes_76 (by decide) ?_
      obtain ⟨r_7, hf_8, h⟩ := bd_ex h
      have sb := Sb.same hP hD hS hA
      refine calI (va_runV (As := [.int v1_15, .int (2 : Int32)]) (rest := [.int (2 : Int32), .int v1_15, .ref (ad 0)]) ⟨hx, hb, hml, hown, hts⟩ (c_X12_of l G D cA ad _ d_15r kept aside images found base at0 size fault opened isRub names_15 code coded pile_15 needs traced traceMany who bitsOf sizeOf number lifted v1_15 (2 : Int32) r_7 hf_8) (cwV 2 hts gX12_washes_X12_of rfl rfl rfl (by decide +kernel) ⟨Nat.le_of_ble_eq_true rfl, Nat.le_of_ble_eq_true rfl⟩) (pvV hE hK hS sb (va_recv hK hP (ci := 12) (q0 := 0) rfl rfl)) rfl rfl hv.1 rfl (lv_room (Nat.le_of_ble_eq_true rfl)) dX12_washes_77 ⟨Nat.le_of_ble_eq_true rfl, Nat.le_of_ble_eq_true rfl⟩) hS sb (Jn.same sb) (fun H locs hP hD hS => ?_)
      have hP : va_P D vwCl (wM cA ad d_15r kept aside images found base at0 size fault opened isRub names_15 code coded pile_15 needs traced traceMany who bitsOf sizeOf number lifted) H := hP
      have hD : va_D A (wM cA ad d_15r kept aside images found base at0 size fault opened isRub names_15 code coded pile_15 needs traced traceMany who bitsOf sizeOf number lifted) := hD
      refine lv_iload_n hx hb dX12_washes_80 rfl (lv_at hv 3 rfl) ?_
      refine lv_isub hx hb dX12_washes_81 ?_
      refine lv_iconst (v := (0 : Int32)) hx hb dX12_washes_82 (by decide) ?_
      refine lv_bipush (v := (99 : Int32)) hx hb dX12_washes_83 (by decide) ?_
      obtain ⟨r_9, hf_10, h⟩ := bd_ex h
      have sb := Sb.nil hP hD hS hA
      refine calI (va_runS (As := [.int (r_7 - v3_15), .int (0 : Int32), .int (99 : Int32)]) (rest := [.int (2 : Int32), .int v1_15, .ref (ad 0)]) ⟨hx, hb, hml, hown, hts⟩ (c_X12_held l G D cA  _ (r_7 - v3_15) (0 : Int32) (99 : Int32) r_9 hf_10) (va_cwS 3 hts gX12_washes_X12_held rfl rfl rfl (by decide +kernel) ⟨Nat.le_of_ble_eq_true rfl, Nat.le_of_ble_eq_true rfl⟩) (pvS hE hK hS sb) rfl rfl hv.1 rfl (lv_room (Nat.le_of_ble_eq_true rfl)) dX12_washes_85 ⟨Nat.le_of_ble_eq_true rfl, Nat.le_of_ble_eq_true rfl⟩) hS sb (Jn.nil hP hD) (fun H locs hP hD hS => ?_)
      have hP : va_P D vwCl (wM cA ad d_15r kept aside images found base at0 size fault opened isRub names_15 code coded pile_15 needs traced traceMany who bitsOf sizeOf number lifted) H := hP
      have hD : va_D A (wM cA ad d_15r kept aside images found base at0 size fault opened isRub names_15 code coded pile_15 needs traced traceMany who bitsOf sizeOf number lifted) := hD
      obtain ⟨d_11, hf_12, h⟩ := bd_ex h
      have sb := Sb.same hP hD hS hA
      refine calV (va_runV (As := [.int v1_15, .int (2 : Int32), .int r_9]) (rest := []) ⟨hx, hb, hml, hown, hts⟩ (c_X12_sets l G D cA ad _ d_15r kept aside images found base at0 size fault opened isRub names_15 code coded pile_15 needs traced traceMany who bitsOf sizeOf number lifted v1_15 (2 : Int32) r_9 d_11 hf_12) (cwV 3 hts gX12_washes_X12_sets rfl rfl rfl (by decide +kernel) ⟨Nat.le_of_ble_eq_true rfl, Nat.le_of_ble_eq_true rfl⟩) (pvV hE hK hS sb (va_recv hK hP (ci := 12) (q0 := 0) rfl rfl)) rfl rfl hv.1 rfl (lv_room (Nat.le_of_ble_eq_true rfl)) dX12_washes_88 ⟨Nat.le_of_ble_eq_true rfl, Nat.le_of_ble_eq_true rfl⟩) hS sb (Jn.same sb) (fun H locs hP hD hS => ?_)
      have hP : va_P D vwCl (wM cA ad d_11 kept aside images found base at0 size fault opened isRub names_15 code coded pile_15 needs traced traceMany who bitsOf sizeOf number lifted) H := hP
      have hD : va_D A (wM cA ad d_11 kept aside images found base at0 size fault opened isRub names_15 code coded pile_15 needs traced traceMany who bitsOf sizeOf number lifted) := hD
      refine lv_aload_n hx hb dX12_washes_91 rfl (lv_at hv 0 rfl) ?_
      refine lv_iload_n hx hb dX12_washes_92 rfl (lv_at hv 1 rfl) ?_
      obtain ⟨r_13, hf_14, h⟩ := bd_ex h
      have sb := Sb.same hP hD hS hA
      refine calI (va_runV (As := [.int v1_15]) (rest := []) ⟨hx, hb, hml, hown, hts⟩ (c_X12_isThrough l G D cA ad _ d_11 kept aside images found base at0 size fault opened isRub names_15 code coded pile_15 needs traced traceMany who bitsOf sizeOf number lifted v1_15 r_13 hf_14) (cwV 1 hts gX12_washes_X12_isThrough rfl rfl rfl (by decide +kernel) ⟨Nat.le_of_ble_eq_true rfl, Nat.le_of_ble_eq_true rfl⟩) (pvV hE hK hS sb (va_recv hK hP (ci := 12) (q0 := 0) rfl rfl)) rfl rfl hv.1 rfl (lv_room (Nat.le_of_ble_eq_true rfl)) dX12_washes_93 ⟨Nat.le_of_ble_eq_true rfl, Nat.le_of_ble_eq_true rfl⟩) hS sb (Jn.same sb) (fun H locs hP hD hS => ?_)
      have hP : va_P D vwCl (wM cA ad d_11 kept aside images found base at0 size fault opened isRub names_15 code coded pile_15 needs traced traceMany who bitsOf sizeOf number lifted) H := hP
      have hD : va_D A (wM cA ad d_11 kept aside images found base at0 size fault opened isRub names_15 code coded pile_15 needs traced traceMany who bitsOf sizeOf number lifted) := hD
      refine lv_istore (lv' := [(4, .int r_13), (0, .ref (ad 0)), (1, .int v1_15), (2, .int v2_15), (3, .int v3_15)]) hx hb dX12_washes_96 hv (by decide) rfl (fun ls hv => ?_)
      refine lv_aload_n hx hb dX12_washes_98 rfl (lv_at hv 1 rfl) ?_
      refine va_get (D := D) (ci := 12) (v := .ref (ad 1)) (C := RX12) (T := TX12) (N := 23) hx hb hts in_12 hown hK hP 0 rfl rfl 0 (by decide) w_0 (fun _ h9 => h9) rfl dX12_washes_99 ?_
      refine lv_iconst (v := (2 : Int32)) hx hb dX12_washes_102 (by decide) ?_
      refine lv_dup2_11 hx hb dX12_washes_103 rfl rfl ?_
      obtain ⟨c_15, h⟩ := ckI_ex h
      refine va_iald (D := D) hx hb hK hP 1 0 rfl rfl c_15 dX12_washes_104 ?_
      refine lv_iload hx hb dX12_washes_105 (lv_at hv 0 rfl) ?_
      refine lv_if_eq (tgt := 114) hx hb dX12_washes_107 (by decide) (fun c_16 => ?_) (fun c_16 => ?_)
      · have h := ite_t c_16 h
        refine lv_iconst (v := (0 : Int32)) hx hb dX12_washes_114 (by decide) ?_
        exact C_115 v1_15 r_13 (0 : Int32) (d_11 ((2 : Int32)).toNatClampNeg) (2 : Int32) d_11 names_15 pile_15 h _ _ _ hP hD hS (lv_sub hv [1, 2, 0] rfl)
      · have h := ite_f c_16 h
        refine lv_iload_n hx hb dX12_washes_110 rfl (lv_at hv 3 rfl) ?_
        refine lv_goto (tgt := 115) hx hb dX12_washes_111 (by decide) ?_
        exact C_115 v1_15 r_13 v2_15 (d_11 ((2 : Int32)).toNatClampNeg) (2 : Int32) d_11 names_15 pile_15 h _ _ _ hP hD hS (lv_sub hv [1, 2, 0] rfl)
    have LB : ∀ (nf : Nat) (v4_15b : Int32) (d_15b : Nat → Int32), lp (fun σ : Int32 × (Nat → Int32) => fX12_washes_15B v1_15 v2_15 v3_15 names_15 pile_15 (σ.1) (σ.2)) nf (v4_15b, d_15b) = some (v4_15r, d_15r) → WW p l e ({ frames := 4, cells := 0, slots := 0, locals := 93 } : Room) s m args below meth c D A 0 0 Q (wM cA ad d_15b kept aside images found base at0 size fault opened isRub names_15 code coded pile_15 needs traced traceMany who bitsOf sizeOf number lifted) 6 [(0, .ref (ad 0)), (1, .int v1_15), (2, .int v2_15), (3, .int v3_15), (4, .int v4_15b)] 15 [] := by
      intro nf
      induction nf with
      | zero => intro v4_15b d_15b hl; cases hl
      | succ nf ih =>
        intro v4_15b d_15b hl
        obtain ⟨x, h, hl⟩ := lp_ex hl
        have h : fX12_washes_15B v1_15 v2_15 v3_15 names_15 pile_15 v4_15b d_15b = some x := h
        unfold fX12_washes_15B at h
        have C_63 : ∀ (v4_63 : Int32) (k0_63 : Int32) (k1_63 : Int32) (k2_63 : Int32) (d_63 : Nat → Int32) (x : (Int32 × (Nat → Int32)) ⊕ (Int32 × (Nat → Int32))), fX12_washes_63 v1_15 v2_15 v3_15 v4_63 k0_63 k1_63 k2_63 d_63 names_15 pile_15 = some x → lpk (fun σ : Int32 × (Nat → Int32) => fX12_washes_15B v1_15 v2_15 v3_15 names_15 pile_15 (σ.1) (σ.2)) nf x = some (v4_15r, d_15r) → WW p l e ({ frames := 4, cells := 0, slots := 0, locals := 93 } : Room) s m args below meth c D A 0 0 Q (wM cA ad d_63 kept aside images found base at0 size fault opened isRub names_15 code coded pile_15 needs traced traceMany who bitsOf sizeOf number lifted) 6 [(0, .ref (ad 0)), (1, .int v1_15), (2, .int v2_15), (3, .int v3_15), (4, .int v4_63)] 63 [.int k0_63, .int k1_63, .int k2_63, .ref (ad 1)] := by
          intro v4_63 k0_63 k1_63 k2_63 d_63 x h hl
          unfold fX12_washes_63 at h
          intro H locs ls hP hD hS hv
          refine lv_ior hx hb dX12_washes_63 ?_
          obtain ⟨y_32, ey_32, h⟩ := bnd_ex h
          refine lv_nm ey_32 ?_
          obtain ⟨c_33, h⟩ := ckI_ex h
          obtain ⟨d_34, ed_34, h⟩ := bnd_ex h
          refine va_iast (D := D) hx hb hK hP hD hS 1 0 rfl rfl c_33 dX12_washes_64 (fun H locs hP hD hS => ?_)
          rw [← ed_34] at hP hD
          have hP : va_P D vwCl (wM cA ad d_34 kept aside images found base at0 size fault opened isRub names_15 code coded pile_15 needs traced traceMany who bitsOf sizeOf number lifted) H := hP
          have hD : va_D A (wM cA ad d_34 kept aside images found base at0 size fault opened isRub names_15 code coded pile_15 needs traced traceMany who bitsOf sizeOf number lifted) := hD
          obtain ⟨y_35, ey_35, h⟩ := bnd_ex h
          refine lv_iinc (v := y_35) (lv' := [(4, .int y_35), (0, .ref (ad 0)), (1, .int v1_15), (2, .int v2_15), (3, .int v3_15)]) hx hb dX12_washes_65 hv (k := 4) rfl (by rw [ey_35]; rfl) (by decide) rfl (fun ls hv => ?_)
          refine lv_goto (tgt := 15) hx hb dX12_washes_68 (by decide) ?_
          cases h
          exact ih y_35 d_34 hl _ _ _ hP hD hS (lv_sub hv [1, 2, 3, 4, 0] rfl)
        have C_62 : ∀ (v4_62 : Int32) (k0_62 : Int32) (k1_62 : Int32) (d_62 : Nat → Int32) (x : (Int32 × (Nat → Int32)) ⊕ (Int32 × (Nat → Int32))), fX12_washes_62 v1_15 v2_15 v3_15 v4_62 k0_62 k1_62 d_62 names_15 pile_15 = some x → lpk (fun σ : Int32 × (Nat → Int32) => fX12_washes_15B v1_15 v2_15 v3_15 names_15 pile_15 (σ.1) (σ.2)) nf x = some (v4_15r, d_15r) → WW p l e ({ frames := 4, cells := 0, slots := 0, locals := 93 } : Room) s m args below meth c D A 0 0 Q (wM cA ad d_62 kept aside images found base at0 size fault opened isRub names_15 code coded pile_15 needs traced traceMany who bitsOf sizeOf number lifted) 6 [(0, .ref (ad 0)), (1, .int v1_15), (2, .int v2_15), (3, .int v3_15), (4, .int v4_62)] 62 [.int k0_62, .int k1_62, .ref (ad 1)] := by
          intro v4_62 k0_62 k1_62 d_62 x h hl
          unfold fX12_washes_62 at h
          intro H locs ls hP hD hS hv
          refine lv_iconst (v := (0 : Int32)) hx hb dX12_washes_62 (by decide) ?_
          exact C_63 v4_62 (0 : Int32) k0_62 k1_62 d_62 _ h hl _ _ _ hP hD hS (lv_sub hv [0, 1, 2, 3, 4] rfl)
        intro H locs ls hP hD hS hv
        refine lv_iload hx hb dX12_washes_15 (lv_at hv 4 rfl) ?_
        refine lv_bipush (v := (12 : Int32)) hx hb dX12_washes_17 (by decide) ?_
        refine lv_icmp_ge (tgt := 71) hx hb dX12_washes_19 (by decide) (fun c_27 => ?_) (fun c_27 => ?_)
        · have h := ite_t c_27 h
          cases h
          have hl : some (v4_15b, d_15b) = some (v4_15r, d_15r) := hl
          have hl := Option.some.inj hl
          have ee0 : v4_15b = v4_15r := congrArg (fun q => q.1) hl
          have ee1 : d_15b = d_15r := congrArg (fun q => q.2) hl
          subst ee0
          subst ee1
          exact LE _ _ _ hP hD hS (lv_sub hv [0, 1, 2, 3] rfl)
        · have h := ite_f c_27 h
          refine lv_aload_n hx hb dX12_washes_22 rfl (lv_at hv 0 rfl) ?_
          refine lv_iload_n hx hb dX12_washes_23 rfl (lv_at hv 1 rfl) ?_
          refine lv_iconst (v := (3 : Int32)) hx hb dX12_washes_24 (by decide) ?_
          refine lv_iload hx hb dX12_washes_25 (lv_at hv 4 rfl) ?_
          refine lv_iadd hx hb dX12_washes_27 ?_
          obtain ⟨r_28, hf_29, h⟩ := bd_ex h
          have sb := Sb.same hP hD hS hA
          refine calI (va_runV (As := [.int v1_15, .int ((3 : Int32) + v4_15b)]) (rest := []) ⟨hx, hb, hml, hown, hts⟩ (c_X12_of l G D cA ad _ d_15b kept aside images found base at0 size fault opened isRub names_15 code coded pile_15 needs traced traceMany who bitsOf sizeOf number lifted v1_15 ((3 : Int32) + v4_15b) r_28 hf_29) (cwV 2 hts gX12_washes_X12_of rfl rfl rfl (by decide +kernel) ⟨Nat.le_of_ble_eq_true rfl, Nat.le_of_ble_eq_true rfl⟩) (pvV hE hK hS sb (va_recv hK hP (ci := 12) (q0 := 0) rfl rfl)) rfl rfl hv.1 rfl (lv_room (Nat.le_of_ble_eq_true rfl)) dX12_washes_28 ⟨Nat.le_of_ble_eq_true rfl, Nat.le_of_ble_eq_true rfl⟩) hS sb (Jn.same sb) (fun H locs hP hD hS => ?_)
          have hP : va_P D vwCl (wM cA ad d_15b kept aside images found base at0 size fault opened isRub names_15 code coded pile_15 needs traced traceMany who bitsOf sizeOf number lifted) H := hP
          have hD : va_D A (wM cA ad d_15b kept aside images found base at0 size fault opened isRub names_15 code coded pile_15 needs traced traceMany who bitsOf sizeOf number lifted) := hD
          refine lv_istore (lv' := [(5, .int r_28), (0, .ref (ad 0)), (1, .int v1_15), (2, .int v2_15), (3, .int v3_15), (4, .int v4_15b)]) hx hb dX12_washes_31 hv (by decide) rfl (fun ls hv => ?_)
          refine lv_aload_n hx hb dX12_washes_33 rfl (lv_at hv 1 rfl) ?_
          refine va_get (D := D) (ci := 12) (v := .ref (ad 1)) (C := RX12) (T := TX12) (N := 23) hx hb hts in_12 hown hK hP 0 rfl rfl 0 (by decide) w_0 (fun _ h9 => h9) rfl dX12_washes_34 ?_
          refine lv_iconst (v := (2 : Int32)) hx hb dX12_washes_37 (by decide) ?_
          refine lv_dup2_11 hx hb dX12_washes_38 rfl rfl ?_
          obtain ⟨c_30, h⟩ := ckI_ex h
          refine va_iald (D := D) hx hb hK hP 1 0 rfl rfl c_30 dX12_washes_39 ?_
          refine lv_iload hx hb dX12_washes_40 (lv_at hv 0 rfl) ?_
          refine lv_if_le (tgt := 62) hx hb dX12_washes_42 (by decide) (fun c_31 => ?_) (fun c_31 => ?_)
          · have h := ite_t c_31 h
            exact C_62 v4_15b (d_15b ((2 : Int32)).toNatClampNeg) (2 : Int32) d_15b _ h hl _ _ _ hP hD hS (lv_sub hv [1, 2, 3, 4, 5] rfl)
          · have h := ite_f c_31 h
            refine lv_iload hx hb dX12_washes_45 (lv_at hv 0 rfl) ?_
            refine lv_aload_n hx hb dX12_washes_47 rfl (lv_at hv 1 rfl) ?_
            refine lv_iload_n hx hb dX12_washes_48 rfl (lv_at hv 2 rfl) ?_
            obtain ⟨r_36, hf_37, h⟩ := bd_ex h
            have sb := Sb.same hP hD hS hA
            refine calI (va_runV (As := [.int v1_15]) (rest := [.int r_28, .int (d_15b ((2 : Int32)).toNatClampNeg), .int (2 : Int32), .ref (ad 1)]) ⟨hx, hb, hml, hown, hts⟩ (c_X12_reads0 l G D cA ad _ d_15b kept aside images found base at0 size fault opened isRub names_15 code coded pile_15 needs traced traceMany who bitsOf sizeOf number lifted v1_15 r_36 hf_37) (cwV 1 hts gX12_washes_X12_reads0 rfl rfl rfl (by decide +kernel) ⟨Nat.le_of_ble_eq_true rfl, Nat.le_of_ble_eq_true rfl⟩) (pvV hE hK hS sb (va_recv hK hP (ci := 12) (q0 := 0) rfl rfl)) rfl rfl hv.1 rfl (lv_room (Nat.le_of_ble_eq_true rfl)) dX12_washes_49 ⟨Nat.le_of_ble_eq_true rfl, Nat.le_of_ble_eq_true rfl⟩) hS sb (Jn.same sb) (fun H locs hP hD hS => ?_)
            have hP : va_P D vwCl (wM cA ad d_15b kept aside images found base at0 size fault opened isRub names_15 code coded pile_15 needs traced traceMany who bitsOf sizeOf number lifted) H := hP
            have hD : va_D A (wM cA ad d_15b kept aside images found base at0 size fault opened isRub names_15 code coded pile_15 needs traced traceMany who bitsOf sizeOf number lifted) := hD
            refine lv_icmp_lt (tgt := 62) hx hb dX12_washes_52 (by decide) (fun c_38 => ?_) (fun c_38 => ?_)
            · have h := ite_t c_38 h
              exact C_62 v4_15b (d_15b ((2 : Int32)).toNatClampNeg) (2 : Int32) d_15b _ h hl _ _ _ hP hD hS (lv_sub hv [1, 2, 3, 4, 5] rfl)
            · have h := ite_f c_38 h
              refine lv_iconst (v := (1 : Int32)) hx hb dX12_washes_55 (by decide) ?_
              refine lv_iload hx hb dX12_washes_56 (lv_at hv 5 rfl) ?_
              refine lv_ishl hx hb dX12_washes_58 ?_
              refine lv_goto (tgt := 63) hx hb dX12_washes_59 (by decide) ?_
              exact C_63 v4_15b ((1 : Int32) <<< (v4_15b &&& 31)) (d_15b ((2 : Int32)).toNatClampNeg) (2 : Int32) d_15b _ h hl _ _ _ hP hD hS (lv_sub hv [1, 2, 3, 4, 5] rfl)
    exact LB FU v4_15 d_15 ho
  have hP : va_P D vwCl (wM cA ad d kept aside images found base at0 size fault opened isRub names code coded pile needs traced traceMany who bitsOf sizeOf number lifted) H := hP
  unfold fX12_washes at h
  refine lv_aload_n hx hb dX12_washes_0 rfl (lv_at hv 0 rfl) ?_
  refine lv_iload_n hx hb dX12_washes_1 rfl (lv_at hv 1 rfl) ?_
  obtain ⟨r_1, hf_2, h⟩ := bd_ex h
  have sb := Sb.same hP hD hS hA
  refine calI (va_runV (As := [.int a]) (rest := []) ⟨hx, hb, hml, hown, hts⟩ (c_X12_on l G D cA ad _ d kept aside images found base at0 size fault opened isRub names code coded pile needs traced traceMany who bitsOf sizeOf number lifted a r_1 hf_2) (cwV 1 hts gX12_washes_X12_on rfl rfl rfl (by decide +kernel) ⟨Nat.le_of_ble_eq_true rfl, Nat.le_of_ble_eq_true rfl⟩) (pvV hE hK hS sb (va_recv hK hP (ci := 12) (q0 := 0) rfl rfl)) rfl rfl hv.1 rfl (lv_room (Nat.le_of_ble_eq_true rfl)) dX12_washes_2 ⟨Nat.le_of_ble_eq_true rfl, Nat.le_of_ble_eq_true rfl⟩) hS sb (Jn.same sb) (fun H locs hP hD hS => ?_)
  have hP : va_P D vwCl (wM cA ad d kept aside images found base at0 size fault opened isRub names code coded pile needs traced traceMany who bitsOf sizeOf number lifted) H := hP
  have hD : va_D A (wM cA ad d kept aside images found base at0 size fault opened isRub names code coded pile needs traced traceMany who bitsOf sizeOf number lifted) := hD
  refine lv_istore_n (lv' := [(2, .int r_1), (0, .ref (ad 0)), (1, .int a)]) hx hb dX12_washes_5 rfl hv (by decide) rfl (fun ls hv => ?_)
  refine lv_aload_n hx hb dX12_washes_6 rfl (lv_at hv 1 rfl) ?_
  refine lv_iload_n hx hb dX12_washes_7 rfl (lv_at hv 2 rfl) ?_
  obtain ⟨⟨r_3, names_4, pile_5⟩, hf_6, h⟩ := bd_ex h
  have sb := Sb.same hP hD hS hA
  refine calI (va_runV (As := [.int a]) (rest := []) ⟨hx, hb, hml, hown, hts⟩ (c_X12_rubs l G D cA ad _ d kept aside images found base at0 size fault opened isRub names code coded pile needs traced traceMany who bitsOf sizeOf number lifted a r_3 names_4 pile_5 hf_6) (cwV 1 hts gX12_washes_X12_rubs rfl rfl rfl (by decide +kernel) ⟨Nat.le_of_ble_eq_true rfl, Nat.le_of_ble_eq_true rfl⟩) (pvV hE hK hS sb (va_recv hK hP (ci := 12) (q0 := 0) rfl rfl)) rfl rfl hv.1 rfl (lv_room (Nat.le_of_ble_eq_true rfl)) dX12_washes_8 ⟨Nat.le_of_ble_eq_true rfl, Nat.le_of_ble_eq_true rfl⟩) hS sb (Jn.same sb) (fun H locs hP hD hS => ?_)
  have hP : va_P D vwCl (wM cA ad d kept aside images found base at0 size fault opened isRub names_4 code coded pile_5 needs traced traceMany who bitsOf sizeOf number lifted) H := hP
  have hD : va_D A (wM cA ad d kept aside images found base at0 size fault opened isRub names_4 code coded pile_5 needs traced traceMany who bitsOf sizeOf number lifted) := hD
  refine lv_istore_n (lv' := [(3, .int r_3), (2, .int r_1), (0, .ref (ad 0)), (1, .int a)]) hx hb dX12_washes_11 rfl hv (by decide) rfl (fun ls hv => ?_)
  refine lv_iconst (v := (0 : Int32)) hx hb dX12_washes_12 (by decide) ?_
  refine lv_istore (lv' := [(4, .int (0 : Int32)), (3, .int r_3), (2, .int r_1), (0, .ref (ad 0)), (1, .int a)]) hx hb dX12_washes_13 hv (by decide) rfl (fun ls hv => ?_)
  exact C_15 a r_1 r_3 (0 : Int32) d names_4 pile_5 h _ _ _ hP hD hS (lv_sub hv [3, 4, 2, 1, 0] rfl)

def fX12_hourGoes_109B (v3_109 : Int32) (names_96 : Nat → Int32) (pile_96 : Nat → Int32) (v4_109b : Int32) (d_109b : Nat → Int32) : Option ((Int32 × (Nat → Int32)) ⊕ (Int32 × (Nat → Int32))) :=
  (if (12 : Int32) ≤ v4_109b then some (.inr (v4_109b, d_109b)) else bd (fX12_of v3_109 ((3 : Int32) + v4_109b) d_109b) fun r_21 => bd (fX12_held (r_21 - (1 : Int32)) (0 : Int32) (9 : Int32)) fun r_23 => bd (fX12_sets v3_109 ((3 : Int32) + v4_109b) r_23 d_109b) fun d_25 => bnd (v4_109b + (1 : Int32)) fun y_27 => some (.inl (y_27, d_25)))
def fX12_hourGoes_109 (v3_109 : Int32) (v4_109 : Int32) (d_109 : Nat → Int32) (names_96 : Nat → Int32) (pile_96 : Nat → Int32) : Option ((Int32 × (Nat → Int32)) ⊕ (Int32 × (Nat → Int32))) :=
  bd (lp (fun σ : Int32 × (Nat → Int32) => fX12_hourGoes_109B v3_109 names_96 pile_96 (σ.1) (σ.2)) FU (v4_109, d_109)) fun ρ => match ρ with | (v4_109r, d_109r) => bnd (v3_109 + (1 : Int32)) fun y_19 => some (.inl (y_19, d_109r))
def fX12_hourGoes_96B (names_96 : Nat → Int32) (pile_96 : Nat → Int32) (v3_96b : Int32) (d_96b : Nat → Int32) : Option ((Int32 × (Nat → Int32)) ⊕ (Int32 × (Nat → Int32))) :=
  ckI (0 : Int32) 326 ((if (d_96b ((0 : Int32)).toNatClampNeg) ≤ v3_96b then some (.inr (v3_96b, d_96b)) else fX12_hourGoes_109 v3_96b (0 : Int32) d_96b names_96 pile_96))
def fX12_hourGoes_96 (v3_96 : Int32) (d_96 : Nat → Int32) (names_96 : Nat → Int32) (pile_96 : Nat → Int32) : Option ((Nat → Int32) × (Nat → Int32) × (Nat → Int32)) :=
  bd (lp (fun σ : Int32 × (Nat → Int32) => fX12_hourGoes_96B names_96 pile_96 (σ.1) (σ.2)) FU (v3_96, d_96)) fun ρ => match ρ with | (v3_96r, d_96r) => ckI (1 : Int32) 326 (bnd ((d_96r ((1 : Int32)).toNatClampNeg) + (1 : Int32)) fun y_14 => ckI (1 : Int32) 326 (bnd (upd d_96r ((1 : Int32)).toNatClampNeg y_14) fun d_16 => some (d_16, names_96, pile_96)))
def fX12_hourGoes_94 (d_94 : Nat → Int32) (names_94 : Nat → Int32) (pile_94 : Nat → Int32) : Option ((Nat → Int32) × (Nat → Int32) × (Nat → Int32)) :=
  fX12_hourGoes_96 (0 : Int32) d_94 names_94 pile_94
def fX12_hourGoes_56 (d_56 : Nat → Int32) (names_56 : Nat → Int32) (pile_56 : Nat → Int32) : Option ((Nat → Int32) × (Nat → Int32) × (Nat → Int32)) :=
  ckI (1 : Int32) 326 (ckI ((30 : Int32) + ((d_56 ((1 : Int32)).toNatClampNeg) - (d_56 ((1 : Int32)).toNatClampNeg) / (4 : Int32) * (4 : Int32))) 326 (bnd (d_56 (((30 : Int32) + ((d_56 ((1 : Int32)).toNatClampNeg) - (d_56 ((1 : Int32)).toNatClampNeg) / (4 : Int32) * (4 : Int32)))).toNatClampNeg) fun y_9 => bd (fX12_isSpoon y_9 d_56) fun r_10 => (if r_10 = 0 then fX12_hourGoes_94 d_56 names_56 pile_56 else bd (fX12_isThrough y_9 d_56) fun r_28 => (if r_28 = 0 then bd (fX12_washes y_9 d_56 names_56 pile_56) fun (d_31, names_32, pile_33) => fX12_hourGoes_94 d_31 names_32 pile_33 else fX12_hourGoes_94 d_56 names_56 pile_56))))
def fX12_hourGoes (d : Nat → Int32) (names : Nat → Int32) (pile : Nat → Int32) : Option ((Nat → Int32) × (Nat → Int32) × (Nat → Int32)) :=
  ckI (1 : Int32) 326 (ckI ((18 : Int32) + ((d ((1 : Int32)).toNatClampNeg) - (d ((1 : Int32)).toNatClampNeg) / (6 : Int32) * (6 : Int32))) 326 (bnd (d (((18 : Int32) + ((d ((1 : Int32)).toNatClampNeg) - (d ((1 : Int32)).toNatClampNeg) / (6 : Int32) * (6 : Int32)))).toNatClampNeg) fun y_3 => bd (fX12_isSpoon y_3 d) fun r_4 => (if r_4 = 0 then fX12_hourGoes_56 d names pile else bd (fX12_isThrough y_3 d) fun r_35 => (if r_35 = 0 then ckI (1 : Int32) 326 (ckI ((24 : Int32) + ((d ((1 : Int32)).toNatClampNeg) - (d ((1 : Int32)).toNatClampNeg) / (6 : Int32) * (6 : Int32))) 326 (bd (fX12_swallows y_3 (d (((24 : Int32) + ((d ((1 : Int32)).toNatClampNeg) - (d ((1 : Int32)).toNatClampNeg) / (6 : Int32) * (6 : Int32)))).toNatClampNeg) d names pile) fun (d_40, names_41, pile_42) => fX12_hourGoes_56 d_40 names_41 pile_42)) else fX12_hourGoes_56 d names pile))))
set_option maxHeartbeats 4000000 in
set_option maxRecDepth 100000 in
theorem c_X12_hourGoes (l : Launch) (G : Nat → Nat) (D : va_G) (cA : Nat → ClassId) (ad : Nat → Nat) (sz : Nat) (d : Nat → Int32) (kept : Nat → Int32) (aside : Nat → Int32) (images : Int32) (found : Nat → Int32) (base : Int32) (at0 : Int32) (size : Int32) (fault : Int32) (opened : Int32) (isRub : Int32) (names : Nat → Int32) (code : Nat → Int32) (coded : Int32) (pile : Nat → Int32) (needs : Nat → Int32) (traced : Nat → Int32) (traceMany : Int32) (who : Int32) (bitsOf : Nat → Int32) (sizeOf : Nat → Int32) (number : Nat → Int32) (lifted : Nat → Int32) (dR : Nat → Int32) (namesR : Nat → Int32) (pileR : Nat → Int32) (h : fX12_hourGoes d names pile = some (dR, namesR, pileR)) : Met l yX12_hourGoes wsX12_hourGoes ({ frames := 5, cells := 0, slots := 0, locals := 118 } : Room) (PW G D (tyC cA) sz (wM cA ad d kept aside images found base at0 size fault opened isRub names code coded pile needs traced traceMany who bitsOf sizeOf number lifted) [.ref (ad 0)]) (QV D (tyC cA) (va_A (wM cA ad d kept aside images found base at0 size fault opened isRub names code coded pile needs traced traceMany who bitsOf sizeOf number lifted) sz) (wM cA ad dR kept aside images found base at0 size fault opened isRub namesR code coded pileR needs traced traceMany who bitsOf sizeOf number lifted)) 0 0 (va_A (wM cA ad d kept aside images found base at0 size fault opened isRub names code coded pile needs traced traceMany who bitsOf sizeOf number lifted) sz) := by
  refine ent (cc := cX12_hourGoes) (maxL := 5) (ret := none) (fun A => QV D (tyC cA) A (wM cA ad dR kept aside images found base at0 size fault opened isRub namesR code coded pileR needs traced traceMany who bitsOf sizeOf number lifted)) (by decide +kernel) rfl (Nat.le_of_ble_eq_true rfl) ?_
  intro p e s m args below meth c A ls H hx hb hml hr hlk hts hown hA hK hE hP hD hS hv hmm
  have hv : lv_has ls 5 [(0, .ref (ad 0))] := hv
  have in_12 : ∀ w ∈ u_ws RX12 TX12 23, w ∈ wsX12_hourGoes := fun _ h => List.mem_cons_of_mem _ (List.mem_append_right _ h)
  have w_0 := hts (.fieldLink RX12 7 "SpoonsLastModel" "d" "[I") (List.mem_of_getElem? (i := 1) rfl)
  generalize hQ : MQ below _ args s 0 0 A = Q
  have C_96 : ∀ (v3_96 : Int32) (d_96 : Nat → Int32) (names_96 : Nat → Int32) (pile_96 : Nat → Int32), fX12_hourGoes_96 v3_96 d_96 names_96 pile_96 = some (dR, namesR, pileR) → WW p l e ({ frames := 5, cells := 0, slots := 0, locals := 118 } : Room) s m args below meth c D A 0 0 Q (wM cA ad d_96 kept aside images found base at0 size fault opened isRub names_96 code coded pile_96 needs traced traceMany who bitsOf sizeOf number lifted) 5 [(0, .ref (ad 0)), (3, .int v3_96)] 96 [] := by
    intro v3_96 d_96 names_96 pile_96 h
    unfold fX12_hourGoes_96 at h
    obtain ⟨⟨v3_96r, d_96r⟩, ho, h⟩ := bd_ex h
    have LE : WW p l e ({ frames := 5, cells := 0, slots := 0, locals := 118 } : Room) s m args below meth c D A 0 0 Q (wM cA ad d_96r kept aside images found base at0 size fault opened isRub names_96 code coded pile_96 needs traced traceMany who bitsOf sizeOf number lifted) 5 [(0, .ref (ad 0))] 154 [] := by
      intro H locs ls hP hD hS hv
      refine lv_aload_n hx hb dX12_hourGoes_154 rfl (lv_at hv 0 rfl) ?_
      refine va_get (D := D) (ci := 12) (v := .ref (ad 1)) (C := RX12) (T := TX12) (N := 23) hx hb hts in_12 hown hK hP 0 rfl rfl 0 (by decide) w_0 (fun _ h9 => h9) rfl dX12_hourGoes_155 ?_
      refine lv_iconst (v := (1 : Int32)) hx hb dX12_hourGoes_158 (by decide) ?_
      refine lv_dup2_11 hx hb dX12_hourGoes_159 rfl rfl ?_
      obtain ⟨c_13, h⟩ := ckI_ex h
      refine va_iald (D := D) hx hb hK hP 1 0 rfl rfl c_13 dX12_hourGoes_160 ?_
      refine lv_iconst (v := (1 : Int32)) hx hb dX12_hourGoes_161 (by decide) ?_
      refine lv_iadd hx hb dX12_hourGoes_162 ?_
      obtain ⟨y_14, ey_14, h⟩ := bnd_ex h
      refine lv_nm ey_14 ?_
      obtain ⟨c_15, h⟩ := ckI_ex h
      obtain ⟨d_16, ed_16, h⟩ := bnd_ex h
      refine va_iast (D := D) hx hb hK hP hD hS 1 0 rfl rfl c_15 dX12_hourGoes_163 (fun H locs hP hD hS => ?_)
      rw [← ed_16] at hP hD
      have hP : va_P D vwCl (wM cA ad d_16 kept aside images found base at0 size fault opened isRub names_96 code coded pile_96 needs traced traceMany who bitsOf sizeOf number lifted) H := hP
      have hD : va_D A (wM cA ad d_16 kept aside images found base at0 size fault opened isRub names_96 code coded pile_96 needs traced traceMany who bitsOf sizeOf number lifted) := hD
      have h := Option.some.inj h
      have ee0 : d_16 = dR := congrArg (fun q => q.1) h
      have ee1 : names_96 = namesR := congrArg (fun q => q.2.1) h
      have ee2 : pile_96 = pileR := congrArg (fun q => q.2.2) h
      subst ee0
      subst ee1
      subst ee2
      rw [← hQ]
      exact retV hx hb hr hlk hK hP hD hS dX12_hourGoes_164 ⟨Nat.le_of_ble_eq_true rfl, Nat.le_of_ble_eq_true rfl⟩
    have LB : ∀ (nf : Nat) (v3_96b : Int32) (d_96b : Nat → Int32), lp (fun σ : Int32 × (Nat → Int32) => fX12_hourGoes_96B names_96 pile_96 (σ.1) (σ.2)) nf (v3_96b, d_96b) = some (v3_96r, d_96r) → WW p l e ({ frames := 5, cells := 0, slots := 0, locals := 118 } : Room) s m args below meth c D A 0 0 Q (wM cA ad d_96b kept aside images found base at0 size fault opened isRub names_96 code coded pile_96 needs traced traceMany who bitsOf sizeOf number lifted) 5 [(0, .ref (ad 0)), (3, .int v3_96b)] 96 [] := by
      intro nf
      induction nf with
      | zero => intro v3_96b d_96b hl; cases hl
      | succ nf ih =>
        intro v3_96b d_96b hl
        obtain ⟨x, h, hl⟩ := lp_ex hl
        have h : fX12_hourGoes_96B names_96 pile_96 v3_96b d_96b = some x := h
        unfold fX12_hourGoes_96B at h
        have C_109 : ∀ (v3_109 : Int32) (v4_109 : Int32) (d_109 : Nat → Int32) (x : (Int32 × (Nat → Int32)) ⊕ (Int32 × (Nat → Int32))), fX12_hourGoes_109 v3_109 v4_109 d_109 names_96 pile_96 = some x → lpk (fun σ : Int32 × (Nat → Int32) => fX12_hourGoes_96B names_96 pile_96 (σ.1) (σ.2)) nf x = some (v3_96r, d_96r) → WW p l e ({ frames := 5, cells := 0, slots := 0, locals := 118 } : Room) s m args below meth c D A 0 0 Q (wM cA ad d_109 kept aside images found base at0 size fault opened isRub names_96 code coded pile_96 needs traced traceMany who bitsOf sizeOf number lifted) 5 [(0, .ref (ad 0)), (3, .int v3_109), (4, .int v4_109)] 109 [] := by
          intro v3_109 v4_109 d_109 x h hl
          unfold fX12_hourGoes_109 at h
          obtain ⟨⟨v4_109r, d_109r⟩, ho, h⟩ := bd_ex h
          have LE : WW p l e ({ frames := 5, cells := 0, slots := 0, locals := 118 } : Room) s m args below meth c D A 0 0 Q (wM cA ad d_109r kept aside images found base at0 size fault opened isRub names_96 code coded pile_96 needs traced traceMany who bitsOf sizeOf number lifted) 5 [(0, .ref (ad 0)), (3, .int v3_109)] 148 [] := by
            intro H locs ls hP hD hS hv
            obtain ⟨y_19, ey_19, h⟩ := bnd_ex h
            refine lv_iinc (v := y_19) (lv' := [(3, .int y_19), (0, .ref (ad 0))]) hx hb dX12_hourGoes_148 hv (k := 1) rfl (by rw [ey_19]; rfl) (by decide) rfl (fun ls hv => ?_)
            refine lv_goto (tgt := 96) hx hb dX12_hourGoes_151 (by decide) ?_
            cases h
            exact ih y_19 d_109r hl _ _ _ hP hD hS (lv_sub hv [1, 0] rfl)
          have LB : ∀ (nf : Nat) (v4_109b : Int32) (d_109b : Nat → Int32), lp (fun σ : Int32 × (Nat → Int32) => fX12_hourGoes_109B v3_109 names_96 pile_96 (σ.1) (σ.2)) nf (v4_109b, d_109b) = some (v4_109r, d_109r) → WW p l e ({ frames := 5, cells := 0, slots := 0, locals := 118 } : Room) s m args below meth c D A 0 0 Q (wM cA ad d_109b kept aside images found base at0 size fault opened isRub names_96 code coded pile_96 needs traced traceMany who bitsOf sizeOf number lifted) 5 [(0, .ref (ad 0)), (3, .int v3_109), (4, .int v4_109b)] 109 [] := by
            intro nf
            induction nf with
            | zero => intro v4_109b d_109b hl; cases hl
            | succ nf ih =>
              intro v4_109b d_109b hl
              obtain ⟨x, h, hl⟩ := lp_ex hl
              have h : fX12_hourGoes_109B v3_109 names_96 pile_96 v4_109b d_109b = some x := h
              unfold fX12_hourGoes_109B at h
              intro H locs ls hP hD hS hv
              refine lv_iload hx hb dX12_hourGoes_109 (lv_at hv 2 rfl) ?_
              refine lv_bipush (v := (12 : Int32)) hx hb dX12_hourGoes_111 (by decide) ?_
              refine lv_icmp_ge (tgt := 148) hx hb dX12_hourGoes_113 (by decide) (fun c_20 => ?_) (fun c_20 => ?_)
              · have h := ite_t c_20 h
                cases h
                have hl : some (v4_109b, d_109b) = some (v4_109r, d_109r) := hl
                have hl := Option.some.inj hl
                have ee0 : v4_109b = v4_109r := congrArg (fun q => q.1) hl
                have ee1 : d_109b = d_109r := congrArg (fun q => q.2) hl
                subst ee0
                subst ee1
                exact LE _ _ _ hP hD hS (lv_sub hv [0, 1] rfl)
              · have h := ite_f c_20 h
                refine lv_aload_n hx hb dX12_hourGoes_116 rfl (lv_at hv 0 rfl) ?_
                refine lv_iload_n hx hb dX12_hourGoes_117 rfl (lv_at hv 1 rfl) ?_
                refine lv_iconst (v := (3 : Int32)) hx hb dX12_hourGoes_118 (by decide) ?_
                refine lv_iload hx hb dX12_hourGoes_119 (lv_at hv 2 rfl) ?_
                refine lv_iadd hx hb dX12_hourGoes_121 ?_
                refine lv_aload_n hx hb dX12_hourGoes_122 rfl (lv_at hv 0 rfl) ?_
                refine lv_iload_n hx hb dX12_hourGoes_123 rfl (lv_at hv 1 rfl) ?_
                refine lv_iconst (v := (3 : Int32)) hx hb dX12_hourGoes_124 (by decide) ?_
                refine lv_iload hx hb dX12_hourGoes_125 (lv_at hv 2 rfl) ?_
                refine lv_iadd hx hb dX12_hourGoes_127 ?_
                obtain ⟨r_21, hf_22, h⟩ := bd_ex h
                have sb := Sb.same hP hD hS hA
                refine calI (va_runV (As := [.int v3_109, .int ((3 : Int32) + v4_109b)]) (rest := [.int ((3 : Int32) + v4_109b), .int v3_109, .ref (ad 0)]) ⟨hx, hb, hml, hown, hts⟩ (c_X12_of l G D cA ad _ d_109b kept aside images found base at0 size fault opened isRub names_96 code coded pile_96 needs traced traceMany who bitsOf sizeOf number lifted v3_109 ((3 : Int32) + v4_109b) r_21 hf_22) (cwV 2 hts gX12_hourGoes_X12_of rfl rfl rfl (by decide +kernel) ⟨Nat.le_of_ble_eq_true rfl, Nat.le_of_ble_eq_true rfl⟩) (pvV hE hK hS sb (va_recv hK hP (ci := 12) (q0 := 0) rfl rfl)) rfl rfl hv.1 rfl (lv_room (Nat.le_of_ble_eq_true rfl)) dX12_hourGoes_128 ⟨Nat.le_of_ble_eq_true rfl, Nat.le_of_ble_eq_true rfl⟩) hS sb (Jn.same sb) (fun H locs hP hD hS => ?_)
                have hP : va_P D vwCl (wM cA ad d_109b kept aside images found base at0 size fault opened isRub names_96 code coded pile_96 needs traced traceMany who bitsOf sizeOf number lifted) H := hP
                have hD : va_D A (wM cA ad d_109b kept aside images found base at0 size fault opened isRub names_96 code coded pile_96 needs traced traceMany who bitsOf sizeOf number lifted) := hD
                refine lv_iconst (v := (1 : Int32)) hx hb dX12_hourGoes_131 (by decide) ?_
                refine lv_isub hx hb dX12_hourGoes_132 ?_
                refine lv_iconst (v := (0 : Int32)) hx hb dX12_hourGoes_133 (by decide) ?_
                refine lv_bipush (v := (9 : Int32)) hx hb dX12_hourGoes_134 (by decide) ?_
                obtain ⟨r_23, hf_24, h⟩ := bd_ex h
                have sb := Sb.nil hP hD hS hA
                refine calI (va_runS (As := [.int (r_21 - (1 : Int32)), .int (0 : Int32), .int (9 : Int32)]) (rest := [.int ((3 : Int32) + v4_109b), .int v3_109, .ref (ad 0)]) ⟨hx, hb, hml, hown, hts⟩ (c_X12_held l G D cA  _ (r_21 - (1 : Int32)) (0 : Int32) (9 : Int32) r_23 hf_24) (va_cwS 3 hts gX12_hourGoes_X12_held rfl rfl rfl (by decide +kernel) ⟨Nat.le_of_ble_eq_true rfl, Nat.le_of_ble_eq_true rfl⟩) (pvS hE hK hS sb) rfl rfl hv.1 rfl (lv_room (Nat.le_of_ble_eq_true rfl)) dX12_hourGoes_136 ⟨Nat.le_of_ble_eq_true rfl, Nat.le_of_ble_eq_true rfl⟩) hS sb (Jn.nil hP hD) (fun H locs hP hD hS => ?_)
                have hP : va_P D vwCl (wM cA ad d_109b kept aside images found base at0 size fault opened isRub names_96 code coded pile_96 needs traced traceMany who bitsOf sizeOf number lifted) H := hP
                have hD : va_D A (wM cA ad d_109b kept aside images found base at0 size fault opened isRub names_96 code coded pile_96 needs traced traceMany who bitsOf sizeOf number lifted) := hD
                obtain ⟨d_25, hf_26, h⟩ := bd_ex h
                have sb := Sb.same hP hD hS hA
                refine calV (va_runV (As := [.int v3_109, .int ((3 : Int32) + v4_109b), .int r_23]) (rest := []) ⟨hx, hb, hml, hown, hts⟩ (c_X12_sets l G D cA ad _ d_109b kept aside images found base at0 size fault opened isRub names_96 code coded pile_96 needs traced traceMany who bitsOf sizeOf number lifted v3_109 ((3 : Int32) + v4_109b) r_23 d_25 hf_26) (cwV 3 hts gX12_hourGoes_X12_sets rfl rfl rfl (by decide +kernel) ⟨Nat.le_of_ble_eq_true rfl, Nat.le_of_ble_eq_true rfl⟩) (pvV hE hK hS sb (va_recv hK hP (ci := 12) (q0 := 0) rfl rfl)) rfl rfl hv.1 rfl (lv_room (Nat.le_of_ble_eq_true rfl)) dX12_hourGoes_139 ⟨Nat.le_of_ble_eq_true rfl, Nat.le_of_ble_eq_true rfl⟩) hS sb (Jn.same sb) (fun H locs hP hD hS => ?_)
                have hP : va_P D vwCl (wM cA ad d_25 kept aside images found base at0 size fault opened isRub names_96 code coded pile_96 needs traced traceMany who bitsOf sizeOf number lifted) H := hP
                have hD : va_D A (wM cA ad d_25 kept aside images found base at0 size fault opened isRub names_96 code coded pile_96 needs traced traceMany who bitsOf sizeOf number lifted) := hD
                obtain ⟨y_27, ey_27, h⟩ := bnd_ex h
                refine lv_iinc (v := y_27) (lv' := [(4, .int y_27), (0, .ref (ad 0)), (3, .int v3_109)]) hx hb dX12_hourGoes_142 hv (k := 2) rfl (by rw [ey_27]; rfl) (by decide) rfl (fun ls hv => ?_)
                refine lv_goto (tgt := 109) hx hb dX12_hourGoes_145 (by decide) ?_
                cases h
                exact ih y_27 d_25 hl _ _ _ hP hD hS (lv_sub hv [1, 2, 0] rfl)
          exact LB FU v4_109 d_109 ho
        intro H locs ls hP hD hS hv
        refine lv_iload_n hx hb dX12_hourGoes_96 rfl (lv_at hv 1 rfl) ?_
        refine lv_aload_n hx hb dX12_hourGoes_97 rfl (lv_at hv 0 rfl) ?_
        refine va_get (D := D) (ci := 12) (v := .ref (ad 1)) (C := RX12) (T := TX12) (N := 23) hx hb hts in_12 hown hK hP 0 rfl rfl 0 (by decide) w_0 (fun _ h9 => h9) rfl dX12_hourGoes_98 ?_
        refine lv_iconst (v := (0 : Int32)) hx hb dX12_hourGoes_101 (by decide) ?_
        obtain ⟨c_17, h⟩ := ckI_ex h
        refine va_iald (D := D) hx hb hK hP 1 0 rfl rfl c_17 dX12_hourGoes_102 ?_
        refine lv_icmp_ge (tgt := 154) hx hb dX12_hourGoes_103 (by decide) (fun c_18 => ?_) (fun c_18 => ?_)
        · have h := ite_t c_18 h
          cases h
          have hl : some (v3_96b, d_96b) = some (v3_96r, d_96r) := hl
          have hl := Option.some.inj hl
          have ee0 : v3_96b = v3_96r := congrArg (fun q => q.1) hl
          have ee1 : d_96b = d_96r := congrArg (fun q => q.2) hl
          subst ee0
          subst ee1
          exact LE _ _ _ hP hD hS (lv_sub hv [0] rfl)
        · have h := ite_f c_18 h
          refine lv_iconst (v := (0 : Int32)) hx hb dX12_hourGoes_106 (by decide) ?_
          refine lv_istore (lv' := [(4, .int (0 : Int32)), (0, .ref (ad 0)), (3, .int v3_96b)]) hx hb dX12_hourGoes_107 hv (by decide) rfl (fun ls hv => ?_)
          exact C_109 v3_96b (0 : Int32) d_96b _ h hl _ _ _ hP hD hS (lv_sub hv [1, 2, 0] rfl)
    exact LB FU v3_96 d_96 ho
  have C_94 : ∀ (d_94 : Nat → Int32) (names_94 : Nat → Int32) (pile_94 : Nat → Int32), fX12_hourGoes_94 d_94 names_94 pile_94 = some (dR, namesR, pileR) → WW p l e ({ frames := 5, cells := 0, slots := 0, locals := 118 } : Room) s m args below meth c D A 0 0 Q (wM cA ad d_94 kept aside images found base at0 size fault opened isRub names_94 code coded pile_94 needs traced traceMany who bitsOf sizeOf number lifted) 5 [(0, .ref (ad 0))] 94 [] := by
    intro d_94 names_94 pile_94 h
    unfold fX12_hourGoes_94 at h
    intro H locs ls hP hD hS hv
    refine lv_iconst (v := (0 : Int32)) hx hb dX12_hourGoes_94 (by decide) ?_
    refine lv_istore_n (lv' := [(3, .int (0 : Int32)), (0, .ref (ad 0))]) hx hb dX12_hourGoes_95 rfl hv (by decide) rfl (fun ls hv => ?_)
    exact C_96 (0 : Int32) d_94 names_94 pile_94 h _ _ _ hP hD hS (lv_sub hv [1, 0] rfl)
  have C_56 : ∀ (d_56 : Nat → Int32) (names_56 : Nat → Int32) (pile_56 : Nat → Int32), fX12_hourGoes_56 d_56 names_56 pile_56 = some (dR, namesR, pileR) → WW p l e ({ frames := 5, cells := 0, slots := 0, locals := 118 } : Room) s m args below meth c D A 0 0 Q (wM cA ad d_56 kept aside images found base at0 size fault opened isRub names_56 code coded pile_56 needs traced traceMany who bitsOf sizeOf number lifted) 5 [(0, .ref (ad 0))] 56 [] := by
    intro d_56 names_56 pile_56 h
    unfold fX12_hourGoes_56 at h
    intro H locs ls hP hD hS hv
    refine lv_aload_n hx hb dX12_hourGoes_56 rfl (lv_at hv 0 rfl) ?_
    refine va_get (D := D) (ci := 12) (v := .ref (ad 1)) (C := RX12) (T := TX12) (N := 23) hx hb hts in_12 hown hK hP 0 rfl rfl 0 (by decide) w_0 (fun _ h9 => h9) rfl dX12_hourGoes_57 ?_
    refine lv_bipush (v := (30 : Int32)) hx hb dX12_hourGoes_60 (by decide) ?_
    refine lv_aload_n hx hb dX12_hourGoes_62 rfl (lv_at hv 0 rfl) ?_
    refine va_get (D := D) (ci := 12) (v := .ref (ad 1)) (C := RX12) (T := TX12) (N := 23) hx hb hts in_12 hown hK hP 0 rfl rfl 0 (by decide) w_0 (fun _ h9 => h9) rfl dX12_hourGoes_63 ?_
    refine lv_iconst (v := (1 : Int32)) hx hb dX12_hourGoes_66 (by decide) ?_
    obtain ⟨c_7, h⟩ := ckI_ex h
    refine va_iald (D := D) hx hb hK hP 1 0 rfl rfl c_7 dX12_hourGoes_67 ?_
    refine lv_iconst (v := (4 : Int32)) hx hb dX12_hourGoes_68 (by decide) ?_
    refine lv_irem hx hb dX12_hourGoes_69 (by decide) ?_
    refine lv_iadd hx hb dX12_hourGoes_70 ?_
    obtain ⟨c_8, h⟩ := ckI_ex h
    refine va_iald (D := D) hx hb hK hP 1 0 rfl rfl c_8 dX12_hourGoes_71 ?_
    obtain ⟨y_9, ey_9, h⟩ := bnd_ex h
    refine lv_nm ey_9 ?_
    refine lv_istore_n (lv' := [(2, .int y_9), (0, .ref (ad 0))]) hx hb dX12_hourGoes_72 rfl hv (by decide) rfl (fun ls hv => ?_)
    refine lv_aload_n hx hb dX12_hourGoes_73 rfl (lv_at hv 1 rfl) ?_
    refine lv_iload_n hx hb dX12_hourGoes_74 rfl (lv_at hv 0 rfl) ?_
    obtain ⟨r_10, hf_11, h⟩ := bd_ex h
    have sb := Sb.same hP hD hS hA
    refine calI (va_runV (As := [.int y_9]) (rest := []) ⟨hx, hb, hml, hown, hts⟩ (c_X12_isSpoon l G D cA ad _ d_56 kept aside images found base at0 size fault opened isRub names_56 code coded pile_56 needs traced traceMany who bitsOf sizeOf number lifted y_9 r_10 hf_11) (cwV 1 hts gX12_hourGoes_X12_isSpoon rfl rfl rfl (by decide +kernel) ⟨Nat.le_of_ble_eq_true rfl, Nat.le_of_ble_eq_true rfl⟩) (pvV hE hK hS sb (va_recv hK hP (ci := 12) (q0 := 0) rfl rfl)) rfl rfl hv.1 rfl (lv_room (Nat.le_of_ble_eq_true rfl)) dX12_hourGoes_75 ⟨Nat.le_of_ble_eq_true rfl, Nat.le_of_ble_eq_true rfl⟩) hS sb (Jn.same sb) (fun H locs hP hD hS => ?_)
    have hP : va_P D vwCl (wM cA ad d_56 kept aside images found base at0 size fault opened isRub names_56 code coded pile_56 needs traced traceMany who bitsOf sizeOf number lifted) H := hP
    have hD : va_D A (wM cA ad d_56 kept aside images found base at0 size fault opened isRub names_56 code coded pile_56 needs traced traceMany who bitsOf sizeOf number lifted) := hD
    refine lv_if_eq (tgt := 94) hx hb dX12_hourGoes_78 (by decide) (fun c_12 => ?_) (fun c_12 => ?_)
    · have h := ite_t c_12 h
      exact C_94 d_56 names_56 pile_56 h _ _ _ hP hD hS (lv_sub hv [1] rfl)
    · have h := ite_f c_12 h
      refine lv_aload_n hx hb dX12_hourGoes_81 rfl (lv_at hv 1 rfl) ?_
      refine lv_iload_n hx hb dX12_hourGoes_82 rfl (lv_at hv 0 rfl) ?_
      obtain ⟨r_28, hf_29, h⟩ := bd_ex h
      have sb := Sb.same hP hD hS hA
      refine calI (va_runV (As := [.int y_9]) (rest := []) ⟨hx, hb, hml, hown, hts⟩ (c_X12_isThrough l G D cA ad _ d_56 kept aside images found base at0 size fault opened isRub names_56 code coded pile_56 needs traced traceMany who bitsOf sizeOf number lifted y_9 r_28 hf_29) (cwV 1 hts gX12_hourGoes_X12_isThrough rfl rfl rfl (by decide +kernel) ⟨Nat.le_of_ble_eq_true rfl, Nat.le_of_ble_eq_true rfl⟩) (pvV hE hK hS sb (va_recv hK hP (ci := 12) (q0 := 0) rfl rfl)) rfl rfl hv.1 rfl (lv_room (Nat.le_of_ble_eq_true rfl)) dX12_hourGoes_83 ⟨Nat.le_of_ble_eq_true rfl, Nat.le_of_ble_eq_true rfl⟩) hS sb (Jn.same sb) (fun H locs hP hD hS => ?_)
      have hP : va_P D vwCl (wM cA ad d_56 kept aside images found base at0 size fault opened isRub names_56 code coded pile_56 needs traced traceMany who bitsOf sizeOf number lifted) H := hP
      have hD : va_D A (wM cA ad d_56 kept aside images found base at0 size fault opened isRub names_56 code coded pile_56 needs traced traceMany who bitsOf sizeOf number lifted) := hD
      refine lv_if_ne (tgt := 94) hx hb dX12_hourGoes_86 (by decide) (fun c_30 => ?_) (fun c_30 => ?_)
      · have h := ite_f c_30 h
        exact C_94 d_56 names_56 pile_56 h _ _ _ hP hD hS (lv_sub hv [1] rfl)
      · have h := ite_t c_30 h
        refine lv_aload_n hx hb dX12_hourGoes_89 rfl (lv_at hv 1 rfl) ?_
        refine lv_iload_n hx hb dX12_hourGoes_90 rfl (lv_at hv 0 rfl) ?_
        obtain ⟨⟨d_31, names_32, pile_33⟩, hf_34, h⟩ := bd_ex h
        have sb := Sb.same hP hD hS hA
        refine calV (va_runV (As := [.int y_9]) (rest := []) ⟨hx, hb, hml, hown, hts⟩ (c_X12_washes l G D cA ad _ d_56 kept aside images found base at0 size fault opened isRub names_56 code coded pile_56 needs traced traceMany who bitsOf sizeOf number lifted y_9 d_31 names_32 pile_33 hf_34) (cwV 1 hts gX12_hourGoes_X12_washes rfl rfl rfl (by decide +kernel) ⟨Nat.le_of_ble_eq_true rfl, Nat.le_of_ble_eq_true rfl⟩) (pvV hE hK hS sb (va_recv hK hP (ci := 12) (q0 := 0) rfl rfl)) rfl rfl hv.1 rfl (lv_room (Nat.le_of_ble_eq_true rfl)) dX12_hourGoes_91 ⟨Nat.le_of_ble_eq_true rfl, Nat.le_of_ble_eq_true rfl⟩) hS sb (Jn.same sb) (fun H locs hP hD hS => ?_)
        have hP : va_P D vwCl (wM cA ad d_31 kept aside images found base at0 size fault opened isRub names_32 code coded pile_33 needs traced traceMany who bitsOf sizeOf number lifted) H := hP
        have hD : va_D A (wM cA ad d_31 kept aside images found base at0 size fault opened isRub names_32 code coded pile_33 needs traced traceMany who bitsOf sizeOf number lifted) := hD
        exact C_94 d_31 names_32 pile_33 h _ _ _ hP hD hS (lv_sub hv [1] rfl)
  have hP : va_P D vwCl (wM cA ad d kept aside images found base at0 size fault opened isRub names code coded pile needs traced traceMany who bitsOf sizeOf number lifted) H := hP
  unfold fX12_hourGoes at h
  refine lv_aload_n hx hb dX12_hourGoes_0 rfl (lv_at hv 0 rfl) ?_
  refine va_get (D := D) (ci := 12) (v := .ref (ad 1)) (C := RX12) (T := TX12) (N := 23) hx hb hts in_12 hown hK hP 0 rfl rfl 0 (by decide) w_0 (fun _ h9 => h9) rfl dX12_hourGoes_1 ?_
  refine lv_bipush (v := (18 : Int32)) hx hb dX12_hourGoes_4 (by decide) ?_
  refine lv_aload_n hx hb dX12_hourGoes_6 rfl (lv_at hv 0 rfl) ?_
  refine va_get (D := D) (ci := 12) (v := .ref (ad 1)) (C := RX12) (T := TX12) (N := 23) hx hb hts in_12 hown hK hP 0 rfl rfl 0 (by decide) w_0 (fun _ h9 => h9) rfl dX12_hourGoes_7 ?_
  refine lv_iconst (v := (1 : Int32)) hx hb dX12_hourGoes_10 (by decide) ?_
  obtain ⟨c_1, h⟩ := ckI_ex h
  refine va_iald (D := D) hx hb hK hP 1 0 rfl rfl c_1 dX12_hourGoes_11 ?_
  refine lv_bipush (v := (6 : Int32)) hx hb dX12_hourGoes_12 (by decide) ?_
  refine lv_irem hx hb dX12_hourGoes_14 (by decide) ?_
  refine lv_iadd hx hb dX12_hourGoes_15 ?_
  obtain ⟨c_2, h⟩ := ckI_ex h
  refine va_iald (D := D) hx hb hK hP 1 0 rfl rfl c_2 dX12_hourGoes_16 ?_
  obtain ⟨y_3, ey_3, h⟩ := bnd_ex h
  refine lv_nm ey_3 ?_
  refine lv_istore_n (lv' := [(1, .int y_3), (0, .ref (ad 0))]) hx hb dX12_hourGoes_17 rfl hv (by decide) rfl (fun ls hv => ?_)
  refine lv_aload_n hx hb dX12_hourGoes_18 rfl (lv_at hv 1 rfl) ?_
  refine lv_iload_n hx hb dX12_hourGoes_19 rfl (lv_at hv 0 rfl) ?_
  obtain ⟨r_4, hf_5, h⟩ := bd_ex h
  have sb := Sb.same hP hD hS hA
  refine calI (va_runV (As := [.int y_3]) (rest := []) ⟨hx, hb, hml, hown, hts⟩ (c_X12_isSpoon l G D cA ad _ d kept aside images found base at0 size fault opened isRub names code coded pile needs traced traceMany who bitsOf sizeOf number lifted y_3 r_4 hf_5) (cwV 1 hts gX12_hourGoes_X12_isSpoon rfl rfl rfl (by decide +kernel) ⟨Nat.le_of_ble_eq_true rfl, Nat.le_of_ble_eq_true rfl⟩) (pvV hE hK hS sb (va_recv hK hP (ci := 12) (q0 := 0) rfl rfl)) rfl rfl hv.1 rfl (lv_room (Nat.le_of_ble_eq_true rfl)) dX12_hourGoes_20 ⟨Nat.le_of_ble_eq_true rfl, Nat.le_of_ble_eq_true rfl⟩) hS sb (Jn.same sb) (fun H locs hP hD hS => ?_)
  have hP : va_P D vwCl (wM cA ad d kept aside images found base at0 size fault opened isRub names code coded pile needs traced traceMany who bitsOf sizeOf number lifted) H := hP
  have hD : va_D A (wM cA ad d kept aside images found base at0 size fault opened isRub names code coded pile needs traced traceMany who bitsOf sizeOf number lifted) := hD
  refine lv_if_eq (tgt := 56) hx hb dX12_hourGoes_23 (by decide) (fun c_6 => ?_) (fun c_6 => ?_)
  · have h := ite_t c_6 h
    exact C_56 d names pile h _ _ _ hP hD hS (lv_sub hv [1] rfl)
  · have h := ite_f c_6 h
    refine lv_aload_n hx hb dX12_hourGoes_26 rfl (lv_at hv 1 rfl) ?_
    refine lv_iload_n hx hb dX12_hourGoes_27 rfl (lv_at hv 0 rfl) ?_
    obtain ⟨r_35, hf_36, h⟩ := bd_ex h
    have sb := Sb.same hP hD hS hA
    refine calI (va_runV (As := [.int y_3]) (rest := []) ⟨hx, hb, hml, hown, hts⟩ (c_X12_isThrough l G D cA ad _ d kept aside images found base at0 size fault opened isRub names code coded pile needs traced traceMany who bitsOf sizeOf number lifted y_3 r_35 hf_36) (cwV 1 hts gX12_hourGoes_X12_isThrough rfl rfl rfl (by decide +kernel) ⟨Nat.le_of_ble_eq_true rfl, Nat.le_of_ble_eq_true rfl⟩) (pvV hE hK hS sb (va_recv hK hP (ci := 12) (q0 := 0) rfl rfl)) rfl rfl hv.1 rfl (lv_room (Nat.le_of_ble_eq_true rfl)) dX12_hourGoes_28 ⟨Nat.le_of_ble_eq_true rfl, Nat.le_of_ble_eq_true rfl⟩) hS sb (Jn.same sb) (fun H locs hP hD hS => ?_)
    have hP : va_P D vwCl (wM cA ad d kept aside images found base at0 size fault opened isRub names code coded pile needs traced traceMany who bitsOf sizeOf number lifted) H := hP
    have hD : va_D A (wM cA ad d kept aside images found base at0 size fault opened isRub names code coded pile needs traced traceMany who bitsOf sizeOf number lifted) := hD
    refine lv_if_ne (tgt := 56) hx hb dX12_hourGoes_31 (by decide) (fun c_37 => ?_) (fun c_37 => ?_)
    · have h := ite_f c_37 h
      exact C_56 d names pile h _ _ _ hP hD hS (lv_sub hv [1] rfl)
    · have h := ite_t c_37 h
      refine lv_aload_n hx hb dX12_hourGoes_34 rfl (lv_at hv 1 rfl) ?_
      refine lv_iload_n hx hb dX12_hourGoes_35 rfl (lv_at hv 0 rfl) ?_
      refine lv_aload_n hx hb dX12_hourGoes_36 rfl (lv_at hv 1 rfl) ?_
      refine va_get (D := D) (ci := 12) (v := .ref (ad 1)) (C := RX12) (T := TX12) (N := 23) hx hb hts in_12 hown hK hP 0 rfl rfl 0 (by decide) w_0 (fun _ h9 => h9) rfl dX12_hourGoes_37 ?_
      refine lv_bipush (v := (24 : Int32)) hx hb dX12_hourGoes_40 (by decide) ?_
      refine lv_aload_n hx hb dX12_hourGoes_42 rfl (lv_at hv 1 rfl) ?_
      refine va_get (D := D) (ci := 12) (v := .ref (ad 1)) (C := RX12) (T := TX12) (N := 23) hx hb hts in_12 hown hK hP 0 rfl rfl 0 (by decide) w_0 (fun _ h9 => h9) rfl dX12_hourGoes_43 ?_
      refine lv_iconst (v := (1 : Int32)) hx hb dX12_hourGoes_46 (by decide) ?_
      obtain ⟨c_38, h⟩ := ckI_ex h
      refine va_iald (D := D) hx hb hK hP 1 0 rfl rfl c_38 dX12_hourGoes_47 ?_
      refine lv_bipush (v := (6 : Int32)) hx hb dX12_hourGoes_48 (by decide) ?_
      refine lv_irem hx hb dX12_hourGoes_50 (by decide) ?_
      refine lv_iadd hx hb dX12_hourGoes_51 ?_
      obtain ⟨c_39, h⟩ := ckI_ex h
      refine va_iald (D := D) hx hb hK hP 1 0 rfl rfl c_39 dX12_hourGoes_52 ?_
      obtain ⟨⟨d_40, names_41, pile_42⟩, hf_43, h⟩ := bd_ex h
      have sb := Sb.same hP hD hS hA
      refine calV (va_runV (As := [.int y_3, .int (d (((24 : Int32) + ((d ((1 : Int32)).toNatClampNeg) - (d ((1 : Int32)).toNatClampNeg) / (6 : Int32) * (6 : Int32)))).toNatClampNeg)]) (rest := []) ⟨hx, hb, hml, hown, hts⟩ (c_X12_swallows l G D cA ad _ d kept aside images found base at0 size fault opened isRub names code coded pile needs traced traceMany who bitsOf sizeOf number lifted y_3 (d (((24 : Int32) + ((d ((1 : Int32)).toNatClampNeg) - (d ((1 : Int32)).toNatClampNeg) / (6 : Int32) * (6 : Int32)))).toNatClampNeg) d_40 names_41 pile_42 hf_43) (cwV 2 hts gX12_hourGoes_X12_swallows rfl rfl rfl (by decide +kernel) ⟨Nat.le_of_ble_eq_true rfl, Nat.le_of_ble_eq_true rfl⟩) (pvV hE hK hS sb (va_recv hK hP (ci := 12) (q0 := 0) rfl rfl)) rfl rfl hv.1 rfl (lv_room (Nat.le_of_ble_eq_true rfl)) dX12_hourGoes_53 ⟨Nat.le_of_ble_eq_true rfl, Nat.le_of_ble_eq_true rfl⟩) hS sb (Jn.same sb) (fun H locs hP hD hS => ?_)
      have hP : va_P D vwCl (wM cA ad d_40 kept aside images found base at0 size fault opened isRub names_41 code coded pile_42 needs traced traceMany who bitsOf sizeOf number lifted) H := hP
      have hD : va_D A (wM cA ad d_40 kept aside images found base at0 size fault opened isRub names_41 code coded pile_42 needs traced traceMany who bitsOf sizeOf number lifted) := hD
      exact C_56 d_40 names_41 pile_42 h _ _ _ hP hD hS (lv_sub hv [1] rfl)

def fX12_hoursGo_2B (v1_2 : Int32) (v2_2b : Int32) (d_2b : Nat → Int32) (names_2b : Nat → Int32) (pile_2b : Nat → Int32) : Option ((Int32 × (Nat → Int32) × (Nat → Int32) × (Nat → Int32)) ⊕ (Int32 × (Nat → Int32) × (Nat → Int32) × (Nat → Int32))) :=
  (if v1_2 ≤ v2_2b then some (.inr (v2_2b, d_2b, names_2b, pile_2b)) else bd (fX12_hourGoes d_2b names_2b pile_2b) fun (d_2, names_3, pile_4) => bnd (v2_2b + (1 : Int32)) fun y_6 => some (.inl (y_6, d_2, names_3, pile_4)))
def fX12_hoursGo_2 (v1_2 : Int32) (v2_2 : Int32) (d_2 : Nat → Int32) (names_2 : Nat → Int32) (pile_2 : Nat → Int32) : Option ((Nat → Int32) × (Nat → Int32) × (Nat → Int32)) :=
  bd (lp (fun σ : Int32 × (Nat → Int32) × (Nat → Int32) × (Nat → Int32) => fX12_hoursGo_2B v1_2 (σ.1) (σ.2.1) (σ.2.2.1) (σ.2.2.2)) FU (v2_2, d_2, names_2, pile_2)) fun ρ => match ρ with | (v2_2r, d_2r, names_2r, pile_2r) => some (d_2r, names_2r, pile_2r)
def fX12_hoursGo (n : Int32) (d : Nat → Int32) (names : Nat → Int32) (pile : Nat → Int32) : Option ((Nat → Int32) × (Nat → Int32) × (Nat → Int32)) :=
  fX12_hoursGo_2 n (0 : Int32) d names pile
set_option maxHeartbeats 4000000 in
set_option maxRecDepth 100000 in
theorem c_X12_hoursGo (l : Launch) (G : Nat → Nat) (D : va_G) (cA : Nat → ClassId) (ad : Nat → Nat) (sz : Nat) (d : Nat → Int32) (kept : Nat → Int32) (aside : Nat → Int32) (images : Int32) (found : Nat → Int32) (base : Int32) (at0 : Int32) (size : Int32) (fault : Int32) (opened : Int32) (isRub : Int32) (names : Nat → Int32) (code : Nat → Int32) (coded : Int32) (pile : Nat → Int32) (needs : Nat → Int32) (traced : Nat → Int32) (traceMany : Int32) (who : Int32) (bitsOf : Nat → Int32) (sizeOf : Nat → Int32) (number : Nat → Int32) (lifted : Nat → Int32) (n : Int32) (dR : Nat → Int32) (namesR : Nat → Int32) (pileR : Nat → Int32) (h : fX12_hoursGo n d names pile = some (dR, namesR, pileR)) : Met l yX12_hoursGo wsX12_hoursGo ({ frames := 6, cells := 0, slots := 0, locals := 142 } : Room) (PW G D (tyC cA) sz (wM cA ad d kept aside images found base at0 size fault opened isRub names code coded pile needs traced traceMany who bitsOf sizeOf number lifted) [.ref (ad 0), .int n]) (QV D (tyC cA) (va_A (wM cA ad d kept aside images found base at0 size fault opened isRub names code coded pile needs traced traceMany who bitsOf sizeOf number lifted) sz) (wM cA ad dR kept aside images found base at0 size fault opened isRub namesR code coded pileR needs traced traceMany who bitsOf sizeOf number lifted)) 0 0 (va_A (wM cA ad d kept aside images found base at0 size fault opened isRub names code coded pile needs traced traceMany who bitsOf sizeOf number lifted) sz) := by
  refine ent (cc := cX12_hoursGo) (maxL := 3) (ret := none) (fun A => QV D (tyC cA) A (wM cA ad dR kept aside images found base at0 size fault opened isRub namesR code coded pileR needs traced traceMany who bitsOf sizeOf number lifted)) (by decide +kernel) rfl (Nat.le_of_ble_eq_true rfl) ?_
  intro p e s m args below meth c A ls H hx hb hml hr hlk hts hown hA hK hE hP hD hS hv hmm
  have hv : lv_has ls 3 [(0, .ref (ad 0)), (1, .int n)] := hv
  generalize hQ : MQ below _ args s 0 0 A = Q
  have C_2 : ∀ (v1_2 : Int32) (v2_2 : Int32) (d_2 : Nat → Int32) (names_2 : Nat → Int32) (pile_2 : Nat → Int32), fX12_hoursGo_2 v1_2 v2_2 d_2 names_2 pile_2 = some (dR, namesR, pileR) → WW p l e ({ frames := 6, cells := 0, slots := 0, locals := 142 } : Room) s m args below meth c D A 0 0 Q (wM cA ad d_2 kept aside images found base at0 size fault opened isRub names_2 code coded pile_2 needs traced traceMany who bitsOf sizeOf number lifted) 3 [(0, .ref (ad 0)), (1, .int v1_2), (2, .int v2_2)] 2 [] := by
    intro v1_2 v2_2 d_2 names_2 pile_2 h
    unfold fX12_hoursGo_2 at h
    obtain ⟨⟨v2_2r, d_2r, names_2r, pile_2r⟩, ho, h⟩ := bd_ex h
    have LE : WW p l e ({ frames := 6, cells := 0, slots := 0, locals := 142 } : Room) s m args below meth c D A 0 0 Q (wM cA ad d_2r kept aside images found base at0 size fault opened isRub names_2r code coded pile_2r needs traced traceMany who bitsOf sizeOf number lifted) 3 [] 17 [] := by
      intro H locs ls hP hD hS hv
      have h := Option.some.inj h
      have ee0 : d_2r = dR := congrArg (fun q => q.1) h
      have ee1 : names_2r = namesR := congrArg (fun q => q.2.1) h
      have ee2 : pile_2r = pileR := congrArg (fun q => q.2.2) h
      subst ee0
      subst ee1
      subst ee2
      rw [← hQ]
      exact retV hx hb hr hlk hK hP hD hS dX12_hoursGo_17 ⟨Nat.le_of_ble_eq_true rfl, Nat.le_of_ble_eq_true rfl⟩
    have LB : ∀ (nf : Nat) (v2_2b : Int32) (d_2b : Nat → Int32) (names_2b : Nat → Int32) (pile_2b : Nat → Int32), lp (fun σ : Int32 × (Nat → Int32) × (Nat → Int32) × (Nat → Int32) => fX12_hoursGo_2B v1_2 (σ.1) (σ.2.1) (σ.2.2.1) (σ.2.2.2)) nf (v2_2b, d_2b, names_2b, pile_2b) = some (v2_2r, d_2r, names_2r, pile_2r) → WW p l e ({ frames := 6, cells := 0, slots := 0, locals := 142 } : Room) s m args below meth c D A 0 0 Q (wM cA ad d_2b kept aside images found base at0 size fault opened isRub names_2b code coded pile_2b needs traced traceMany who bitsOf sizeOf number lifted) 3 [(0, .ref (ad 0)), (1, .int v1_2), (2, .int v2_2b)] 2 [] := by
      intro nf
      induction nf with
      | zero => intro v2_2b d_2b names_2b pile_2b hl; cases hl
      | succ nf ih =>
        intro v2_2b d_2b names_2b pile_2b hl
        obtain ⟨x, h, hl⟩ := lp_ex hl
        have h : fX12_hoursGo_2B v1_2 v2_2b d_2b names_2b pile_2b = some x := h
        unfold fX12_hoursGo_2B at h
        intro H locs ls hP hD hS hv
        refine lv_iload_n hx hb dX12_hoursGo_2 rfl (lv_at hv 2 rfl) ?_
        refine lv_iload_n hx hb dX12_hoursGo_3 rfl (lv_at hv 1 rfl) ?_
        refine lv_icmp_ge (tgt := 17) hx hb dX12_hoursGo_4 (by decide) (fun c_1 => ?_) (fun c_1 => ?_)
        · have h := ite_t c_1 h
          cases h
          have hl : some (v2_2b, d_2b, names_2b, pile_2b) = some (v2_2r, d_2r, names_2r, pile_2r) := hl
          have hl := Option.some.inj hl
          have ee0 : v2_2b = v2_2r := congrArg (fun q => q.1) hl
          have ee1 : d_2b = d_2r := congrArg (fun q => q.2.1) hl
          have ee2 : names_2b = names_2r := congrArg (fun q => q.2.2.1) hl
          have ee3 : pile_2b = pile_2r := congrArg (fun q => q.2.2.2) hl
          subst ee0
          subst ee1
          subst ee2
          subst ee3
          exact LE _ _ _ hP hD hS (lv_sub hv [] rfl)
        · have h := ite_f c_1 h
          refine lv_aload_n hx hb dX12_hoursGo_7 rfl (lv_at hv 0 rfl) ?_
          obtain ⟨⟨d_2, names_3, pile_4⟩, hf_5, h⟩ := bd_ex h
          have sb := Sb.same hP hD hS hA
          refine calV (va_runV (As := []) (rest := []) ⟨hx, hb, hml, hown, hts⟩ (c_X12_hourGoes l G D cA ad _ d_2b kept aside images found base at0 size fault opened isRub names_2b code coded pile_2b needs traced traceMany who bitsOf sizeOf number lifted d_2 names_3 pile_4 hf_5) (cwV 0 hts gX12_hoursGo_X12_hourGoes rfl rfl rfl (by decide +kernel) ⟨Nat.le_of_ble_eq_true rfl, Nat.le_of_ble_eq_true rfl⟩) (pvV hE hK hS sb (va_recv hK hP (ci := 12) (q0 := 0) rfl rfl)) rfl rfl hv.1 rfl (lv_room (Nat.le_of_ble_eq_true rfl)) dX12_hoursGo_8 ⟨Nat.le_of_ble_eq_true rfl, Nat.le_of_ble_eq_true rfl⟩) hS sb (Jn.same sb) (fun H locs hP hD hS => ?_)
          have hP : va_P D vwCl (wM cA ad d_2 kept aside images found base at0 size fault opened isRub names_3 code coded pile_4 needs traced traceMany who bitsOf sizeOf number lifted) H := hP
          have hD : va_D A (wM cA ad d_2 kept aside images found base at0 size fault opened isRub names_3 code coded pile_4 needs traced traceMany who bitsOf sizeOf number lifted) := hD
          obtain ⟨y_6, ey_6, h⟩ := bnd_ex h
          refine lv_iinc (v := y_6) (lv' := [(2, .int y_6), (0, .ref (ad 0)), (1, .int v1_2)]) hx hb dX12_hoursGo_11 hv (k := 2) rfl (by rw [ey_6]; rfl) (by decide) rfl (fun ls hv => ?_)
          refine lv_goto (tgt := 2) hx hb dX12_hoursGo_14 (by decide) ?_
          cases h
          exact ih y_6 d_2 names_3 pile_4 hl _ _ _ hP hD hS (lv_sub hv [1, 2, 0] rfl)
    exact LB FU v2_2 d_2 names_2 pile_2 ho
  have hP : va_P D vwCl (wM cA ad d kept aside images found base at0 size fault opened isRub names code coded pile needs traced traceMany who bitsOf sizeOf number lifted) H := hP
  unfold fX12_hoursGo at h
  refine lv_iconst (v := (0 : Int32)) hx hb dX12_hoursGo_0 (by decide) ?_
  refine lv_istore_n (lv' := [(2, .int (0 : Int32)), (0, .ref (ad 0)), (1, .int n)]) hx hb dX12_hoursGo_1 rfl hv (by decide) rfl (fun ls hv => ?_)
  exact C_2 n (0 : Int32) d names pile h _ _ _ hP hD hS (lv_sub hv [1, 2, 0] rfl)

