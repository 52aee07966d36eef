/-! THE CLAIM OUT OF ONE WALK OF THE LAW'S BODY. Your part is whole_start (and what it stands on); all else here is the same for every law, but numbers. -/
def R_law : String := "SpoonsLastLaw"
def lw_P (b : Addr) (xs : List Int32) (args : Array Value) (s : State) : Prop := args = #[.ref b] ∧ s.IntsAt b xs ∧ xs.length ≤ 3072 ∧ (Jvm.Cond.and given_1 narrow_1).before args s = true
def lw_Q (_ : Array Value) (s : State) (o : Outcome) (t : State) : Prop := o = .returned (some (.int 1)) ∧ Framed s o t [] 600000 7302250
def lw_Z (below : List Frame) (a : Array Value) (s : State) : State → Prop := fun t => ∃ o, t.status = .running ∧ Ended t below o ∧ lw_Q a s o t
/-- the law's own end, with 1 on the stack, nothing written that was there before, its room as the claim has it -/
theorem lw_ret {p : Program} {l : Launch} {e : Env} {s : State} {m : MethodId} {below : List Frame} {meth : Method} {c : Code} {b : Nat} (hx : p.tables.exec = Jvm.exec) (hb : c.code = code) (hr : meth.sig.returnType = ret) (hlocks : meth.locks = false) {pc : Nat} {H : Heap} {ls : Array Slot} (hdg : decode code pc = .ok (.ireturn, 1)) : W p l e room_1 s m #[Value.ref b] below meth c H [] 600000 7302250 (lw_Z below #[Value.ref b] s) (F0 m pc ls [.int 1]) := by
  intro T hT X
  obtain ⟨fs, hret, hrun, hended, hW, hframe⟩ := X.leave (v := some (.int 1)) (hlocks := hlocks) (fun h => by rw [hr] at h; cases h)
  have hmeth' : T.vm.method? m = some meth := X.method'
  refine ⟨T.setFrames fs, ?_, .returned (some (.int 1)), hrun, hended, rfl, ⟨_, rfl⟩, hW, hframe⟩
  jvm_step X.here [X.here.top, hx, hb, hdg, hmeth', hr, ret, narrow_b1]
  (try refine ⟨rfl, ?_⟩); (try refine ⟨rfl, ?_⟩)
  first | (intro acts; rw [hret _ acts rfl rfl rfl]) | rw [hret _ _ rfl rfl rfl]
  exact Steps.refl _
/-- what holds at the law's entry: the machine, the code, the tables' words (any of lw_tbl by 'hts w (by decide +kernel)'), the script of L ints xs at the cell b, what the Statement gives of the start (any of its parts by flat_of_before) -/
def lw_At (p : Program) (s : State) (m : MethodId) (meth : Method) (c : Code) (b L : Nat) (xs : Nat → Int32) : Prop :=
  p.tables.exec = Jvm.exec ∧ c.code = code ∧ meth.sig.returnType = ret ∧ c.maxLocals = 4 ∧ s.vm.findClass R_law = some m.cls ∧ (∀ w ∈ lw_tbl, w.before #[Value.ref b] s = true) ∧ va_X b L xs s s.heap ∧ b < s.heap.size ∧ meth.locks = false ∧ (Jvm.Cond.and given_1 narrow_1).before #[Value.ref b] s = true
/-! the law's turns -/
def LA (s : State) : Nat → Prop := fun q : Nat => s.heap.size ≤ q
def LX (p : Program) (l : Launch) (e : Env) (s : State) (m : MethodId) (below : List Frame) (meth : Method) (c : Code) (b N : Nat) (xs : Nat → Int32) (G : Nat → Nat) (D : va_G) (cA : Nat → ClassId) : Prop := p.tables.exec = Jvm.exec ∧ c.code = code ∧ meth.sig.returnType = ret ∧ c.maxLocals = 4 ∧ s.vm.findClass R_law = some m.cls ∧ (∀ w ∈ lw_tbl, w.before #[Value.ref b] s = true) ∧ va_X b N xs s s.heap ∧ b < s.heap.size ∧ meth.locks = false ∧ va_K D vwCl (tyC cA) s ∧ EV G (LA s) s s.heap
theorem Sb.rg {D : va_G} {A : Nat → Prop} {s : State} {H : Heap} {locs : List Loc} {P wc : va_W} (hP : va_P D vwCl (P ++ wc) H) (hD : va_D A (P ++ wc)) (hS : va_S A s.heap H locs) (hA : ∀ q, s.heap.size ≤ q → A q) : Sb D A H wc := Sb.of_mem hP hD hS hA (fun q hq => List.mem_append_right _ hq) (D_right hD)
theorem Sb.lf {D : va_G} {A : Nat → Prop} {s : State} {H : Heap} {locs : List Loc} {P wc : va_W} (hP : va_P D vwCl (wc ++ P) H) (hD : va_D A (wc ++ P)) (hS : va_S A s.heap H locs) (hA : ∀ q, s.heap.size ≤ q → A q) : Sb D A H wc := Sb.of_mem hP hD hS hA (fun q hq => List.mem_append_left _ hq) (D_left hD)
theorem D_flip {A : Nat → Prop} {X Y : va_W} (hD : va_D A (X ++ Y)) : va_D A (Y ++ X) := D_join (D_right hD) (D_left hD) fun q hq r hr e => nd_app hD r hr q hq e.symm
theorem P_flip {D : va_G} {X Y : va_W} {H : Heap} (hP : va_P D vwCl (X ++ Y) H) : va_P D vwCl (Y ++ X) H := P_mem hP fun q hq => List.mem_append.mpr (List.mem_append.mp hq).symm
theorem Jn.growL {D : va_G} {A : Nat → Prop} {H : Heap} {P wc w1 : va_W} (hP : va_P D vwCl (wc ++ P) H) (hD : va_D A (wc ++ P)) (hA : ∀ q, va_A wc H.size q → A q) : Jn D A H wc w1 (w1 ++ P) := fun H1 h1 h2 h3 => by
  obtain ⟨a1, a2⟩ := Jn.grow (w1 := w1) (P_flip hP) (D_flip hD) hA H1 h1 h2 h3
  exact ⟨P_flip a1, D_flip a2⟩
section LW
variable {p : Program} {e : Env} {s : State} {m : MethodId} {below : List Frame} {meth : Method} {c : Code} {l : Launch} {b N i K M x0 m0 : Nat} {xs : Nat → Int32} {G : Nat → Nat} {D : va_G} {cA : Nat → ClassId} {H : Heap} {locs : List Loc} {ls : Array Slot} {r : Int32} {wx wx1 wm wm1 : va_W}
set_option maxHeartbeats 4000000 in
set_option maxRecDepth 100000 in
theorem wk_word (C : LX p l e s m below meth c b N xs G D cA) (C2 : i + 6 ≤ N ∧ N ≤ 3072 ∧ K ≤ 590000 ∧ M ≤ 7200000) (hP : va_P D vwCl (wm ++ wx) H) (hD : va_D (LA s) (wm ++ wx)) (hS : va_S (LA s) s.heap H locs) (hl : lv_has ls 4 [(0, .ref b), (1, .ref x0), (2, .ref m0), (3, .int (nI i))]) (rx : ∃ fx : List Value, wx[0]? = some (x0, .inr (11, fx))) (rm : ∃ fm : List Value, wm[0]? = some (m0, .inr (12, fm))) (c1 : ∀ sz : Nat, Met l yX11_word wsX11_word ({ frames := 2, cells := 0, slots := 0, locals := 42 } : Room) (PW G D (tyC cA) sz wx [.ref x0, .int (xs (nI i + nI 1).toNatClampNeg), .int (xs (nI i + nI 2).toNatClampNeg)]) (QI D (tyC cA) (va_A wx sz) r wx1) 0 0 (va_A wx sz)) (c2 : ∀ sz : Nat, Met l yX12_word wsX12_word ({ frames := 2, cells := 0, slots := 0, locals := 45 } : Room) (PW G D (tyC cA) sz wm [.ref m0, .int (xs (nI i + nI 1).toNatClampNeg), .int (xs (nI i + nI 2).toNatClampNeg)]) (QI D (tyC cA) (va_A wm sz) r wm1) 0 0 (va_A wm sz)) (k : ∀ (H : Heap) (locs : List Loc), va_P D vwCl (wm1 ++ wx1) H → va_D (LA s) (wm1 ++ wx1) → va_S (LA s) s.heap H locs → W p l e room_1 s m #[Value.ref b] below meth c H locs (K + 4) (M + 157) (lw_Z below #[Value.ref b] s) (F0 m 1603 ls [])) : W p l e room_1 s m #[Value.ref b] below meth c H locs K M (lw_Z below #[Value.ref b] s) (F0 m 228 ls []) := by
  obtain ⟨hx, hb, hr, hml, hown, hts, hX, hbl, hlocks, hK, hE⟩ := C
  have hA : ∀ q : Nat, s.heap.size ≤ q → LA s q := fun _ h => h
  have hbA : ¬ LA s b := Nat.not_le.mpr hbl
  have hin : ∀ k, k < 6 → vp_in (nI i + nI k) N := fun k hk => by rw [nI_add]; exact vp_in_nI (by omega) (by omega)
  obtain ⟨fx, rx⟩ := rx
  obtain ⟨fm, rm⟩ := rm
  refine lv_aload_n hx hb dL_law_228 rfl (lv_at hl 1 rfl) ?_
  refine lv_aload_n hx hb dL_law_229 rfl (lv_at hl 0 rfl) ?_
  refine lv_iload_n hx hb dL_law_230 rfl (lv_at hl 3 rfl) ?_
  refine lv_iconst (v := nI 1) hx hb dL_law_231 (by decide) ?_
  refine lv_iadd hx hb dL_law_232 ?_
  refine va_sld hx hb hX hbl hbA hS (hin 1 (by decide)) dL_law_233 ?_
  refine lv_aload_n hx hb dL_law_234 rfl (lv_at hl 0 rfl) ?_
  refine lv_iload_n hx hb dL_law_235 rfl (lv_at hl 3 rfl) ?_
  refine lv_iconst (v := nI 2) hx hb dL_law_236 (by decide) ?_
  refine lv_iadd hx hb dL_law_237 ?_
  refine va_sld hx hb hX hbl hbA hS (hin 2 (by decide)) dL_law_238 ?_
  have sb : Sb D (LA s) H wx := Sb.rg hP hD hS hA
  refine calI (va_runV (As := [.int (xs (nI i + nI 1).toNatClampNeg), .int (xs (nI i + nI 2).toNatClampNeg)]) (rest := []) ⟨hx, hb, hml, hown, hts⟩ (c1 H.size) (cwV 2 hts gL_law_X11_word rfl rfl rfl (by decide +kernel) ⟨(Nat.le_of_ble_eq_true rfl), (Nat.le_of_ble_eq_true rfl)⟩) (pvV hE hK hS sb (va_recv hK sb.1 (ci := 11) rfl rx)) rfl rfl hl.1 rfl (lv_room (Nat.le_of_ble_eq_true rfl)) dL_law_239 ⟨show K + 0 ≤ 600000 by omega, show M + 0 ≤ 7302250 by omega⟩) hS sb (Jn.grow hP hD sb.2.2) (fun H locs hP hD hS => ?_)
  clear sb
  refine lv_aload_n hx hb dL_law_242 rfl (lv_at hl 2 rfl) ?_
  refine lv_aload_n hx hb dL_law_243 rfl (lv_at hl 0 rfl) ?_
  refine lv_iload_n hx hb dL_law_244 rfl (lv_at hl 3 rfl) ?_
  refine lv_iconst (v := nI 1) hx hb dL_law_245 (by decide) ?_
  refine lv_iadd hx hb dL_law_246 ?_
  refine va_sld hx hb hX hbl hbA hS (hin 1 (by decide)) dL_law_247 ?_
  refine lv_aload_n hx hb dL_law_248 rfl (lv_at hl 0 rfl) ?_
  refine lv_iload_n hx hb dL_law_249 rfl (lv_at hl 3 rfl) ?_
  refine lv_iconst (v := nI 2) hx hb dL_law_250 (by decide) ?_
  refine lv_iadd hx hb dL_law_251 ?_
  refine va_sld hx hb hX hbl hbA hS (hin 2 (by decide)) dL_law_252 ?_
  have sb : Sb D (LA s) H wm := Sb.lf hP hD hS hA
  refine calI (va_runV (As := [.int (xs (nI i + nI 1).toNatClampNeg), .int (xs (nI i + nI 2).toNatClampNeg)]) (rest := [.int r]) ⟨hx, hb, hml, hown, hts⟩ (c2 H.size) (cwV 2 hts gL_law_X12_word rfl rfl rfl (by decide +kernel) ⟨(Nat.le_of_ble_eq_true rfl), (Nat.le_of_ble_eq_true rfl)⟩) (pvV hE hK hS sb (va_recv hK sb.1 (ci := 12) rfl rm)) rfl rfl hl.1 rfl (lv_room (Nat.le_of_ble_eq_true rfl)) dL_law_253 ⟨show K + 0 ≤ 600000 by omega, show M + 0 ≤ 7302250 by omega⟩) hS sb (Jn.growL hP hD sb.2.2) (fun H locs hP hD hS => ?_)
  refine lv_icmp_eq (tgt := 1603) hx hb dL_law_256 (by decide) (fun _ => ?_) (fun h9 => absurd rfl h9)
  refine W.widen (k := K + 4) (n := M + 157) (by omega) (by omega) ?_
  exact k _ _ hP hD hS
set_option maxHeartbeats 4000000 in
set_option maxRecDepth 100000 in
theorem wk_ofWord (C : LX p l e s m below meth c b N xs G D cA) (C2 : i + 6 ≤ N ∧ N ≤ 3072 ∧ K ≤ 590000 ∧ M ≤ 7200000) (hP : va_P D vwCl (wm ++ wx) H) (hD : va_D (LA s) (wm ++ wx)) (hS : va_S (LA s) s.heap H locs) (hl : lv_has ls 4 [(0, .ref b), (1, .ref x0), (2, .ref m0), (3, .int (nI i))]) (rx : ∃ fx : List Value, wx[0]? = some (x0, .inr (11, fx))) (rm : ∃ fm : List Value, wm[0]? = some (m0, .inr (12, fm))) (c1 : ∀ sz : Nat, Met l yX11_ofWord wsX11_ofWord ({ frames := 2, cells := 0, slots := 0, locals := 45 } : Room) (PW G D (tyC cA) sz wx [.ref x0, .int (xs (nI i + nI 1).toNatClampNeg), .int (xs (nI i + nI 2).toNatClampNeg)]) (QI D (tyC cA) (va_A wx sz) r wx1) 0 0 (va_A wx sz)) (c2 : ∀ sz : Nat, Met l yX12_ofWord wsX12_ofWord ({ frames := 2, cells := 0, slots := 0, locals := 45 } : Room) (PW G D (tyC cA) sz wm [.ref m0, .int (xs (nI i + nI 1).toNatClampNeg), .int (xs (nI i + nI 2).toNatClampNeg)]) (QI D (tyC cA) (va_A wm sz) r wm1) 0 0 (va_A wm sz)) (k : ∀ (H : Heap) (locs : List Loc), va_P D vwCl (wm1 ++ wx1) H → va_D (LA s) (wm1 ++ wx1) → va_S (LA s) s.heap H locs → W p l e room_1 s m #[Value.ref b] below meth c H locs (K + 4) (M + 157) (lw_Z below #[Value.ref b] s) (F0 m 1603 ls [])) : W p l e room_1 s m #[Value.ref b] below meth c H locs K M (lw_Z below #[Value.ref b] s) (F0 m 261 ls []) := by
  obtain ⟨hx, hb, hr, hml, hown, hts, hX, hbl, hlocks, hK, hE⟩ := C
  have hA : ∀ q : Nat, s.heap.size ≤ q → LA s q := fun _ h => h
  have hbA : ¬ LA s b := Nat.not_le.mpr hbl
  have hin : ∀ k, k < 6 → vp_in (nI i + nI k) N := fun k hk => by rw [nI_add]; exact vp_in_nI (by omega) (by omega)
  obtain ⟨fx, rx⟩ := rx
  obtain ⟨fm, rm⟩ := rm
  refine lv_aload_n hx hb dL_law_261 rfl (lv_at hl 1 rfl) ?_
  refine lv_aload_n hx hb dL_law_262 rfl (lv_at hl 0 rfl) ?_
  refine lv_iload_n hx hb dL_law_263 rfl (lv_at hl 3 rfl) ?_
  refine lv_iconst (v := nI 1) hx hb dL_law_264 (by decide) ?_
  refine lv_iadd hx hb dL_law_265 ?_
  refine va_sld hx hb hX hbl hbA hS (hin 1 (by decide)) dL_law_266 ?_
  refine lv_aload_n hx hb dL_law_267 rfl (lv_at hl 0 rfl) ?_
  refine lv_iload_n hx hb dL_law_268 rfl (lv_at hl 3 rfl) ?_
  refine lv_iconst (v := nI 2) hx hb dL_law_269 (by decide) ?_
  refine lv_iadd hx hb dL_law_270 ?_
  refine va_sld hx hb hX hbl hbA hS (hin 2 (by decide)) dL_law_271 ?_
  have sb : Sb D (LA s) H wx := Sb.rg hP hD hS hA
  refine calI (va_runV (As := [.int (xs (nI i + nI 1).toNatClampNeg), .int (xs (nI i + nI 2).toNatClampNeg)]) (rest := []) ⟨hx, hb, hml, hown, hts⟩ (c1 H.size) (cwV 2 hts gL_law_X11_ofWord rfl rfl rfl (by decide +kernel) ⟨(Nat.le_of_ble_eq_true rfl), (Nat.le_of_ble_eq_true rfl)⟩) (pvV hE hK hS sb (va_recv hK sb.1 (ci := 11) rfl rx)) rfl rfl hl.1 rfl (lv_room (Nat.le_of_ble_eq_true rfl)) dL_law_272 ⟨show K + 0 ≤ 600000 by omega, show M + 0 ≤ 7302250 by omega⟩) hS sb (Jn.grow hP hD sb.2.2) (fun H locs hP hD hS => ?_)
  clear sb
  refine lv_aload_n hx hb dL_law_275 rfl (lv_at hl 2 rfl) ?_
  refine lv_aload_n hx hb dL_law_276 rfl (lv_at hl 0 rfl) ?_
  refine lv_iload_n hx hb dL_law_277 rfl (lv_at hl 3 rfl) ?_
  refine lv_iconst (v := nI 1) hx hb dL_law_278 (by decide) ?_
  refine lv_iadd hx hb dL_law_279 ?_
  refine va_sld hx hb hX hbl hbA hS (hin 1 (by decide)) dL_law_280 ?_
  refine lv_aload_n hx hb dL_law_281 rfl (lv_at hl 0 rfl) ?_
  refine lv_iload_n hx hb dL_law_282 rfl (lv_at hl 3 rfl) ?_
  refine lv_iconst (v := nI 2) hx hb dL_law_283 (by decide) ?_
  refine lv_iadd hx hb dL_law_284 ?_
  refine va_sld hx hb hX hbl hbA hS (hin 2 (by decide)) dL_law_285 ?_
  have sb : Sb D (LA s) H wm := Sb.lf hP hD hS hA
  refine calI (va_runV (As := [.int (xs (nI i + nI 1).toNatClampNeg), .int (xs (nI i + nI 2).toNatClampNeg)]) (rest := [.int r]) ⟨hx, hb, hml, hown, hts⟩ (c2 H.size) (cwV 2 hts gL_law_X12_ofWord rfl rfl rfl (by decide +kernel) ⟨(Nat.le_of_ble_eq_true rfl), (Nat.le_of_ble_eq_true rfl)⟩) (pvV hE hK hS sb (va_recv hK sb.1 (ci := 12) rfl rm)) rfl rfl hl.1 rfl (lv_room (Nat.le_of_ble_eq_true rfl)) dL_law_286 ⟨show K + 0 ≤ 600000 by omega, show M + 0 ≤ 7302250 by omega⟩) hS sb (Jn.growL hP hD sb.2.2) (fun H locs hP hD hS => ?_)
  refine lv_icmp_eq (tgt := 1603) hx hb dL_law_289 (by decide) (fun _ => ?_) (fun h9 => absurd rfl h9)
  refine W.widen (k := K + 4) (n := M + 157) (by omega) (by omega) ?_
  exact k _ _ hP hD hS
set_option maxHeartbeats 4000000 in
set_option maxRecDepth 100000 in
theorem wk_known (C : LX p l e s m below meth c b N xs G D cA) (C2 : i + 6 ≤ N ∧ N ≤ 3072 ∧ K ≤ 590000 ∧ M ≤ 7200000) (hP : va_P D vwCl (wm ++ wx) H) (hD : va_D (LA s) (wm ++ wx)) (hS : va_S (LA s) s.heap H locs) (hl : lv_has ls 4 [(0, .ref b), (1, .ref x0), (2, .ref m0), (3, .int (nI i))]) (rx : ∃ fx : List Value, wx[0]? = some (x0, .inr (11, fx))) (rm : ∃ fm : List Value, wm[0]? = some (m0, .inr (12, fm))) (c1 : ∀ sz : Nat, Met l yX11_known wsX11_known ({ frames := 2, cells := 0, slots := 0, locals := 42 } : Room) (PW G D (tyC cA) sz wx [.ref x0, .int (xs (nI i + nI 1).toNatClampNeg)]) (QI D (tyC cA) (va_A wx sz) r wx1) 0 0 (va_A wx sz)) (c2 : ∀ sz : Nat, Met l yX12_known wsX12_known ({ frames := 2, cells := 0, slots := 0, locals := 45 } : Room) (PW G D (tyC cA) sz wm [.ref m0, .int (xs (nI i + nI 1).toNatClampNeg)]) (QI D (tyC cA) (va_A wm sz) r wm1) 0 0 (va_A wm sz)) (k : ∀ (H : Heap) (locs : List Loc), va_P D vwCl (wm1 ++ wx1) H → va_D (LA s) (wm1 ++ wx1) → va_S (LA s) s.heap H locs → W p l e room_1 s m #[Value.ref b] below meth c H locs (K + 4) (M + 157) (lw_Z below #[Value.ref b] s) (F0 m 1603 ls [])) : W p l e room_1 s m #[Value.ref b] below meth c H locs K M (lw_Z below #[Value.ref b] s) (F0 m 294 ls []) := by
  obtain ⟨hx, hb, hr, hml, hown, hts, hX, hbl, hlocks, hK, hE⟩ := C
  have hA : ∀ q : Nat, s.heap.size ≤ q → LA s q := fun _ h => h
  have hbA : ¬ LA s b := Nat.not_le.mpr hbl
  have hin : ∀ k, k < 6 → vp_in (nI i + nI k) N := fun k hk => by rw [nI_add]; exact vp_in_nI (by omega) (by omega)
  obtain ⟨fx, rx⟩ := rx
  obtain ⟨fm, rm⟩ := rm
  refine lv_aload_n hx hb dL_law_294 rfl (lv_at hl 1 rfl) ?_
  refine lv_aload_n hx hb dL_law_295 rfl (lv_at hl 0 rfl) ?_
  refine lv_iload_n hx hb dL_law_296 rfl (lv_at hl 3 rfl) ?_
  refine lv_iconst (v := nI 1) hx hb dL_law_297 (by decide) ?_
  refine lv_iadd hx hb dL_law_298 ?_
  refine va_sld hx hb hX hbl hbA hS (hin 1 (by decide)) dL_law_299 ?_
  have sb : Sb D (LA s) H wx := Sb.rg hP hD hS hA
  refine calI (va_runV (As := [.int (xs (nI i + nI 1).toNatClampNeg)]) (rest := []) ⟨hx, hb, hml, hown, hts⟩ (c1 H.size) (cwV 1 hts gL_law_X11_known rfl rfl rfl (by decide +kernel) ⟨(Nat.le_of_ble_eq_true rfl), (Nat.le_of_ble_eq_true rfl)⟩) (pvV hE hK hS sb (va_recv hK sb.1 (ci := 11) rfl rx)) rfl rfl hl.1 rfl (lv_room (Nat.le_of_ble_eq_true rfl)) dL_law_300 ⟨show K + 0 ≤ 600000 by omega, show M + 0 ≤ 7302250 by omega⟩) hS sb (Jn.grow hP hD sb.2.2) (fun H locs hP hD hS => ?_)
  clear sb
  refine lv_aload_n hx hb dL_law_303 rfl (lv_at hl 2 rfl) ?_
  refine lv_aload_n hx hb dL_law_304 rfl (lv_at hl 0 rfl) ?_
  refine lv_iload_n hx hb dL_law_305 rfl (lv_at hl 3 rfl) ?_
  refine lv_iconst (v := nI 1) hx hb dL_law_306 (by decide) ?_
  refine lv_iadd hx hb dL_law_307 ?_
  refine va_sld hx hb hX hbl hbA hS (hin 1 (by decide)) dL_law_308 ?_
  have sb : Sb D (LA s) H wm := Sb.lf hP hD hS hA
  refine calI (va_runV (As := [.int (xs (nI i + nI 1).toNatClampNeg)]) (rest := [.int r]) ⟨hx, hb, hml, hown, hts⟩ (c2 H.size) (cwV 1 hts gL_law_X12_known rfl rfl rfl (by decide +kernel) ⟨(Nat.le_of_ble_eq_true rfl), (Nat.le_of_ble_eq_true rfl)⟩) (pvV hE hK hS sb (va_recv hK sb.1 (ci := 12) rfl rm)) rfl rfl hl.1 rfl (lv_room (Nat.le_of_ble_eq_true rfl)) dL_law_309 ⟨show K + 0 ≤ 600000 by omega, show M + 0 ≤ 7302250 by omega⟩) hS sb (Jn.growL hP hD sb.2.2) (fun H locs hP hD hS => ?_)
  refine lv_icmp_eq (tgt := 1603) hx hb dL_law_312 (by decide) (fun _ => ?_) (fun h9 => absurd rfl h9)
  refine W.widen (k := K + 4) (n := M + 157) (by omega) (by omega) ?_
  exact k _ _ hP hD hS
set_option maxHeartbeats 4000000 in
set_option maxRecDepth 100000 in
theorem wk_swallow (C : LX p l e s m below meth c b N xs G D cA) (C2 : i + 6 ≤ N ∧ N ≤ 3072 ∧ K ≤ 590000 ∧ M ≤ 7200000) (hP : va_P D vwCl (wm ++ wx) H) (hD : va_D (LA s) (wm ++ wx)) (hS : va_S (LA s) s.heap H locs) (hl : lv_has ls 4 [(0, .ref b), (1, .ref x0), (2, .ref m0), (3, .int (nI i))]) (rx : ∃ fx : List Value, wx[0]? = some (x0, .inr (11, fx))) (rm : ∃ fm : List Value, wm[0]? = some (m0, .inr (12, fm))) (c1 : ∀ sz : Nat, Met l yX11_swallow wsX11_swallow ({ frames := 2, cells := 0, slots := 0, locals := 42 } : Room) (PW G D (tyC cA) sz wx [.ref x0, .int (xs (nI i + nI 1).toNatClampNeg), .int (xs (nI i + nI 2).toNatClampNeg), .int (xs (nI i + nI 3).toNatClampNeg)]) (QI D (tyC cA) (va_A wx sz) r wx1) 0 0 (va_A wx sz)) (c2 : ∀ sz : Nat, Met l yX12_swallow wsX12_swallow ({ frames := 2, cells := 0, slots := 0, locals := 45 } : Room) (PW G D (tyC cA) sz wm [.ref m0, .int (xs (nI i + nI 1).toNatClampNeg), .int (xs (nI i + nI 2).toNatClampNeg), .int (xs (nI i + nI 3).toNatClampNeg)]) (QI D (tyC cA) (va_A wm sz) r wm1) 0 0 (va_A wm sz)) (k : ∀ (H : Heap) (locs : List Loc), va_P D vwCl (wm1 ++ wx1) H → va_D (LA s) (wm1 ++ wx1) → va_S (LA s) s.heap H locs → W p l e room_1 s m #[Value.ref b] below meth c H locs (K + 4) (M + 157) (lw_Z below #[Value.ref b] s) (F0 m 1603 ls [])) : W p l e room_1 s m #[Value.ref b] below meth c H locs K M (lw_Z below #[Value.ref b] s) (F0 m 317 ls []) := by
  obtain ⟨hx, hb, hr, hml, hown, hts, hX, hbl, hlocks, hK, hE⟩ := C
  have hA : ∀ q : Nat, s.heap.size ≤ q → LA s q := fun _ h => h
  have hbA : ¬ LA s b := Nat.not_le.mpr hbl
  have hin : ∀ k, k < 6 → vp_in (nI i + nI k) N := fun k hk => by rw [nI_add]; exact vp_in_nI (by omega) (by omega)
  obtain ⟨fx, rx⟩ := rx
  obtain ⟨fm, rm⟩ := rm
  refine lv_aload_n hx hb dL_law_317 rfl (lv_at hl 1 rfl) ?_
  refine lv_aload_n hx hb dL_law_318 rfl (lv_at hl 0 rfl) ?_
  refine lv_iload_n hx hb dL_law_319 rfl (lv_at hl 3 rfl) ?_
  refine lv_iconst (v := nI 1) hx hb dL_law_320 (by decide) ?_
  refine lv_iadd hx hb dL_law_321 ?_
  refine va_sld hx hb hX hbl hbA hS (hin 1 (by decide)) dL_law_322 ?_
  refine lv_aload_n hx hb dL_law_323 rfl (lv_at hl 0 rfl) ?_
  refine lv_iload_n hx hb dL_law_324 rfl (lv_at hl 3 rfl) ?_
  refine lv_iconst (v := nI 2) hx hb dL_law_325 (by decide) ?_
  refine lv_iadd hx hb dL_law_326 ?_
  refine va_sld hx hb hX hbl hbA hS (hin 2 (by decide)) dL_law_327 ?_
  refine lv_aload_n hx hb dL_law_328 rfl (lv_at hl 0 rfl) ?_
  refine lv_iload_n hx hb dL_law_329 rfl (lv_at hl 3 rfl) ?_
  refine lv_iconst (v := nI 3) hx hb dL_law_330 (by decide) ?_
  refine lv_iadd hx hb dL_law_331 ?_
  refine va_sld hx hb hX hbl hbA hS (hin 3 (by decide)) dL_law_332 ?_
  have sb : Sb D (LA s) H wx := Sb.rg hP hD hS hA
  refine calI (va_runV (As := [.int (xs (nI i + nI 1).toNatClampNeg), .int (xs (nI i + nI 2).toNatClampNeg), .int (xs (nI i + nI 3).toNatClampNeg)]) (rest := []) ⟨hx, hb, hml, hown, hts⟩ (c1 H.size) (cwV 3 hts gL_law_X11_swallow rfl rfl rfl (by decide +kernel) ⟨(Nat.le_of_ble_eq_true rfl), (Nat.le_of_ble_eq_true rfl)⟩) (pvV hE hK hS sb (va_recv hK sb.1 (ci := 11) rfl rx)) rfl rfl hl.1 rfl (lv_room (Nat.le_of_ble_eq_true rfl)) dL_law_333 ⟨show K + 0 ≤ 600000 by omega, show M + 0 ≤ 7302250 by omega⟩) hS sb (Jn.grow hP hD sb.2.2) (fun H locs hP hD hS => ?_)
  clear sb
  refine lv_aload_n hx hb dL_law_336 rfl (lv_at hl 2 rfl) ?_
  refine lv_aload_n hx hb dL_law_337 rfl (lv_at hl 0 rfl) ?_
  refine lv_iload_n hx hb dL_law_338 rfl (lv_at hl 3 rfl) ?_
  refine lv_iconst (v := nI 1) hx hb dL_law_339 (by decide) ?_
  refine lv_iadd hx hb dL_law_340 ?_
  refine va_sld hx hb hX hbl hbA hS (hin 1 (by decide)) dL_law_341 ?_
  refine lv_aload_n hx hb dL_law_342 rfl (lv_at hl 0 rfl) ?_
  refine lv_iload_n hx hb dL_law_343 rfl (lv_at hl 3 rfl) ?_
  refine lv_iconst (v := nI 2) hx hb dL_law_344 (by decide) ?_
  refine lv_iadd hx hb dL_law_345 ?_
  refine va_sld hx hb hX hbl hbA hS (hin 2 (by decide)) dL_law_346 ?_
  refine lv_aload_n hx hb dL_law_347 rfl (lv_at hl 0 rfl) ?_
  refine lv_iload_n hx hb dL_law_348 rfl (lv_at hl 3 rfl) ?_
  refine lv_iconst (v := nI 3) hx hb dL_law_349 (by decide) ?_
  refine lv_iadd hx hb dL_law_350 ?_
  refine va_sld hx hb hX hbl hbA hS (hin 3 (by decide)) dL_law_351 ?_
  have sb : Sb D (LA s) H wm := Sb.lf hP hD hS hA
  refine calI (va_runV (As := [.int (xs (nI i + nI 1).toNatClampNeg), .int (xs (nI i + nI 2).toNatClampNeg), .int (xs (nI i + nI 3).toNatClampNeg)]) (rest := [.int r]) ⟨hx, hb, hml, hown, hts⟩ (c2 H.size) (cwV 3 hts gL_law_X12_swallow rfl rfl rfl (by decide +kernel) ⟨(Nat.le_of_ble_eq_true rfl), (Nat.le_of_ble_eq_true rfl)⟩) (pvV hE hK hS sb (va_recv hK sb.1 (ci := 12) rfl rm)) rfl rfl hl.1 rfl (lv_room (Nat.le_of_ble_eq_true rfl)) dL_law_352 ⟨show K + 0 ≤ 600000 by omega, show M + 0 ≤ 7302250 by omega⟩) hS sb (Jn.growL hP hD sb.2.2) (fun H locs hP hD hS => ?_)
  refine lv_icmp_eq (tgt := 1603) hx hb dL_law_355 (by decide) (fun _ => ?_) (fun h9 => absurd rfl h9)
  refine W.widen (k := K + 4) (n := M + 157) (by omega) (by omega) ?_
  exact k _ _ hP hD hS
set_option maxHeartbeats 4000000 in
set_option maxRecDepth 100000 in
theorem wk_ofSwallow (C : LX p l e s m below meth c b N xs G D cA) (C2 : i + 6 ≤ N ∧ N ≤ 3072 ∧ K ≤ 590000 ∧ M ≤ 7200000) (hP : va_P D vwCl (wm ++ wx) H) (hD : va_D (LA s) (wm ++ wx)) (hS : va_S (LA s) s.heap H locs) (hl : lv_has ls 4 [(0, .ref b), (1, .ref x0), (2, .ref m0), (3, .int (nI i))]) (rx : ∃ fx : List Value, wx[0]? = some (x0, .inr (11, fx))) (rm : ∃ fm : List Value, wm[0]? = some (m0, .inr (12, fm))) (c1 : ∀ sz : Nat, Met l yX11_ofSwallow wsX11_ofSwallow ({ frames := 1, cells := 0, slots := 0, locals := 22 } : Room) (PW G D (tyC cA) sz wx [.ref x0, .int (xs (nI i + nI 1).toNatClampNeg)]) (QI D (tyC cA) (va_A wx sz) r wx1) 0 0 (va_A wx sz)) (c2 : ∀ sz : Nat, Met l yX12_ofSwallow wsX12_ofSwallow ({ frames := 1, cells := 0, slots := 0, locals := 25 } : Room) (PW G D (tyC cA) sz wm [.ref m0, .int (xs (nI i + nI 1).toNatClampNeg)]) (QI D (tyC cA) (va_A wm sz) r wm1) 0 0 (va_A wm sz)) (k : ∀ (H : Heap) (locs : List Loc), va_P D vwCl (wm1 ++ wx1) H → va_D (LA s) (wm1 ++ wx1) → va_S (LA s) s.heap H locs → W p l e room_1 s m #[Value.ref b] below meth c H locs (K + 4) (M + 157) (lw_Z below #[Value.ref b] s) (F0 m 1603 ls [])) : W p l e room_1 s m #[Value.ref b] below meth c H locs K M (lw_Z below #[Value.ref b] s) (F0 m 360 ls []) := by
  obtain ⟨hx, hb, hr, hml, hown, hts, hX, hbl, hlocks, hK, hE⟩ := C
  have hA : ∀ q : Nat, s.heap.size ≤ q → LA s q := fun _ h => h
  have hbA : ¬ LA s b := Nat.not_le.mpr hbl
  have hin : ∀ k, k < 6 → vp_in (nI i + nI k) N := fun k hk => by rw [nI_add]; exact vp_in_nI (by omega) (by omega)
  obtain ⟨fx, rx⟩ := rx
  obtain ⟨fm, rm⟩ := rm
  refine lv_aload_n hx hb dL_law_360 rfl (lv_at hl 1 rfl) ?_
  refine lv_aload_n hx hb dL_law_361 rfl (lv_at hl 0 rfl) ?_
  refine lv_iload_n hx hb dL_law_362 rfl (lv_at hl 3 rfl) ?_
  refine lv_iconst (v := nI 1) hx hb dL_law_363 (by decide) ?_
  refine lv_iadd hx hb dL_law_364 ?_
  refine va_sld hx hb hX hbl hbA hS (hin 1 (by decide)) dL_law_365 ?_
  have sb : Sb D (LA s) H wx := Sb.rg hP hD hS hA
  refine calI (va_runV (As := [.int (xs (nI i + nI 1).toNatClampNeg)]) (rest := []) ⟨hx, hb, hml, hown, hts⟩ (c1 H.size) (cwV 1 hts gL_law_X11_ofSwallow rfl rfl rfl (by decide +kernel) ⟨(Nat.le_of_ble_eq_true rfl), (Nat.le_of_ble_eq_true rfl)⟩) (pvV hE hK hS sb (va_recv hK sb.1 (ci := 11) rfl rx)) rfl rfl hl.1 rfl (lv_room (Nat.le_of_ble_eq_true rfl)) dL_law_366 ⟨show K + 0 ≤ 600000 by omega, show M + 0 ≤ 7302250 by omega⟩) hS sb (Jn.grow hP hD sb.2.2) (fun H locs hP hD hS => ?_)
  clear sb
  refine lv_aload_n hx hb dL_law_369 rfl (lv_at hl 2 rfl) ?_
  refine lv_aload_n hx hb dL_law_370 rfl (lv_at hl 0 rfl) ?_
  refine lv_iload_n hx hb dL_law_371 rfl (lv_at hl 3 rfl) ?_
  refine lv_iconst (v := nI 1) hx hb dL_law_372 (by decide) ?_
  refine lv_iadd hx hb dL_law_373 ?_
  refine va_sld hx hb hX hbl hbA hS (hin 1 (by decide)) dL_law_374 ?_
  have sb : Sb D (LA s) H wm := Sb.lf hP hD hS hA
  refine calI (va_runV (As := [.int (xs (nI i + nI 1).toNatClampNeg)]) (rest := [.int r]) ⟨hx, hb, hml, hown, hts⟩ (c2 H.size) (cwV 1 hts gL_law_X12_ofSwallow rfl rfl rfl (by decide +kernel) ⟨(Nat.le_of_ble_eq_true rfl), (Nat.le_of_ble_eq_true rfl)⟩) (pvV hE hK hS sb (va_recv hK sb.1 (ci := 12) rfl rm)) rfl rfl hl.1 rfl (lv_room (Nat.le_of_ble_eq_true rfl)) dL_law_375 ⟨show K + 0 ≤ 600000 by omega, show M + 0 ≤ 7302250 by omega⟩) hS sb (Jn.growL hP hD sb.2.2) (fun H locs hP hD hS => ?_)
  refine lv_icmp_eq (tgt := 1603) hx hb dL_law_378 (by decide) (fun _ => ?_) (fun h9 => absurd rfl h9)
  refine W.widen (k := K + 4) (n := M + 157) (by omega) (by omega) ?_
  exact k _ _ hP hD hS
set_option maxHeartbeats 4000000 in
set_option maxRecDepth 100000 in
theorem wk_wash (C : LX p l e s m below meth c b N xs G D cA) (C2 : i + 6 ≤ N ∧ N ≤ 3072 ∧ K ≤ 590000 ∧ M ≤ 7200000) (hP : va_P D vwCl (wm ++ wx) H) (hD : va_D (LA s) (wm ++ wx)) (hS : va_S (LA s) s.heap H locs) (hl : lv_has ls 4 [(0, .ref b), (1, .ref x0), (2, .ref m0), (3, .int (nI i))]) (rx : ∃ fx : List Value, wx[0]? = some (x0, .inr (11, fx))) (rm : ∃ fm : List Value, wm[0]? = some (m0, .inr (12, fm))) (c1 : ∀ sz : Nat, Met l yX11_wash wsX11_wash ({ frames := 2, cells := 0, slots := 0, locals := 42 } : Room) (PW G D (tyC cA) sz wx [.ref x0, .int (xs (nI i + nI 1).toNatClampNeg), .int (xs (nI i + nI 2).toNatClampNeg)]) (QI D (tyC cA) (va_A wx sz) r wx1) 0 0 (va_A wx sz)) (c2 : ∀ sz : Nat, Met l yX12_wash wsX12_wash ({ frames := 1, cells := 0, slots := 0, locals := 25 } : Room) (PW G D (tyC cA) sz wm [.ref m0, .int (xs (nI i + nI 1).toNatClampNeg), .int (xs (nI i + nI 2).toNatClampNeg)]) (QI D (tyC cA) (va_A wm sz) r wm1) 0 0 (va_A wm sz)) (k : ∀ (H : Heap) (locs : List Loc), va_P D vwCl (wm1 ++ wx1) H → va_D (LA s) (wm1 ++ wx1) → va_S (LA s) s.heap H locs → W p l e room_1 s m #[Value.ref b] below meth c H locs (K + 4) (M + 157) (lw_Z below #[Value.ref b] s) (F0 m 1603 ls [])) : W p l e room_1 s m #[Value.ref b] below meth c H locs K M (lw_Z below #[Value.ref b] s) (F0 m 383 ls []) := by
  obtain ⟨hx, hb, hr, hml, hown, hts, hX, hbl, hlocks, hK, hE⟩ := C
  have hA : ∀ q : Nat, s.heap.size ≤ q → LA s q := fun _ h => h
  have hbA : ¬ LA s b := Nat.not_le.mpr hbl
  have hin : ∀ k, k < 6 → vp_in (nI i + nI k) N := fun k hk => by rw [nI_add]; exact vp_in_nI (by omega) (by omega)
  obtain ⟨fx, rx⟩ := rx
  obtain ⟨fm, rm⟩ := rm
  refine lv_aload_n hx hb dL_law_383 rfl (lv_at hl 1 rfl) ?_
  refine lv_aload_n hx hb dL_law_384 rfl (lv_at hl 0 rfl) ?_
  refine lv_iload_n hx hb dL_law_385 rfl (lv_at hl 3 rfl) ?_
  refine lv_iconst (v := nI 1) hx hb dL_law_386 (by decide) ?_
  refine lv_iadd hx hb dL_law_387 ?_
  refine va_sld hx hb hX hbl hbA hS (hin 1 (by decide)) dL_law_388 ?_
  refine lv_aload_n hx hb dL_law_389 rfl (lv_at hl 0 rfl) ?_
  refine lv_iload_n hx hb dL_law_390 rfl (lv_at hl 3 rfl) ?_
  refine lv_iconst (v := nI 2) hx hb dL_law_391 (by decide) ?_
  refine lv_iadd hx hb dL_law_392 ?_
  refine va_sld hx hb hX hbl hbA hS (hin 2 (by decide)) dL_law_393 ?_
  have sb : Sb D (LA s) H wx := Sb.rg hP hD hS hA
  refine calI (va_runV (As := [.int (xs (nI i + nI 1).toNatClampNeg), .int (xs (nI i + nI 2).toNatClampNeg)]) (rest := []) ⟨hx, hb, hml, hown, hts⟩ (c1 H.size) (cwV 2 hts gL_law_X11_wash rfl rfl rfl (by decide +kernel) ⟨(Nat.le_of_ble_eq_true rfl), (Nat.le_of_ble_eq_true rfl)⟩) (pvV hE hK hS sb (va_recv hK sb.1 (ci := 11) rfl rx)) rfl rfl hl.1 rfl (lv_room (Nat.le_of_ble_eq_true rfl)) dL_law_394 ⟨show K + 0 ≤ 600000 by omega, show M + 0 ≤ 7302250 by omega⟩) hS sb (Jn.grow hP hD sb.2.2) (fun H locs hP hD hS => ?_)
  clear sb
  refine lv_aload_n hx hb dL_law_397 rfl (lv_at hl 2 rfl) ?_
  refine lv_aload_n hx hb dL_law_398 rfl (lv_at hl 0 rfl) ?_
  refine lv_iload_n hx hb dL_law_399 rfl (lv_at hl 3 rfl) ?_
  refine lv_iconst (v := nI 1) hx hb dL_law_400 (by decide) ?_
  refine lv_iadd hx hb dL_law_401 ?_
  refine va_sld hx hb hX hbl hbA hS (hin 1 (by decide)) dL_law_402 ?_
  refine lv_aload_n hx hb dL_law_403 rfl (lv_at hl 0 rfl) ?_
  refine lv_iload_n hx hb dL_law_404 rfl (lv_at hl 3 rfl) ?_
  refine lv_iconst (v := nI 2) hx hb dL_law_405 (by decide) ?_
  refine lv_iadd hx hb dL_law_406 ?_
  refine va_sld hx hb hX hbl hbA hS (hin 2 (by decide)) dL_law_407 ?_
  have sb : Sb D (LA s) H wm := Sb.lf hP hD hS hA
  refine calI (va_runV (As := [.int (xs (nI i + nI 1).toNatClampNeg), .int (xs (nI i + nI 2).toNatClampNeg)]) (rest := [.int r]) ⟨hx, hb, hml, hown, hts⟩ (c2 H.size) (cwV 2 hts gL_law_X12_wash rfl rfl rfl (by decide +kernel) ⟨(Nat.le_of_ble_eq_true rfl), (Nat.le_of_ble_eq_true rfl)⟩) (pvV hE hK hS sb (va_recv hK sb.1 (ci := 12) rfl rm)) rfl rfl hl.1 rfl (lv_room (Nat.le_of_ble_eq_true rfl)) dL_law_408 ⟨show K + 0 ≤ 600000 by omega, show M + 0 ≤ 7302250 by omega⟩) hS sb (Jn.growL hP hD sb.2.2) (fun H locs hP hD hS => ?_)
  refine lv_icmp_eq (tgt := 1603) hx hb dL_law_411 (by decide) (fun _ => ?_) (fun h9 => absurd rfl h9)
  refine W.widen (k := K + 4) (n := M + 157) (by omega) (by omega) ?_
  exact k _ _ hP hD hS
set_option maxHeartbeats 4000000 in
set_option maxRecDepth 100000 in
theorem wk_ofWash (C : LX p l e s m below meth c b N xs G D cA) (C2 : i + 6 ≤ N ∧ N ≤ 3072 ∧ K ≤ 590000 ∧ M ≤ 7200000) (hP : va_P D vwCl (wm ++ wx) H) (hD : va_D (LA s) (wm ++ wx)) (hS : va_S (LA s) s.heap H locs) (hl : lv_has ls 4 [(0, .ref b), (1, .ref x0), (2, .ref m0), (3, .int (nI i))]) (rx : ∃ fx : List Value, wx[0]? = some (x0, .inr (11, fx))) (rm : ∃ fm : List Value, wm[0]? = some (m0, .inr (12, fm))) (c1 : ∀ sz : Nat, Met l yX11_ofWash wsX11_ofWash ({ frames := 1, cells := 0, slots := 0, locals := 22 } : Room) (PW G D (tyC cA) sz wx [.ref x0, .int (xs (nI i + nI 1).toNatClampNeg)]) (QI D (tyC cA) (va_A wx sz) r wx1) 0 0 (va_A wx sz)) (c2 : ∀ sz : Nat, Met l yX12_ofWash wsX12_ofWash ({ frames := 1, cells := 0, slots := 0, locals := 25 } : Room) (PW G D (tyC cA) sz wm [.ref m0, .int (xs (nI i + nI 1).toNatClampNeg)]) (QI D (tyC cA) (va_A wm sz) r wm1) 0 0 (va_A wm sz)) (k : ∀ (H : Heap) (locs : List Loc), va_P D vwCl (wm1 ++ wx1) H → va_D (LA s) (wm1 ++ wx1) → va_S (LA s) s.heap H locs → W p l e room_1 s m #[Value.ref b] below meth c H locs (K + 4) (M + 157) (lw_Z below #[Value.ref b] s) (F0 m 1603 ls [])) : W p l e room_1 s m #[Value.ref b] below meth c H locs K M (lw_Z below #[Value.ref b] s) (F0 m 416 ls []) := by
  obtain ⟨hx, hb, hr, hml, hown, hts, hX, hbl, hlocks, hK, hE⟩ := C
  have hA : ∀ q : Nat, s.heap.size ≤ q → LA s q := fun _ h => h
  have hbA : ¬ LA s b := Nat.not_le.mpr hbl
  have hin : ∀ k, k < 6 → vp_in (nI i + nI k) N := fun k hk => by rw [nI_add]; exact vp_in_nI (by omega) (by omega)
  obtain ⟨fx, rx⟩ := rx
  obtain ⟨fm, rm⟩ := rm
  refine lv_aload_n hx hb dL_law_416 rfl (lv_at hl 1 rfl) ?_
  refine lv_aload_n hx hb dL_law_417 rfl (lv_at hl 0 rfl) ?_
  refine lv_iload_n hx hb dL_law_418 rfl (lv_at hl 3 rfl) ?_
  refine lv_iconst (v := nI 1) hx hb dL_law_419 (by decide) ?_
  refine lv_iadd hx hb dL_law_420 ?_
  refine va_sld hx hb hX hbl hbA hS (hin 1 (by decide)) dL_law_421 ?_
  have sb : Sb D (LA s) H wx := Sb.rg hP hD hS hA
  refine calI (va_runV (As := [.int (xs (nI i + nI 1).toNatClampNeg)]) (rest := []) ⟨hx, hb, hml, hown, hts⟩ (c1 H.size) (cwV 1 hts gL_law_X11_ofWash rfl rfl rfl (by decide +kernel) ⟨(Nat.le_of_ble_eq_true rfl), (Nat.le_of_ble_eq_true rfl)⟩) (pvV hE hK hS sb (va_recv hK sb.1 (ci := 11) rfl rx)) rfl rfl hl.1 rfl (lv_room (Nat.le_of_ble_eq_true rfl)) dL_law_422 ⟨show K + 0 ≤ 600000 by omega, show M + 0 ≤ 7302250 by omega⟩) hS sb (Jn.grow hP hD sb.2.2) (fun H locs hP hD hS => ?_)
  clear sb
  refine lv_aload_n hx hb dL_law_425 rfl (lv_at hl 2 rfl) ?_
  refine lv_aload_n hx hb dL_law_426 rfl (lv_at hl 0 rfl) ?_
  refine lv_iload_n hx hb dL_law_427 rfl (lv_at hl 3 rfl) ?_
  refine lv_iconst (v := nI 1) hx hb dL_law_428 (by decide) ?_
  refine lv_iadd hx hb dL_law_429 ?_
  refine va_sld hx hb hX hbl hbA hS (hin 1 (by decide)) dL_law_430 ?_
  have sb : Sb D (LA s) H wm := Sb.lf hP hD hS hA
  refine calI (va_runV (As := [.int (xs (nI i + nI 1).toNatClampNeg)]) (rest := [.int r]) ⟨hx, hb, hml, hown, hts⟩ (c2 H.size) (cwV 1 hts gL_law_X12_ofWash rfl rfl rfl (by decide +kernel) ⟨(Nat.le_of_ble_eq_true rfl), (Nat.le_of_ble_eq_true rfl)⟩) (pvV hE hK hS sb (va_recv hK sb.1 (ci := 12) rfl rm)) rfl rfl hl.1 rfl (lv_room (Nat.le_of_ble_eq_true rfl)) dL_law_431 ⟨show K + 0 ≤ 600000 by omega, show M + 0 ≤ 7302250 by omega⟩) hS sb (Jn.growL hP hD sb.2.2) (fun H locs hP hD hS => ?_)
  refine lv_icmp_eq (tgt := 1603) hx hb dL_law_434 (by decide) (fun _ => ?_) (fun h9 => absurd rfl h9)
  refine W.widen (k := K + 4) (n := M + 157) (by omega) (by omega) ?_
  exact k _ _ hP hD hS
set_option maxHeartbeats 4000000 in
set_option maxRecDepth 100000 in
theorem wk_spoon (C : LX p l e s m below meth c b N xs G D cA) (C2 : i + 6 ≤ N ∧ N ≤ 3072 ∧ K ≤ 590000 ∧ M ≤ 7200000) (hP : va_P D vwCl (wm ++ wx) H) (hD : va_D (LA s) (wm ++ wx)) (hS : va_S (LA s) s.heap H locs) (hl : lv_has ls 4 [(0, .ref b), (1, .ref x0), (2, .ref m0), (3, .int (nI i))]) (rx : ∃ fx : List Value, wx[0]? = some (x0, .inr (11, fx))) (rm : ∃ fm : List Value, wm[0]? = some (m0, .inr (12, fm))) (c1 : ∀ sz : Nat, Met l yX11_spoon wsX11_spoon ({ frames := 1, cells := 0, slots := 0, locals := 22 } : Room) (PW G D (tyC cA) sz wx [.ref x0, .int (xs (nI i + nI 1).toNatClampNeg), .int (xs (nI i + nI 2).toNatClampNeg)]) (QI D (tyC cA) (va_A wx sz) r wx1) 0 0 (va_A wx sz)) (c2 : ∀ sz : Nat, Met l yX12_spoon wsX12_spoon ({ frames := 2, cells := 0, slots := 0, locals := 45 } : Room) (PW G D (tyC cA) sz wm [.ref m0, .int (xs (nI i + nI 1).toNatClampNeg), .int (xs (nI i + nI 2).toNatClampNeg)]) (QI D (tyC cA) (va_A wm sz) r wm1) 0 0 (va_A wm sz)) (k : ∀ (H : Heap) (locs : List Loc), va_P D vwCl (wm1 ++ wx1) H → va_D (LA s) (wm1 ++ wx1) → va_S (LA s) s.heap H locs → W p l e room_1 s m #[Value.ref b] below meth c H locs (K + 4) (M + 157) (lw_Z below #[Value.ref b] s) (F0 m 1603 ls [])) : W p l e room_1 s m #[Value.ref b] below meth c H locs K M (lw_Z below #[Value.ref b] s) (F0 m 439 ls []) := by
  obtain ⟨hx, hb, hr, hml, hown, hts, hX, hbl, hlocks, hK, hE⟩ := C
  have hA : ∀ q : Nat, s.heap.size ≤ q → LA s q := fun _ h => h
  have hbA : ¬ LA s b := Nat.not_le.mpr hbl
  have hin : ∀ k, k < 6 → vp_in (nI i + nI k) N := fun k hk => by rw [nI_add]; exact vp_in_nI (by omega) (by omega)
  obtain ⟨fx, rx⟩ := rx
  obtain ⟨fm, rm⟩ := rm
  refine lv_aload_n hx hb dL_law_439 rfl (lv_at hl 1 rfl) ?_
  refine lv_aload_n hx hb dL_law_440 rfl (lv_at hl 0 rfl) ?_
  refine lv_iload_n hx hb dL_law_441 rfl (lv_at hl 3 rfl) ?_
  refine lv_iconst (v := nI 1) hx hb dL_law_442 (by decide) ?_
  refine lv_iadd hx hb dL_law_443 ?_
  refine va_sld hx hb hX hbl hbA hS (hin 1 (by decide)) dL_law_444 ?_
  refine lv_aload_n hx hb dL_law_445 rfl (lv_at hl 0 rfl) ?_
  refine lv_iload_n hx hb dL_law_446 rfl (lv_at hl 3 rfl) ?_
  refine lv_iconst (v := nI 2) hx hb dL_law_447 (by decide) ?_
  refine lv_iadd hx hb dL_law_448 ?_
  refine va_sld hx hb hX hbl hbA hS (hin 2 (by decide)) dL_law_449 ?_
  have sb : Sb D (LA s) H wx := Sb.rg hP hD hS hA
  refine calI (va_runV (As := [.int (xs (nI i + nI 1).toNatClampNeg), .int (xs (nI i + nI 2).toNatClampNeg)]) (rest := []) ⟨hx, hb, hml, hown, hts⟩ (c1 H.size) (cwV 2 hts gL_law_X11_spoon rfl rfl rfl (by decide +kernel) ⟨(Nat.le_of_ble_eq_true rfl), (Nat.le_of_ble_eq_true rfl)⟩) (pvV hE hK hS sb (va_recv hK sb.1 (ci := 11) rfl rx)) rfl rfl hl.1 rfl (lv_room (Nat.le_of_ble_eq_true rfl)) dL_law_450 ⟨show K + 0 ≤ 600000 by omega, show M + 0 ≤ 7302250 by omega⟩) hS sb (Jn.grow hP hD sb.2.2) (fun H locs hP hD hS => ?_)
  clear sb
  refine lv_aload_n hx hb dL_law_453 rfl (lv_at hl 2 rfl) ?_
  refine lv_aload_n hx hb dL_law_454 rfl (lv_at hl 0 rfl) ?_
  refine lv_iload_n hx hb dL_law_455 rfl (lv_at hl 3 rfl) ?_
  refine lv_iconst (v := nI 1) hx hb dL_law_456 (by decide) ?_
  refine lv_iadd hx hb dL_law_457 ?_
  refine va_sld hx hb hX hbl hbA hS (hin 1 (by decide)) dL_law_458 ?_
  refine lv_aload_n hx hb dL_law_459 rfl (lv_at hl 0 rfl) ?_
  refine lv_iload_n hx hb dL_law_460 rfl (lv_at hl 3 rfl) ?_
  refine lv_iconst (v := nI 2) hx hb dL_law_461 (by decide) ?_
  refine lv_iadd hx hb dL_law_462 ?_
  refine va_sld hx hb hX hbl hbA hS (hin 2 (by decide)) dL_law_463 ?_
  have sb : Sb D (LA s) H wm := Sb.lf hP hD hS hA
  refine calI (va_runV (As := [.int (xs (nI i + nI 1).toNatClampNeg), .int (xs (nI i + nI 2).toNatClampNeg)]) (rest := [.int r]) ⟨hx, hb, hml, hown, hts⟩ (c2 H.size) (cwV 2 hts gL_law_X12_spoon rfl rfl rfl (by decide +kernel) ⟨(Nat.le_of_ble_eq_true rfl), (Nat.le_of_ble_eq_true rfl)⟩) (pvV hE hK hS sb (va_recv hK sb.1 (ci := 12) rfl rm)) rfl rfl hl.1 rfl (lv_room (Nat.le_of_ble_eq_true rfl)) dL_law_464 ⟨show K + 0 ≤ 600000 by omega, show M + 0 ≤ 7302250 by omega⟩) hS sb (Jn.growL hP hD sb.2.2) (fun H locs hP hD hS => ?_)
  refine lv_icmp_eq (tgt := 1603) hx hb dL_law_467 (by decide) (fun _ => ?_) (fun h9 => absurd rfl h9)
  refine W.widen (k := K + 4) (n := M + 157) (by omega) (by omega) ?_
  exact k _ _ hP hD hS
set_option maxHeartbeats 4000000 in
set_option maxRecDepth 100000 in
theorem wk_ofSpoon (C : LX p l e s m below meth c b N xs G D cA) (C2 : i + 6 ≤ N ∧ N ≤ 3072 ∧ K ≤ 590000 ∧ M ≤ 7200000) (hP : va_P D vwCl (wm ++ wx) H) (hD : va_D (LA s) (wm ++ wx)) (hS : va_S (LA s) s.heap H locs) (hl : lv_has ls 4 [(0, .ref b), (1, .ref x0), (2, .ref m0), (3, .int (nI i))]) (rx : ∃ fx : List Value, wx[0]? = some (x0, .inr (11, fx))) (rm : ∃ fm : List Value, wm[0]? = some (m0, .inr (12, fm))) (c1 : ∀ sz : Nat, Met l yX11_ofSpoon wsX11_ofSpoon ({ frames := 4, cells := 0, slots := 0, locals := 96 } : Room) (PW G D (tyC cA) sz wx [.ref x0, .int (xs (nI i + nI 1).toNatClampNeg), .int (xs (nI i + nI 2).toNatClampNeg)]) (QI D (tyC cA) (va_A wx sz) r wx1) 0 0 (va_A wx sz)) (c2 : ∀ sz : Nat, Met l yX12_ofSpoon wsX12_ofSpoon ({ frames := 4, cells := 0, slots := 0, locals := 93 } : Room) (PW G D (tyC cA) sz wm [.ref m0, .int (xs (nI i + nI 1).toNatClampNeg), .int (xs (nI i + nI 2).toNatClampNeg)]) (QI D (tyC cA) (va_A wm sz) r wm1) 0 0 (va_A wm sz)) (k : ∀ (H : Heap) (locs : List Loc), va_P D vwCl (wm1 ++ wx1) H → va_D (LA s) (wm1 ++ wx1) → va_S (LA s) s.heap H locs → W p l e room_1 s m #[Value.ref b] below meth c H locs (K + 4) (M + 157) (lw_Z below #[Value.ref b] s) (F0 m 1603 ls [])) : W p l e room_1 s m #[Value.ref b] below meth c H locs K M (lw_Z below #[Value.ref b] s) (F0 m 472 ls []) := by
  obtain ⟨hx, hb, hr, hml, hown, hts, hX, hbl, hlocks, hK, hE⟩ := C
  have hA : ∀ q : Nat, s.heap.size ≤ q → LA s q := fun _ h => h
  have hbA : ¬ LA s b := Nat.not_le.mpr hbl
  have hin : ∀ k, k < 6 → vp_in (nI i + nI k) N := fun k hk => by rw [nI_add]; exact vp_in_nI (by omega) (by omega)
  obtain ⟨fx, rx⟩ := rx
  obtain ⟨fm, rm⟩ := rm
  refine lv_aload_n hx hb dL_law_472 rfl (lv_at hl 1 rfl) ?_
  refine lv_aload_n hx hb dL_law_473 rfl (lv_at hl 0 rfl) ?_
  refine lv_iload_n hx hb dL_law_474 rfl (lv_at hl 3 rfl) ?_
  refine lv_iconst (v := nI 1) hx hb dL_law_475 (by decide) ?_
  refine lv_iadd hx hb dL_law_476 ?_
  refine va_sld hx hb hX hbl hbA hS (hin 1 (by decide)) dL_law_477 ?_
  refine lv_aload_n hx hb dL_law_478 rfl (lv_at hl 0 rfl) ?_
  refine lv_iload_n hx hb dL_law_479 rfl (lv_at hl 3 rfl) ?_
  refine lv_iconst (v := nI 2) hx hb dL_law_480 (by decide) ?_
  refine lv_iadd hx hb dL_law_481 ?_
  refine va_sld hx hb hX hbl hbA hS (hin 2 (by decide)) dL_law_482 ?_
  have sb : Sb D (LA s) H wx := Sb.rg hP hD hS hA
  refine calI (va_runV (As := [.int (xs (nI i + nI 1).toNatClampNeg), .int (xs (nI i + nI 2).toNatClampNeg)]) (rest := []) ⟨hx, hb, hml, hown, hts⟩ (c1 H.size) (cwV 2 hts gL_law_X11_ofSpoon rfl rfl rfl (by decide +kernel) ⟨(Nat.le_of_ble_eq_true rfl), (Nat.le_of_ble_eq_true rfl)⟩) (pvV hE hK hS sb (va_recv hK sb.1 (ci := 11) rfl rx)) rfl rfl hl.1 rfl (lv_room (Nat.le_of_ble_eq_true rfl)) dL_law_483 ⟨show K + 0 ≤ 600000 by omega, show M + 0 ≤ 7302250 by omega⟩) hS sb (Jn.grow hP hD sb.2.2) (fun H locs hP hD hS => ?_)
  clear sb
  refine lv_aload_n hx hb dL_law_486 rfl (lv_at hl 2 rfl) ?_
  refine lv_aload_n hx hb dL_law_487 rfl (lv_at hl 0 rfl) ?_
  refine lv_iload_n hx hb dL_law_488 rfl (lv_at hl 3 rfl) ?_
  refine lv_iconst (v := nI 1) hx hb dL_law_489 (by decide) ?_
  refine lv_iadd hx hb dL_law_490 ?_
  refine va_sld hx hb hX hbl hbA hS (hin 1 (by decide)) dL_law_491 ?_
  refine lv_aload_n hx hb dL_law_492 rfl (lv_at hl 0 rfl) ?_
  refine lv_iload_n hx hb dL_law_493 rfl (lv_at hl 3 rfl) ?_
  refine lv_iconst (v := nI 2) hx hb dL_law_494 (by decide) ?_
  refine lv_iadd hx hb dL_law_495 ?_
  refine va_sld hx hb hX hbl hbA hS (hin 2 (by decide)) dL_law_496 ?_
  have sb : Sb D (LA s) H wm := Sb.lf hP hD hS hA
  refine calI (va_runV (As := [.int (xs (nI i + nI 1).toNatClampNeg), .int (xs (nI i + nI 2).toNatClampNeg)]) (rest := [.int r]) ⟨hx, hb, hml, hown, hts⟩ (c2 H.size) (cwV 2 hts gL_law_X12_ofSpoon rfl rfl rfl (by decide +kernel) ⟨(Nat.le_of_ble_eq_true rfl), (Nat.le_of_ble_eq_true rfl)⟩) (pvV hE hK hS sb (va_recv hK sb.1 (ci := 12) rfl rm)) rfl rfl hl.1 rfl (lv_room (Nat.le_of_ble_eq_true rfl)) dL_law_497 ⟨show K + 0 ≤ 600000 by omega, show M + 0 ≤ 7302250 by omega⟩) hS sb (Jn.growL hP hD sb.2.2) (fun H locs hP hD hS => ?_)
  refine lv_icmp_eq (tgt := 1603) hx hb dL_law_500 (by decide) (fun _ => ?_) (fun h9 => absurd rfl h9)
  refine W.widen (k := K + 4) (n := M + 157) (by omega) (by omega) ?_
  exact k _ _ hP hD hS
set_option maxHeartbeats 4000000 in
set_option maxRecDepth 100000 in
theorem wk_change (C : LX p l e s m below meth c b N xs G D cA) (C2 : i + 6 ≤ N ∧ N ≤ 3072 ∧ K ≤ 590000 ∧ M ≤ 7200000) (hP : va_P D vwCl (wm ++ wx) H) (hD : va_D (LA s) (wm ++ wx)) (hS : va_S (LA s) s.heap H locs) (hl : lv_has ls 4 [(0, .ref b), (1, .ref x0), (2, .ref m0), (3, .int (nI i))]) (rx : ∃ fx : List Value, wx[0]? = some (x0, .inr (11, fx))) (rm : ∃ fm : List Value, wm[0]? = some (m0, .inr (12, fm))) (c1 : ∀ sz : Nat, Met l yX11_change wsX11_change ({ frames := 2, cells := 0, slots := 0, locals := 43 } : Room) (PW G D (tyC cA) sz wx [.ref x0, .int (xs (nI i + nI 1).toNatClampNeg), .int (xs (nI i + nI 2).toNatClampNeg), .int (xs (nI i + nI 3).toNatClampNeg)]) (QI D (tyC cA) (va_A wx sz) r wx1) 0 0 (va_A wx sz)) (c2 : ∀ sz : Nat, Met l yX12_change wsX12_change ({ frames := 2, cells := 0, slots := 0, locals := 46 } : Room) (PW G D (tyC cA) sz wm [.ref m0, .int (xs (nI i + nI 1).toNatClampNeg), .int (xs (nI i + nI 2).toNatClampNeg), .int (xs (nI i + nI 3).toNatClampNeg)]) (QI D (tyC cA) (va_A wm sz) r wm1) 0 0 (va_A wm sz)) (k : ∀ (H : Heap) (locs : List Loc), va_P D vwCl (wm1 ++ wx1) H → va_D (LA s) (wm1 ++ wx1) → va_S (LA s) s.heap H locs → W p l e room_1 s m #[Value.ref b] below meth c H locs (K + 4) (M + 157) (lw_Z below #[Value.ref b] s) (F0 m 1603 ls [])) : W p l e room_1 s m #[Value.ref b] below meth c H locs K M (lw_Z below #[Value.ref b] s) (F0 m 505 ls []) := by
  obtain ⟨hx, hb, hr, hml, hown, hts, hX, hbl, hlocks, hK, hE⟩ := C
  have hA : ∀ q : Nat, s.heap.size ≤ q → LA s q := fun _ h => h
  have hbA : ¬ LA s b := Nat.not_le.mpr hbl
  have hin : ∀ k, k < 6 → vp_in (nI i + nI k) N := fun k hk => by rw [nI_add]; exact vp_in_nI (by omega) (by omega)
  obtain ⟨fx, rx⟩ := rx
  obtain ⟨fm, rm⟩ := rm
  refine lv_aload_n hx hb dL_law_505 rfl (lv_at hl 1 rfl) ?_
  refine lv_aload_n hx hb dL_law_506 rfl (lv_at hl 0 rfl) ?_
  refine lv_iload_n hx hb dL_law_507 rfl (lv_at hl 3 rfl) ?_
  refine lv_iconst (v := nI 1) hx hb dL_law_508 (by decide) ?_
  refine lv_iadd hx hb dL_law_509 ?_
  refine va_sld hx hb hX hbl hbA hS (hin 1 (by decide)) dL_law_510 ?_
  refine lv_aload_n hx hb dL_law_511 rfl (lv_at hl 0 rfl) ?_
  refine lv_iload_n hx hb dL_law_512 rfl (lv_at hl 3 rfl) ?_
  refine lv_iconst (v := nI 2) hx hb dL_law_513 (by decide) ?_
  refine lv_iadd hx hb dL_law_514 ?_
  refine va_sld hx hb hX hbl hbA hS (hin 2 (by decide)) dL_law_515 ?_
  refine lv_aload_n hx hb dL_law_516 rfl (lv_at hl 0 rfl) ?_
  refine lv_iload_n hx hb dL_law_517 rfl (lv_at hl 3 rfl) ?_
  refine lv_iconst (v := nI 3) hx hb dL_law_518 (by decide) ?_
  refine lv_iadd hx hb dL_law_519 ?_
  refine va_sld hx hb hX hbl hbA hS (hin 3 (by decide)) dL_law_520 ?_
  have sb : Sb D (LA s) H wx := Sb.rg hP hD hS hA
  refine calI (va_runV (As := [.int (xs (nI i + nI 1).toNatClampNeg), .int (xs (nI i + nI 2).toNatClampNeg), .int (xs (nI i + nI 3).toNatClampNeg)]) (rest := []) ⟨hx, hb, hml, hown, hts⟩ (c1 H.size) (cwV 3 hts gL_law_X11_change rfl rfl rfl (by decide +kernel) ⟨(Nat.le_of_ble_eq_true rfl), (Nat.le_of_ble_eq_true rfl)⟩) (pvV hE hK hS sb (va_recv hK sb.1 (ci := 11) rfl rx)) rfl rfl hl.1 rfl (lv_room (Nat.le_of_ble_eq_true rfl)) dL_law_521 ⟨show K + 0 ≤ 600000 by omega, show M + 0 ≤ 7302250 by omega⟩) hS sb (Jn.grow hP hD sb.2.2) (fun H locs hP hD hS => ?_)
  clear sb
  refine lv_aload_n hx hb dL_law_524 rfl (lv_at hl 2 rfl) ?_
  refine lv_aload_n hx hb dL_law_525 rfl (lv_at hl 0 rfl) ?_
  refine lv_iload_n hx hb dL_law_526 rfl (lv_at hl 3 rfl) ?_
  refine lv_iconst (v := nI 1) hx hb dL_law_527 (by decide) ?_
  refine lv_iadd hx hb dL_law_528 ?_
  refine va_sld hx hb hX hbl hbA hS (hin 1 (by decide)) dL_law_529 ?_
  refine lv_aload_n hx hb dL_law_530 rfl (lv_at hl 0 rfl) ?_
  refine lv_iload_n hx hb dL_law_531 rfl (lv_at hl 3 rfl) ?_
  refine lv_iconst (v := nI 2) hx hb dL_law_532 (by decide) ?_
  refine lv_iadd hx hb dL_law_533 ?_
  refine va_sld hx hb hX hbl hbA hS (hin 2 (by decide)) dL_law_534 ?_
  refine lv_aload_n hx hb dL_law_535 rfl (lv_at hl 0 rfl) ?_
  refine lv_iload_n hx hb dL_law_536 rfl (lv_at hl 3 rfl) ?_
  refine lv_iconst (v := nI 3) hx hb dL_law_537 (by decide) ?_
  refine lv_iadd hx hb dL_law_538 ?_
  refine va_sld hx hb hX hbl hbA hS (hin 3 (by decide)) dL_law_539 ?_
  have sb : Sb D (LA s) H wm := Sb.lf hP hD hS hA
  refine calI (va_runV (As := [.int (xs (nI i + nI 1).toNatClampNeg), .int (xs (nI i + nI 2).toNatClampNeg), .int (xs (nI i + nI 3).toNatClampNeg)]) (rest := [.int r]) ⟨hx, hb, hml, hown, hts⟩ (c2 H.size) (cwV 3 hts gL_law_X12_change rfl rfl rfl (by decide +kernel) ⟨(Nat.le_of_ble_eq_true rfl), (Nat.le_of_ble_eq_true rfl)⟩) (pvV hE hK hS sb (va_recv hK sb.1 (ci := 12) rfl rm)) rfl rfl hl.1 rfl (lv_room (Nat.le_of_ble_eq_true rfl)) dL_law_540 ⟨show K + 0 ≤ 600000 by omega, show M + 0 ≤ 7302250 by omega⟩) hS sb (Jn.growL hP hD sb.2.2) (fun H locs hP hD hS => ?_)
  refine lv_icmp_eq (tgt := 1603) hx hb dL_law_543 (by decide) (fun _ => ?_) (fun h9 => absurd rfl h9)
  refine W.widen (k := K + 4) (n := M + 157) (by omega) (by omega) ?_
  exact k _ _ hP hD hS
set_option maxHeartbeats 4000000 in
set_option maxRecDepth 100000 in
theorem wk_become (C : LX p l e s m below meth c b N xs G D cA) (C2 : i + 6 ≤ N ∧ N ≤ 3072 ∧ K ≤ 590000 ∧ M ≤ 7200000) (hP : va_P D vwCl (wm ++ wx) H) (hD : va_D (LA s) (wm ++ wx)) (hS : va_S (LA s) s.heap H locs) (hl : lv_has ls 4 [(0, .ref b), (1, .ref x0), (2, .ref m0), (3, .int (nI i))]) (rx : ∃ fx : List Value, wx[0]? = some (x0, .inr (11, fx))) (rm : ∃ fm : List Value, wm[0]? = some (m0, .inr (12, fm))) (c1 : ∀ sz : Nat, Met l yX11_become wsX11_become ({ frames := 2, cells := 0, slots := 0, locals := 43 } : Room) (PW G D (tyC cA) sz wx [.ref x0, .int (xs (nI i + nI 1).toNatClampNeg), .int (xs (nI i + nI 2).toNatClampNeg)]) (QI D (tyC cA) (va_A wx sz) r wx1) 0 0 (va_A wx sz)) (c2 : ∀ sz : Nat, Met l yX12_become wsX12_become ({ frames := 2, cells := 0, slots := 0, locals := 46 } : Room) (PW G D (tyC cA) sz wm [.ref m0, .int (xs (nI i + nI 1).toNatClampNeg), .int (xs (nI i + nI 2).toNatClampNeg)]) (QI D (tyC cA) (va_A wm sz) r wm1) 0 0 (va_A wm sz)) (k : ∀ (H : Heap) (locs : List Loc), va_P D vwCl (wm1 ++ wx1) H → va_D (LA s) (wm1 ++ wx1) → va_S (LA s) s.heap H locs → W p l e room_1 s m #[Value.ref b] below meth c H locs (K + 4) (M + 157) (lw_Z below #[Value.ref b] s) (F0 m 1603 ls [])) : W p l e room_1 s m #[Value.ref b] below meth c H locs K M (lw_Z below #[Value.ref b] s) (F0 m 548 ls []) := by
  obtain ⟨hx, hb, hr, hml, hown, hts, hX, hbl, hlocks, hK, hE⟩ := C
  have hA : ∀ q : Nat, s.heap.size ≤ q → LA s q := fun _ h => h
  have hbA : ¬ LA s b := Nat.not_le.mpr hbl
  have hin : ∀ k, k < 6 → vp_in (nI i + nI k) N := fun k hk => by rw [nI_add]; exact vp_in_nI (by omega) (by omega)
  obtain ⟨fx, rx⟩ := rx
  obtain ⟨fm, rm⟩ := rm
  refine lv_aload_n hx hb dL_law_548 rfl (lv_at hl 1 rfl) ?_
  refine lv_aload_n hx hb dL_law_549 rfl (lv_at hl 0 rfl) ?_
  refine lv_iload_n hx hb dL_law_550 rfl (lv_at hl 3 rfl) ?_
  refine lv_iconst (v := nI 1) hx hb dL_law_551 (by decide) ?_
  refine lv_iadd hx hb dL_law_552 ?_
  refine va_sld hx hb hX hbl hbA hS (hin 1 (by decide)) dL_law_553 ?_
  refine lv_aload_n hx hb dL_law_554 rfl (lv_at hl 0 rfl) ?_
  refine lv_iload_n hx hb dL_law_555 rfl (lv_at hl 3 rfl) ?_
  refine lv_iconst (v := nI 2) hx hb dL_law_556 (by decide) ?_
  refine lv_iadd hx hb dL_law_557 ?_
  refine va_sld hx hb hX hbl hbA hS (hin 2 (by decide)) dL_law_558 ?_
  have sb : Sb D (LA s) H wx := Sb.rg hP hD hS hA
  refine calI (va_runV (As := [.int (xs (nI i + nI 1).toNatClampNeg), .int (xs (nI i + nI 2).toNatClampNeg)]) (rest := []) ⟨hx, hb, hml, hown, hts⟩ (c1 H.size) (cwV 2 hts gL_law_X11_become rfl rfl rfl (by decide +kernel) ⟨(Nat.le_of_ble_eq_true rfl), (Nat.le_of_ble_eq_true rfl)⟩) (pvV hE hK hS sb (va_recv hK sb.1 (ci := 11) rfl rx)) rfl rfl hl.1 rfl (lv_room (Nat.le_of_ble_eq_true rfl)) dL_law_559 ⟨show K + 0 ≤ 600000 by omega, show M + 0 ≤ 7302250 by omega⟩) hS sb (Jn.grow hP hD sb.2.2) (fun H locs hP hD hS => ?_)
  clear sb
  refine lv_aload_n hx hb dL_law_562 rfl (lv_at hl 2 rfl) ?_
  refine lv_aload_n hx hb dL_law_563 rfl (lv_at hl 0 rfl) ?_
  refine lv_iload_n hx hb dL_law_564 rfl (lv_at hl 3 rfl) ?_
  refine lv_iconst (v := nI 1) hx hb dL_law_565 (by decide) ?_
  refine lv_iadd hx hb dL_law_566 ?_
  refine va_sld hx hb hX hbl hbA hS (hin 1 (by decide)) dL_law_567 ?_
  refine lv_aload_n hx hb dL_law_568 rfl (lv_at hl 0 rfl) ?_
  refine lv_iload_n hx hb dL_law_569 rfl (lv_at hl 3 rfl) ?_
  refine lv_iconst (v := nI 2) hx hb dL_law_570 (by decide) ?_
  refine lv_iadd hx hb dL_law_571 ?_
  refine va_sld hx hb hX hbl hbA hS (hin 2 (by decide)) dL_law_572 ?_
  have sb : Sb D (LA s) H wm := Sb.lf hP hD hS hA
  refine calI (va_runV (As := [.int (xs (nI i + nI 1).toNatClampNeg), .int (xs (nI i + nI 2).toNatClampNeg)]) (rest := [.int r]) ⟨hx, hb, hml, hown, hts⟩ (c2 H.size) (cwV 2 hts gL_law_X12_become rfl rfl rfl (by decide +kernel) ⟨(Nat.le_of_ble_eq_true rfl), (Nat.le_of_ble_eq_true rfl)⟩) (pvV hE hK hS sb (va_recv hK sb.1 (ci := 12) rfl rm)) rfl rfl hl.1 rfl (lv_room (Nat.le_of_ble_eq_true rfl)) dL_law_573 ⟨show K + 0 ≤ 600000 by omega, show M + 0 ≤ 7302250 by omega⟩) hS sb (Jn.growL hP hD sb.2.2) (fun H locs hP hD hS => ?_)
  refine lv_icmp_eq (tgt := 1603) hx hb dL_law_576 (by decide) (fun _ => ?_) (fun h9 => absurd rfl h9)
  refine W.widen (k := K + 4) (n := M + 157) (by omega) (by omega) ?_
  exact k _ _ hP hD hS
set_option maxHeartbeats 4000000 in
set_option maxRecDepth 100000 in
theorem wk_as (C : LX p l e s m below meth c b N xs G D cA) (C2 : i + 6 ≤ N ∧ N ≤ 3072 ∧ K ≤ 590000 ∧ M ≤ 7200000) (hP : va_P D vwCl (wm ++ wx) H) (hD : va_D (LA s) (wm ++ wx)) (hS : va_S (LA s) s.heap H locs) (hl : lv_has ls 4 [(0, .ref b), (1, .ref x0), (2, .ref m0), (3, .int (nI i))]) (rx : ∃ fx : List Value, wx[0]? = some (x0, .inr (11, fx))) (rm : ∃ fm : List Value, wm[0]? = some (m0, .inr (12, fm))) (c1 : ∀ sz : Nat, Met l yX11_as wsX11_as ({ frames := 2, cells := 0, slots := 0, locals := 43 } : Room) (PW G D (tyC cA) sz wx [.ref x0, .int (xs (nI i + nI 1).toNatClampNeg), .int (xs (nI i + nI 2).toNatClampNeg)]) (QI D (tyC cA) (va_A wx sz) r wx1) 0 0 (va_A wx sz)) (c2 : ∀ sz : Nat, Met l yX12_as wsX12_as ({ frames := 2, cells := 0, slots := 0, locals := 46 } : Room) (PW G D (tyC cA) sz wm [.ref m0, .int (xs (nI i + nI 1).toNatClampNeg), .int (xs (nI i + nI 2).toNatClampNeg)]) (QI D (tyC cA) (va_A wm sz) r wm1) 0 0 (va_A wm sz)) (k : ∀ (H : Heap) (locs : List Loc), va_P D vwCl (wm1 ++ wx1) H → va_D (LA s) (wm1 ++ wx1) → va_S (LA s) s.heap H locs → W p l e room_1 s m #[Value.ref b] below meth c H locs (K + 4) (M + 157) (lw_Z below #[Value.ref b] s) (F0 m 1603 ls [])) : W p l e room_1 s m #[Value.ref b] below meth c H locs K M (lw_Z below #[Value.ref b] s) (F0 m 581 ls []) := by
  obtain ⟨hx, hb, hr, hml, hown, hts, hX, hbl, hlocks, hK, hE⟩ := C
  have hA : ∀ q : Nat, s.heap.size ≤ q → LA s q := fun _ h => h
  have hbA : ¬ LA s b := Nat.not_le.mpr hbl
  have hin : ∀ k, k < 6 → vp_in (nI i + nI k) N := fun k hk => by rw [nI_add]; exact vp_in_nI (by omega) (by omega)
  obtain ⟨fx, rx⟩ := rx
  obtain ⟨fm, rm⟩ := rm
  refine lv_aload_n hx hb dL_law_581 rfl (lv_at hl 1 rfl) ?_
  refine lv_aload_n hx hb dL_law_582 rfl (lv_at hl 0 rfl) ?_
  refine lv_iload_n hx hb dL_law_583 rfl (lv_at hl 3 rfl) ?_
  refine lv_iconst (v := nI 1) hx hb dL_law_584 (by decide) ?_
  refine lv_iadd hx hb dL_law_585 ?_
  refine va_sld hx hb hX hbl hbA hS (hin 1 (by decide)) dL_law_586 ?_
  refine lv_aload_n hx hb dL_law_587 rfl (lv_at hl 0 rfl) ?_
  refine lv_iload_n hx hb dL_law_588 rfl (lv_at hl 3 rfl) ?_
  refine lv_iconst (v := nI 2) hx hb dL_law_589 (by decide) ?_
  refine lv_iadd hx hb dL_law_590 ?_
  refine va_sld hx hb hX hbl hbA hS (hin 2 (by decide)) dL_law_591 ?_
  have sb : Sb D (LA s) H wx := Sb.rg hP hD hS hA
  refine calI (va_runV (As := [.int (xs (nI i + nI 1).toNatClampNeg), .int (xs (nI i + nI 2).toNatClampNeg)]) (rest := []) ⟨hx, hb, hml, hown, hts⟩ (c1 H.size) (cwV 2 hts gL_law_X11_as rfl rfl rfl (by decide +kernel) ⟨(Nat.le_of_ble_eq_true rfl), (Nat.le_of_ble_eq_true rfl)⟩) (pvV hE hK hS sb (va_recv hK sb.1 (ci := 11) rfl rx)) rfl rfl hl.1 rfl (lv_room (Nat.le_of_ble_eq_true rfl)) dL_law_592 ⟨show K + 0 ≤ 600000 by omega, show M + 0 ≤ 7302250 by omega⟩) hS sb (Jn.grow hP hD sb.2.2) (fun H locs hP hD hS => ?_)
  clear sb
  refine lv_aload_n hx hb dL_law_595 rfl (lv_at hl 2 rfl) ?_
  refine lv_aload_n hx hb dL_law_596 rfl (lv_at hl 0 rfl) ?_
  refine lv_iload_n hx hb dL_law_597 rfl (lv_at hl 3 rfl) ?_
  refine lv_iconst (v := nI 1) hx hb dL_law_598 (by decide) ?_
  refine lv_iadd hx hb dL_law_599 ?_
  refine va_sld hx hb hX hbl hbA hS (hin 1 (by decide)) dL_law_600 ?_
  refine lv_aload_n hx hb dL_law_601 rfl (lv_at hl 0 rfl) ?_
  refine lv_iload_n hx hb dL_law_602 rfl (lv_at hl 3 rfl) ?_
  refine lv_iconst (v := nI 2) hx hb dL_law_603 (by decide) ?_
  refine lv_iadd hx hb dL_law_604 ?_
  refine va_sld hx hb hX hbl hbA hS (hin 2 (by decide)) dL_law_605 ?_
  have sb : Sb D (LA s) H wm := Sb.lf hP hD hS hA
  refine calI (va_runV (As := [.int (xs (nI i + nI 1).toNatClampNeg), .int (xs (nI i + nI 2).toNatClampNeg)]) (rest := [.int r]) ⟨hx, hb, hml, hown, hts⟩ (c2 H.size) (cwV 2 hts gL_law_X12_as rfl rfl rfl (by decide +kernel) ⟨(Nat.le_of_ble_eq_true rfl), (Nat.le_of_ble_eq_true rfl)⟩) (pvV hE hK hS sb (va_recv hK sb.1 (ci := 12) rfl rm)) rfl rfl hl.1 rfl (lv_room (Nat.le_of_ble_eq_true rfl)) dL_law_606 ⟨show K + 0 ≤ 600000 by omega, show M + 0 ≤ 7302250 by omega⟩) hS sb (Jn.growL hP hD sb.2.2) (fun H locs hP hD hS => ?_)
  refine lv_icmp_eq (tgt := 1603) hx hb dL_law_609 (by decide) (fun _ => ?_) (fun h9 => absurd rfl h9)
  refine W.widen (k := K + 4) (n := M + 157) (by omega) (by omega) ?_
  exact k _ _ hP hD hS
set_option maxHeartbeats 4000000 in
set_option maxRecDepth 100000 in
theorem wk_feed (C : LX p l e s m below meth c b N xs G D cA) (C2 : i + 6 ≤ N ∧ N ≤ 3072 ∧ K ≤ 590000 ∧ M ≤ 7200000) (hP : va_P D vwCl (wm ++ wx) H) (hD : va_D (LA s) (wm ++ wx)) (hS : va_S (LA s) s.heap H locs) (hl : lv_has ls 4 [(0, .ref b), (1, .ref x0), (2, .ref m0), (3, .int (nI i))]) (rx : ∃ fx : List Value, wx[0]? = some (x0, .inr (11, fx))) (rm : ∃ fm : List Value, wm[0]? = some (m0, .inr (12, fm))) (c1 : ∀ sz : Nat, Met l yX11_feed wsX11_feed ({ frames := 1, cells := 0, slots := 0, locals := 22 } : Room) (PW G D (tyC cA) sz wx [.ref x0, .long (((xs (nI i + nI 1).toNatClampNeg).toInt64 <<< ((32 : Int32).toInt64 &&& 63)) ||| ((xs (nI i + nI 2).toNatClampNeg).toInt64 &&& (4294967295 : Int64))), .int (xs (nI i + nI 3).toNatClampNeg)]) (QI D (tyC cA) (va_A wx sz) r wx1) 0 0 (va_A wx sz)) (c2 : ∀ sz : Nat, Met l yX12_feed wsX12_feed ({ frames := 1, cells := 0, slots := 0, locals := 25 } : Room) (PW G D (tyC cA) sz wm [.ref m0, .long (((xs (nI i + nI 1).toNatClampNeg).toInt64 <<< ((32 : Int32).toInt64 &&& 63)) ||| ((xs (nI i + nI 2).toNatClampNeg).toInt64 &&& (4294967295 : Int64))), .int (xs (nI i + nI 3).toNatClampNeg)]) (QI D (tyC cA) (va_A wm sz) r wm1) 0 0 (va_A wm sz)) (k : ∀ (H : Heap) (locs : List Loc), va_P D vwCl (wm1 ++ wx1) H → va_D (LA s) (wm1 ++ wx1) → va_S (LA s) s.heap H locs → W p l e room_1 s m #[Value.ref b] below meth c H locs (K + 4) (M + 157) (lw_Z below #[Value.ref b] s) (F0 m 1603 ls [])) : W p l e room_1 s m #[Value.ref b] below meth c H locs K M (lw_Z below #[Value.ref b] s) (F0 m 614 ls []) := by
  obtain ⟨hx, hb, hr, hml, hown, hts, hX, hbl, hlocks, hK, hE⟩ := C
  have hA : ∀ q : Nat, s.heap.size ≤ q → LA s q := fun _ h => h
  have hbA : ¬ LA s b := Nat.not_le.mpr hbl
  have hin : ∀ k, k < 6 → vp_in (nI i + nI k) N := fun k hk => by rw [nI_add]; exact vp_in_nI (by omega) (by omega)
  obtain ⟨fx, rx⟩ := rx
  obtain ⟨fm, rm⟩ := rm
  refine lv_aload_n hx hb dL_law_614 rfl (lv_at hl 1 rfl) ?_
  refine lv_aload_n hx hb dL_law_615 rfl (lv_at hl 0 rfl) ?_
  refine lv_iload_n hx hb dL_law_616 rfl (lv_at hl 3 rfl) ?_
  refine lv_iconst (v := nI 1) hx hb dL_law_617 (by decide) ?_
  refine lv_iadd hx hb dL_law_618 ?_
  refine va_sld hx hb hX hbl hbA hS (hin 1 (by decide)) dL_law_619 ?_
  refine lv_i2l (v := (xs (nI i + nI 1).toNatClampNeg).toInt64) hx hb dL_law_620 rfl ?_
  refine lv_bipush (v := (32 : Int32)) hx hb dL_law_621 (by decide) ?_
  refine lv_lshl (v := ((xs (nI i + nI 1).toNatClampNeg).toInt64 <<< ((32 : Int32).toInt64 &&& 63))) hx hb dL_law_623 rfl ?_
  refine lv_aload_n hx hb dL_law_624 rfl (lv_at hl 0 rfl) ?_
  refine lv_iload_n hx hb dL_law_625 rfl (lv_at hl 3 rfl) ?_
  refine lv_iconst (v := nI 2) hx hb dL_law_626 (by decide) ?_
  refine lv_iadd hx hb dL_law_627 ?_
  refine va_sld hx hb hX hbl hbA hS (hin 2 (by decide)) dL_law_628 ?_
  refine lv_i2l (v := (xs (nI i + nI 2).toNatClampNeg).toInt64) hx hb dL_law_629 rfl ?_
  refine lv_ldc2 (v := (4294967295 : Int64)) hx hb hown (hts _ wl1391) dL_law_630 ?_
  refine lv_land hx hb dL_law_633 ?_
  refine lv_lor hx hb dL_law_634 ?_
  refine lv_aload_n hx hb dL_law_635 rfl (lv_at hl 0 rfl) ?_
  refine lv_iload_n hx hb dL_law_636 rfl (lv_at hl 3 rfl) ?_
  refine lv_iconst (v := nI 3) hx hb dL_law_637 (by decide) ?_
  refine lv_iadd hx hb dL_law_638 ?_
  refine va_sld hx hb hX hbl hbA hS (hin 3 (by decide)) dL_law_639 ?_
  have sb : Sb D (LA s) H wx := Sb.rg hP hD hS hA
  refine calI (va_runV (As := [.long (((xs (nI i + nI 1).toNatClampNeg).toInt64 <<< ((32 : Int32).toInt64 &&& 63)) ||| ((xs (nI i + nI 2).toNatClampNeg).toInt64 &&& (4294967295 : Int64))), .int (xs (nI i + nI 3).toNatClampNeg)]) (rest := []) ⟨hx, hb, hml, hown, hts⟩ (c1 H.size) (cwV 2 hts gL_law_X11_feed rfl rfl rfl (by decide +kernel) ⟨(Nat.le_of_ble_eq_true rfl), (Nat.le_of_ble_eq_true rfl)⟩) (pvV hE hK hS sb (va_recv hK sb.1 (ci := 11) rfl rx)) rfl rfl hl.1 rfl (lv_room (Nat.le_of_ble_eq_true rfl)) dL_law_640 ⟨show K + 0 ≤ 600000 by omega, show M + 0 ≤ 7302250 by omega⟩) hS sb (Jn.grow hP hD sb.2.2) (fun H locs hP hD hS => ?_)
  clear sb
  refine lv_aload_n hx hb dL_law_643 rfl (lv_at hl 2 rfl) ?_
  refine lv_aload_n hx hb dL_law_644 rfl (lv_at hl 0 rfl) ?_
  refine lv_iload_n hx hb dL_law_645 rfl (lv_at hl 3 rfl) ?_
  refine lv_iconst (v := nI 1) hx hb dL_law_646 (by decide) ?_
  refine lv_iadd hx hb dL_law_647 ?_
  refine va_sld hx hb hX hbl hbA hS (hin 1 (by decide)) dL_law_648 ?_
  refine lv_i2l (v := (xs (nI i + nI 1).toNatClampNeg).toInt64) hx hb dL_law_649 rfl ?_
  refine lv_bipush (v := (32 : Int32)) hx hb dL_law_650 (by decide) ?_
  refine lv_lshl (v := ((xs (nI i + nI 1).toNatClampNeg).toInt64 <<< ((32 : Int32).toInt64 &&& 63))) hx hb dL_law_652 rfl ?_
  refine lv_aload_n hx hb dL_law_653 rfl (lv_at hl 0 rfl) ?_
  refine lv_iload_n hx hb dL_law_654 rfl (lv_at hl 3 rfl) ?_
  refine lv_iconst (v := nI 2) hx hb dL_law_655 (by decide) ?_
  refine lv_iadd hx hb dL_law_656 ?_
  refine va_sld hx hb hX hbl hbA hS (hin 2 (by decide)) dL_law_657 ?_
  refine lv_i2l (v := (xs (nI i + nI 2).toNatClampNeg).toInt64) hx hb dL_law_658 rfl ?_
  refine lv_ldc2 (v := (4294967295 : Int64)) hx hb hown (hts _ wl1391) dL_law_659 ?_
  refine lv_land hx hb dL_law_662 ?_
  refine lv_lor hx hb dL_law_663 ?_
  refine lv_aload_n hx hb dL_law_664 rfl (lv_at hl 0 rfl) ?_
  refine lv_iload_n hx hb dL_law_665 rfl (lv_at hl 3 rfl) ?_
  refine lv_iconst (v := nI 3) hx hb dL_law_666 (by decide) ?_
  refine lv_iadd hx hb dL_law_667 ?_
  refine va_sld hx hb hX hbl hbA hS (hin 3 (by decide)) dL_law_668 ?_
  have sb : Sb D (LA s) H wm := Sb.lf hP hD hS hA
  refine calI (va_runV (As := [.long (((xs (nI i + nI 1).toNatClampNeg).toInt64 <<< ((32 : Int32).toInt64 &&& 63)) ||| ((xs (nI i + nI 2).toNatClampNeg).toInt64 &&& (4294967295 : Int64))), .int (xs (nI i + nI 3).toNatClampNeg)]) (rest := [.int r]) ⟨hx, hb, hml, hown, hts⟩ (c2 H.size) (cwV 2 hts gL_law_X12_feed rfl rfl rfl (by decide +kernel) ⟨(Nat.le_of_ble_eq_true rfl), (Nat.le_of_ble_eq_true rfl)⟩) (pvV hE hK hS sb (va_recv hK sb.1 (ci := 12) rfl rm)) rfl rfl hl.1 rfl (lv_room (Nat.le_of_ble_eq_true rfl)) dL_law_669 ⟨show K + 0 ≤ 600000 by omega, show M + 0 ≤ 7302250 by omega⟩) hS sb (Jn.growL hP hD sb.2.2) (fun H locs hP hD hS => ?_)
  refine lv_icmp_eq (tgt := 1603) hx hb dL_law_672 (by decide) (fun _ => ?_) (fun h9 => absurd rfl h9)
  refine W.widen (k := K + 4) (n := M + 157) (by omega) (by omega) ?_
  exact k _ _ hP hD hS
set_option maxHeartbeats 4000000 in
set_option maxRecDepth 100000 in
theorem wk_text {WS : va_W → Prop} (C : LX p l e s m below meth c b N xs G D cA) (C2 : i + 6 ≤ N ∧ N ≤ 3072 ∧ K ≤ 590000 ∧ M ≤ 7200000) (hP : va_P D vwCl (wm ++ wx) H) (hD : va_D (LA s) (wm ++ wx)) (hS : va_S (LA s) s.heap H locs) (hl : lv_has ls 4 [(0, .ref b), (1, .ref x0), (2, .ref m0), (3, .int (nI i))]) (rx : ∃ fx : List Value, wx[0]? = some (x0, .inr (11, fx))) (rm : ∃ fm : List Value, wm[0]? = some (m0, .inr (12, fm))) (c1 : ∀ sz : Nat, Met l yX11_text wsX11_text ({ frames := 92, cells := 4, slots := 157, locals := 2223 } : Room) (PW G D (tyC cA) sz wx [.ref x0, .int (xs (nI i + nI 1).toNatClampNeg)]) (QIX D (tyC cA) (va_A wx sz) r WS) 4 157 (va_A wx sz)) (c2 : ∀ sz : Nat, Met l yX12_text wsX12_text ({ frames := 63, cells := 0, slots := 0, locals := 1334 } : Room) (PW G D (tyC cA) sz wm [.ref m0, .int (xs (nI i + nI 1).toNatClampNeg)]) (QI D (tyC cA) (va_A wm sz) r wm1) 0 0 (va_A wm sz)) (k : ∀ (wx1 : va_W) (H : Heap) (locs : List Loc), WS wx1 → va_P D vwCl (wm1 ++ wx1) H → va_D (LA s) (wm1 ++ wx1) → va_S (LA s) s.heap H locs → W p l e room_1 s m #[Value.ref b] below meth c H locs (K + 4) (M + 157) (lw_Z below #[Value.ref b] s) (F0 m 1603 ls [])) : W p l e room_1 s m #[Value.ref b] below meth c H locs K M (lw_Z below #[Value.ref b] s) (F0 m 677 ls []) := by
  obtain ⟨hx, hb, hr, hml, hown, hts, hX, hbl, hlocks, hK, hE⟩ := C
  have hA : ∀ q : Nat, s.heap.size ≤ q → LA s q := fun _ h => h
  have hbA : ¬ LA s b := Nat.not_le.mpr hbl
  have hin : ∀ k, k < 6 → vp_in (nI i + nI k) N := fun k hk => by rw [nI_add]; exact vp_in_nI (by omega) (by omega)
  obtain ⟨fx, rx⟩ := rx
  obtain ⟨fm, rm⟩ := rm
  refine lv_aload_n hx hb dL_law_677 rfl (lv_at hl 1 rfl) ?_
  refine lv_aload_n hx hb dL_law_678 rfl (lv_at hl 0 rfl) ?_
  refine lv_iload_n hx hb dL_law_679 rfl (lv_at hl 3 rfl) ?_
  refine lv_iconst (v := nI 1) hx hb dL_law_680 (by decide) ?_
  refine lv_iadd hx hb dL_law_681 ?_
  refine va_sld hx hb hX hbl hbA hS (hin 1 (by decide)) dL_law_682 ?_
  have sb : Sb D (LA s) H wx := Sb.rg hP hD hS hA
  refine calIX (va_runV (As := [.int (xs (nI i + nI 1).toNatClampNeg)]) (rest := []) ⟨hx, hb, hml, hown, hts⟩ (c1 H.size) (cwV 1 hts gL_law_X11_text rfl rfl rfl (by decide +kernel) ⟨(Nat.le_of_ble_eq_true rfl), (Nat.le_of_ble_eq_true rfl)⟩) (pvV hE hK hS sb (va_recv hK sb.1 (ci := 11) rfl rx)) rfl rfl hl.1 rfl (lv_room (Nat.le_of_ble_eq_true rfl)) dL_law_683 ⟨show K + 4 ≤ 600000 by omega, show M + 157 ≤ 7302250 by omega⟩) hS sb (fun wx1 H1 locs1 hw hP1 hD1 hk1 hS1 => ?_)
  obtain ⟨hP2, hD2⟩ := Jn.grow (w1 := wx1) hP hD sb.2.2 H1 hP1 hD1 hk1
  clear hP hD hP1 hD1 hk1 sb hS
  have hS := hS1
  clear hS1
  have hP := hP2
  have hD := hD2
  clear hP2 hD2
  refine lv_aload_n hx hb dL_law_686 rfl (lv_at hl 2 rfl) ?_
  refine lv_aload_n hx hb dL_law_687 rfl (lv_at hl 0 rfl) ?_
  refine lv_iload_n hx hb dL_law_688 rfl (lv_at hl 3 rfl) ?_
  refine lv_iconst (v := nI 1) hx hb dL_law_689 (by decide) ?_
  refine lv_iadd hx hb dL_law_690 ?_
  refine va_sld hx hb hX hbl hbA hS (hin 1 (by decide)) dL_law_691 ?_
  have sb : Sb D (LA s) H1 wm := Sb.lf hP hD hS hA
  refine calI (va_runV (As := [.int (xs (nI i + nI 1).toNatClampNeg)]) (rest := [.int r]) ⟨hx, hb, hml, hown, hts⟩ (c2 H1.size) (cwV 1 hts gL_law_X12_text rfl rfl rfl (by decide +kernel) ⟨(Nat.le_of_ble_eq_true rfl), (Nat.le_of_ble_eq_true rfl)⟩) (pvV hE hK hS sb (va_recv hK sb.1 (ci := 12) rfl rm)) rfl rfl hl.1 rfl (lv_room (Nat.le_of_ble_eq_true rfl)) dL_law_692 ⟨show K + 4 + 0 ≤ 600000 by omega, show M + 157 + 0 ≤ 7302250 by omega⟩) hS sb (Jn.growL hP hD sb.2.2) (fun H locs hP hD hS => ?_)
  refine lv_icmp_eq (tgt := 1603) hx hb dL_law_695 (by decide) (fun _ => ?_) (fun h9 => absurd rfl h9)
  exact k wx1 _ _ hw hP hD hS
set_option maxHeartbeats 4000000 in
set_option maxRecDepth 100000 in
theorem wk_law (C : LX p l e s m below meth c b N xs G D cA) (C2 : i + 6 ≤ N ∧ N ≤ 3072 ∧ K ≤ 590000 ∧ M ≤ 7200000) (hP : va_P D vwCl (wm ++ wx) H) (hD : va_D (LA s) (wm ++ wx)) (hS : va_S (LA s) s.heap H locs) (hl : lv_has ls 4 [(0, .ref b), (1, .ref x0), (2, .ref m0), (3, .int (nI i))]) (rx : ∃ fx : List Value, wx[0]? = some (x0, .inr (11, fx))) (rm : ∃ fm : List Value, wm[0]? = some (m0, .inr (12, fm))) (c1 : ∀ sz : Nat, Met l yX11_law wsX11_law ({ frames := 3, cells := 0, slots := 0, locals := 74 } : Room) (PW G D (tyC cA) sz wx [.ref x0, .int (xs (nI i + nI 1).toNatClampNeg), .int (xs (nI i + nI 2).toNatClampNeg), .int (xs (nI i + nI 3).toNatClampNeg), .int (xs (nI i + nI 4).toNatClampNeg)]) (QI D (tyC cA) (va_A wx sz) r wx1) 0 0 (va_A wx sz)) (c2 : ∀ sz : Nat, Met l yX12_law wsX12_law ({ frames := 3, cells := 0, slots := 0, locals := 72 } : Room) (PW G D (tyC cA) sz wm [.ref m0, .int (xs (nI i + nI 1).toNatClampNeg), .int (xs (nI i + nI 2).toNatClampNeg), .int (xs (nI i + nI 3).toNatClampNeg), .int (xs (nI i + nI 4).toNatClampNeg)]) (QI D (tyC cA) (va_A wm sz) r wm1) 0 0 (va_A wm sz)) (k : ∀ (H : Heap) (locs : List Loc), va_P D vwCl (wm1 ++ wx1) H → va_D (LA s) (wm1 ++ wx1) → va_S (LA s) s.heap H locs → W p l e room_1 s m #[Value.ref b] below meth c H locs (K + 4) (M + 157) (lw_Z below #[Value.ref b] s) (F0 m 1603 ls [])) : W p l e room_1 s m #[Value.ref b] below meth c H locs K M (lw_Z below #[Value.ref b] s) (F0 m 700 ls []) := by
  obtain ⟨hx, hb, hr, hml, hown, hts, hX, hbl, hlocks, hK, hE⟩ := C
  have hA : ∀ q : Nat, s.heap.size ≤ q → LA s q := fun _ h => h
  have hbA : ¬ LA s b := Nat.not_le.mpr hbl
  have hin : ∀ k, k < 6 → vp_in (nI i + nI k) N := fun k hk => by rw [nI_add]; exact vp_in_nI (by omega) (by omega)
  obtain ⟨fx, rx⟩ := rx
  obtain ⟨fm, rm⟩ := rm
  refine lv_aload_n hx hb dL_law_700 rfl (lv_at hl 1 rfl) ?_
  refine lv_aload_n hx hb dL_law_701 rfl (lv_at hl 0 rfl) ?_
  refine lv_iload_n hx hb dL_law_702 rfl (lv_at hl 3 rfl) ?_
  refine lv_iconst (v := nI 1) hx hb dL_law_703 (by decide) ?_
  refine lv_iadd hx hb dL_law_704 ?_
  refine va_sld hx hb hX hbl hbA hS (hin 1 (by decide)) dL_law_705 ?_
  refine lv_aload_n hx hb dL_law_706 rfl (lv_at hl 0 rfl) ?_
  refine lv_iload_n hx hb dL_law_707 rfl (lv_at hl 3 rfl) ?_
  refine lv_iconst (v := nI 2) hx hb dL_law_708 (by decide) ?_
  refine lv_iadd hx hb dL_law_709 ?_
  refine va_sld hx hb hX hbl hbA hS (hin 2 (by decide)) dL_law_710 ?_
  refine lv_aload_n hx hb dL_law_711 rfl (lv_at hl 0 rfl) ?_
  refine lv_iload_n hx hb dL_law_712 rfl (lv_at hl 3 rfl) ?_
  refine lv_iconst (v := nI 3) hx hb dL_law_713 (by decide) ?_
  refine lv_iadd hx hb dL_law_714 ?_
  refine va_sld hx hb hX hbl hbA hS (hin 3 (by decide)) dL_law_715 ?_
  refine lv_aload_n hx hb dL_law_716 rfl (lv_at hl 0 rfl) ?_
  refine lv_iload_n hx hb dL_law_717 rfl (lv_at hl 3 rfl) ?_
  refine lv_iconst (v := nI 4) hx hb dL_law_718 (by decide) ?_
  refine lv_iadd hx hb dL_law_719 ?_
  refine va_sld hx hb hX hbl hbA hS (hin 4 (by decide)) dL_law_720 ?_
  have sb : Sb D (LA s) H wx := Sb.rg hP hD hS hA
  refine calI (va_runV (As := [.int (xs (nI i + nI 1).toNatClampNeg), .int (xs (nI i + nI 2).toNatClampNeg), .int (xs (nI i + nI 3).toNatClampNeg), .int (xs (nI i + nI 4).toNatClampNeg)]) (rest := []) ⟨hx, hb, hml, hown, hts⟩ (c1 H.size) (cwV 4 hts gL_law_X11_law rfl rfl rfl (by decide +kernel) ⟨(Nat.le_of_ble_eq_true rfl), (Nat.le_of_ble_eq_true rfl)⟩) (pvV hE hK hS sb (va_recv hK sb.1 (ci := 11) rfl rx)) rfl rfl hl.1 rfl (lv_room (Nat.le_of_ble_eq_true rfl)) dL_law_721 ⟨show K + 0 ≤ 600000 by omega, show M + 0 ≤ 7302250 by omega⟩) hS sb (Jn.grow hP hD sb.2.2) (fun H locs hP hD hS => ?_)
  clear sb
  refine lv_aload_n hx hb dL_law_724 rfl (lv_at hl 2 rfl) ?_
  refine lv_aload_n hx hb dL_law_725 rfl (lv_at hl 0 rfl) ?_
  refine lv_iload_n hx hb dL_law_726 rfl (lv_at hl 3 rfl) ?_
  refine lv_iconst (v := nI 1) hx hb dL_law_727 (by decide) ?_
  refine lv_iadd hx hb dL_law_728 ?_
  refine va_sld hx hb hX hbl hbA hS (hin 1 (by decide)) dL_law_729 ?_
  refine lv_aload_n hx hb dL_law_730 rfl (lv_at hl 0 rfl) ?_
  refine lv_iload_n hx hb dL_law_731 rfl (lv_at hl 3 rfl) ?_
  refine lv_iconst (v := nI 2) hx hb dL_law_732 (by decide) ?_
  refine lv_iadd hx hb dL_law_733 ?_
  refine va_sld hx hb hX hbl hbA hS (hin 2 (by decide)) dL_law_734 ?_
  refine lv_aload_n hx hb dL_law_735 rfl (lv_at hl 0 rfl) ?_
  refine lv_iload_n hx hb dL_law_736 rfl (lv_at hl 3 rfl) ?_
  refine lv_iconst (v := nI 3) hx hb dL_law_737 (by decide) ?_
  refine lv_iadd hx hb dL_law_738 ?_
  refine va_sld hx hb hX hbl hbA hS (hin 3 (by decide)) dL_law_739 ?_
  refine lv_aload_n hx hb dL_law_740 rfl (lv_at hl 0 rfl) ?_
  refine lv_iload_n hx hb dL_law_741 rfl (lv_at hl 3 rfl) ?_
  refine lv_iconst (v := nI 4) hx hb dL_law_742 (by decide) ?_
  refine lv_iadd hx hb dL_law_743 ?_
  refine va_sld hx hb hX hbl hbA hS (hin 4 (by decide)) dL_law_744 ?_
  have sb : Sb D (LA s) H wm := Sb.lf hP hD hS hA
  refine calI (va_runV (As := [.int (xs (nI i + nI 1).toNatClampNeg), .int (xs (nI i + nI 2).toNatClampNeg), .int (xs (nI i + nI 3).toNatClampNeg), .int (xs (nI i + nI 4).toNatClampNeg)]) (rest := [.int r]) ⟨hx, hb, hml, hown, hts⟩ (c2 H.size) (cwV 4 hts gL_law_X12_law rfl rfl rfl (by decide +kernel) ⟨(Nat.le_of_ble_eq_true rfl), (Nat.le_of_ble_eq_true rfl)⟩) (pvV hE hK hS sb (va_recv hK sb.1 (ci := 12) rfl rm)) rfl rfl hl.1 rfl (lv_room (Nat.le_of_ble_eq_true rfl)) dL_law_745 ⟨show K + 0 ≤ 600000 by omega, show M + 0 ≤ 7302250 by omega⟩) hS sb (Jn.growL hP hD sb.2.2) (fun H locs hP hD hS => ?_)
  refine lv_icmp_eq (tgt := 1603) hx hb dL_law_748 (by decide) (fun _ => ?_) (fun h9 => absurd rfl h9)
  refine W.widen (k := K + 4) (n := M + 157) (by omega) (by omega) ?_
  exact k _ _ hP hD hS
set_option maxHeartbeats 4000000 in
set_option maxRecDepth 100000 in
theorem wk_hours (C : LX p l e s m below meth c b N xs G D cA) (C2 : i + 6 ≤ N ∧ N ≤ 3072 ∧ K ≤ 590000 ∧ M ≤ 7200000) (hP : va_P D vwCl (wm ++ wx) H) (hD : va_D (LA s) (wm ++ wx)) (hS : va_S (LA s) s.heap H locs) (hl : lv_has ls 4 [(0, .ref b), (1, .ref x0), (2, .ref m0), (3, .int (nI i))]) (rx : ∃ fx : List Value, wx[0]? = some (x0, .inr (11, fx))) (rm : ∃ fm : List Value, wm[0]? = some (m0, .inr (12, fm))) (c1 : ∀ sz : Nat, Met l yX11_hours wsX11_hours ({ frames := 6, cells := 0, slots := 0, locals := 141 } : Room) (PW G D (tyC cA) sz wx [.ref x0, .int (xs (nI i + nI 1).toNatClampNeg)]) (QI D (tyC cA) (va_A wx sz) r wx1) 0 0 (va_A wx sz)) (c2 : ∀ sz : Nat, Met l yX12_hours wsX12_hours ({ frames := 7, cells := 0, slots := 0, locals := 164 } : Room) (PW G D (tyC cA) sz wm [.ref m0, .int (xs (nI i + nI 1).toNatClampNeg)]) (QI D (tyC cA) (va_A wm sz) r wm1) 0 0 (va_A wm sz)) (k : ∀ (H : Heap) (locs : List Loc), va_P D vwCl (wm1 ++ wx1) H → va_D (LA s) (wm1 ++ wx1) → va_S (LA s) s.heap H locs → W p l e room_1 s m #[Value.ref b] below meth c H locs (K + 4) (M + 157) (lw_Z below #[Value.ref b] s) (F0 m 1603 ls [])) : W p l e room_1 s m #[Value.ref b] below meth c H locs K M (lw_Z below #[Value.ref b] s) (F0 m 753 ls []) := by
  obtain ⟨hx, hb, hr, hml, hown, hts, hX, hbl, hlocks, hK, hE⟩ := C
  have hA : ∀ q : Nat, s.heap.size ≤ q → LA s q := fun _ h => h
  have hbA : ¬ LA s b := Nat.not_le.mpr hbl
  have hin : ∀ k, k < 6 → vp_in (nI i + nI k) N := fun k hk => by rw [nI_add]; exact vp_in_nI (by omega) (by omega)
  obtain ⟨fx, rx⟩ := rx
  obtain ⟨fm, rm⟩ := rm
  refine lv_aload_n hx hb dL_law_753 rfl (lv_at hl 1 rfl) ?_
  refine lv_aload_n hx hb dL_law_754 rfl (lv_at hl 0 rfl) ?_
  refine lv_iload_n hx hb dL_law_755 rfl (lv_at hl 3 rfl) ?_
  refine lv_iconst (v := nI 1) hx hb dL_law_756 (by decide) ?_
  refine lv_iadd hx hb dL_law_757 ?_
  refine va_sld hx hb hX hbl hbA hS (hin 1 (by decide)) dL_law_758 ?_
  have sb : Sb D (LA s) H wx := Sb.rg hP hD hS hA
  refine calI (va_runV (As := [.int (xs (nI i + nI 1).toNatClampNeg)]) (rest := []) ⟨hx, hb, hml, hown, hts⟩ (c1 H.size) (cwV 1 hts gL_law_X11_hours rfl rfl rfl (by decide +kernel) ⟨(Nat.le_of_ble_eq_true rfl), (Nat.le_of_ble_eq_true rfl)⟩) (pvV hE hK hS sb (va_recv hK sb.1 (ci := 11) rfl rx)) rfl rfl hl.1 rfl (lv_room (Nat.le_of_ble_eq_true rfl)) dL_law_759 ⟨show K + 0 ≤ 600000 by omega, show M + 0 ≤ 7302250 by omega⟩) hS sb (Jn.grow hP hD sb.2.2) (fun H locs hP hD hS => ?_)
  clear sb
  refine lv_aload_n hx hb dL_law_762 rfl (lv_at hl 2 rfl) ?_
  refine lv_aload_n hx hb dL_law_763 rfl (lv_at hl 0 rfl) ?_
  refine lv_iload_n hx hb dL_law_764 rfl (lv_at hl 3 rfl) ?_
  refine lv_iconst (v := nI 1) hx hb dL_law_765 (by decide) ?_
  refine lv_iadd hx hb dL_law_766 ?_
  refine va_sld hx hb hX hbl hbA hS (hin 1 (by decide)) dL_law_767 ?_
  have sb : Sb D (LA s) H wm := Sb.lf hP hD hS hA
  refine calI (va_runV (As := [.int (xs (nI i + nI 1).toNatClampNeg)]) (rest := [.int r]) ⟨hx, hb, hml, hown, hts⟩ (c2 H.size) (cwV 1 hts gL_law_X12_hours rfl rfl rfl (by decide +kernel) ⟨(Nat.le_of_ble_eq_true rfl), (Nat.le_of_ble_eq_true rfl)⟩) (pvV hE hK hS sb (va_recv hK sb.1 (ci := 12) rfl rm)) rfl rfl hl.1 rfl (lv_room (Nat.le_of_ble_eq_true rfl)) dL_law_768 ⟨show K + 0 ≤ 600000 by omega, show M + 0 ≤ 7302250 by omega⟩) hS sb (Jn.growL hP hD sb.2.2) (fun H locs hP hD hS => ?_)
  refine lv_icmp_eq (tgt := 1603) hx hb dL_law_771 (by decide) (fun _ => ?_) (fun h9 => absurd rfl h9)
  refine W.widen (k := K + 4) (n := M + 157) (by omega) (by omega) ?_
  exact k _ _ hP hD hS
set_option maxHeartbeats 4000000 in
set_option maxRecDepth 100000 in
theorem wk_loose (C : LX p l e s m below meth c b N xs G D cA) (C2 : i + 6 ≤ N ∧ N ≤ 3072 ∧ K ≤ 590000 ∧ M ≤ 7200000) (hP : va_P D vwCl (wm ++ wx) H) (hD : va_D (LA s) (wm ++ wx)) (hS : va_S (LA s) s.heap H locs) (hl : lv_has ls 4 [(0, .ref b), (1, .ref x0), (2, .ref m0), (3, .int (nI i))]) (rx : ∃ fx : List Value, wx[0]? = some (x0, .inr (11, fx))) (rm : ∃ fm : List Value, wm[0]? = some (m0, .inr (12, fm))) (c1 : ∀ sz : Nat, Met l yX11_loose wsX11_loose ({ frames := 6, cells := 0, slots := 0, locals := 141 } : Room) (PW G D (tyC cA) sz wx [.ref x0, .int (xs (nI i + nI 1).toNatClampNeg)]) (QI D (tyC cA) (va_A wx sz) r wx1) 0 0 (va_A wx sz)) (c2 : ∀ sz : Nat, Met l yX12_loose wsX12_loose ({ frames := 6, cells := 0, slots := 0, locals := 142 } : Room) (PW G D (tyC cA) sz wm [.ref m0, .int (xs (nI i + nI 1).toNatClampNeg)]) (QI D (tyC cA) (va_A wm sz) r wm1) 0 0 (va_A wm sz)) (k : ∀ (H : Heap) (locs : List Loc), va_P D vwCl (wm1 ++ wx1) H → va_D (LA s) (wm1 ++ wx1) → va_S (LA s) s.heap H locs → W p l e room_1 s m #[Value.ref b] below meth c H locs (K + 4) (M + 157) (lw_Z below #[Value.ref b] s) (F0 m 1603 ls [])) : W p l e room_1 s m #[Value.ref b] below meth c H locs K M (lw_Z below #[Value.ref b] s) (F0 m 776 ls []) := by
  obtain ⟨hx, hb, hr, hml, hown, hts, hX, hbl, hlocks, hK, hE⟩ := C
  have hA : ∀ q : Nat, s.heap.size ≤ q → LA s q := fun _ h => h
  have hbA : ¬ LA s b := Nat.not_le.mpr hbl
  have hin : ∀ k, k < 6 → vp_in (nI i + nI k) N := fun k hk => by rw [nI_add]; exact vp_in_nI (by omega) (by omega)
  obtain ⟨fx, rx⟩ := rx
  obtain ⟨fm, rm⟩ := rm
  refine lv_aload_n hx hb dL_law_776 rfl (lv_at hl 1 rfl) ?_
  refine lv_aload_n hx hb dL_law_777 rfl (lv_at hl 0 rfl) ?_
  refine lv_iload_n hx hb dL_law_778 rfl (lv_at hl 3 rfl) ?_
  refine lv_iconst (v := nI 1) hx hb dL_law_779 (by decide) ?_
  refine lv_iadd hx hb dL_law_780 ?_
  refine va_sld hx hb hX hbl hbA hS (hin 1 (by decide)) dL_law_781 ?_
  have sb : Sb D (LA s) H wx := Sb.rg hP hD hS hA
  refine calI (va_runV (As := [.int (xs (nI i + nI 1).toNatClampNeg)]) (rest := []) ⟨hx, hb, hml, hown, hts⟩ (c1 H.size) (cwV 1 hts gL_law_X11_loose rfl rfl rfl (by decide +kernel) ⟨(Nat.le_of_ble_eq_true rfl), (Nat.le_of_ble_eq_true rfl)⟩) (pvV hE hK hS sb (va_recv hK sb.1 (ci := 11) rfl rx)) rfl rfl hl.1 rfl (lv_room (Nat.le_of_ble_eq_true rfl)) dL_law_782 ⟨show K + 0 ≤ 600000 by omega, show M + 0 ≤ 7302250 by omega⟩) hS sb (Jn.grow hP hD sb.2.2) (fun H locs hP hD hS => ?_)
  clear sb
  refine lv_aload_n hx hb dL_law_785 rfl (lv_at hl 2 rfl) ?_
  refine lv_aload_n hx hb dL_law_786 rfl (lv_at hl 0 rfl) ?_
  refine lv_iload_n hx hb dL_law_787 rfl (lv_at hl 3 rfl) ?_
  refine lv_iconst (v := nI 1) hx hb dL_law_788 (by decide) ?_
  refine lv_iadd hx hb dL_law_789 ?_
  refine va_sld hx hb hX hbl hbA hS (hin 1 (by decide)) dL_law_790 ?_
  have sb : Sb D (LA s) H wm := Sb.lf hP hD hS hA
  refine calI (va_runV (As := [.int (xs (nI i + nI 1).toNatClampNeg)]) (rest := [.int r]) ⟨hx, hb, hml, hown, hts⟩ (c2 H.size) (cwV 1 hts gL_law_X12_loose rfl rfl rfl (by decide +kernel) ⟨(Nat.le_of_ble_eq_true rfl), (Nat.le_of_ble_eq_true rfl)⟩) (pvV hE hK hS sb (va_recv hK sb.1 (ci := 12) rfl rm)) rfl rfl hl.1 rfl (lv_room (Nat.le_of_ble_eq_true rfl)) dL_law_791 ⟨show K + 0 ≤ 600000 by omega, show M + 0 ≤ 7302250 by omega⟩) hS sb (Jn.growL hP hD sb.2.2) (fun H locs hP hD hS => ?_)
  refine lv_icmp_eq (tgt := 1603) hx hb dL_law_794 (by decide) (fun _ => ?_) (fun h9 => absurd rfl h9)
  refine W.widen (k := K + 4) (n := M + 157) (by omega) (by omega) ?_
  exact k _ _ hP hD hS
set_option maxHeartbeats 4000000 in
set_option maxRecDepth 100000 in
theorem wk_then (C : LX p l e s m below meth c b N xs G D cA) (C2 : i + 6 ≤ N ∧ N ≤ 3072 ∧ K ≤ 590000 ∧ M ≤ 7200000) (hP : va_P D vwCl (wm ++ wx) H) (hD : va_D (LA s) (wm ++ wx)) (hS : va_S (LA s) s.heap H locs) (hl : lv_has ls 4 [(0, .ref b), (1, .ref x0), (2, .ref m0), (3, .int (nI i))]) (rx : ∃ fx : List Value, wx[0]? = some (x0, .inr (11, fx))) (rm : ∃ fm : List Value, wm[0]? = some (m0, .inr (12, fm))) (c1 : ∀ sz : Nat, Met l yX11_then wsX11_then ({ frames := 6, cells := 0, slots := 0, locals := 141 } : Room) (PW G D (tyC cA) sz wx [.ref x0, .int (xs (nI i + nI 1).toNatClampNeg), .int (xs (nI i + nI 2).toNatClampNeg), .int (xs (nI i + nI 3).toNatClampNeg)]) (QI D (tyC cA) (va_A wx sz) r wx1) 0 0 (va_A wx sz)) (c2 : ∀ sz : Nat, Met l yX12_then wsX12_then ({ frames := 7, cells := 0, slots := 0, locals := 164 } : Room) (PW G D (tyC cA) sz wm [.ref m0, .int (xs (nI i + nI 1).toNatClampNeg), .int (xs (nI i + nI 2).toNatClampNeg), .int (xs (nI i + nI 3).toNatClampNeg)]) (QI D (tyC cA) (va_A wm sz) r wm1) 0 0 (va_A wm sz)) (k : ∀ (H : Heap) (locs : List Loc), va_P D vwCl (wm1 ++ wx1) H → va_D (LA s) (wm1 ++ wx1) → va_S (LA s) s.heap H locs → W p l e room_1 s m #[Value.ref b] below meth c H locs (K + 4) (M + 157) (lw_Z below #[Value.ref b] s) (F0 m 1603 ls [])) : W p l e room_1 s m #[Value.ref b] below meth c H locs K M (lw_Z below #[Value.ref b] s) (F0 m 799 ls []) := by
  obtain ⟨hx, hb, hr, hml, hown, hts, hX, hbl, hlocks, hK, hE⟩ := C
  have hA : ∀ q : Nat, s.heap.size ≤ q → LA s q := fun _ h => h
  have hbA : ¬ LA s b := Nat.not_le.mpr hbl
  have hin : ∀ k, k < 6 → vp_in (nI i + nI k) N := fun k hk => by rw [nI_add]; exact vp_in_nI (by omega) (by omega)
  obtain ⟨fx, rx⟩ := rx
  obtain ⟨fm, rm⟩ := rm
  refine lv_aload_n hx hb dL_law_799 rfl (lv_at hl 1 rfl) ?_
  refine lv_aload_n hx hb dL_law_800 rfl (lv_at hl 0 rfl) ?_
  refine lv_iload_n hx hb dL_law_801 rfl (lv_at hl 3 rfl) ?_
  refine lv_iconst (v := nI 1) hx hb dL_law_802 (by decide) ?_
  refine lv_iadd hx hb dL_law_803 ?_
  refine va_sld hx hb hX hbl hbA hS (hin 1 (by decide)) dL_law_804 ?_
  refine lv_aload_n hx hb dL_law_805 rfl (lv_at hl 0 rfl) ?_
  refine lv_iload_n hx hb dL_law_806 rfl (lv_at hl 3 rfl) ?_
  refine lv_iconst (v := nI 2) hx hb dL_law_807 (by decide) ?_
  refine lv_iadd hx hb dL_law_808 ?_
  refine va_sld hx hb hX hbl hbA hS (hin 2 (by decide)) dL_law_809 ?_
  refine lv_aload_n hx hb dL_law_810 rfl (lv_at hl 0 rfl) ?_
  refine lv_iload_n hx hb dL_law_811 rfl (lv_at hl 3 rfl) ?_
  refine lv_iconst (v := nI 3) hx hb dL_law_812 (by decide) ?_
  refine lv_iadd hx hb dL_law_813 ?_
  refine va_sld hx hb hX hbl hbA hS (hin 3 (by decide)) dL_law_814 ?_
  have sb : Sb D (LA s) H wx := Sb.rg hP hD hS hA
  refine calI (va_runV (As := [.int (xs (nI i + nI 1).toNatClampNeg), .int (xs (nI i + nI 2).toNatClampNeg), .int (xs (nI i + nI 3).toNatClampNeg)]) (rest := []) ⟨hx, hb, hml, hown, hts⟩ (c1 H.size) (cwV 3 hts gL_law_X11_then rfl rfl rfl (by decide +kernel) ⟨(Nat.le_of_ble_eq_true rfl), (Nat.le_of_ble_eq_true rfl)⟩) (pvV hE hK hS sb (va_recv hK sb.1 (ci := 11) rfl rx)) rfl rfl hl.1 rfl (lv_room (Nat.le_of_ble_eq_true rfl)) dL_law_815 ⟨show K + 0 ≤ 600000 by omega, show M + 0 ≤ 7302250 by omega⟩) hS sb (Jn.grow hP hD sb.2.2) (fun H locs hP hD hS => ?_)
  clear sb
  refine lv_aload_n hx hb dL_law_818 rfl (lv_at hl 2 rfl) ?_
  refine lv_aload_n hx hb dL_law_819 rfl (lv_at hl 0 rfl) ?_
  refine lv_iload_n hx hb dL_law_820 rfl (lv_at hl 3 rfl) ?_
  refine lv_iconst (v := nI 1) hx hb dL_law_821 (by decide) ?_
  refine lv_iadd hx hb dL_law_822 ?_
  refine va_sld hx hb hX hbl hbA hS (hin 1 (by decide)) dL_law_823 ?_
  refine lv_aload_n hx hb dL_law_824 rfl (lv_at hl 0 rfl) ?_
  refine lv_iload_n hx hb dL_law_825 rfl (lv_at hl 3 rfl) ?_
  refine lv_iconst (v := nI 2) hx hb dL_law_826 (by decide) ?_
  refine lv_iadd hx hb dL_law_827 ?_
  refine va_sld hx hb hX hbl hbA hS (hin 2 (by decide)) dL_law_828 ?_
  refine lv_aload_n hx hb dL_law_829 rfl (lv_at hl 0 rfl) ?_
  refine lv_iload_n hx hb dL_law_830 rfl (lv_at hl 3 rfl) ?_
  refine lv_iconst (v := nI 3) hx hb dL_law_831 (by decide) ?_
  refine lv_iadd hx hb dL_law_832 ?_
  refine va_sld hx hb hX hbl hbA hS (hin 3 (by decide)) dL_law_833 ?_
  have sb : Sb D (LA s) H wm := Sb.lf hP hD hS hA
  refine calI (va_runV (As := [.int (xs (nI i + nI 1).toNatClampNeg), .int (xs (nI i + nI 2).toNatClampNeg), .int (xs (nI i + nI 3).toNatClampNeg)]) (rest := [.int r]) ⟨hx, hb, hml, hown, hts⟩ (c2 H.size) (cwV 3 hts gL_law_X12_then rfl rfl rfl (by decide +kernel) ⟨(Nat.le_of_ble_eq_true rfl), (Nat.le_of_ble_eq_true rfl)⟩) (pvV hE hK hS sb (va_recv hK sb.1 (ci := 12) rfl rm)) rfl rfl hl.1 rfl (lv_room (Nat.le_of_ble_eq_true rfl)) dL_law_834 ⟨show K + 0 ≤ 600000 by omega, show M + 0 ≤ 7302250 by omega⟩) hS sb (Jn.growL hP hD sb.2.2) (fun H locs hP hD hS => ?_)
  refine lv_icmp_eq (tgt := 1603) hx hb dL_law_837 (by decide) (fun _ => ?_) (fun h9 => absurd rfl h9)
  refine W.widen (k := K + 4) (n := M + 157) (by omega) (by omega) ?_
  exact k _ _ hP hD hS
set_option maxHeartbeats 4000000 in
set_option maxRecDepth 100000 in
theorem wk_spreads (C : LX p l e s m below meth c b N xs G D cA) (C2 : i + 6 ≤ N ∧ N ≤ 3072 ∧ K ≤ 590000 ∧ M ≤ 7200000) (hP : va_P D vwCl (wm ++ wx) H) (hD : va_D (LA s) (wm ++ wx)) (hS : va_S (LA s) s.heap H locs) (hl : lv_has ls 4 [(0, .ref b), (1, .ref x0), (2, .ref m0), (3, .int (nI i))]) (rx : ∃ fx : List Value, wx[0]? = some (x0, .inr (11, fx))) (rm : ∃ fm : List Value, wm[0]? = some (m0, .inr (12, fm))) (c1 : ∀ sz : Nat, Met l yX11_spreads wsX11_spreads ({ frames := 6, cells := 0, slots := 0, locals := 141 } : Room) (PW G D (tyC cA) sz wx [.ref x0, .int (xs (nI i + nI 1).toNatClampNeg)]) (QI D (tyC cA) (va_A wx sz) r wx1) 0 0 (va_A wx sz)) (c2 : ∀ sz : Nat, Met l yX12_spreads wsX12_spreads ({ frames := 8, cells := 0, slots := 0, locals := 186 } : Room) (PW G D (tyC cA) sz wm [.ref m0, .int (xs (nI i + nI 1).toNatClampNeg)]) (QI D (tyC cA) (va_A wm sz) r wm1) 0 0 (va_A wm sz)) (k : ∀ (H : Heap) (locs : List Loc), va_P D vwCl (wm1 ++ wx1) H → va_D (LA s) (wm1 ++ wx1) → va_S (LA s) s.heap H locs → W p l e room_1 s m #[Value.ref b] below meth c H locs (K + 4) (M + 157) (lw_Z below #[Value.ref b] s) (F0 m 1603 ls [])) : W p l e room_1 s m #[Value.ref b] below meth c H locs K M (lw_Z below #[Value.ref b] s) (F0 m 842 ls []) := by
  obtain ⟨hx, hb, hr, hml, hown, hts, hX, hbl, hlocks, hK, hE⟩ := C
  have hA : ∀ q : Nat, s.heap.size ≤ q → LA s q := fun _ h => h
  have hbA : ¬ LA s b := Nat.not_le.mpr hbl
  have hin : ∀ k, k < 6 → vp_in (nI i + nI k) N := fun k hk => by rw [nI_add]; exact vp_in_nI (by omega) (by omega)
  obtain ⟨fx, rx⟩ := rx
  obtain ⟨fm, rm⟩ := rm
  refine lv_aload_n hx hb dL_law_842 rfl (lv_at hl 1 rfl) ?_
  refine lv_aload_n hx hb dL_law_843 rfl (lv_at hl 0 rfl) ?_
  refine lv_iload_n hx hb dL_law_844 rfl (lv_at hl 3 rfl) ?_
  refine lv_iconst (v := nI 1) hx hb dL_law_845 (by decide) ?_
  refine lv_iadd hx hb dL_law_846 ?_
  refine va_sld hx hb hX hbl hbA hS (hin 1 (by decide)) dL_law_847 ?_
  have sb : Sb D (LA s) H wx := Sb.rg hP hD hS hA
  refine calI (va_runV (As := [.int (xs (nI i + nI 1).toNatClampNeg)]) (rest := []) ⟨hx, hb, hml, hown, hts⟩ (c1 H.size) (cwV 1 hts gL_law_X11_spreads rfl rfl rfl (by decide +kernel) ⟨(Nat.le_of_ble_eq_true rfl), (Nat.le_of_ble_eq_true rfl)⟩) (pvV hE hK hS sb (va_recv hK sb.1 (ci := 11) rfl rx)) rfl rfl hl.1 rfl (lv_room (Nat.le_of_ble_eq_true rfl)) dL_law_848 ⟨show K + 0 ≤ 600000 by omega, show M + 0 ≤ 7302250 by omega⟩) hS sb (Jn.grow hP hD sb.2.2) (fun H locs hP hD hS => ?_)
  clear sb
  refine lv_aload_n hx hb dL_law_851 rfl (lv_at hl 2 rfl) ?_
  refine lv_aload_n hx hb dL_law_852 rfl (lv_at hl 0 rfl) ?_
  refine lv_iload_n hx hb dL_law_853 rfl (lv_at hl 3 rfl) ?_
  refine lv_iconst (v := nI 1) hx hb dL_law_854 (by decide) ?_
  refine lv_iadd hx hb dL_law_855 ?_
  refine va_sld hx hb hX hbl hbA hS (hin 1 (by decide)) dL_law_856 ?_
  have sb : Sb D (LA s) H wm := Sb.lf hP hD hS hA
  refine calI (va_runV (As := [.int (xs (nI i + nI 1).toNatClampNeg)]) (rest := [.int r]) ⟨hx, hb, hml, hown, hts⟩ (c2 H.size) (cwV 1 hts gL_law_X12_spreads rfl rfl rfl (by decide +kernel) ⟨(Nat.le_of_ble_eq_true rfl), (Nat.le_of_ble_eq_true rfl)⟩) (pvV hE hK hS sb (va_recv hK sb.1 (ci := 12) rfl rm)) rfl rfl hl.1 rfl (lv_room (Nat.le_of_ble_eq_true rfl)) dL_law_857 ⟨show K + 0 ≤ 600000 by omega, show M + 0 ≤ 7302250 by omega⟩) hS sb (Jn.growL hP hD sb.2.2) (fun H locs hP hD hS => ?_)
  refine lv_icmp_eq (tgt := 1603) hx hb dL_law_860 (by decide) (fun _ => ?_) (fun h9 => absurd rfl h9)
  refine W.widen (k := K + 4) (n := M + 157) (by omega) (by omega) ?_
  exact k _ _ hP hD hS
set_option maxHeartbeats 4000000 in
set_option maxRecDepth 100000 in
theorem wk_when (C : LX p l e s m below meth c b N xs G D cA) (C2 : i + 6 ≤ N ∧ N ≤ 3072 ∧ K ≤ 590000 ∧ M ≤ 7200000) (hP : va_P D vwCl (wm ++ wx) H) (hD : va_D (LA s) (wm ++ wx)) (hS : va_S (LA s) s.heap H locs) (hl : lv_has ls 4 [(0, .ref b), (1, .ref x0), (2, .ref m0), (3, .int (nI i))]) (rx : ∃ fx : List Value, wx[0]? = some (x0, .inr (11, fx))) (rm : ∃ fm : List Value, wm[0]? = some (m0, .inr (12, fm))) (c1 : ∀ sz : Nat, Met l yX11_when wsX11_when ({ frames := 6, cells := 0, slots := 0, locals := 141 } : Room) (PW G D (tyC cA) sz wx [.ref x0, .int (xs (nI i + nI 1).toNatClampNeg)]) (QI D (tyC cA) (va_A wx sz) r wx1) 0 0 (va_A wx sz)) (c2 : ∀ sz : Nat, Met l yX12_when wsX12_when ({ frames := 6, cells := 0, slots := 0, locals := 142 } : Room) (PW G D (tyC cA) sz wm [.ref m0, .int (xs (nI i + nI 1).toNatClampNeg)]) (QI D (tyC cA) (va_A wm sz) r wm1) 0 0 (va_A wm sz)) (k : ∀ (H : Heap) (locs : List Loc), va_P D vwCl (wm1 ++ wx1) H → va_D (LA s) (wm1 ++ wx1) → va_S (LA s) s.heap H locs → W p l e room_1 s m #[Value.ref b] below meth c H locs (K + 4) (M + 157) (lw_Z below #[Value.ref b] s) (F0 m 1603 ls [])) : W p l e room_1 s m #[Value.ref b] below meth c H locs K M (lw_Z below #[Value.ref b] s) (F0 m 865 ls []) := by
  obtain ⟨hx, hb, hr, hml, hown, hts, hX, hbl, hlocks, hK, hE⟩ := C
  have hA : ∀ q : Nat, s.heap.size ≤ q → LA s q := fun _ h => h
  have hbA : ¬ LA s b := Nat.not_le.mpr hbl
  have hin : ∀ k, k < 6 → vp_in (nI i + nI k) N := fun k hk => by rw [nI_add]; exact vp_in_nI (by omega) (by omega)
  obtain ⟨fx, rx⟩ := rx
  obtain ⟨fm, rm⟩ := rm
  refine lv_aload_n hx hb dL_law_865 rfl (lv_at hl 1 rfl) ?_
  refine lv_aload_n hx hb dL_law_866 rfl (lv_at hl 0 rfl) ?_
  refine lv_iload_n hx hb dL_law_867 rfl (lv_at hl 3 rfl) ?_
  refine lv_iconst (v := nI 1) hx hb dL_law_868 (by decide) ?_
  refine lv_iadd hx hb dL_law_869 ?_
  refine va_sld hx hb hX hbl hbA hS (hin 1 (by decide)) dL_law_870 ?_
  have sb : Sb D (LA s) H wx := Sb.rg hP hD hS hA
  refine calI (va_runV (As := [.int (xs (nI i + nI 1).toNatClampNeg)]) (rest := []) ⟨hx, hb, hml, hown, hts⟩ (c1 H.size) (cwV 1 hts gL_law_X11_when rfl rfl rfl (by decide +kernel) ⟨(Nat.le_of_ble_eq_true rfl), (Nat.le_of_ble_eq_true rfl)⟩) (pvV hE hK hS sb (va_recv hK sb.1 (ci := 11) rfl rx)) rfl rfl hl.1 rfl (lv_room (Nat.le_of_ble_eq_true rfl)) dL_law_871 ⟨show K + 0 ≤ 600000 by omega, show M + 0 ≤ 7302250 by omega⟩) hS sb (Jn.grow hP hD sb.2.2) (fun H locs hP hD hS => ?_)
  clear sb
  refine lv_aload_n hx hb dL_law_874 rfl (lv_at hl 2 rfl) ?_
  refine lv_aload_n hx hb dL_law_875 rfl (lv_at hl 0 rfl) ?_
  refine lv_iload_n hx hb dL_law_876 rfl (lv_at hl 3 rfl) ?_
  refine lv_iconst (v := nI 1) hx hb dL_law_877 (by decide) ?_
  refine lv_iadd hx hb dL_law_878 ?_
  refine va_sld hx hb hX hbl hbA hS (hin 1 (by decide)) dL_law_879 ?_
  have sb : Sb D (LA s) H wm := Sb.lf hP hD hS hA
  refine calI (va_runV (As := [.int (xs (nI i + nI 1).toNatClampNeg)]) (rest := [.int r]) ⟨hx, hb, hml, hown, hts⟩ (c2 H.size) (cwV 1 hts gL_law_X12_when rfl rfl rfl (by decide +kernel) ⟨(Nat.le_of_ble_eq_true rfl), (Nat.le_of_ble_eq_true rfl)⟩) (pvV hE hK hS sb (va_recv hK sb.1 (ci := 12) rfl rm)) rfl rfl hl.1 rfl (lv_room (Nat.le_of_ble_eq_true rfl)) dL_law_880 ⟨show K + 0 ≤ 600000 by omega, show M + 0 ≤ 7302250 by omega⟩) hS sb (Jn.growL hP hD sb.2.2) (fun H locs hP hD hS => ?_)
  refine lv_icmp_eq (tgt := 1603) hx hb dL_law_883 (by decide) (fun _ => ?_) (fun h9 => absurd rfl h9)
  refine W.widen (k := K + 4) (n := M + 157) (by omega) (by omega) ?_
  exact k _ _ hP hD hS
set_option maxHeartbeats 4000000 in
set_option maxRecDepth 100000 in
theorem wk_lasts (C : LX p l e s m below meth c b N xs G D cA) (C2 : i + 6 ≤ N ∧ N ≤ 3072 ∧ K ≤ 590000 ∧ M ≤ 7200000) (hP : va_P D vwCl (wm ++ wx) H) (hD : va_D (LA s) (wm ++ wx)) (hS : va_S (LA s) s.heap H locs) (hl : lv_has ls 4 [(0, .ref b), (1, .ref x0), (2, .ref m0), (3, .int (nI i))]) (rx : ∃ fx : List Value, wx[0]? = some (x0, .inr (11, fx))) (rm : ∃ fm : List Value, wm[0]? = some (m0, .inr (12, fm))) (c1 : ∀ sz : Nat, Met l yX11_lasts wsX11_lasts ({ frames := 6, cells := 0, slots := 0, locals := 141 } : Room) (PW G D (tyC cA) sz wx [.ref x0, .int (xs (nI i + nI 1).toNatClampNeg)]) (QI D (tyC cA) (va_A wx sz) r wx1) 0 0 (va_A wx sz)) (c2 : ∀ sz : Nat, Met l yX12_lasts wsX12_lasts ({ frames := 6, cells := 0, slots := 0, locals := 142 } : Room) (PW G D (tyC cA) sz wm [.ref m0, .int (xs (nI i + nI 1).toNatClampNeg)]) (QI D (tyC cA) (va_A wm sz) r wm1) 0 0 (va_A wm sz)) (k : ∀ (H : Heap) (locs : List Loc), va_P D vwCl (wm1 ++ wx1) H → va_D (LA s) (wm1 ++ wx1) → va_S (LA s) s.heap H locs → W p l e room_1 s m #[Value.ref b] below meth c H locs (K + 4) (M + 157) (lw_Z below #[Value.ref b] s) (F0 m 1603 ls [])) : W p l e room_1 s m #[Value.ref b] below meth c H locs K M (lw_Z below #[Value.ref b] s) (F0 m 888 ls []) := by
  obtain ⟨hx, hb, hr, hml, hown, hts, hX, hbl, hlocks, hK, hE⟩ := C
  have hA : ∀ q : Nat, s.heap.size ≤ q → LA s q := fun _ h => h
  have hbA : ¬ LA s b := Nat.not_le.mpr hbl
  have hin : ∀ k, k < 6 → vp_in (nI i + nI k) N := fun k hk => by rw [nI_add]; exact vp_in_nI (by omega) (by omega)
  obtain ⟨fx, rx⟩ := rx
  obtain ⟨fm, rm⟩ := rm
  refine lv_aload_n hx hb dL_law_888 rfl (lv_at hl 1 rfl) ?_
  refine lv_aload_n hx hb dL_law_889 rfl (lv_at hl 0 rfl) ?_
  refine lv_iload_n hx hb dL_law_890 rfl (lv_at hl 3 rfl) ?_
  refine lv_iconst (v := nI 1) hx hb dL_law_891 (by decide) ?_
  refine lv_iadd hx hb dL_law_892 ?_
  refine va_sld hx hb hX hbl hbA hS (hin 1 (by decide)) dL_law_893 ?_
  have sb : Sb D (LA s) H wx := Sb.rg hP hD hS hA
  refine calI (va_runV (As := [.int (xs (nI i + nI 1).toNatClampNeg)]) (rest := []) ⟨hx, hb, hml, hown, hts⟩ (c1 H.size) (cwV 1 hts gL_law_X11_lasts rfl rfl rfl (by decide +kernel) ⟨(Nat.le_of_ble_eq_true rfl), (Nat.le_of_ble_eq_true rfl)⟩) (pvV hE hK hS sb (va_recv hK sb.1 (ci := 11) rfl rx)) rfl rfl hl.1 rfl (lv_room (Nat.le_of_ble_eq_true rfl)) dL_law_894 ⟨show K + 0 ≤ 600000 by omega, show M + 0 ≤ 7302250 by omega⟩) hS sb (Jn.grow hP hD sb.2.2) (fun H locs hP hD hS => ?_)
  clear sb
  refine lv_aload_n hx hb dL_law_897 rfl (lv_at hl 2 rfl) ?_
  refine lv_aload_n hx hb dL_law_898 rfl (lv_at hl 0 rfl) ?_
  refine lv_iload_n hx hb dL_law_899 rfl (lv_at hl 3 rfl) ?_
  refine lv_iconst (v := nI 1) hx hb dL_law_900 (by decide) ?_
  refine lv_iadd hx hb dL_law_901 ?_
  refine va_sld hx hb hX hbl hbA hS (hin 1 (by decide)) dL_law_902 ?_
  have sb : Sb D (LA s) H wm := Sb.lf hP hD hS hA
  refine calI (va_runV (As := [.int (xs (nI i + nI 1).toNatClampNeg)]) (rest := [.int r]) ⟨hx, hb, hml, hown, hts⟩ (c2 H.size) (cwV 1 hts gL_law_X12_lasts rfl rfl rfl (by decide +kernel) ⟨(Nat.le_of_ble_eq_true rfl), (Nat.le_of_ble_eq_true rfl)⟩) (pvV hE hK hS sb (va_recv hK sb.1 (ci := 12) rfl rm)) rfl rfl hl.1 rfl (lv_room (Nat.le_of_ble_eq_true rfl)) dL_law_903 ⟨show K + 0 ≤ 600000 by omega, show M + 0 ≤ 7302250 by omega⟩) hS sb (Jn.growL hP hD sb.2.2) (fun H locs hP hD hS => ?_)
  refine lv_icmp_eq (tgt := 1603) hx hb dL_law_906 (by decide) (fun _ => ?_) (fun h9 => absurd rfl h9)
  refine W.widen (k := K + 4) (n := M + 157) (by omega) (by omega) ?_
  exact k _ _ hP hD hS
set_option maxHeartbeats 4000000 in
set_option maxRecDepth 100000 in
theorem wk_silverFor (C : LX p l e s m below meth c b N xs G D cA) (C2 : i + 6 ≤ N ∧ N ≤ 3072 ∧ K ≤ 590000 ∧ M ≤ 7200000) (hP : va_P D vwCl (wm ++ wx) H) (hD : va_D (LA s) (wm ++ wx)) (hS : va_S (LA s) s.heap H locs) (hl : lv_has ls 4 [(0, .ref b), (1, .ref x0), (2, .ref m0), (3, .int (nI i))]) (rx : ∃ fx : List Value, wx[0]? = some (x0, .inr (11, fx))) (rm : ∃ fm : List Value, wm[0]? = some (m0, .inr (12, fm))) (c1 : ∀ sz : Nat, Met l yX11_silverFor wsX11_silverFor ({ frames := 6, cells := 0, slots := 0, locals := 141 } : Room) (PW G D (tyC cA) sz wx [.ref x0, .int (xs (nI i + nI 1).toNatClampNeg), .int (xs (nI i + nI 2).toNatClampNeg)]) (QI D (tyC cA) (va_A wx sz) r wx1) 0 0 (va_A wx sz)) (c2 : ∀ sz : Nat, Met l yX12_silverFor wsX12_silverFor ({ frames := 7, cells := 0, slots := 0, locals := 164 } : Room) (PW G D (tyC cA) sz wm [.ref m0, .int (xs (nI i + nI 1).toNatClampNeg), .int (xs (nI i + nI 2).toNatClampNeg)]) (QI D (tyC cA) (va_A wm sz) r wm1) 0 0 (va_A wm sz)) (k : ∀ (H : Heap) (locs : List Loc), va_P D vwCl (wm1 ++ wx1) H → va_D (LA s) (wm1 ++ wx1) → va_S (LA s) s.heap H locs → W p l e room_1 s m #[Value.ref b] below meth c H locs (K + 4) (M + 157) (lw_Z below #[Value.ref b] s) (F0 m 1603 ls [])) : W p l e room_1 s m #[Value.ref b] below meth c H locs K M (lw_Z below #[Value.ref b] s) (F0 m 911 ls []) := by
  obtain ⟨hx, hb, hr, hml, hown, hts, hX, hbl, hlocks, hK, hE⟩ := C
  have hA : ∀ q : Nat, s.heap.size ≤ q → LA s q := fun _ h => h
  have hbA : ¬ LA s b := Nat.not_le.mpr hbl
  have hin : ∀ k, k < 6 → vp_in (nI i + nI k) N := fun k hk => by rw [nI_add]; exact vp_in_nI (by omega) (by omega)
  obtain ⟨fx, rx⟩ := rx
  obtain ⟨fm, rm⟩ := rm
  refine lv_aload_n hx hb dL_law_911 rfl (lv_at hl 1 rfl) ?_
  refine lv_aload_n hx hb dL_law_912 rfl (lv_at hl 0 rfl) ?_
  refine lv_iload_n hx hb dL_law_913 rfl (lv_at hl 3 rfl) ?_
  refine lv_iconst (v := nI 1) hx hb dL_law_914 (by decide) ?_
  refine lv_iadd hx hb dL_law_915 ?_
  refine va_sld hx hb hX hbl hbA hS (hin 1 (by decide)) dL_law_916 ?_
  refine lv_aload_n hx hb dL_law_917 rfl (lv_at hl 0 rfl) ?_
  refine lv_iload_n hx hb dL_law_918 rfl (lv_at hl 3 rfl) ?_
  refine lv_iconst (v := nI 2) hx hb dL_law_919 (by decide) ?_
  refine lv_iadd hx hb dL_law_920 ?_
  refine va_sld hx hb hX hbl hbA hS (hin 2 (by decide)) dL_law_921 ?_
  have sb : Sb D (LA s) H wx := Sb.rg hP hD hS hA
  refine calI (va_runV (As := [.int (xs (nI i + nI 1).toNatClampNeg), .int (xs (nI i + nI 2).toNatClampNeg)]) (rest := []) ⟨hx, hb, hml, hown, hts⟩ (c1 H.size) (cwV 2 hts gL_law_X11_silverFor rfl rfl rfl (by decide +kernel) ⟨(Nat.le_of_ble_eq_true rfl), (Nat.le_of_ble_eq_true rfl)⟩) (pvV hE hK hS sb (va_recv hK sb.1 (ci := 11) rfl rx)) rfl rfl hl.1 rfl (lv_room (Nat.le_of_ble_eq_true rfl)) dL_law_922 ⟨show K + 0 ≤ 600000 by omega, show M + 0 ≤ 7302250 by omega⟩) hS sb (Jn.grow hP hD sb.2.2) (fun H locs hP hD hS => ?_)
  clear sb
  refine lv_aload_n hx hb dL_law_925 rfl (lv_at hl 2 rfl) ?_
  refine lv_aload_n hx hb dL_law_926 rfl (lv_at hl 0 rfl) ?_
  refine lv_iload_n hx hb dL_law_927 rfl (lv_at hl 3 rfl) ?_
  refine lv_iconst (v := nI 1) hx hb dL_law_928 (by decide) ?_
  refine lv_iadd hx hb dL_law_929 ?_
  refine va_sld hx hb hX hbl hbA hS (hin 1 (by decide)) dL_law_930 ?_
  refine lv_aload_n hx hb dL_law_931 rfl (lv_at hl 0 rfl) ?_
  refine lv_iload_n hx hb dL_law_932 rfl (lv_at hl 3 rfl) ?_
  refine lv_iconst (v := nI 2) hx hb dL_law_933 (by decide) ?_
  refine lv_iadd hx hb dL_law_934 ?_
  refine va_sld hx hb hX hbl hbA hS (hin 2 (by decide)) dL_law_935 ?_
  have sb : Sb D (LA s) H wm := Sb.lf hP hD hS hA
  refine calI (va_runV (As := [.int (xs (nI i + nI 1).toNatClampNeg), .int (xs (nI i + nI 2).toNatClampNeg)]) (rest := [.int r]) ⟨hx, hb, hml, hown, hts⟩ (c2 H.size) (cwV 2 hts gL_law_X12_silverFor rfl rfl rfl (by decide +kernel) ⟨(Nat.le_of_ble_eq_true rfl), (Nat.le_of_ble_eq_true rfl)⟩) (pvV hE hK hS sb (va_recv hK sb.1 (ci := 12) rfl rm)) rfl rfl hl.1 rfl (lv_room (Nat.le_of_ble_eq_true rfl)) dL_law_936 ⟨show K + 0 ≤ 600000 by omega, show M + 0 ≤ 7302250 by omega⟩) hS sb (Jn.growL hP hD sb.2.2) (fun H locs hP hD hS => ?_)
  refine lv_icmp_eq (tgt := 1603) hx hb dL_law_939 (by decide) (fun _ => ?_) (fun h9 => absurd rfl h9)
  refine W.widen (k := K + 4) (n := M + 157) (by omega) (by omega) ?_
  exact k _ _ hP hD hS
set_option maxHeartbeats 4000000 in
set_option maxRecDepth 100000 in
theorem wk_washFor (C : LX p l e s m below meth c b N xs G D cA) (C2 : i + 6 ≤ N ∧ N ≤ 3072 ∧ K ≤ 590000 ∧ M ≤ 7200000) (hP : va_P D vwCl (wm ++ wx) H) (hD : va_D (LA s) (wm ++ wx)) (hS : va_S (LA s) s.heap H locs) (hl : lv_has ls 4 [(0, .ref b), (1, .ref x0), (2, .ref m0), (3, .int (nI i))]) (rx : ∃ fx : List Value, wx[0]? = some (x0, .inr (11, fx))) (rm : ∃ fm : List Value, wm[0]? = some (m0, .inr (12, fm))) (c1 : ∀ sz : Nat, Met l yX11_washFor wsX11_washFor ({ frames := 6, cells := 0, slots := 0, locals := 141 } : Room) (PW G D (tyC cA) sz wx [.ref x0, .int (xs (nI i + nI 1).toNatClampNeg), .int (xs (nI i + nI 2).toNatClampNeg)]) (QI D (tyC cA) (va_A wx sz) r wx1) 0 0 (va_A wx sz)) (c2 : ∀ sz : Nat, Met l yX12_washFor wsX12_washFor ({ frames := 9, cells := 0, slots := 0, locals := 214 } : Room) (PW G D (tyC cA) sz wm [.ref m0, .int (xs (nI i + nI 1).toNatClampNeg), .int (xs (nI i + nI 2).toNatClampNeg)]) (QI D (tyC cA) (va_A wm sz) r wm1) 0 0 (va_A wm sz)) (k : ∀ (H : Heap) (locs : List Loc), va_P D vwCl (wm1 ++ wx1) H → va_D (LA s) (wm1 ++ wx1) → va_S (LA s) s.heap H locs → W p l e room_1 s m #[Value.ref b] below meth c H locs (K + 4) (M + 157) (lw_Z below #[Value.ref b] s) (F0 m 1603 ls [])) : W p l e room_1 s m #[Value.ref b] below meth c H locs K M (lw_Z below #[Value.ref b] s) (F0 m 944 ls []) := by
  obtain ⟨hx, hb, hr, hml, hown, hts, hX, hbl, hlocks, hK, hE⟩ := C
  have hA : ∀ q : Nat, s.heap.size ≤ q → LA s q := fun _ h => h
  have hbA : ¬ LA s b := Nat.not_le.mpr hbl
  have hin : ∀ k, k < 6 → vp_in (nI i + nI k) N := fun k hk => by rw [nI_add]; exact vp_in_nI (by omega) (by omega)
  obtain ⟨fx, rx⟩ := rx
  obtain ⟨fm, rm⟩ := rm
  refine lv_aload_n hx hb dL_law_944 rfl (lv_at hl 1 rfl) ?_
  refine lv_aload_n hx hb dL_law_945 rfl (lv_at hl 0 rfl) ?_
  refine lv_iload_n hx hb dL_law_946 rfl (lv_at hl 3 rfl) ?_
  refine lv_iconst (v := nI 1) hx hb dL_law_947 (by decide) ?_
  refine lv_iadd hx hb dL_law_948 ?_
  refine va_sld hx hb hX hbl hbA hS (hin 1 (by decide)) dL_law_949 ?_
  refine lv_aload_n hx hb dL_law_950 rfl (lv_at hl 0 rfl) ?_
  refine lv_iload_n hx hb dL_law_951 rfl (lv_at hl 3 rfl) ?_
  refine lv_iconst (v := nI 2) hx hb dL_law_952 (by decide) ?_
  refine lv_iadd hx hb dL_law_953 ?_
  refine va_sld hx hb hX hbl hbA hS (hin 2 (by decide)) dL_law_954 ?_
  have sb : Sb D (LA s) H wx := Sb.rg hP hD hS hA
  refine calI (va_runV (As := [.int (xs (nI i + nI 1).toNatClampNeg), .int (xs (nI i + nI 2).toNatClampNeg)]) (rest := []) ⟨hx, hb, hml, hown, hts⟩ (c1 H.size) (cwV 2 hts gL_law_X11_washFor rfl rfl rfl (by decide +kernel) ⟨(Nat.le_of_ble_eq_true rfl), (Nat.le_of_ble_eq_true rfl)⟩) (pvV hE hK hS sb (va_recv hK sb.1 (ci := 11) rfl rx)) rfl rfl hl.1 rfl (lv_room (Nat.le_of_ble_eq_true rfl)) dL_law_955 ⟨show K + 0 ≤ 600000 by omega, show M + 0 ≤ 7302250 by omega⟩) hS sb (Jn.grow hP hD sb.2.2) (fun H locs hP hD hS => ?_)
  clear sb
  refine lv_aload_n hx hb dL_law_958 rfl (lv_at hl 2 rfl) ?_
  refine lv_aload_n hx hb dL_law_959 rfl (lv_at hl 0 rfl) ?_
  refine lv_iload_n hx hb dL_law_960 rfl (lv_at hl 3 rfl) ?_
  refine lv_iconst (v := nI 1) hx hb dL_law_961 (by decide) ?_
  refine lv_iadd hx hb dL_law_962 ?_
  refine va_sld hx hb hX hbl hbA hS (hin 1 (by decide)) dL_law_963 ?_
  refine lv_aload_n hx hb dL_law_964 rfl (lv_at hl 0 rfl) ?_
  refine lv_iload_n hx hb dL_law_965 rfl (lv_at hl 3 rfl) ?_
  refine lv_iconst (v := nI 2) hx hb dL_law_966 (by decide) ?_
  refine lv_iadd hx hb dL_law_967 ?_
  refine va_sld hx hb hX hbl hbA hS (hin 2 (by decide)) dL_law_968 ?_
  have sb : Sb D (LA s) H wm := Sb.lf hP hD hS hA
  refine calI (va_runV (As := [.int (xs (nI i + nI 1).toNatClampNeg), .int (xs (nI i + nI 2).toNatClampNeg)]) (rest := [.int r]) ⟨hx, hb, hml, hown, hts⟩ (c2 H.size) (cwV 2 hts gL_law_X12_washFor rfl rfl rfl (by decide +kernel) ⟨(Nat.le_of_ble_eq_true rfl), (Nat.le_of_ble_eq_true rfl)⟩) (pvV hE hK hS sb (va_recv hK sb.1 (ci := 12) rfl rm)) rfl rfl hl.1 rfl (lv_room (Nat.le_of_ble_eq_true rfl)) dL_law_969 ⟨show K + 0 ≤ 600000 by omega, show M + 0 ≤ 7302250 by omega⟩) hS sb (Jn.growL hP hD sb.2.2) (fun H locs hP hD hS => ?_)
  refine lv_icmp_eq (tgt := 1603) hx hb dL_law_972 (by decide) (fun _ => ?_) (fun h9 => absurd rfl h9)
  refine W.widen (k := K + 4) (n := M + 157) (by omega) (by omega) ?_
  exact k _ _ hP hD hS
set_option maxHeartbeats 4000000 in
set_option maxRecDepth 100000 in
theorem wk_kindFor (C : LX p l e s m below meth c b N xs G D cA) (C2 : i + 6 ≤ N ∧ N ≤ 3072 ∧ K ≤ 590000 ∧ M ≤ 7200000) (hP : va_P D vwCl (wm ++ wx) H) (hD : va_D (LA s) (wm ++ wx)) (hS : va_S (LA s) s.heap H locs) (hl : lv_has ls 4 [(0, .ref b), (1, .ref x0), (2, .ref m0), (3, .int (nI i))]) (rx : ∃ fx : List Value, wx[0]? = some (x0, .inr (11, fx))) (rm : ∃ fm : List Value, wm[0]? = some (m0, .inr (12, fm))) (c1 : ∀ sz : Nat, Met l yX11_kindFor wsX11_kindFor ({ frames := 6, cells := 0, slots := 0, locals := 141 } : Room) (PW G D (tyC cA) sz wx [.ref x0, .int (xs (nI i + nI 1).toNatClampNeg), .int (xs (nI i + nI 2).toNatClampNeg)]) (QI D (tyC cA) (va_A wx sz) r wx1) 0 0 (va_A wx sz)) (c2 : ∀ sz : Nat, Met l yX12_kindFor wsX12_kindFor ({ frames := 9, cells := 0, slots := 0, locals := 214 } : Room) (PW G D (tyC cA) sz wm [.ref m0, .int (xs (nI i + nI 1).toNatClampNeg), .int (xs (nI i + nI 2).toNatClampNeg)]) (QI D (tyC cA) (va_A wm sz) r wm1) 0 0 (va_A wm sz)) (k : ∀ (H : Heap) (locs : List Loc), va_P D vwCl (wm1 ++ wx1) H → va_D (LA s) (wm1 ++ wx1) → va_S (LA s) s.heap H locs → W p l e room_1 s m #[Value.ref b] below meth c H locs (K + 4) (M + 157) (lw_Z below #[Value.ref b] s) (F0 m 1603 ls [])) : W p l e room_1 s m #[Value.ref b] below meth c H locs K M (lw_Z below #[Value.ref b] s) (F0 m 977 ls []) := by
  obtain ⟨hx, hb, hr, hml, hown, hts, hX, hbl, hlocks, hK, hE⟩ := C
  have hA : ∀ q : Nat, s.heap.size ≤ q → LA s q := fun _ h => h
  have hbA : ¬ LA s b := Nat.not_le.mpr hbl
  have hin : ∀ k, k < 6 → vp_in (nI i + nI k) N := fun k hk => by rw [nI_add]; exact vp_in_nI (by omega) (by omega)
  obtain ⟨fx, rx⟩ := rx
  obtain ⟨fm, rm⟩ := rm
  refine lv_aload_n hx hb dL_law_977 rfl (lv_at hl 1 rfl) ?_
  refine lv_aload_n hx hb dL_law_978 rfl (lv_at hl 0 rfl) ?_
  refine lv_iload_n hx hb dL_law_979 rfl (lv_at hl 3 rfl) ?_
  refine lv_iconst (v := nI 1) hx hb dL_law_980 (by decide) ?_
  refine lv_iadd hx hb dL_law_981 ?_
  refine va_sld hx hb hX hbl hbA hS (hin 1 (by decide)) dL_law_982 ?_
  refine lv_aload_n hx hb dL_law_983 rfl (lv_at hl 0 rfl) ?_
  refine lv_iload_n hx hb dL_law_984 rfl (lv_at hl 3 rfl) ?_
  refine lv_iconst (v := nI 2) hx hb dL_law_985 (by decide) ?_
  refine lv_iadd hx hb dL_law_986 ?_
  refine va_sld hx hb hX hbl hbA hS (hin 2 (by decide)) dL_law_987 ?_
  have sb : Sb D (LA s) H wx := Sb.rg hP hD hS hA
  refine calI (va_runV (As := [.int (xs (nI i + nI 1).toNatClampNeg), .int (xs (nI i + nI 2).toNatClampNeg)]) (rest := []) ⟨hx, hb, hml, hown, hts⟩ (c1 H.size) (cwV 2 hts gL_law_X11_kindFor rfl rfl rfl (by decide +kernel) ⟨(Nat.le_of_ble_eq_true rfl), (Nat.le_of_ble_eq_true rfl)⟩) (pvV hE hK hS sb (va_recv hK sb.1 (ci := 11) rfl rx)) rfl rfl hl.1 rfl (lv_room (Nat.le_of_ble_eq_true rfl)) dL_law_988 ⟨show K + 0 ≤ 600000 by omega, show M + 0 ≤ 7302250 by omega⟩) hS sb (Jn.grow hP hD sb.2.2) (fun H locs hP hD hS => ?_)
  clear sb
  refine lv_aload_n hx hb dL_law_991 rfl (lv_at hl 2 rfl) ?_
  refine lv_aload_n hx hb dL_law_992 rfl (lv_at hl 0 rfl) ?_
  refine lv_iload_n hx hb dL_law_993 rfl (lv_at hl 3 rfl) ?_
  refine lv_iconst (v := nI 1) hx hb dL_law_994 (by decide) ?_
  refine lv_iadd hx hb dL_law_995 ?_
  refine va_sld hx hb hX hbl hbA hS (hin 1 (by decide)) dL_law_996 ?_
  refine lv_aload_n hx hb dL_law_997 rfl (lv_at hl 0 rfl) ?_
  refine lv_iload_n hx hb dL_law_998 rfl (lv_at hl 3 rfl) ?_
  refine lv_iconst (v := nI 2) hx hb dL_law_999 (by decide) ?_
  refine lv_iadd hx hb dL_law_1000 ?_
  refine va_sld hx hb hX hbl hbA hS (hin 2 (by decide)) dL_law_1001 ?_
  have sb : Sb D (LA s) H wm := Sb.lf hP hD hS hA
  refine calI (va_runV (As := [.int (xs (nI i + nI 1).toNatClampNeg), .int (xs (nI i + nI 2).toNatClampNeg)]) (rest := [.int r]) ⟨hx, hb, hml, hown, hts⟩ (c2 H.size) (cwV 2 hts gL_law_X12_kindFor rfl rfl rfl (by decide +kernel) ⟨(Nat.le_of_ble_eq_true rfl), (Nat.le_of_ble_eq_true rfl)⟩) (pvV hE hK hS sb (va_recv hK sb.1 (ci := 12) rfl rm)) rfl rfl hl.1 rfl (lv_room (Nat.le_of_ble_eq_true rfl)) dL_law_1002 ⟨show K + 0 ≤ 600000 by omega, show M + 0 ≤ 7302250 by omega⟩) hS sb (Jn.growL hP hD sb.2.2) (fun H locs hP hD hS => ?_)
  refine lv_icmp_eq (tgt := 1603) hx hb dL_law_1005 (by decide) (fun _ => ?_) (fun h9 => absurd rfl h9)
  refine W.widen (k := K + 4) (n := M + 157) (by omega) (by omega) ?_
  exact k _ _ hP hD hS
set_option maxHeartbeats 4000000 in
set_option maxRecDepth 100000 in
theorem wk_rubbed (C : LX p l e s m below meth c b N xs G D cA) (C2 : i + 6 ≤ N ∧ N ≤ 3072 ∧ K ≤ 590000 ∧ M ≤ 7200000) (hP : va_P D vwCl (wm ++ wx) H) (hD : va_D (LA s) (wm ++ wx)) (hS : va_S (LA s) s.heap H locs) (hl : lv_has ls 4 [(0, .ref b), (1, .ref x0), (2, .ref m0), (3, .int (nI i))]) (rx : ∃ fx : List Value, wx[0]? = some (x0, .inr (11, fx))) (rm : ∃ fm : List Value, wm[0]? = some (m0, .inr (12, fm))) (c1 : ∀ sz : Nat, Met l yX11_rubbed wsX11_rubbed ({ frames := 7, cells := 0, slots := 0, locals := 164 } : Room) (PW G D (tyC cA) sz wx [.ref x0, .int (xs (nI i + nI 1).toNatClampNeg), .int (xs (nI i + nI 2).toNatClampNeg), .int (xs (nI i + nI 3).toNatClampNeg)]) (QI D (tyC cA) (va_A wx sz) r wx1) 0 0 (va_A wx sz)) (c2 : ∀ sz : Nat, Met l yX12_rubbed wsX12_rubbed ({ frames := 7, cells := 0, slots := 0, locals := 165 } : Room) (PW G D (tyC cA) sz wm [.ref m0, .int (xs (nI i + nI 1).toNatClampNeg), .int (xs (nI i + nI 2).toNatClampNeg), .int (xs (nI i + nI 3).toNatClampNeg)]) (QI D (tyC cA) (va_A wm sz) r wm1) 0 0 (va_A wm sz)) (k : ∀ (H : Heap) (locs : List Loc), va_P D vwCl (wm1 ++ wx1) H → va_D (LA s) (wm1 ++ wx1) → va_S (LA s) s.heap H locs → W p l e room_1 s m #[Value.ref b] below meth c H locs (K + 4) (M + 157) (lw_Z below #[Value.ref b] s) (F0 m 1603 ls [])) : W p l e room_1 s m #[Value.ref b] below meth c H locs K M (lw_Z below #[Value.ref b] s) (F0 m 1010 ls []) := by
  obtain ⟨hx, hb, hr, hml, hown, hts, hX, hbl, hlocks, hK, hE⟩ := C
  have hA : ∀ q : Nat, s.heap.size ≤ q → LA s q := fun _ h => h
  have hbA : ¬ LA s b := Nat.not_le.mpr hbl
  have hin : ∀ k, k < 6 → vp_in (nI i + nI k) N := fun k hk => by rw [nI_add]; exact vp_in_nI (by omega) (by omega)
  obtain ⟨fx, rx⟩ := rx
  obtain ⟨fm, rm⟩ := rm
  refine lv_aload_n hx hb dL_law_1010 rfl (lv_at hl 1 rfl) ?_
  refine lv_aload_n hx hb dL_law_1011 rfl (lv_at hl 0 rfl) ?_
  refine lv_iload_n hx hb dL_law_1012 rfl (lv_at hl 3 rfl) ?_
  refine lv_iconst (v := nI 1) hx hb dL_law_1013 (by decide) ?_
  refine lv_iadd hx hb dL_law_1014 ?_
  refine va_sld hx hb hX hbl hbA hS (hin 1 (by decide)) dL_law_1015 ?_
  refine lv_aload_n hx hb dL_law_1016 rfl (lv_at hl 0 rfl) ?_
  refine lv_iload_n hx hb dL_law_1017 rfl (lv_at hl 3 rfl) ?_
  refine lv_iconst (v := nI 2) hx hb dL_law_1018 (by decide) ?_
  refine lv_iadd hx hb dL_law_1019 ?_
  refine va_sld hx hb hX hbl hbA hS (hin 2 (by decide)) dL_law_1020 ?_
  refine lv_aload_n hx hb dL_law_1021 rfl (lv_at hl 0 rfl) ?_
  refine lv_iload_n hx hb dL_law_1022 rfl (lv_at hl 3 rfl) ?_
  refine lv_iconst (v := nI 3) hx hb dL_law_1023 (by decide) ?_
  refine lv_iadd hx hb dL_law_1024 ?_
  refine va_sld hx hb hX hbl hbA hS (hin 3 (by decide)) dL_law_1025 ?_
  have sb : Sb D (LA s) H wx := Sb.rg hP hD hS hA
  refine calI (va_runV (As := [.int (xs (nI i + nI 1).toNatClampNeg), .int (xs (nI i + nI 2).toNatClampNeg), .int (xs (nI i + nI 3).toNatClampNeg)]) (rest := []) ⟨hx, hb, hml, hown, hts⟩ (c1 H.size) (cwV 3 hts gL_law_X11_rubbed rfl rfl rfl (by decide +kernel) ⟨(Nat.le_of_ble_eq_true rfl), (Nat.le_of_ble_eq_true rfl)⟩) (pvV hE hK hS sb (va_recv hK sb.1 (ci := 11) rfl rx)) rfl rfl hl.1 rfl (lv_room (Nat.le_of_ble_eq_true rfl)) dL_law_1026 ⟨show K + 0 ≤ 600000 by omega, show M + 0 ≤ 7302250 by omega⟩) hS sb (Jn.grow hP hD sb.2.2) (fun H locs hP hD hS => ?_)
  clear sb
  refine lv_aload_n hx hb dL_law_1029 rfl (lv_at hl 2 rfl) ?_
  refine lv_aload_n hx hb dL_law_1030 rfl (lv_at hl 0 rfl) ?_
  refine lv_iload_n hx hb dL_law_1031 rfl (lv_at hl 3 rfl) ?_
  refine lv_iconst (v := nI 1) hx hb dL_law_1032 (by decide) ?_
  refine lv_iadd hx hb dL_law_1033 ?_
  refine va_sld hx hb hX hbl hbA hS (hin 1 (by decide)) dL_law_1034 ?_
  refine lv_aload_n hx hb dL_law_1035 rfl (lv_at hl 0 rfl) ?_
  refine lv_iload_n hx hb dL_law_1036 rfl (lv_at hl 3 rfl) ?_
  refine lv_iconst (v := nI 2) hx hb dL_law_1037 (by decide) ?_
  refine lv_iadd hx hb dL_law_1038 ?_
  refine va_sld hx hb hX hbl hbA hS (hin 2 (by decide)) dL_law_1039 ?_
  refine lv_aload_n hx hb dL_law_1040 rfl (lv_at hl 0 rfl) ?_
  refine lv_iload_n hx hb dL_law_1041 rfl (lv_at hl 3 rfl) ?_
  refine lv_iconst (v := nI 3) hx hb dL_law_1042 (by decide) ?_
  refine lv_iadd hx hb dL_law_1043 ?_
  refine va_sld hx hb hX hbl hbA hS (hin 3 (by decide)) dL_law_1044 ?_
  have sb : Sb D (LA s) H wm := Sb.lf hP hD hS hA
  refine calI (va_runV (As := [.int (xs (nI i + nI 1).toNatClampNeg), .int (xs (nI i + nI 2).toNatClampNeg), .int (xs (nI i + nI 3).toNatClampNeg)]) (rest := [.int r]) ⟨hx, hb, hml, hown, hts⟩ (c2 H.size) (cwV 3 hts gL_law_X12_rubbed rfl rfl rfl (by decide +kernel) ⟨(Nat.le_of_ble_eq_true rfl), (Nat.le_of_ble_eq_true rfl)⟩) (pvV hE hK hS sb (va_recv hK sb.1 (ci := 12) rfl rm)) rfl rfl hl.1 rfl (lv_room (Nat.le_of_ble_eq_true rfl)) dL_law_1045 ⟨show K + 0 ≤ 600000 by omega, show M + 0 ≤ 7302250 by omega⟩) hS sb (Jn.growL hP hD sb.2.2) (fun H locs hP hD hS => ?_)
  refine lv_icmp_eq (tgt := 1603) hx hb dL_law_1048 (by decide) (fun _ => ?_) (fun h9 => absurd rfl h9)
  refine W.widen (k := K + 4) (n := M + 157) (by omega) (by omega) ?_
  exact k _ _ hP hD hS
set_option maxHeartbeats 4000000 in
set_option maxRecDepth 100000 in
theorem wk_which (C : LX p l e s m below meth c b N xs G D cA) (C2 : i + 6 ≤ N ∧ N ≤ 3072 ∧ K ≤ 590000 ∧ M ≤ 7200000) (hP : va_P D vwCl (wm ++ wx) H) (hD : va_D (LA s) (wm ++ wx)) (hS : va_S (LA s) s.heap H locs) (hl : lv_has ls 4 [(0, .ref b), (1, .ref x0), (2, .ref m0), (3, .int (nI i))]) (rx : ∃ fx : List Value, wx[0]? = some (x0, .inr (11, fx))) (rm : ∃ fm : List Value, wm[0]? = some (m0, .inr (12, fm))) (c1 : ∀ sz : Nat, Met l yX11_which wsX11_which ({ frames := 7, cells := 0, slots := 0, locals := 164 } : Room) (PW G D (tyC cA) sz wx [.ref x0, .int (xs (nI i + nI 1).toNatClampNeg), .int (xs (nI i + nI 2).toNatClampNeg)]) (QI D (tyC cA) (va_A wx sz) r wx1) 0 0 (va_A wx sz)) (c2 : ∀ sz : Nat, Met l yX12_which wsX12_which ({ frames := 7, cells := 0, slots := 0, locals := 165 } : Room) (PW G D (tyC cA) sz wm [.ref m0, .int (xs (nI i + nI 1).toNatClampNeg), .int (xs (nI i + nI 2).toNatClampNeg)]) (QI D (tyC cA) (va_A wm sz) r wm1) 0 0 (va_A wm sz)) (k : ∀ (H : Heap) (locs : List Loc), va_P D vwCl (wm1 ++ wx1) H → va_D (LA s) (wm1 ++ wx1) → va_S (LA s) s.heap H locs → W p l e room_1 s m #[Value.ref b] below meth c H locs (K + 4) (M + 157) (lw_Z below #[Value.ref b] s) (F0 m 1603 ls [])) : W p l e room_1 s m #[Value.ref b] below meth c H locs K M (lw_Z below #[Value.ref b] s) (F0 m 1053 ls []) := by
  obtain ⟨hx, hb, hr, hml, hown, hts, hX, hbl, hlocks, hK, hE⟩ := C
  have hA : ∀ q : Nat, s.heap.size ≤ q → LA s q := fun _ h => h
  have hbA : ¬ LA s b := Nat.not_le.mpr hbl
  have hin : ∀ k, k < 6 → vp_in (nI i + nI k) N := fun k hk => by rw [nI_add]; exact vp_in_nI (by omega) (by omega)
  obtain ⟨fx, rx⟩ := rx
  obtain ⟨fm, rm⟩ := rm
  refine lv_aload_n hx hb dL_law_1053 rfl (lv_at hl 1 rfl) ?_
  refine lv_aload_n hx hb dL_law_1054 rfl (lv_at hl 0 rfl) ?_
  refine lv_iload_n hx hb dL_law_1055 rfl (lv_at hl 3 rfl) ?_
  refine lv_iconst (v := nI 1) hx hb dL_law_1056 (by decide) ?_
  refine lv_iadd hx hb dL_law_1057 ?_
  refine va_sld hx hb hX hbl hbA hS (hin 1 (by decide)) dL_law_1058 ?_
  refine lv_aload_n hx hb dL_law_1059 rfl (lv_at hl 0 rfl) ?_
  refine lv_iload_n hx hb dL_law_1060 rfl (lv_at hl 3 rfl) ?_
  refine lv_iconst (v := nI 2) hx hb dL_law_1061 (by decide) ?_
  refine lv_iadd hx hb dL_law_1062 ?_
  refine va_sld hx hb hX hbl hbA hS (hin 2 (by decide)) dL_law_1063 ?_
  have sb : Sb D (LA s) H wx := Sb.rg hP hD hS hA
  refine calI (va_runV (As := [.int (xs (nI i + nI 1).toNatClampNeg), .int (xs (nI i + nI 2).toNatClampNeg)]) (rest := []) ⟨hx, hb, hml, hown, hts⟩ (c1 H.size) (cwV 2 hts gL_law_X11_which rfl rfl rfl (by decide +kernel) ⟨(Nat.le_of_ble_eq_true rfl), (Nat.le_of_ble_eq_true rfl)⟩) (pvV hE hK hS sb (va_recv hK sb.1 (ci := 11) rfl rx)) rfl rfl hl.1 rfl (lv_room (Nat.le_of_ble_eq_true rfl)) dL_law_1064 ⟨show K + 0 ≤ 600000 by omega, show M + 0 ≤ 7302250 by omega⟩) hS sb (Jn.grow hP hD sb.2.2) (fun H locs hP hD hS => ?_)
  clear sb
  refine lv_aload_n hx hb dL_law_1067 rfl (lv_at hl 2 rfl) ?_
  refine lv_aload_n hx hb dL_law_1068 rfl (lv_at hl 0 rfl) ?_
  refine lv_iload_n hx hb dL_law_1069 rfl (lv_at hl 3 rfl) ?_
  refine lv_iconst (v := nI 1) hx hb dL_law_1070 (by decide) ?_
  refine lv_iadd hx hb dL_law_1071 ?_
  refine va_sld hx hb hX hbl hbA hS (hin 1 (by decide)) dL_law_1072 ?_
  refine lv_aload_n hx hb dL_law_1073 rfl (lv_at hl 0 rfl) ?_
  refine lv_iload_n hx hb dL_law_1074 rfl (lv_at hl 3 rfl) ?_
  refine lv_iconst (v := nI 2) hx hb dL_law_1075 (by decide) ?_
  refine lv_iadd hx hb dL_law_1076 ?_
  refine va_sld hx hb hX hbl hbA hS (hin 2 (by decide)) dL_law_1077 ?_
  have sb : Sb D (LA s) H wm := Sb.lf hP hD hS hA
  refine calI (va_runV (As := [.int (xs (nI i + nI 1).toNatClampNeg), .int (xs (nI i + nI 2).toNatClampNeg)]) (rest := [.int r]) ⟨hx, hb, hml, hown, hts⟩ (c2 H.size) (cwV 2 hts gL_law_X12_which rfl rfl rfl (by decide +kernel) ⟨(Nat.le_of_ble_eq_true rfl), (Nat.le_of_ble_eq_true rfl)⟩) (pvV hE hK hS sb (va_recv hK sb.1 (ci := 12) rfl rm)) rfl rfl hl.1 rfl (lv_room (Nat.le_of_ble_eq_true rfl)) dL_law_1078 ⟨show K + 0 ≤ 600000 by omega, show M + 0 ≤ 7302250 by omega⟩) hS sb (Jn.growL hP hD sb.2.2) (fun H locs hP hD hS => ?_)
  refine lv_icmp_eq (tgt := 1603) hx hb dL_law_1081 (by decide) (fun _ => ?_) (fun h9 => absurd rfl h9)
  refine W.widen (k := K + 4) (n := M + 157) (by omega) (by omega) ?_
  exact k _ _ hP hD hS
set_option maxHeartbeats 4000000 in
set_option maxRecDepth 100000 in
theorem wk_washers (C : LX p l e s m below meth c b N xs G D cA) (C2 : i + 6 ≤ N ∧ N ≤ 3072 ∧ K ≤ 590000 ∧ M ≤ 7200000) (hP : va_P D vwCl (wm ++ wx) H) (hD : va_D (LA s) (wm ++ wx)) (hS : va_S (LA s) s.heap H locs) (hl : lv_has ls 4 [(0, .ref b), (1, .ref x0), (2, .ref m0), (3, .int (nI i))]) (rx : ∃ fx : List Value, wx[0]? = some (x0, .inr (11, fx))) (rm : ∃ fm : List Value, wm[0]? = some (m0, .inr (12, fm))) (c1 : ∀ sz : Nat, Met l yX11_washers wsX11_washers ({ frames := 5, cells := 0, slots := 0, locals := 114 } : Room) (PW G D (tyC cA) sz wx [.ref x0]) (QI D (tyC cA) (va_A wx sz) r wx1) 0 0 (va_A wx sz)) (c2 : ∀ sz : Nat, Met l yX12_washers wsX12_washers ({ frames := 3, cells := 0, slots := 0, locals := 68 } : Room) (PW G D (tyC cA) sz wm [.ref m0]) (QI D (tyC cA) (va_A wm sz) r wm1) 0 0 (va_A wm sz)) (k : ∀ (H : Heap) (locs : List Loc), va_P D vwCl (wm1 ++ wx1) H → va_D (LA s) (wm1 ++ wx1) → va_S (LA s) s.heap H locs → W p l e room_1 s m #[Value.ref b] below meth c H locs (K + 4) (M + 157) (lw_Z below #[Value.ref b] s) (F0 m 1603 ls [])) : W p l e room_1 s m #[Value.ref b] below meth c H locs K M (lw_Z below #[Value.ref b] s) (F0 m 1086 ls []) := by
  obtain ⟨hx, hb, hr, hml, hown, hts, hX, hbl, hlocks, hK, hE⟩ := C
  have hA : ∀ q : Nat, s.heap.size ≤ q → LA s q := fun _ h => h
  have hbA : ¬ LA s b := Nat.not_le.mpr hbl
  have hin : ∀ k, k < 6 → vp_in (nI i + nI k) N := fun k hk => by rw [nI_add]; exact vp_in_nI (by omega) (by omega)
  obtain ⟨fx, rx⟩ := rx
  obtain ⟨fm, rm⟩ := rm
  refine lv_aload_n hx hb dL_law_1086 rfl (lv_at hl 1 rfl) ?_
  have sb : Sb D (LA s) H wx := Sb.rg hP hD hS hA
  refine calI (va_runV (As := []) (rest := []) ⟨hx, hb, hml, hown, hts⟩ (c1 H.size) (cwV 0 hts gL_law_X11_washers rfl rfl rfl (by decide +kernel) ⟨(Nat.le_of_ble_eq_true rfl), (Nat.le_of_ble_eq_true rfl)⟩) (pvV hE hK hS sb (va_recv hK sb.1 (ci := 11) rfl rx)) rfl rfl hl.1 rfl (lv_room (Nat.le_of_ble_eq_true rfl)) dL_law_1087 ⟨show K + 0 ≤ 600000 by omega, show M + 0 ≤ 7302250 by omega⟩) hS sb (Jn.grow hP hD sb.2.2) (fun H locs hP hD hS => ?_)
  clear sb
  refine lv_aload_n hx hb dL_law_1090 rfl (lv_at hl 2 rfl) ?_
  have sb : Sb D (LA s) H wm := Sb.lf hP hD hS hA
  refine calI (va_runV (As := []) (rest := [.int r]) ⟨hx, hb, hml, hown, hts⟩ (c2 H.size) (cwV 0 hts gL_law_X12_washers rfl rfl rfl (by decide +kernel) ⟨(Nat.le_of_ble_eq_true rfl), (Nat.le_of_ble_eq_true rfl)⟩) (pvV hE hK hS sb (va_recv hK sb.1 (ci := 12) rfl rm)) rfl rfl hl.1 rfl (lv_room (Nat.le_of_ble_eq_true rfl)) dL_law_1091 ⟨show K + 0 ≤ 600000 by omega, show M + 0 ≤ 7302250 by omega⟩) hS sb (Jn.growL hP hD sb.2.2) (fun H locs hP hD hS => ?_)
  refine lv_icmp_eq (tgt := 1603) hx hb dL_law_1094 (by decide) (fun _ => ?_) (fun h9 => absurd rfl h9)
  refine W.widen (k := K + 4) (n := M + 157) (by omega) (by omega) ?_
  exact k _ _ hP hD hS
set_option maxHeartbeats 4000000 in
set_option maxRecDepth 100000 in
theorem wk_telling (C : LX p l e s m below meth c b N xs G D cA) (C2 : i + 6 ≤ N ∧ N ≤ 3072 ∧ K ≤ 590000 ∧ M ≤ 7200000) (hP : va_P D vwCl (wm ++ wx) H) (hD : va_D (LA s) (wm ++ wx)) (hS : va_S (LA s) s.heap H locs) (hl : lv_has ls 4 [(0, .ref b), (1, .ref x0), (2, .ref m0), (3, .int (nI i))]) (rx : ∃ fx : List Value, wx[0]? = some (x0, .inr (11, fx))) (rm : ∃ fm : List Value, wm[0]? = some (m0, .inr (12, fm))) (c1 : ∀ sz : Nat, Met l yX11_telling wsX11_telling ({ frames := 4, cells := 0, slots := 0, locals := 90 } : Room) (PW G D (tyC cA) sz wx [.ref x0, .int (xs (nI i + nI 1).toNatClampNeg)]) (QI D (tyC cA) (va_A wx sz) r wx1) 0 0 (va_A wx sz)) (c2 : ∀ sz : Nat, Met l yX12_telling wsX12_telling ({ frames := 2, cells := 0, slots := 0, locals := 45 } : Room) (PW G D (tyC cA) sz wm [.ref m0, .int (xs (nI i + nI 1).toNatClampNeg)]) (QI D (tyC cA) (va_A wm sz) r wm1) 0 0 (va_A wm sz)) (k : ∀ (H : Heap) (locs : List Loc), va_P D vwCl (wm1 ++ wx1) H → va_D (LA s) (wm1 ++ wx1) → va_S (LA s) s.heap H locs → W p l e room_1 s m #[Value.ref b] below meth c H locs (K + 4) (M + 157) (lw_Z below #[Value.ref b] s) (F0 m 1603 ls [])) : W p l e room_1 s m #[Value.ref b] below meth c H locs K M (lw_Z below #[Value.ref b] s) (F0 m 1099 ls []) := by
  obtain ⟨hx, hb, hr, hml, hown, hts, hX, hbl, hlocks, hK, hE⟩ := C
  have hA : ∀ q : Nat, s.heap.size ≤ q → LA s q := fun _ h => h
  have hbA : ¬ LA s b := Nat.not_le.mpr hbl
  have hin : ∀ k, k < 6 → vp_in (nI i + nI k) N := fun k hk => by rw [nI_add]; exact vp_in_nI (by omega) (by omega)
  obtain ⟨fx, rx⟩ := rx
  obtain ⟨fm, rm⟩ := rm
  refine lv_aload_n hx hb dL_law_1099 rfl (lv_at hl 1 rfl) ?_
  refine lv_aload_n hx hb dL_law_1100 rfl (lv_at hl 0 rfl) ?_
  refine lv_iload_n hx hb dL_law_1101 rfl (lv_at hl 3 rfl) ?_
  refine lv_iconst (v := nI 1) hx hb dL_law_1102 (by decide) ?_
  refine lv_iadd hx hb dL_law_1103 ?_
  refine va_sld hx hb hX hbl hbA hS (hin 1 (by decide)) dL_law_1104 ?_
  have sb : Sb D (LA s) H wx := Sb.rg hP hD hS hA
  refine calI (va_runV (As := [.int (xs (nI i + nI 1).toNatClampNeg)]) (rest := []) ⟨hx, hb, hml, hown, hts⟩ (c1 H.size) (cwV 1 hts gL_law_X11_telling rfl rfl rfl (by decide +kernel) ⟨(Nat.le_of_ble_eq_true rfl), (Nat.le_of_ble_eq_true rfl)⟩) (pvV hE hK hS sb (va_recv hK sb.1 (ci := 11) rfl rx)) rfl rfl hl.1 rfl (lv_room (Nat.le_of_ble_eq_true rfl)) dL_law_1105 ⟨show K + 0 ≤ 600000 by omega, show M + 0 ≤ 7302250 by omega⟩) hS sb (Jn.grow hP hD sb.2.2) (fun H locs hP hD hS => ?_)
  clear sb
  refine lv_aload_n hx hb dL_law_1108 rfl (lv_at hl 2 rfl) ?_
  refine lv_aload_n hx hb dL_law_1109 rfl (lv_at hl 0 rfl) ?_
  refine lv_iload_n hx hb dL_law_1110 rfl (lv_at hl 3 rfl) ?_
  refine lv_iconst (v := nI 1) hx hb dL_law_1111 (by decide) ?_
  refine lv_iadd hx hb dL_law_1112 ?_
  refine va_sld hx hb hX hbl hbA hS (hin 1 (by decide)) dL_law_1113 ?_
  have sb : Sb D (LA s) H wm := Sb.lf hP hD hS hA
  refine calI (va_runV (As := [.int (xs (nI i + nI 1).toNatClampNeg)]) (rest := [.int r]) ⟨hx, hb, hml, hown, hts⟩ (c2 H.size) (cwV 1 hts gL_law_X12_telling rfl rfl rfl (by decide +kernel) ⟨(Nat.le_of_ble_eq_true rfl), (Nat.le_of_ble_eq_true rfl)⟩) (pvV hE hK hS sb (va_recv hK sb.1 (ci := 12) rfl rm)) rfl rfl hl.1 rfl (lv_room (Nat.le_of_ble_eq_true rfl)) dL_law_1114 ⟨show K + 0 ≤ 600000 by omega, show M + 0 ≤ 7302250 by omega⟩) hS sb (Jn.growL hP hD sb.2.2) (fun H locs hP hD hS => ?_)
  refine lv_icmp_eq (tgt := 1603) hx hb dL_law_1117 (by decide) (fun _ => ?_) (fun h9 => absurd rfl h9)
  refine W.widen (k := K + 4) (n := M + 157) (by omega) (by omega) ?_
  exact k _ _ hP hD hS
set_option maxHeartbeats 4000000 in
set_option maxRecDepth 100000 in
theorem wk_gossip (C : LX p l e s m below meth c b N xs G D cA) (C2 : i + 6 ≤ N ∧ N ≤ 3072 ∧ K ≤ 590000 ∧ M ≤ 7200000) (hP : va_P D vwCl (wm ++ wx) H) (hD : va_D (LA s) (wm ++ wx)) (hS : va_S (LA s) s.heap H locs) (hl : lv_has ls 4 [(0, .ref b), (1, .ref x0), (2, .ref m0), (3, .int (nI i))]) (rx : ∃ fx : List Value, wx[0]? = some (x0, .inr (11, fx))) (rm : ∃ fm : List Value, wm[0]? = some (m0, .inr (12, fm))) (c1 : ∀ sz : Nat, Met l yX11_gossip wsX11_gossip ({ frames := 6, cells := 0, slots := 0, locals := 141 } : Room) (PW G D (tyC cA) sz wx [.ref x0, .int (xs (nI i + nI 1).toNatClampNeg)]) (QI D (tyC cA) (va_A wx sz) r wx1) 0 0 (va_A wx sz)) (c2 : ∀ sz : Nat, Met l yX12_gossip wsX12_gossip ({ frames := 7, cells := 0, slots := 0, locals := 164 } : Room) (PW G D (tyC cA) sz wm [.ref m0, .int (xs (nI i + nI 1).toNatClampNeg)]) (QI D (tyC cA) (va_A wm sz) r wm1) 0 0 (va_A wm sz)) (k : ∀ (H : Heap) (locs : List Loc), va_P D vwCl (wm1 ++ wx1) H → va_D (LA s) (wm1 ++ wx1) → va_S (LA s) s.heap H locs → W p l e room_1 s m #[Value.ref b] below meth c H locs (K + 4) (M + 157) (lw_Z below #[Value.ref b] s) (F0 m 1603 ls [])) : W p l e room_1 s m #[Value.ref b] below meth c H locs K M (lw_Z below #[Value.ref b] s) (F0 m 1122 ls []) := by
  obtain ⟨hx, hb, hr, hml, hown, hts, hX, hbl, hlocks, hK, hE⟩ := C
  have hA : ∀ q : Nat, s.heap.size ≤ q → LA s q := fun _ h => h
  have hbA : ¬ LA s b := Nat.not_le.mpr hbl
  have hin : ∀ k, k < 6 → vp_in (nI i + nI k) N := fun k hk => by rw [nI_add]; exact vp_in_nI (by omega) (by omega)
  obtain ⟨fx, rx⟩ := rx
  obtain ⟨fm, rm⟩ := rm
  refine lv_aload_n hx hb dL_law_1122 rfl (lv_at hl 1 rfl) ?_
  refine lv_aload_n hx hb dL_law_1123 rfl (lv_at hl 0 rfl) ?_
  refine lv_iload_n hx hb dL_law_1124 rfl (lv_at hl 3 rfl) ?_
  refine lv_iconst (v := nI 1) hx hb dL_law_1125 (by decide) ?_
  refine lv_iadd hx hb dL_law_1126 ?_
  refine va_sld hx hb hX hbl hbA hS (hin 1 (by decide)) dL_law_1127 ?_
  have sb : Sb D (LA s) H wx := Sb.rg hP hD hS hA
  refine calI (va_runV (As := [.int (xs (nI i + nI 1).toNatClampNeg)]) (rest := []) ⟨hx, hb, hml, hown, hts⟩ (c1 H.size) (cwV 1 hts gL_law_X11_gossip rfl rfl rfl (by decide +kernel) ⟨(Nat.le_of_ble_eq_true rfl), (Nat.le_of_ble_eq_true rfl)⟩) (pvV hE hK hS sb (va_recv hK sb.1 (ci := 11) rfl rx)) rfl rfl hl.1 rfl (lv_room (Nat.le_of_ble_eq_true rfl)) dL_law_1128 ⟨show K + 0 ≤ 600000 by omega, show M + 0 ≤ 7302250 by omega⟩) hS sb (Jn.grow hP hD sb.2.2) (fun H locs hP hD hS => ?_)
  clear sb
  refine lv_aload_n hx hb dL_law_1131 rfl (lv_at hl 2 rfl) ?_
  refine lv_aload_n hx hb dL_law_1132 rfl (lv_at hl 0 rfl) ?_
  refine lv_iload_n hx hb dL_law_1133 rfl (lv_at hl 3 rfl) ?_
  refine lv_iconst (v := nI 1) hx hb dL_law_1134 (by decide) ?_
  refine lv_iadd hx hb dL_law_1135 ?_
  refine va_sld hx hb hX hbl hbA hS (hin 1 (by decide)) dL_law_1136 ?_
  have sb : Sb D (LA s) H wm := Sb.lf hP hD hS hA
  refine calI (va_runV (As := [.int (xs (nI i + nI 1).toNatClampNeg)]) (rest := [.int r]) ⟨hx, hb, hml, hown, hts⟩ (c2 H.size) (cwV 1 hts gL_law_X12_gossip rfl rfl rfl (by decide +kernel) ⟨(Nat.le_of_ble_eq_true rfl), (Nat.le_of_ble_eq_true rfl)⟩) (pvV hE hK hS sb (va_recv hK sb.1 (ci := 12) rfl rm)) rfl rfl hl.1 rfl (lv_room (Nat.le_of_ble_eq_true rfl)) dL_law_1137 ⟨show K + 0 ≤ 600000 by omega, show M + 0 ≤ 7302250 by omega⟩) hS sb (Jn.growL hP hD sb.2.2) (fun H locs hP hD hS => ?_)
  refine lv_icmp_eq (tgt := 1603) hx hb dL_law_1140 (by decide) (fun _ => ?_) (fun h9 => absurd rfl h9)
  refine W.widen (k := K + 4) (n := M + 157) (by omega) (by omega) ?_
  exact k _ _ hP hD hS
set_option maxHeartbeats 4000000 in
set_option maxRecDepth 100000 in
theorem wk_much (C : LX p l e s m below meth c b N xs G D cA) (C2 : i + 6 ≤ N ∧ N ≤ 3072 ∧ K ≤ 590000 ∧ M ≤ 7200000) (hP : va_P D vwCl (wm ++ wx) H) (hD : va_D (LA s) (wm ++ wx)) (hS : va_S (LA s) s.heap H locs) (hl : lv_has ls 4 [(0, .ref b), (1, .ref x0), (2, .ref m0), (3, .int (nI i))]) (rx : ∃ fx : List Value, wx[0]? = some (x0, .inr (11, fx))) (rm : ∃ fm : List Value, wm[0]? = some (m0, .inr (12, fm))) (c1 : ∀ sz : Nat, Met l yX11_much wsX11_much ({ frames := 2, cells := 0, slots := 0, locals := 43 } : Room) (PW G D (tyC cA) sz wx [.ref x0, .int (xs (nI i + nI 1).toNatClampNeg)]) (QI D (tyC cA) (va_A wx sz) r wx1) 0 0 (va_A wx sz)) (c2 : ∀ sz : Nat, Met l yX12_much wsX12_much ({ frames := 2, cells := 0, slots := 0, locals := 46 } : Room) (PW G D (tyC cA) sz wm [.ref m0, .int (xs (nI i + nI 1).toNatClampNeg)]) (QI D (tyC cA) (va_A wm sz) r wm1) 0 0 (va_A wm sz)) (k : ∀ (H : Heap) (locs : List Loc), va_P D vwCl (wm1 ++ wx1) H → va_D (LA s) (wm1 ++ wx1) → va_S (LA s) s.heap H locs → W p l e room_1 s m #[Value.ref b] below meth c H locs (K + 4) (M + 157) (lw_Z below #[Value.ref b] s) (F0 m 1603 ls [])) : W p l e room_1 s m #[Value.ref b] below meth c H locs K M (lw_Z below #[Value.ref b] s) (F0 m 1145 ls []) := by
  obtain ⟨hx, hb, hr, hml, hown, hts, hX, hbl, hlocks, hK, hE⟩ := C
  have hA : ∀ q : Nat, s.heap.size ≤ q → LA s q := fun _ h => h
  have hbA : ¬ LA s b := Nat.not_le.mpr hbl
  have hin : ∀ k, k < 6 → vp_in (nI i + nI k) N := fun k hk => by rw [nI_add]; exact vp_in_nI (by omega) (by omega)
  obtain ⟨fx, rx⟩ := rx
  obtain ⟨fm, rm⟩ := rm
  refine lv_aload_n hx hb dL_law_1145 rfl (lv_at hl 1 rfl) ?_
  refine lv_aload_n hx hb dL_law_1146 rfl (lv_at hl 0 rfl) ?_
  refine lv_iload_n hx hb dL_law_1147 rfl (lv_at hl 3 rfl) ?_
  refine lv_iconst (v := nI 1) hx hb dL_law_1148 (by decide) ?_
  refine lv_iadd hx hb dL_law_1149 ?_
  refine va_sld hx hb hX hbl hbA hS (hin 1 (by decide)) dL_law_1150 ?_
  have sb : Sb D (LA s) H wx := Sb.rg hP hD hS hA
  refine calI (va_runV (As := [.int (xs (nI i + nI 1).toNatClampNeg)]) (rest := []) ⟨hx, hb, hml, hown, hts⟩ (c1 H.size) (cwV 1 hts gL_law_X11_much rfl rfl rfl (by decide +kernel) ⟨(Nat.le_of_ble_eq_true rfl), (Nat.le_of_ble_eq_true rfl)⟩) (pvV hE hK hS sb (va_recv hK sb.1 (ci := 11) rfl rx)) rfl rfl hl.1 rfl (lv_room (Nat.le_of_ble_eq_true rfl)) dL_law_1151 ⟨show K + 0 ≤ 600000 by omega, show M + 0 ≤ 7302250 by omega⟩) hS sb (Jn.grow hP hD sb.2.2) (fun H locs hP hD hS => ?_)
  clear sb
  refine lv_aload_n hx hb dL_law_1154 rfl (lv_at hl 2 rfl) ?_
  refine lv_aload_n hx hb dL_law_1155 rfl (lv_at hl 0 rfl) ?_
  refine lv_iload_n hx hb dL_law_1156 rfl (lv_at hl 3 rfl) ?_
  refine lv_iconst (v := nI 1) hx hb dL_law_1157 (by decide) ?_
  refine lv_iadd hx hb dL_law_1158 ?_
  refine va_sld hx hb hX hbl hbA hS (hin 1 (by decide)) dL_law_1159 ?_
  have sb : Sb D (LA s) H wm := Sb.lf hP hD hS hA
  refine calI (va_runV (As := [.int (xs (nI i + nI 1).toNatClampNeg)]) (rest := [.int r]) ⟨hx, hb, hml, hown, hts⟩ (c2 H.size) (cwV 1 hts gL_law_X12_much rfl rfl rfl (by decide +kernel) ⟨(Nat.le_of_ble_eq_true rfl), (Nat.le_of_ble_eq_true rfl)⟩) (pvV hE hK hS sb (va_recv hK sb.1 (ci := 12) rfl rm)) rfl rfl hl.1 rfl (lv_room (Nat.le_of_ble_eq_true rfl)) dL_law_1160 ⟨show K + 0 ≤ 600000 by omega, show M + 0 ≤ 7302250 by omega⟩) hS sb (Jn.growL hP hD sb.2.2) (fun H locs hP hD hS => ?_)
  refine lv_icmp_eq (tgt := 1603) hx hb dL_law_1163 (by decide) (fun _ => ?_) (fun h9 => absurd rfl h9)
  refine W.widen (k := K + 4) (n := M + 157) (by omega) (by omega) ?_
  exact k _ _ hP hD hS
set_option maxHeartbeats 4000000 in
set_option maxRecDepth 100000 in
theorem wk_odds (C : LX p l e s m below meth c b N xs G D cA) (C2 : i + 6 ≤ N ∧ N ≤ 3072 ∧ K ≤ 590000 ∧ M ≤ 7200000) (hP : va_P D vwCl (wm ++ wx) H) (hD : va_D (LA s) (wm ++ wx)) (hS : va_S (LA s) s.heap H locs) (hl : lv_has ls 4 [(0, .ref b), (1, .ref x0), (2, .ref m0), (3, .int (nI i))]) (rx : ∃ fx : List Value, wx[0]? = some (x0, .inr (11, fx))) (rm : ∃ fm : List Value, wm[0]? = some (m0, .inr (12, fm))) (c1 : ∀ sz : Nat, Met l yX11_odds wsX11_odds ({ frames := 6, cells := 0, slots := 0, locals := 141 } : Room) (PW G D (tyC cA) sz wx [.ref x0, .int (xs (nI i + nI 1).toNatClampNeg), .int (xs (nI i + nI 2).toNatClampNeg), .int (xs (nI i + nI 3).toNatClampNeg)]) (QI D (tyC cA) (va_A wx sz) r wx1) 0 0 (va_A wx sz)) (c2 : ∀ sz : Nat, Met l yX12_odds wsX12_odds ({ frames := 7, cells := 0, slots := 0, locals := 164 } : Room) (PW G D (tyC cA) sz wm [.ref m0, .int (xs (nI i + nI 1).toNatClampNeg), .int (xs (nI i + nI 2).toNatClampNeg), .int (xs (nI i + nI 3).toNatClampNeg)]) (QI D (tyC cA) (va_A wm sz) r wm1) 0 0 (va_A wm sz)) (k : ∀ (H : Heap) (locs : List Loc), va_P D vwCl (wm1 ++ wx1) H → va_D (LA s) (wm1 ++ wx1) → va_S (LA s) s.heap H locs → W p l e room_1 s m #[Value.ref b] below meth c H locs (K + 4) (M + 157) (lw_Z below #[Value.ref b] s) (F0 m 1603 ls [])) : W p l e room_1 s m #[Value.ref b] below meth c H locs K M (lw_Z below #[Value.ref b] s) (F0 m 1168 ls []) := by
  obtain ⟨hx, hb, hr, hml, hown, hts, hX, hbl, hlocks, hK, hE⟩ := C
  have hA : ∀ q : Nat, s.heap.size ≤ q → LA s q := fun _ h => h
  have hbA : ¬ LA s b := Nat.not_le.mpr hbl
  have hin : ∀ k, k < 6 → vp_in (nI i + nI k) N := fun k hk => by rw [nI_add]; exact vp_in_nI (by omega) (by omega)
  obtain ⟨fx, rx⟩ := rx
  obtain ⟨fm, rm⟩ := rm
  refine lv_aload_n hx hb dL_law_1168 rfl (lv_at hl 1 rfl) ?_
  refine lv_aload_n hx hb dL_law_1169 rfl (lv_at hl 0 rfl) ?_
  refine lv_iload_n hx hb dL_law_1170 rfl (lv_at hl 3 rfl) ?_
  refine lv_iconst (v := nI 1) hx hb dL_law_1171 (by decide) ?_
  refine lv_iadd hx hb dL_law_1172 ?_
  refine va_sld hx hb hX hbl hbA hS (hin 1 (by decide)) dL_law_1173 ?_
  refine lv_aload_n hx hb dL_law_1174 rfl (lv_at hl 0 rfl) ?_
  refine lv_iload_n hx hb dL_law_1175 rfl (lv_at hl 3 rfl) ?_
  refine lv_iconst (v := nI 2) hx hb dL_law_1176 (by decide) ?_
  refine lv_iadd hx hb dL_law_1177 ?_
  refine va_sld hx hb hX hbl hbA hS (hin 2 (by decide)) dL_law_1178 ?_
  refine lv_aload_n hx hb dL_law_1179 rfl (lv_at hl 0 rfl) ?_
  refine lv_iload_n hx hb dL_law_1180 rfl (lv_at hl 3 rfl) ?_
  refine lv_iconst (v := nI 3) hx hb dL_law_1181 (by decide) ?_
  refine lv_iadd hx hb dL_law_1182 ?_
  refine va_sld hx hb hX hbl hbA hS (hin 3 (by decide)) dL_law_1183 ?_
  have sb : Sb D (LA s) H wx := Sb.rg hP hD hS hA
  refine calI (va_runV (As := [.int (xs (nI i + nI 1).toNatClampNeg), .int (xs (nI i + nI 2).toNatClampNeg), .int (xs (nI i + nI 3).toNatClampNeg)]) (rest := []) ⟨hx, hb, hml, hown, hts⟩ (c1 H.size) (cwV 3 hts gL_law_X11_odds rfl rfl rfl (by decide +kernel) ⟨(Nat.le_of_ble_eq_true rfl), (Nat.le_of_ble_eq_true rfl)⟩) (pvV hE hK hS sb (va_recv hK sb.1 (ci := 11) rfl rx)) rfl rfl hl.1 rfl (lv_room (Nat.le_of_ble_eq_true rfl)) dL_law_1184 ⟨show K + 0 ≤ 600000 by omega, show M + 0 ≤ 7302250 by omega⟩) hS sb (Jn.grow hP hD sb.2.2) (fun H locs hP hD hS => ?_)
  clear sb
  refine lv_aload_n hx hb dL_law_1187 rfl (lv_at hl 2 rfl) ?_
  refine lv_aload_n hx hb dL_law_1188 rfl (lv_at hl 0 rfl) ?_
  refine lv_iload_n hx hb dL_law_1189 rfl (lv_at hl 3 rfl) ?_
  refine lv_iconst (v := nI 1) hx hb dL_law_1190 (by decide) ?_
  refine lv_iadd hx hb dL_law_1191 ?_
  refine va_sld hx hb hX hbl hbA hS (hin 1 (by decide)) dL_law_1192 ?_
  refine lv_aload_n hx hb dL_law_1193 rfl (lv_at hl 0 rfl) ?_
  refine lv_iload_n hx hb dL_law_1194 rfl (lv_at hl 3 rfl) ?_
  refine lv_iconst (v := nI 2) hx hb dL_law_1195 (by decide) ?_
  refine lv_iadd hx hb dL_law_1196 ?_
  refine va_sld hx hb hX hbl hbA hS (hin 2 (by decide)) dL_law_1197 ?_
  refine lv_aload_n hx hb dL_law_1198 rfl (lv_at hl 0 rfl) ?_
  refine lv_iload_n hx hb dL_law_1199 rfl (lv_at hl 3 rfl) ?_
  refine lv_iconst (v := nI 3) hx hb dL_law_1200 (by decide) ?_
  refine lv_iadd hx hb dL_law_1201 ?_
  refine va_sld hx hb hX hbl hbA hS (hin 3 (by decide)) dL_law_1202 ?_
  have sb : Sb D (LA s) H wm := Sb.lf hP hD hS hA
  refine calI (va_runV (As := [.int (xs (nI i + nI 1).toNatClampNeg), .int (xs (nI i + nI 2).toNatClampNeg), .int (xs (nI i + nI 3).toNatClampNeg)]) (rest := [.int r]) ⟨hx, hb, hml, hown, hts⟩ (c2 H.size) (cwV 3 hts gL_law_X12_odds rfl rfl rfl (by decide +kernel) ⟨(Nat.le_of_ble_eq_true rfl), (Nat.le_of_ble_eq_true rfl)⟩) (pvV hE hK hS sb (va_recv hK sb.1 (ci := 12) rfl rm)) rfl rfl hl.1 rfl (lv_room (Nat.le_of_ble_eq_true rfl)) dL_law_1203 ⟨show K + 0 ≤ 600000 by omega, show M + 0 ≤ 7302250 by omega⟩) hS sb (Jn.growL hP hD sb.2.2) (fun H locs hP hD hS => ?_)
  refine lv_icmp_eq (tgt := 1603) hx hb dL_law_1206 (by decide) (fun _ => ?_) (fun h9 => absurd rfl h9)
  refine W.widen (k := K + 4) (n := M + 157) (by omega) (by omega) ?_
  exact k _ _ hP hD hS
set_option maxHeartbeats 4000000 in
set_option maxRecDepth 100000 in
theorem wk_seed (C : LX p l e s m below meth c b N xs G D cA) (C2 : i + 6 ≤ N ∧ N ≤ 3072 ∧ K ≤ 590000 ∧ M ≤ 7200000) (hP : va_P D vwCl (wm ++ wx) H) (hD : va_D (LA s) (wm ++ wx)) (hS : va_S (LA s) s.heap H locs) (hl : lv_has ls 4 [(0, .ref b), (1, .ref x0), (2, .ref m0), (3, .int (nI i))]) (rx : ∃ fx : List Value, wx[0]? = some (x0, .inr (11, fx))) (rm : ∃ fm : List Value, wm[0]? = some (m0, .inr (12, fm))) (c1 : ∀ sz : Nat, Met l yX11_seed wsX11_seed ({ frames := 0, cells := 0, slots := 0, locals := 0 } : Room) (PW G D (tyC cA) sz wx [.ref x0, .int (xs (nI i + nI 1).toNatClampNeg)]) (QI D (tyC cA) (va_A wx sz) r wx1) 0 0 (va_A wx sz)) (c2 : ∀ sz : Nat, Met l yX12_seed wsX12_seed ({ frames := 1, cells := 0, slots := 0, locals := 23 } : Room) (PW G D (tyC cA) sz wm [.ref m0, .int (xs (nI i + nI 1).toNatClampNeg)]) (QI D (tyC cA) (va_A wm sz) r wm1) 0 0 (va_A wm sz)) (k : ∀ (H : Heap) (locs : List Loc), va_P D vwCl (wm1 ++ wx1) H → va_D (LA s) (wm1 ++ wx1) → va_S (LA s) s.heap H locs → W p l e room_1 s m #[Value.ref b] below meth c H locs (K + 4) (M + 157) (lw_Z below #[Value.ref b] s) (F0 m 1603 ls [])) : W p l e room_1 s m #[Value.ref b] below meth c H locs K M (lw_Z below #[Value.ref b] s) (F0 m 1211 ls []) := by
  obtain ⟨hx, hb, hr, hml, hown, hts, hX, hbl, hlocks, hK, hE⟩ := C
  have hA : ∀ q : Nat, s.heap.size ≤ q → LA s q := fun _ h => h
  have hbA : ¬ LA s b := Nat.not_le.mpr hbl
  have hin : ∀ k, k < 6 → vp_in (nI i + nI k) N := fun k hk => by rw [nI_add]; exact vp_in_nI (by omega) (by omega)
  obtain ⟨fx, rx⟩ := rx
  obtain ⟨fm, rm⟩ := rm
  refine lv_aload_n hx hb dL_law_1211 rfl (lv_at hl 1 rfl) ?_
  refine lv_aload_n hx hb dL_law_1212 rfl (lv_at hl 0 rfl) ?_
  refine lv_iload_n hx hb dL_law_1213 rfl (lv_at hl 3 rfl) ?_
  refine lv_iconst (v := nI 1) hx hb dL_law_1214 (by decide) ?_
  refine lv_iadd hx hb dL_law_1215 ?_
  refine va_sld hx hb hX hbl hbA hS (hin 1 (by decide)) dL_law_1216 ?_
  have sb : Sb D (LA s) H wx := Sb.rg hP hD hS hA
  refine calI (va_runV (As := [.int (xs (nI i + nI 1).toNatClampNeg)]) (rest := []) ⟨hx, hb, hml, hown, hts⟩ (c1 H.size) (cwV 1 hts gL_law_X11_seed rfl rfl rfl (by decide +kernel) ⟨(Nat.le_of_ble_eq_true rfl), (Nat.le_of_ble_eq_true rfl)⟩) (pvV hE hK hS sb (va_recv hK sb.1 (ci := 11) rfl rx)) rfl rfl hl.1 rfl (lv_room (Nat.le_of_ble_eq_true rfl)) dL_law_1217 ⟨show K + 0 ≤ 600000 by omega, show M + 0 ≤ 7302250 by omega⟩) hS sb (Jn.grow hP hD sb.2.2) (fun H locs hP hD hS => ?_)
  clear sb
  refine lv_aload_n hx hb dL_law_1220 rfl (lv_at hl 2 rfl) ?_
  refine lv_aload_n hx hb dL_law_1221 rfl (lv_at hl 0 rfl) ?_
  refine lv_iload_n hx hb dL_law_1222 rfl (lv_at hl 3 rfl) ?_
  refine lv_iconst (v := nI 1) hx hb dL_law_1223 (by decide) ?_
  refine lv_iadd hx hb dL_law_1224 ?_
  refine va_sld hx hb hX hbl hbA hS (hin 1 (by decide)) dL_law_1225 ?_
  have sb : Sb D (LA s) H wm := Sb.lf hP hD hS hA
  refine calI (va_runV (As := [.int (xs (nI i + nI 1).toNatClampNeg)]) (rest := [.int r]) ⟨hx, hb, hml, hown, hts⟩ (c2 H.size) (cwV 1 hts gL_law_X12_seed rfl rfl rfl (by decide +kernel) ⟨(Nat.le_of_ble_eq_true rfl), (Nat.le_of_ble_eq_true rfl)⟩) (pvV hE hK hS sb (va_recv hK sb.1 (ci := 12) rfl rm)) rfl rfl hl.1 rfl (lv_room (Nat.le_of_ble_eq_true rfl)) dL_law_1226 ⟨show K + 0 ≤ 600000 by omega, show M + 0 ≤ 7302250 by omega⟩) hS sb (Jn.growL hP hD sb.2.2) (fun H locs hP hD hS => ?_)
  refine lv_icmp_eq (tgt := 1603) hx hb dL_law_1229 (by decide) (fun _ => ?_) (fun h9 => absurd rfl h9)
  refine W.widen (k := K + 4) (n := M + 157) (by omega) (by omega) ?_
  exact k _ _ hP hD hS
set_option maxHeartbeats 4000000 in
set_option maxRecDepth 100000 in
theorem wk_voice (C : LX p l e s m below meth c b N xs G D cA) (C2 : i + 6 ≤ N ∧ N ≤ 3072 ∧ K ≤ 590000 ∧ M ≤ 7200000) (hP : va_P D vwCl (wm ++ wx) H) (hD : va_D (LA s) (wm ++ wx)) (hS : va_S (LA s) s.heap H locs) (hl : lv_has ls 4 [(0, .ref b), (1, .ref x0), (2, .ref m0), (3, .int (nI i))]) (rx : ∃ fx : List Value, wx[0]? = some (x0, .inr (11, fx))) (rm : ∃ fm : List Value, wm[0]? = some (m0, .inr (12, fm))) (c1 : ∀ sz : Nat, Met l yX11_voice wsX11_voice ({ frames := 6, cells := 0, slots := 0, locals := 131 } : Room) (PW G D (tyC cA) sz wx [.ref x0, .int (xs (nI i + nI 1).toNatClampNeg), .int (xs (nI i + nI 2).toNatClampNeg), .int (xs (nI i + nI 3).toNatClampNeg)]) (QI D (tyC cA) (va_A wx sz) r wx1) 0 0 (va_A wx sz)) (c2 : ∀ sz : Nat, Met l yX12_voice wsX12_voice ({ frames := 585, cells := 0, slots := 0, locals := 12879 } : Room) (PW G D (tyC cA) sz wm [.ref m0, .int (xs (nI i + nI 1).toNatClampNeg), .int (xs (nI i + nI 2).toNatClampNeg), .int (xs (nI i + nI 3).toNatClampNeg)]) (QI D (tyC cA) (va_A wm sz) r wm1) 0 0 (va_A wm sz)) (k : ∀ (H : Heap) (locs : List Loc), va_P D vwCl (wm1 ++ wx1) H → va_D (LA s) (wm1 ++ wx1) → va_S (LA s) s.heap H locs → W p l e room_1 s m #[Value.ref b] below meth c H locs (K + 4) (M + 157) (lw_Z below #[Value.ref b] s) (F0 m 1603 ls [])) : W p l e room_1 s m #[Value.ref b] below meth c H locs K M (lw_Z below #[Value.ref b] s) (F0 m 1234 ls []) := by
  obtain ⟨hx, hb, hr, hml, hown, hts, hX, hbl, hlocks, hK, hE⟩ := C
  have hA : ∀ q : Nat, s.heap.size ≤ q → LA s q := fun _ h => h
  have hbA : ¬ LA s b := Nat.not_le.mpr hbl
  have hin : ∀ k, k < 6 → vp_in (nI i + nI k) N := fun k hk => by rw [nI_add]; exact vp_in_nI (by omega) (by omega)
  obtain ⟨fx, rx⟩ := rx
  obtain ⟨fm, rm⟩ := rm
  refine lv_aload_n hx hb dL_law_1234 rfl (lv_at hl 1 rfl) ?_
  refine lv_aload_n hx hb dL_law_1235 rfl (lv_at hl 0 rfl) ?_
  refine lv_iload_n hx hb dL_law_1236 rfl (lv_at hl 3 rfl) ?_
  refine lv_iconst (v := nI 1) hx hb dL_law_1237 (by decide) ?_
  refine lv_iadd hx hb dL_law_1238 ?_
  refine va_sld hx hb hX hbl hbA hS (hin 1 (by decide)) dL_law_1239 ?_
  refine lv_aload_n hx hb dL_law_1240 rfl (lv_at hl 0 rfl) ?_
  refine lv_iload_n hx hb dL_law_1241 rfl (lv_at hl 3 rfl) ?_
  refine lv_iconst (v := nI 2) hx hb dL_law_1242 (by decide) ?_
  refine lv_iadd hx hb dL_law_1243 ?_
  refine va_sld hx hb hX hbl hbA hS (hin 2 (by decide)) dL_law_1244 ?_
  refine lv_aload_n hx hb dL_law_1245 rfl (lv_at hl 0 rfl) ?_
  refine lv_iload_n hx hb dL_law_1246 rfl (lv_at hl 3 rfl) ?_
  refine lv_iconst (v := nI 3) hx hb dL_law_1247 (by decide) ?_
  refine lv_iadd hx hb dL_law_1248 ?_
  refine va_sld hx hb hX hbl hbA hS (hin 3 (by decide)) dL_law_1249 ?_
  have sb : Sb D (LA s) H wx := Sb.rg hP hD hS hA
  refine calI (va_runV (As := [.int (xs (nI i + nI 1).toNatClampNeg), .int (xs (nI i + nI 2).toNatClampNeg), .int (xs (nI i + nI 3).toNatClampNeg)]) (rest := []) ⟨hx, hb, hml, hown, hts⟩ (c1 H.size) (cwV 3 hts gL_law_X11_voice rfl rfl rfl (by decide +kernel) ⟨(Nat.le_of_ble_eq_true rfl), (Nat.le_of_ble_eq_true rfl)⟩) (pvV hE hK hS sb (va_recv hK sb.1 (ci := 11) rfl rx)) rfl rfl hl.1 rfl (lv_room (Nat.le_of_ble_eq_true rfl)) dL_law_1250 ⟨show K + 0 ≤ 600000 by omega, show M + 0 ≤ 7302250 by omega⟩) hS sb (Jn.grow hP hD sb.2.2) (fun H locs hP hD hS => ?_)
  clear sb
  refine lv_aload_n hx hb dL_law_1253 rfl (lv_at hl 2 rfl) ?_
  refine lv_aload_n hx hb dL_law_1254 rfl (lv_at hl 0 rfl) ?_
  refine lv_iload_n hx hb dL_law_1255 rfl (lv_at hl 3 rfl) ?_
  refine lv_iconst (v := nI 1) hx hb dL_law_1256 (by decide) ?_
  refine lv_iadd hx hb dL_law_1257 ?_
  refine va_sld hx hb hX hbl hbA hS (hin 1 (by decide)) dL_law_1258 ?_
  refine lv_aload_n hx hb dL_law_1259 rfl (lv_at hl 0 rfl) ?_
  refine lv_iload_n hx hb dL_law_1260 rfl (lv_at hl 3 rfl) ?_
  refine lv_iconst (v := nI 2) hx hb dL_law_1261 (by decide) ?_
  refine lv_iadd hx hb dL_law_1262 ?_
  refine va_sld hx hb hX hbl hbA hS (hin 2 (by decide)) dL_law_1263 ?_
  refine lv_aload_n hx hb dL_law_1264 rfl (lv_at hl 0 rfl) ?_
  refine lv_iload_n hx hb dL_law_1265 rfl (lv_at hl 3 rfl) ?_
  refine lv_iconst (v := nI 3) hx hb dL_law_1266 (by decide) ?_
  refine lv_iadd hx hb dL_law_1267 ?_
  refine va_sld hx hb hX hbl hbA hS (hin 3 (by decide)) dL_law_1268 ?_
  have sb : Sb D (LA s) H wm := Sb.lf hP hD hS hA
  refine calI (va_runV (As := [.int (xs (nI i + nI 1).toNatClampNeg), .int (xs (nI i + nI 2).toNatClampNeg), .int (xs (nI i + nI 3).toNatClampNeg)]) (rest := [.int r]) ⟨hx, hb, hml, hown, hts⟩ (c2 H.size) (cwV 3 hts gL_law_X12_voice rfl rfl rfl (by decide +kernel) ⟨(Nat.le_of_ble_eq_true rfl), (Nat.le_of_ble_eq_true rfl)⟩) (pvV hE hK hS sb (va_recv hK sb.1 (ci := 12) rfl rm)) rfl rfl hl.1 rfl (lv_room (Nat.le_of_ble_eq_true rfl)) dL_law_1269 ⟨show K + 0 ≤ 600000 by omega, show M + 0 ≤ 7302250 by omega⟩) hS sb (Jn.growL hP hD sb.2.2) (fun H locs hP hD hS => ?_)
  refine lv_icmp_eq (tgt := 1603) hx hb dL_law_1272 (by decide) (fun _ => ?_) (fun h9 => absurd rfl h9)
  refine W.widen (k := K + 4) (n := M + 157) (by omega) (by omega) ?_
  exact k _ _ hP hD hS
set_option maxHeartbeats 4000000 in
set_option maxRecDepth 100000 in
theorem wk_trace (C : LX p l e s m below meth c b N xs G D cA) (C2 : i + 6 ≤ N ∧ N ≤ 3072 ∧ K ≤ 590000 ∧ M ≤ 7200000) (hP : va_P D vwCl (wm ++ wx) H) (hD : va_D (LA s) (wm ++ wx)) (hS : va_S (LA s) s.heap H locs) (hl : lv_has ls 4 [(0, .ref b), (1, .ref x0), (2, .ref m0), (3, .int (nI i))]) (rx : ∃ fx : List Value, wx[0]? = some (x0, .inr (11, fx))) (rm : ∃ fm : List Value, wm[0]? = some (m0, .inr (12, fm))) (c1 : ∀ sz : Nat, Met l yX11_trace wsX11_trace ({ frames := 1, cells := 0, slots := 0, locals := 22 } : Room) (PW G D (tyC cA) sz wx [.ref x0, .int (xs (nI i + nI 1).toNatClampNeg)]) (QI D (tyC cA) (va_A wx sz) r wx1) 0 0 (va_A wx sz)) (c2 : ∀ sz : Nat, Met l yX12_trace wsX12_trace ({ frames := 1, cells := 0, slots := 0, locals := 25 } : Room) (PW G D (tyC cA) sz wm [.ref m0, .int (xs (nI i + nI 1).toNatClampNeg)]) (QI D (tyC cA) (va_A wm sz) r wm1) 0 0 (va_A wm sz)) (k : ∀ (H : Heap) (locs : List Loc), va_P D vwCl (wm1 ++ wx1) H → va_D (LA s) (wm1 ++ wx1) → va_S (LA s) s.heap H locs → W p l e room_1 s m #[Value.ref b] below meth c H locs (K + 4) (M + 157) (lw_Z below #[Value.ref b] s) (F0 m 1603 ls [])) : W p l e room_1 s m #[Value.ref b] below meth c H locs K M (lw_Z below #[Value.ref b] s) (F0 m 1277 ls []) := by
  obtain ⟨hx, hb, hr, hml, hown, hts, hX, hbl, hlocks, hK, hE⟩ := C
  have hA : ∀ q : Nat, s.heap.size ≤ q → LA s q := fun _ h => h
  have hbA : ¬ LA s b := Nat.not_le.mpr hbl
  have hin : ∀ k, k < 6 → vp_in (nI i + nI k) N := fun k hk => by rw [nI_add]; exact vp_in_nI (by omega) (by omega)
  obtain ⟨fx, rx⟩ := rx
  obtain ⟨fm, rm⟩ := rm
  refine lv_aload_n hx hb dL_law_1277 rfl (lv_at hl 1 rfl) ?_
  refine lv_aload_n hx hb dL_law_1278 rfl (lv_at hl 0 rfl) ?_
  refine lv_iload_n hx hb dL_law_1279 rfl (lv_at hl 3 rfl) ?_
  refine lv_iconst (v := nI 1) hx hb dL_law_1280 (by decide) ?_
  refine lv_iadd hx hb dL_law_1281 ?_
  refine va_sld hx hb hX hbl hbA hS (hin 1 (by decide)) dL_law_1282 ?_
  have sb : Sb D (LA s) H wx := Sb.rg hP hD hS hA
  refine calI (va_runV (As := [.int (xs (nI i + nI 1).toNatClampNeg)]) (rest := []) ⟨hx, hb, hml, hown, hts⟩ (c1 H.size) (cwV 1 hts gL_law_X11_trace rfl rfl rfl (by decide +kernel) ⟨(Nat.le_of_ble_eq_true rfl), (Nat.le_of_ble_eq_true rfl)⟩) (pvV hE hK hS sb (va_recv hK sb.1 (ci := 11) rfl rx)) rfl rfl hl.1 rfl (lv_room (Nat.le_of_ble_eq_true rfl)) dL_law_1283 ⟨show K + 0 ≤ 600000 by omega, show M + 0 ≤ 7302250 by omega⟩) hS sb (Jn.grow hP hD sb.2.2) (fun H locs hP hD hS => ?_)
  clear sb
  refine lv_aload_n hx hb dL_law_1286 rfl (lv_at hl 2 rfl) ?_
  refine lv_aload_n hx hb dL_law_1287 rfl (lv_at hl 0 rfl) ?_
  refine lv_iload_n hx hb dL_law_1288 rfl (lv_at hl 3 rfl) ?_
  refine lv_iconst (v := nI 1) hx hb dL_law_1289 (by decide) ?_
  refine lv_iadd hx hb dL_law_1290 ?_
  refine va_sld hx hb hX hbl hbA hS (hin 1 (by decide)) dL_law_1291 ?_
  have sb : Sb D (LA s) H wm := Sb.lf hP hD hS hA
  refine calI (va_runV (As := [.int (xs (nI i + nI 1).toNatClampNeg)]) (rest := [.int r]) ⟨hx, hb, hml, hown, hts⟩ (c2 H.size) (cwV 1 hts gL_law_X12_trace rfl rfl rfl (by decide +kernel) ⟨(Nat.le_of_ble_eq_true rfl), (Nat.le_of_ble_eq_true rfl)⟩) (pvV hE hK hS sb (va_recv hK sb.1 (ci := 12) rfl rm)) rfl rfl hl.1 rfl (lv_room (Nat.le_of_ble_eq_true rfl)) dL_law_1292 ⟨show K + 0 ≤ 600000 by omega, show M + 0 ≤ 7302250 by omega⟩) hS sb (Jn.growL hP hD sb.2.2) (fun H locs hP hD hS => ?_)
  refine lv_icmp_eq (tgt := 1603) hx hb dL_law_1295 (by decide) (fun _ => ?_) (fun h9 => absurd rfl h9)
  refine W.widen (k := K + 4) (n := M + 157) (by omega) (by omega) ?_
  exact k _ _ hP hD hS
set_option maxHeartbeats 4000000 in
set_option maxRecDepth 100000 in
theorem wk_sheet (C : LX p l e s m below meth c b N xs G D cA) (C2 : i + 6 ≤ N ∧ N ≤ 3072 ∧ K ≤ 590000 ∧ M ≤ 7200000) (hP : va_P D vwCl (wm ++ wx) H) (hD : va_D (LA s) (wm ++ wx)) (hS : va_S (LA s) s.heap H locs) (hl : lv_has ls 4 [(0, .ref b), (1, .ref x0), (2, .ref m0), (3, .int (nI i))]) (rx : ∃ fx : List Value, wx[0]? = some (x0, .inr (11, fx))) (rm : ∃ fm : List Value, wm[0]? = some (m0, .inr (12, fm))) (c1 : ∀ sz : Nat, Met l yX11_sheet wsX11_sheet ({ frames := 2, cells := 0, slots := 0, locals := 45 } : Room) (PW G D (tyC cA) sz wx [.ref x0, .int (xs (nI i + nI 1).toNatClampNeg), .int (xs (nI i + nI 2).toNatClampNeg), .int (xs (nI i + nI 3).toNatClampNeg)]) (QI D (tyC cA) (va_A wx sz) r wx1) 0 0 (va_A wx sz)) (c2 : ∀ sz : Nat, Met l yX12_sheet wsX12_sheet ({ frames := 2, cells := 0, slots := 0, locals := 45 } : Room) (PW G D (tyC cA) sz wm [.ref m0, .int (xs (nI i + nI 1).toNatClampNeg), .int (xs (nI i + nI 2).toNatClampNeg), .int (xs (nI i + nI 3).toNatClampNeg)]) (QI D (tyC cA) (va_A wm sz) r wm1) 0 0 (va_A wm sz)) (k : ∀ (H : Heap) (locs : List Loc), va_P D vwCl (wm1 ++ wx1) H → va_D (LA s) (wm1 ++ wx1) → va_S (LA s) s.heap H locs → W p l e room_1 s m #[Value.ref b] below meth c H locs (K + 4) (M + 157) (lw_Z below #[Value.ref b] s) (F0 m 1603 ls [])) : W p l e room_1 s m #[Value.ref b] below meth c H locs K M (lw_Z below #[Value.ref b] s) (F0 m 1300 ls []) := by
  obtain ⟨hx, hb, hr, hml, hown, hts, hX, hbl, hlocks, hK, hE⟩ := C
  have hA : ∀ q : Nat, s.heap.size ≤ q → LA s q := fun _ h => h
  have hbA : ¬ LA s b := Nat.not_le.mpr hbl
  have hin : ∀ k, k < 6 → vp_in (nI i + nI k) N := fun k hk => by rw [nI_add]; exact vp_in_nI (by omega) (by omega)
  obtain ⟨fx, rx⟩ := rx
  obtain ⟨fm, rm⟩ := rm
  refine lv_aload_n hx hb dL_law_1300 rfl (lv_at hl 1 rfl) ?_
  refine lv_aload_n hx hb dL_law_1301 rfl (lv_at hl 0 rfl) ?_
  refine lv_iload_n hx hb dL_law_1302 rfl (lv_at hl 3 rfl) ?_
  refine lv_iconst (v := nI 1) hx hb dL_law_1303 (by decide) ?_
  refine lv_iadd hx hb dL_law_1304 ?_
  refine va_sld hx hb hX hbl hbA hS (hin 1 (by decide)) dL_law_1305 ?_
  refine lv_aload_n hx hb dL_law_1306 rfl (lv_at hl 0 rfl) ?_
  refine lv_iload_n hx hb dL_law_1307 rfl (lv_at hl 3 rfl) ?_
  refine lv_iconst (v := nI 2) hx hb dL_law_1308 (by decide) ?_
  refine lv_iadd hx hb dL_law_1309 ?_
  refine va_sld hx hb hX hbl hbA hS (hin 2 (by decide)) dL_law_1310 ?_
  refine lv_aload_n hx hb dL_law_1311 rfl (lv_at hl 0 rfl) ?_
  refine lv_iload_n hx hb dL_law_1312 rfl (lv_at hl 3 rfl) ?_
  refine lv_iconst (v := nI 3) hx hb dL_law_1313 (by decide) ?_
  refine lv_iadd hx hb dL_law_1314 ?_
  refine va_sld hx hb hX hbl hbA hS (hin 3 (by decide)) dL_law_1315 ?_
  have sb : Sb D (LA s) H wx := Sb.rg hP hD hS hA
  refine calI (va_runV (As := [.int (xs (nI i + nI 1).toNatClampNeg), .int (xs (nI i + nI 2).toNatClampNeg), .int (xs (nI i + nI 3).toNatClampNeg)]) (rest := []) ⟨hx, hb, hml, hown, hts⟩ (c1 H.size) (cwV 3 hts gL_law_X11_sheet rfl rfl rfl (by decide +kernel) ⟨(Nat.le_of_ble_eq_true rfl), (Nat.le_of_ble_eq_true rfl)⟩) (pvV hE hK hS sb (va_recv hK sb.1 (ci := 11) rfl rx)) rfl rfl hl.1 rfl (lv_room (Nat.le_of_ble_eq_true rfl)) dL_law_1316 ⟨show K + 0 ≤ 600000 by omega, show M + 0 ≤ 7302250 by omega⟩) hS sb (Jn.grow hP hD sb.2.2) (fun H locs hP hD hS => ?_)
  clear sb
  refine lv_aload_n hx hb dL_law_1319 rfl (lv_at hl 2 rfl) ?_
  refine lv_aload_n hx hb dL_law_1320 rfl (lv_at hl 0 rfl) ?_
  refine lv_iload_n hx hb dL_law_1321 rfl (lv_at hl 3 rfl) ?_
  refine lv_iconst (v := nI 1) hx hb dL_law_1322 (by decide) ?_
  refine lv_iadd hx hb dL_law_1323 ?_
  refine va_sld hx hb hX hbl hbA hS (hin 1 (by decide)) dL_law_1324 ?_
  refine lv_aload_n hx hb dL_law_1325 rfl (lv_at hl 0 rfl) ?_
  refine lv_iload_n hx hb dL_law_1326 rfl (lv_at hl 3 rfl) ?_
  refine lv_iconst (v := nI 2) hx hb dL_law_1327 (by decide) ?_
  refine lv_iadd hx hb dL_law_1328 ?_
  refine va_sld hx hb hX hbl hbA hS (hin 2 (by decide)) dL_law_1329 ?_
  refine lv_aload_n hx hb dL_law_1330 rfl (lv_at hl 0 rfl) ?_
  refine lv_iload_n hx hb dL_law_1331 rfl (lv_at hl 3 rfl) ?_
  refine lv_iconst (v := nI 3) hx hb dL_law_1332 (by decide) ?_
  refine lv_iadd hx hb dL_law_1333 ?_
  refine va_sld hx hb hX hbl hbA hS (hin 3 (by decide)) dL_law_1334 ?_
  have sb : Sb D (LA s) H wm := Sb.lf hP hD hS hA
  refine calI (va_runV (As := [.int (xs (nI i + nI 1).toNatClampNeg), .int (xs (nI i + nI 2).toNatClampNeg), .int (xs (nI i + nI 3).toNatClampNeg)]) (rest := [.int r]) ⟨hx, hb, hml, hown, hts⟩ (c2 H.size) (cwV 3 hts gL_law_X12_sheet rfl rfl rfl (by decide +kernel) ⟨(Nat.le_of_ble_eq_true rfl), (Nat.le_of_ble_eq_true rfl)⟩) (pvV hE hK hS sb (va_recv hK sb.1 (ci := 12) rfl rm)) rfl rfl hl.1 rfl (lv_room (Nat.le_of_ble_eq_true rfl)) dL_law_1335 ⟨show K + 0 ≤ 600000 by omega, show M + 0 ≤ 7302250 by omega⟩) hS sb (Jn.growL hP hD sb.2.2) (fun H locs hP hD hS => ?_)
  refine lv_icmp_eq (tgt := 1603) hx hb dL_law_1338 (by decide) (fun _ => ?_) (fun h9 => absurd rfl h9)
  refine W.widen (k := K + 4) (n := M + 157) (by omega) (by omega) ?_
  exact k _ _ hP hD hS
set_option maxHeartbeats 4000000 in
set_option maxRecDepth 100000 in
theorem wk_put (C : LX p l e s m below meth c b N xs G D cA) (C2 : i + 6 ≤ N ∧ N ≤ 3072 ∧ K ≤ 590000 ∧ M ≤ 7200000) (hP : va_P D vwCl (wm ++ wx) H) (hD : va_D (LA s) (wm ++ wx)) (hS : va_S (LA s) s.heap H locs) (hl : lv_has ls 4 [(0, .ref b), (1, .ref x0), (2, .ref m0), (3, .int (nI i))]) (rx : ∃ fx : List Value, wx[0]? = some (x0, .inr (11, fx))) (rm : ∃ fm : List Value, wm[0]? = some (m0, .inr (12, fm))) (c1 : ∀ sz : Nat, Met l yX11_put wsX11_put ({ frames := 2, cells := 0, slots := 0, locals := 42 } : Room) (PW G D (tyC cA) sz wx [.ref x0, .int (xs (nI i + nI 1).toNatClampNeg), .int (xs (nI i + nI 2).toNatClampNeg), .int (xs (nI i + nI 3).toNatClampNeg)]) (QI D (tyC cA) (va_A wx sz) r wx1) 0 0 (va_A wx sz)) (c2 : ∀ sz : Nat, Met l yX12_put wsX12_put ({ frames := 2, cells := 0, slots := 0, locals := 45 } : Room) (PW G D (tyC cA) sz wm [.ref m0, .int (xs (nI i + nI 1).toNatClampNeg), .int (xs (nI i + nI 2).toNatClampNeg), .int (xs (nI i + nI 3).toNatClampNeg)]) (QI D (tyC cA) (va_A wm sz) r wm1) 0 0 (va_A wm sz)) (k : ∀ (H : Heap) (locs : List Loc), va_P D vwCl (wm1 ++ wx1) H → va_D (LA s) (wm1 ++ wx1) → va_S (LA s) s.heap H locs → W p l e room_1 s m #[Value.ref b] below meth c H locs (K + 4) (M + 157) (lw_Z below #[Value.ref b] s) (F0 m 1603 ls [])) : W p l e room_1 s m #[Value.ref b] below meth c H locs K M (lw_Z below #[Value.ref b] s) (F0 m 1343 ls []) := by
  obtain ⟨hx, hb, hr, hml, hown, hts, hX, hbl, hlocks, hK, hE⟩ := C
  have hA : ∀ q : Nat, s.heap.size ≤ q → LA s q := fun _ h => h
  have hbA : ¬ LA s b := Nat.not_le.mpr hbl
  have hin : ∀ k, k < 6 → vp_in (nI i + nI k) N := fun k hk => by rw [nI_add]; exact vp_in_nI (by omega) (by omega)
  obtain ⟨fx, rx⟩ := rx
  obtain ⟨fm, rm⟩ := rm
  refine lv_aload_n hx hb dL_law_1343 rfl (lv_at hl 1 rfl) ?_
  refine lv_aload_n hx hb dL_law_1344 rfl (lv_at hl 0 rfl) ?_
  refine lv_iload_n hx hb dL_law_1345 rfl (lv_at hl 3 rfl) ?_
  refine lv_iconst (v := nI 1) hx hb dL_law_1346 (by decide) ?_
  refine lv_iadd hx hb dL_law_1347 ?_
  refine va_sld hx hb hX hbl hbA hS (hin 1 (by decide)) dL_law_1348 ?_
  refine lv_aload_n hx hb dL_law_1349 rfl (lv_at hl 0 rfl) ?_
  refine lv_iload_n hx hb dL_law_1350 rfl (lv_at hl 3 rfl) ?_
  refine lv_iconst (v := nI 2) hx hb dL_law_1351 (by decide) ?_
  refine lv_iadd hx hb dL_law_1352 ?_
  refine va_sld hx hb hX hbl hbA hS (hin 2 (by decide)) dL_law_1353 ?_
  refine lv_aload_n hx hb dL_law_1354 rfl (lv_at hl 0 rfl) ?_
  refine lv_iload_n hx hb dL_law_1355 rfl (lv_at hl 3 rfl) ?_
  refine lv_iconst (v := nI 3) hx hb dL_law_1356 (by decide) ?_
  refine lv_iadd hx hb dL_law_1357 ?_
  refine va_sld hx hb hX hbl hbA hS (hin 3 (by decide)) dL_law_1358 ?_
  have sb : Sb D (LA s) H wx := Sb.rg hP hD hS hA
  refine calI (va_runV (As := [.int (xs (nI i + nI 1).toNatClampNeg), .int (xs (nI i + nI 2).toNatClampNeg), .int (xs (nI i + nI 3).toNatClampNeg)]) (rest := []) ⟨hx, hb, hml, hown, hts⟩ (c1 H.size) (cwV 3 hts gL_law_X11_put rfl rfl rfl (by decide +kernel) ⟨(Nat.le_of_ble_eq_true rfl), (Nat.le_of_ble_eq_true rfl)⟩) (pvV hE hK hS sb (va_recv hK sb.1 (ci := 11) rfl rx)) rfl rfl hl.1 rfl (lv_room (Nat.le_of_ble_eq_true rfl)) dL_law_1359 ⟨show K + 0 ≤ 600000 by omega, show M + 0 ≤ 7302250 by omega⟩) hS sb (Jn.grow hP hD sb.2.2) (fun H locs hP hD hS => ?_)
  clear sb
  refine lv_aload_n hx hb dL_law_1362 rfl (lv_at hl 2 rfl) ?_
  refine lv_aload_n hx hb dL_law_1363 rfl (lv_at hl 0 rfl) ?_
  refine lv_iload_n hx hb dL_law_1364 rfl (lv_at hl 3 rfl) ?_
  refine lv_iconst (v := nI 1) hx hb dL_law_1365 (by decide) ?_
  refine lv_iadd hx hb dL_law_1366 ?_
  refine va_sld hx hb hX hbl hbA hS (hin 1 (by decide)) dL_law_1367 ?_
  refine lv_aload_n hx hb dL_law_1368 rfl (lv_at hl 0 rfl) ?_
  refine lv_iload_n hx hb dL_law_1369 rfl (lv_at hl 3 rfl) ?_
  refine lv_iconst (v := nI 2) hx hb dL_law_1370 (by decide) ?_
  refine lv_iadd hx hb dL_law_1371 ?_
  refine va_sld hx hb hX hbl hbA hS (hin 2 (by decide)) dL_law_1372 ?_
  refine lv_aload_n hx hb dL_law_1373 rfl (lv_at hl 0 rfl) ?_
  refine lv_iload_n hx hb dL_law_1374 rfl (lv_at hl 3 rfl) ?_
  refine lv_iconst (v := nI 3) hx hb dL_law_1375 (by decide) ?_
  refine lv_iadd hx hb dL_law_1376 ?_
  refine va_sld hx hb hX hbl hbA hS (hin 3 (by decide)) dL_law_1377 ?_
  have sb : Sb D (LA s) H wm := Sb.lf hP hD hS hA
  refine calI (va_runV (As := [.int (xs (nI i + nI 1).toNatClampNeg), .int (xs (nI i + nI 2).toNatClampNeg), .int (xs (nI i + nI 3).toNatClampNeg)]) (rest := [.int r]) ⟨hx, hb, hml, hown, hts⟩ (c2 H.size) (cwV 3 hts gL_law_X12_put rfl rfl rfl (by decide +kernel) ⟨(Nat.le_of_ble_eq_true rfl), (Nat.le_of_ble_eq_true rfl)⟩) (pvV hE hK hS sb (va_recv hK sb.1 (ci := 12) rfl rm)) rfl rfl hl.1 rfl (lv_room (Nat.le_of_ble_eq_true rfl)) dL_law_1378 ⟨show K + 0 ≤ 600000 by omega, show M + 0 ≤ 7302250 by omega⟩) hS sb (Jn.growL hP hD sb.2.2) (fun H locs hP hD hS => ?_)
  refine lv_icmp_eq (tgt := 1603) hx hb dL_law_1381 (by decide) (fun _ => ?_) (fun h9 => absurd rfl h9)
  refine W.widen (k := K + 4) (n := M + 157) (by omega) (by omega) ?_
  exact k _ _ hP hD hS
set_option maxHeartbeats 4000000 in
set_option maxRecDepth 100000 in
theorem wk_move (C : LX p l e s m below meth c b N xs G D cA) (C2 : i + 6 ≤ N ∧ N ≤ 3072 ∧ K ≤ 590000 ∧ M ≤ 7200000) (hP : va_P D vwCl (wm ++ wx) H) (hD : va_D (LA s) (wm ++ wx)) (hS : va_S (LA s) s.heap H locs) (hl : lv_has ls 4 [(0, .ref b), (1, .ref x0), (2, .ref m0), (3, .int (nI i))]) (rx : ∃ fx : List Value, wx[0]? = some (x0, .inr (11, fx))) (rm : ∃ fm : List Value, wm[0]? = some (m0, .inr (12, fm))) (c1 : ∀ sz : Nat, Met l yX11_move wsX11_move ({ frames := 2, cells := 0, slots := 0, locals := 42 } : Room) (PW G D (tyC cA) sz wx [.ref x0, .int (xs (nI i + nI 1).toNatClampNeg), .int (xs (nI i + nI 2).toNatClampNeg), .int (xs (nI i + nI 3).toNatClampNeg), .int (xs (nI i + nI 4).toNatClampNeg), .int (xs (nI i + nI 5).toNatClampNeg)]) (QI D (tyC cA) (va_A wx sz) r wx1) 0 0 (va_A wx sz)) (c2 : ∀ sz : Nat, Met l yX12_move wsX12_move ({ frames := 2, cells := 0, slots := 0, locals := 45 } : Room) (PW G D (tyC cA) sz wm [.ref m0, .int (xs (nI i + nI 1).toNatClampNeg), .int (xs (nI i + nI 2).toNatClampNeg), .int (xs (nI i + nI 3).toNatClampNeg), .int (xs (nI i + nI 4).toNatClampNeg), .int (xs (nI i + nI 5).toNatClampNeg)]) (QI D (tyC cA) (va_A wm sz) r wm1) 0 0 (va_A wm sz)) (k : ∀ (H : Heap) (locs : List Loc), va_P D vwCl (wm1 ++ wx1) H → va_D (LA s) (wm1 ++ wx1) → va_S (LA s) s.heap H locs → W p l e room_1 s m #[Value.ref b] below meth c H locs (K + 4) (M + 157) (lw_Z below #[Value.ref b] s) (F0 m 1603 ls [])) : W p l e room_1 s m #[Value.ref b] below meth c H locs K M (lw_Z below #[Value.ref b] s) (F0 m 1386 ls []) := by
  obtain ⟨hx, hb, hr, hml, hown, hts, hX, hbl, hlocks, hK, hE⟩ := C
  have hA : ∀ q : Nat, s.heap.size ≤ q → LA s q := fun _ h => h
  have hbA : ¬ LA s b := Nat.not_le.mpr hbl
  have hin : ∀ k, k < 6 → vp_in (nI i + nI k) N := fun k hk => by rw [nI_add]; exact vp_in_nI (by omega) (by omega)
  obtain ⟨fx, rx⟩ := rx
  obtain ⟨fm, rm⟩ := rm
  refine lv_aload_n hx hb dL_law_1386 rfl (lv_at hl 1 rfl) ?_
  refine lv_aload_n hx hb dL_law_1387 rfl (lv_at hl 0 rfl) ?_
  refine lv_iload_n hx hb dL_law_1388 rfl (lv_at hl 3 rfl) ?_
  refine lv_iconst (v := nI 1) hx hb dL_law_1389 (by decide) ?_
  refine lv_iadd hx hb dL_law_1390 ?_
  refine va_sld hx hb hX hbl hbA hS (hin 1 (by decide)) dL_law_1391 ?_
  refine lv_aload_n hx hb dL_law_1392 rfl (lv_at hl 0 rfl) ?_
  refine lv_iload_n hx hb dL_law_1393 rfl (lv_at hl 3 rfl) ?_
  refine lv_iconst (v := nI 2) hx hb dL_law_1394 (by decide) ?_
  refine lv_iadd hx hb dL_law_1395 ?_
  refine va_sld hx hb hX hbl hbA hS (hin 2 (by decide)) dL_law_1396 ?_
  refine lv_aload_n hx hb dL_law_1397 rfl (lv_at hl 0 rfl) ?_
  refine lv_iload_n hx hb dL_law_1398 rfl (lv_at hl 3 rfl) ?_
  refine lv_iconst (v := nI 3) hx hb dL_law_1399 (by decide) ?_
  refine lv_iadd hx hb dL_law_1400 ?_
  refine va_sld hx hb hX hbl hbA hS (hin 3 (by decide)) dL_law_1401 ?_
  refine lv_aload_n hx hb dL_law_1402 rfl (lv_at hl 0 rfl) ?_
  refine lv_iload_n hx hb dL_law_1403 rfl (lv_at hl 3 rfl) ?_
  refine lv_iconst (v := nI 4) hx hb dL_law_1404 (by decide) ?_
  refine lv_iadd hx hb dL_law_1405 ?_
  refine va_sld hx hb hX hbl hbA hS (hin 4 (by decide)) dL_law_1406 ?_
  refine lv_aload_n hx hb dL_law_1407 rfl (lv_at hl 0 rfl) ?_
  refine lv_iload_n hx hb dL_law_1408 rfl (lv_at hl 3 rfl) ?_
  refine lv_iconst (v := nI 5) hx hb dL_law_1409 (by decide) ?_
  refine lv_iadd hx hb dL_law_1410 ?_
  refine va_sld hx hb hX hbl hbA hS (hin 5 (by decide)) dL_law_1411 ?_
  have sb : Sb D (LA s) H wx := Sb.rg hP hD hS hA
  refine calI (va_runV (As := [.int (xs (nI i + nI 1).toNatClampNeg), .int (xs (nI i + nI 2).toNatClampNeg), .int (xs (nI i + nI 3).toNatClampNeg), .int (xs (nI i + nI 4).toNatClampNeg), .int (xs (nI i + nI 5).toNatClampNeg)]) (rest := []) ⟨hx, hb, hml, hown, hts⟩ (c1 H.size) (cwV 5 hts gL_law_X11_move rfl rfl rfl (by decide +kernel) ⟨(Nat.le_of_ble_eq_true rfl), (Nat.le_of_ble_eq_true rfl)⟩) (pvV hE hK hS sb (va_recv hK sb.1 (ci := 11) rfl rx)) rfl rfl hl.1 rfl (lv_room (Nat.le_of_ble_eq_true rfl)) dL_law_1412 ⟨show K + 0 ≤ 600000 by omega, show M + 0 ≤ 7302250 by omega⟩) hS sb (Jn.grow hP hD sb.2.2) (fun H locs hP hD hS => ?_)
  clear sb
  refine lv_aload_n hx hb dL_law_1415 rfl (lv_at hl 2 rfl) ?_
  refine lv_aload_n hx hb dL_law_1416 rfl (lv_at hl 0 rfl) ?_
  refine lv_iload_n hx hb dL_law_1417 rfl (lv_at hl 3 rfl) ?_
  refine lv_iconst (v := nI 1) hx hb dL_law_1418 (by decide) ?_
  refine lv_iadd hx hb dL_law_1419 ?_
  refine va_sld hx hb hX hbl hbA hS (hin 1 (by decide)) dL_law_1420 ?_
  refine lv_aload_n hx hb dL_law_1421 rfl (lv_at hl 0 rfl) ?_
  refine lv_iload_n hx hb dL_law_1422 rfl (lv_at hl 3 rfl) ?_
  refine lv_iconst (v := nI 2) hx hb dL_law_1423 (by decide) ?_
  refine lv_iadd hx hb dL_law_1424 ?_
  refine va_sld hx hb hX hbl hbA hS (hin 2 (by decide)) dL_law_1425 ?_
  refine lv_aload_n hx hb dL_law_1426 rfl (lv_at hl 0 rfl) ?_
  refine lv_iload_n hx hb dL_law_1427 rfl (lv_at hl 3 rfl) ?_
  refine lv_iconst (v := nI 3) hx hb dL_law_1428 (by decide) ?_
  refine lv_iadd hx hb dL_law_1429 ?_
  refine va_sld hx hb hX hbl hbA hS (hin 3 (by decide)) dL_law_1430 ?_
  refine lv_aload_n hx hb dL_law_1431 rfl (lv_at hl 0 rfl) ?_
  refine lv_iload_n hx hb dL_law_1432 rfl (lv_at hl 3 rfl) ?_
  refine lv_iconst (v := nI 4) hx hb dL_law_1433 (by decide) ?_
  refine lv_iadd hx hb dL_law_1434 ?_
  refine va_sld hx hb hX hbl hbA hS (hin 4 (by decide)) dL_law_1435 ?_
  refine lv_aload_n hx hb dL_law_1436 rfl (lv_at hl 0 rfl) ?_
  refine lv_iload_n hx hb dL_law_1437 rfl (lv_at hl 3 rfl) ?_
  refine lv_iconst (v := nI 5) hx hb dL_law_1438 (by decide) ?_
  refine lv_iadd hx hb dL_law_1439 ?_
  refine va_sld hx hb hX hbl hbA hS (hin 5 (by decide)) dL_law_1440 ?_
  have sb : Sb D (LA s) H wm := Sb.lf hP hD hS hA
  refine calI (va_runV (As := [.int (xs (nI i + nI 1).toNatClampNeg), .int (xs (nI i + nI 2).toNatClampNeg), .int (xs (nI i + nI 3).toNatClampNeg), .int (xs (nI i + nI 4).toNatClampNeg), .int (xs (nI i + nI 5).toNatClampNeg)]) (rest := [.int r]) ⟨hx, hb, hml, hown, hts⟩ (c2 H.size) (cwV 5 hts gL_law_X12_move rfl rfl rfl (by decide +kernel) ⟨(Nat.le_of_ble_eq_true rfl), (Nat.le_of_ble_eq_true rfl)⟩) (pvV hE hK hS sb (va_recv hK sb.1 (ci := 12) rfl rm)) rfl rfl hl.1 rfl (lv_room (Nat.le_of_ble_eq_true rfl)) dL_law_1441 ⟨show K + 0 ≤ 600000 by omega, show M + 0 ≤ 7302250 by omega⟩) hS sb (Jn.growL hP hD sb.2.2) (fun H locs hP hD hS => ?_)
  refine lv_icmp_eq (tgt := 1603) hx hb dL_law_1444 (by decide) (fun _ => ?_) (fun h9 => absurd rfl h9)
  refine W.widen (k := K + 4) (n := M + 157) (by omega) (by omega) ?_
  exact k _ _ hP hD hS
set_option maxHeartbeats 4000000 in
set_option maxRecDepth 100000 in
theorem wk_weights (C : LX p l e s m below meth c b N xs G D cA) (C2 : i + 6 ≤ N ∧ N ≤ 3072 ∧ K ≤ 590000 ∧ M ≤ 7200000) (hP : va_P D vwCl (wm ++ wx) H) (hD : va_D (LA s) (wm ++ wx)) (hS : va_S (LA s) s.heap H locs) (hl : lv_has ls 4 [(0, .ref b), (1, .ref x0), (2, .ref m0), (3, .int (nI i))]) (rx : ∃ fx : List Value, wx[0]? = some (x0, .inr (11, fx))) (rm : ∃ fm : List Value, wm[0]? = some (m0, .inr (12, fm))) (c1 : ∀ sz : Nat, Met l yX11_weights wsX11_weights ({ frames := 2, cells := 0, slots := 0, locals := 42 } : Room) (PW G D (tyC cA) sz wx [.ref x0, .int (xs (nI i + nI 1).toNatClampNeg)]) (QI D (tyC cA) (va_A wx sz) r wx1) 0 0 (va_A wx sz)) (c2 : ∀ sz : Nat, Met l yX12_weights wsX12_weights ({ frames := 2, cells := 0, slots := 0, locals := 45 } : Room) (PW G D (tyC cA) sz wm [.ref m0, .int (xs (nI i + nI 1).toNatClampNeg)]) (QI D (tyC cA) (va_A wm sz) r wm1) 0 0 (va_A wm sz)) (k : ∀ (H : Heap) (locs : List Loc), va_P D vwCl (wm1 ++ wx1) H → va_D (LA s) (wm1 ++ wx1) → va_S (LA s) s.heap H locs → W p l e room_1 s m #[Value.ref b] below meth c H locs (K + 4) (M + 157) (lw_Z below #[Value.ref b] s) (F0 m 1603 ls [])) : W p l e room_1 s m #[Value.ref b] below meth c H locs K M (lw_Z below #[Value.ref b] s) (F0 m 1449 ls []) := by
  obtain ⟨hx, hb, hr, hml, hown, hts, hX, hbl, hlocks, hK, hE⟩ := C
  have hA : ∀ q : Nat, s.heap.size ≤ q → LA s q := fun _ h => h
  have hbA : ¬ LA s b := Nat.not_le.mpr hbl
  have hin : ∀ k, k < 6 → vp_in (nI i + nI k) N := fun k hk => by rw [nI_add]; exact vp_in_nI (by omega) (by omega)
  obtain ⟨fx, rx⟩ := rx
  obtain ⟨fm, rm⟩ := rm
  refine lv_aload_n hx hb dL_law_1449 rfl (lv_at hl 1 rfl) ?_
  refine lv_aload_n hx hb dL_law_1450 rfl (lv_at hl 0 rfl) ?_
  refine lv_iload_n hx hb dL_law_1451 rfl (lv_at hl 3 rfl) ?_
  refine lv_iconst (v := nI 1) hx hb dL_law_1452 (by decide) ?_
  refine lv_iadd hx hb dL_law_1453 ?_
  refine va_sld hx hb hX hbl hbA hS (hin 1 (by decide)) dL_law_1454 ?_
  have sb : Sb D (LA s) H wx := Sb.rg hP hD hS hA
  refine calI (va_runV (As := [.int (xs (nI i + nI 1).toNatClampNeg)]) (rest := []) ⟨hx, hb, hml, hown, hts⟩ (c1 H.size) (cwV 1 hts gL_law_X11_weights rfl rfl rfl (by decide +kernel) ⟨(Nat.le_of_ble_eq_true rfl), (Nat.le_of_ble_eq_true rfl)⟩) (pvV hE hK hS sb (va_recv hK sb.1 (ci := 11) rfl rx)) rfl rfl hl.1 rfl (lv_room (Nat.le_of_ble_eq_true rfl)) dL_law_1455 ⟨show K + 0 ≤ 600000 by omega, show M + 0 ≤ 7302250 by omega⟩) hS sb (Jn.grow hP hD sb.2.2) (fun H locs hP hD hS => ?_)
  clear sb
  refine lv_aload_n hx hb dL_law_1458 rfl (lv_at hl 2 rfl) ?_
  refine lv_aload_n hx hb dL_law_1459 rfl (lv_at hl 0 rfl) ?_
  refine lv_iload_n hx hb dL_law_1460 rfl (lv_at hl 3 rfl) ?_
  refine lv_iconst (v := nI 1) hx hb dL_law_1461 (by decide) ?_
  refine lv_iadd hx hb dL_law_1462 ?_
  refine va_sld hx hb hX hbl hbA hS (hin 1 (by decide)) dL_law_1463 ?_
  have sb : Sb D (LA s) H wm := Sb.lf hP hD hS hA
  refine calI (va_runV (As := [.int (xs (nI i + nI 1).toNatClampNeg)]) (rest := [.int r]) ⟨hx, hb, hml, hown, hts⟩ (c2 H.size) (cwV 1 hts gL_law_X12_weights rfl rfl rfl (by decide +kernel) ⟨(Nat.le_of_ble_eq_true rfl), (Nat.le_of_ble_eq_true rfl)⟩) (pvV hE hK hS sb (va_recv hK sb.1 (ci := 12) rfl rm)) rfl rfl hl.1 rfl (lv_room (Nat.le_of_ble_eq_true rfl)) dL_law_1464 ⟨show K + 0 ≤ 600000 by omega, show M + 0 ≤ 7302250 by omega⟩) hS sb (Jn.growL hP hD sb.2.2) (fun H locs hP hD hS => ?_)
  refine lv_icmp_eq (tgt := 1603) hx hb dL_law_1467 (by decide) (fun _ => ?_) (fun h9 => absurd rfl h9)
  refine W.widen (k := K + 4) (n := M + 157) (by omega) (by omega) ?_
  exact k _ _ hP hD hS
set_option maxHeartbeats 4000000 in
set_option maxRecDepth 100000 in
theorem wk_judge (C : LX p l e s m below meth c b N xs G D cA) (C2 : i + 6 ≤ N ∧ N ≤ 3072 ∧ K ≤ 590000 ∧ M ≤ 7200000) (hP : va_P D vwCl (wm ++ wx) H) (hD : va_D (LA s) (wm ++ wx)) (hS : va_S (LA s) s.heap H locs) (hl : lv_has ls 4 [(0, .ref b), (1, .ref x0), (2, .ref m0), (3, .int (nI i))]) (rx : ∃ fx : List Value, wx[0]? = some (x0, .inr (11, fx))) (rm : ∃ fm : List Value, wm[0]? = some (m0, .inr (12, fm))) (c1 : ∀ sz : Nat, Met l yX11_judge wsX11_judge ({ frames := 2, cells := 0, slots := 0, locals := 42 } : Room) (PW G D (tyC cA) sz wx [.ref x0, .int (xs (nI i + nI 1).toNatClampNeg)]) (QI D (tyC cA) (va_A wx sz) r wx1) 0 0 (va_A wx sz)) (c2 : ∀ sz : Nat, Met l yX12_judge wsX12_judge ({ frames := 2, cells := 0, slots := 0, locals := 45 } : Room) (PW G D (tyC cA) sz wm [.ref m0, .int (xs (nI i + nI 1).toNatClampNeg)]) (QI D (tyC cA) (va_A wm sz) r wm1) 0 0 (va_A wm sz)) (k : ∀ (H : Heap) (locs : List Loc), va_P D vwCl (wm1 ++ wx1) H → va_D (LA s) (wm1 ++ wx1) → va_S (LA s) s.heap H locs → W p l e room_1 s m #[Value.ref b] below meth c H locs (K + 4) (M + 157) (lw_Z below #[Value.ref b] s) (F0 m 1603 ls [])) : W p l e room_1 s m #[Value.ref b] below meth c H locs K M (lw_Z below #[Value.ref b] s) (F0 m 1472 ls []) := by
  obtain ⟨hx, hb, hr, hml, hown, hts, hX, hbl, hlocks, hK, hE⟩ := C
  have hA : ∀ q : Nat, s.heap.size ≤ q → LA s q := fun _ h => h
  have hbA : ¬ LA s b := Nat.not_le.mpr hbl
  have hin : ∀ k, k < 6 → vp_in (nI i + nI k) N := fun k hk => by rw [nI_add]; exact vp_in_nI (by omega) (by omega)
  obtain ⟨fx, rx⟩ := rx
  obtain ⟨fm, rm⟩ := rm
  refine lv_aload_n hx hb dL_law_1472 rfl (lv_at hl 1 rfl) ?_
  refine lv_aload_n hx hb dL_law_1473 rfl (lv_at hl 0 rfl) ?_
  refine lv_iload_n hx hb dL_law_1474 rfl (lv_at hl 3 rfl) ?_
  refine lv_iconst (v := nI 1) hx hb dL_law_1475 (by decide) ?_
  refine lv_iadd hx hb dL_law_1476 ?_
  refine va_sld hx hb hX hbl hbA hS (hin 1 (by decide)) dL_law_1477 ?_
  have sb : Sb D (LA s) H wx := Sb.rg hP hD hS hA
  refine calI (va_runV (As := [.int (xs (nI i + nI 1).toNatClampNeg)]) (rest := []) ⟨hx, hb, hml, hown, hts⟩ (c1 H.size) (cwV 1 hts gL_law_X11_judge rfl rfl rfl (by decide +kernel) ⟨(Nat.le_of_ble_eq_true rfl), (Nat.le_of_ble_eq_true rfl)⟩) (pvV hE hK hS sb (va_recv hK sb.1 (ci := 11) rfl rx)) rfl rfl hl.1 rfl (lv_room (Nat.le_of_ble_eq_true rfl)) dL_law_1478 ⟨show K + 0 ≤ 600000 by omega, show M + 0 ≤ 7302250 by omega⟩) hS sb (Jn.grow hP hD sb.2.2) (fun H locs hP hD hS => ?_)
  clear sb
  refine lv_aload_n hx hb dL_law_1481 rfl (lv_at hl 2 rfl) ?_
  refine lv_aload_n hx hb dL_law_1482 rfl (lv_at hl 0 rfl) ?_
  refine lv_iload_n hx hb dL_law_1483 rfl (lv_at hl 3 rfl) ?_
  refine lv_iconst (v := nI 1) hx hb dL_law_1484 (by decide) ?_
  refine lv_iadd hx hb dL_law_1485 ?_
  refine va_sld hx hb hX hbl hbA hS (hin 1 (by decide)) dL_law_1486 ?_
  have sb : Sb D (LA s) H wm := Sb.lf hP hD hS hA
  refine calI (va_runV (As := [.int (xs (nI i + nI 1).toNatClampNeg)]) (rest := [.int r]) ⟨hx, hb, hml, hown, hts⟩ (c2 H.size) (cwV 1 hts gL_law_X12_judge rfl rfl rfl (by decide +kernel) ⟨(Nat.le_of_ble_eq_true rfl), (Nat.le_of_ble_eq_true rfl)⟩) (pvV hE hK hS sb (va_recv hK sb.1 (ci := 12) rfl rm)) rfl rfl hl.1 rfl (lv_room (Nat.le_of_ble_eq_true rfl)) dL_law_1487 ⟨show K + 0 ≤ 600000 by omega, show M + 0 ≤ 7302250 by omega⟩) hS sb (Jn.growL hP hD sb.2.2) (fun H locs hP hD hS => ?_)
  refine lv_icmp_eq (tgt := 1603) hx hb dL_law_1490 (by decide) (fun _ => ?_) (fun h9 => absurd rfl h9)
  refine W.widen (k := K + 4) (n := M + 157) (by omega) (by omega) ?_
  exact k _ _ hP hD hS
set_option maxHeartbeats 4000000 in
set_option maxRecDepth 100000 in
theorem wk_image (C : LX p l e s m below meth c b N xs G D cA) (C2 : i + 6 ≤ N ∧ N ≤ 3072 ∧ K ≤ 590000 ∧ M ≤ 7200000) (hP : va_P D vwCl (wm ++ wx) H) (hD : va_D (LA s) (wm ++ wx)) (hS : va_S (LA s) s.heap H locs) (hl : lv_has ls 4 [(0, .ref b), (1, .ref x0), (2, .ref m0), (3, .int (nI i))]) (rx : ∃ fx : List Value, wx[0]? = some (x0, .inr (11, fx))) (rm : ∃ fm : List Value, wm[0]? = some (m0, .inr (12, fm))) (c1 : ∀ sz : Nat, Met l yX11_image wsX11_image ({ frames := 3, cells := 0, slots := 0, locals := 82 } : Room) (PW G D (tyC cA) sz wx [.ref x0]) (QI D (tyC cA) (va_A wx sz) r wx1) 0 0 (va_A wx sz)) (c2 : ∀ sz : Nat, Met l yX12_image wsX12_image ({ frames := 0, cells := 0, slots := 0, locals := 0 } : Room) (PW G D (tyC cA) sz wm [.ref m0]) (QI D (tyC cA) (va_A wm sz) r wm1) 0 0 (va_A wm sz)) (k : ∀ (H : Heap) (locs : List Loc), va_P D vwCl (wm1 ++ wx1) H → va_D (LA s) (wm1 ++ wx1) → va_S (LA s) s.heap H locs → W p l e room_1 s m #[Value.ref b] below meth c H locs (K + 4) (M + 157) (lw_Z below #[Value.ref b] s) (F0 m 1603 ls [])) : W p l e room_1 s m #[Value.ref b] below meth c H locs K M (lw_Z below #[Value.ref b] s) (F0 m 1495 ls []) := by
  obtain ⟨hx, hb, hr, hml, hown, hts, hX, hbl, hlocks, hK, hE⟩ := C
  have hA : ∀ q : Nat, s.heap.size ≤ q → LA s q := fun _ h => h
  have hbA : ¬ LA s b := Nat.not_le.mpr hbl
  have hin : ∀ k, k < 6 → vp_in (nI i + nI k) N := fun k hk => by rw [nI_add]; exact vp_in_nI (by omega) (by omega)
  obtain ⟨fx, rx⟩ := rx
  obtain ⟨fm, rm⟩ := rm
  refine lv_aload_n hx hb dL_law_1495 rfl (lv_at hl 1 rfl) ?_
  have sb : Sb D (LA s) H wx := Sb.rg hP hD hS hA
  refine calI (va_runV (As := []) (rest := []) ⟨hx, hb, hml, hown, hts⟩ (c1 H.size) (cwV 0 hts gL_law_X11_image rfl rfl rfl (by decide +kernel) ⟨(Nat.le_of_ble_eq_true rfl), (Nat.le_of_ble_eq_true rfl)⟩) (pvV hE hK hS sb (va_recv hK sb.1 (ci := 11) rfl rx)) rfl rfl hl.1 rfl (lv_room (Nat.le_of_ble_eq_true rfl)) dL_law_1496 ⟨show K + 0 ≤ 600000 by omega, show M + 0 ≤ 7302250 by omega⟩) hS sb (Jn.grow hP hD sb.2.2) (fun H locs hP hD hS => ?_)
  clear sb
  refine lv_aload_n hx hb dL_law_1499 rfl (lv_at hl 2 rfl) ?_
  have sb : Sb D (LA s) H wm := Sb.lf hP hD hS hA
  refine calI (va_runV (As := []) (rest := [.int r]) ⟨hx, hb, hml, hown, hts⟩ (c2 H.size) (cwV 0 hts gL_law_X12_image rfl rfl rfl (by decide +kernel) ⟨(Nat.le_of_ble_eq_true rfl), (Nat.le_of_ble_eq_true rfl)⟩) (pvV hE hK hS sb (va_recv hK sb.1 (ci := 12) rfl rm)) rfl rfl hl.1 rfl (lv_room (Nat.le_of_ble_eq_true rfl)) dL_law_1500 ⟨show K + 0 ≤ 600000 by omega, show M + 0 ≤ 7302250 by omega⟩) hS sb (Jn.growL hP hD sb.2.2) (fun H locs hP hD hS => ?_)
  refine lv_icmp_eq (tgt := 1603) hx hb dL_law_1503 (by decide) (fun _ => ?_) (fun h9 => absurd rfl h9)
  refine W.widen (k := K + 4) (n := M + 157) (by omega) (by omega) ?_
  exact k _ _ hP hD hS
set_option maxHeartbeats 4000000 in
set_option maxRecDepth 100000 in
theorem wk_restore (C : LX p l e s m below meth c b N xs G D cA) (C2 : i + 6 ≤ N ∧ N ≤ 3072 ∧ K ≤ 590000 ∧ M ≤ 7200000) (hP : va_P D vwCl (wm ++ wx) H) (hD : va_D (LA s) (wm ++ wx)) (hS : va_S (LA s) s.heap H locs) (hl : lv_has ls 4 [(0, .ref b), (1, .ref x0), (2, .ref m0), (3, .int (nI i))]) (rx : ∃ fx : List Value, wx[0]? = some (x0, .inr (11, fx))) (rm : ∃ fm : List Value, wm[0]? = some (m0, .inr (12, fm))) (c1 : ∀ sz : Nat, Met l yX11_restore wsX11_restore ({ frames := 3, cells := 0, slots := 0, locals := 82 } : Room) (PW G D (tyC cA) sz wx [.ref x0]) (QI D (tyC cA) (va_A wx sz) r wx1) 0 0 (va_A wx sz)) (c2 : ∀ sz : Nat, Met l yX12_restore wsX12_restore ({ frames := 1, cells := 0, slots := 0, locals := 21 } : Room) (PW G D (tyC cA) sz wm [.ref m0]) (QI D (tyC cA) (va_A wm sz) r wm1) 0 0 (va_A wm sz)) (k : ∀ (H : Heap) (locs : List Loc), va_P D vwCl (wm1 ++ wx1) H → va_D (LA s) (wm1 ++ wx1) → va_S (LA s) s.heap H locs → W p l e room_1 s m #[Value.ref b] below meth c H locs (K + 4) (M + 157) (lw_Z below #[Value.ref b] s) (F0 m 1603 ls [])) : W p l e room_1 s m #[Value.ref b] below meth c H locs K M (lw_Z below #[Value.ref b] s) (F0 m 1508 ls []) := by
  obtain ⟨hx, hb, hr, hml, hown, hts, hX, hbl, hlocks, hK, hE⟩ := C
  have hA : ∀ q : Nat, s.heap.size ≤ q → LA s q := fun _ h => h
  have hbA : ¬ LA s b := Nat.not_le.mpr hbl
  have hin : ∀ k, k < 6 → vp_in (nI i + nI k) N := fun k hk => by rw [nI_add]; exact vp_in_nI (by omega) (by omega)
  obtain ⟨fx, rx⟩ := rx
  obtain ⟨fm, rm⟩ := rm
  refine lv_aload_n hx hb dL_law_1508 rfl (lv_at hl 1 rfl) ?_
  have sb : Sb D (LA s) H wx := Sb.rg hP hD hS hA
  refine calI (va_runV (As := []) (rest := []) ⟨hx, hb, hml, hown, hts⟩ (c1 H.size) (cwV 0 hts gL_law_X11_restore rfl rfl rfl (by decide +kernel) ⟨(Nat.le_of_ble_eq_true rfl), (Nat.le_of_ble_eq_true rfl)⟩) (pvV hE hK hS sb (va_recv hK sb.1 (ci := 11) rfl rx)) rfl rfl hl.1 rfl (lv_room (Nat.le_of_ble_eq_true rfl)) dL_law_1509 ⟨show K + 0 ≤ 600000 by omega, show M + 0 ≤ 7302250 by omega⟩) hS sb (Jn.grow hP hD sb.2.2) (fun H locs hP hD hS => ?_)
  clear sb
  refine lv_aload_n hx hb dL_law_1512 rfl (lv_at hl 2 rfl) ?_
  have sb : Sb D (LA s) H wm := Sb.lf hP hD hS hA
  refine calI (va_runV (As := []) (rest := [.int r]) ⟨hx, hb, hml, hown, hts⟩ (c2 H.size) (cwV 0 hts gL_law_X12_restore rfl rfl rfl (by decide +kernel) ⟨(Nat.le_of_ble_eq_true rfl), (Nat.le_of_ble_eq_true rfl)⟩) (pvV hE hK hS sb (va_recv hK sb.1 (ci := 12) rfl rm)) rfl rfl hl.1 rfl (lv_room (Nat.le_of_ble_eq_true rfl)) dL_law_1513 ⟨show K + 0 ≤ 600000 by omega, show M + 0 ≤ 7302250 by omega⟩) hS sb (Jn.growL hP hD sb.2.2) (fun H locs hP hD hS => ?_)
  refine lv_icmp_eq (tgt := 1603) hx hb dL_law_1516 (by decide) (fun _ => ?_) (fun h9 => absurd rfl h9)
  refine W.widen (k := K + 4) (n := M + 157) (by omega) (by omega) ?_
  exact k _ _ hP hD hS
set_option maxHeartbeats 4000000 in
set_option maxRecDepth 100000 in
theorem wk_tell (C : LX p l e s m below meth c b N xs G D cA) (C2 : i + 6 ≤ N ∧ N ≤ 3072 ∧ K ≤ 590000 ∧ M ≤ 7200000) (hP : va_P D vwCl (wm ++ wx) H) (hD : va_D (LA s) (wm ++ wx)) (hS : va_S (LA s) s.heap H locs) (hl : lv_has ls 4 [(0, .ref b), (1, .ref x0), (2, .ref m0), (3, .int (nI i))]) (rx : ∃ fx : List Value, wx[0]? = some (x0, .inr (11, fx))) (rm : ∃ fm : List Value, wm[0]? = some (m0, .inr (12, fm))) (c1 : ∀ sz : Nat, Met l yX11_tell wsX11_tell ({ frames := 1, cells := 0, slots := 0, locals := 21 } : Room) (PW G D (tyC cA) sz wx [.ref x0, .int (xs (nI i + nI 1).toNatClampNeg)]) (QI D (tyC cA) (va_A wx sz) r wx1) 0 0 (va_A wx sz)) (c2 : ∀ sz : Nat, Met l yX12_tell wsX12_tell ({ frames := 1, cells := 0, slots := 0, locals := 21 } : Room) (PW G D (tyC cA) sz wm [.ref m0, .int (xs (nI i + nI 1).toNatClampNeg)]) (QI D (tyC cA) (va_A wm sz) r wm1) 0 0 (va_A wm sz)) (k : ∀ (H : Heap) (locs : List Loc), va_P D vwCl (wm1 ++ wx1) H → va_D (LA s) (wm1 ++ wx1) → va_S (LA s) s.heap H locs → W p l e room_1 s m #[Value.ref b] below meth c H locs (K + 4) (M + 157) (lw_Z below #[Value.ref b] s) (F0 m 1603 ls [])) : W p l e room_1 s m #[Value.ref b] below meth c H locs K M (lw_Z below #[Value.ref b] s) (F0 m 1521 ls []) := by
  obtain ⟨hx, hb, hr, hml, hown, hts, hX, hbl, hlocks, hK, hE⟩ := C
  have hA : ∀ q : Nat, s.heap.size ≤ q → LA s q := fun _ h => h
  have hbA : ¬ LA s b := Nat.not_le.mpr hbl
  have hin : ∀ k, k < 6 → vp_in (nI i + nI k) N := fun k hk => by rw [nI_add]; exact vp_in_nI (by omega) (by omega)
  obtain ⟨fx, rx⟩ := rx
  obtain ⟨fm, rm⟩ := rm
  refine lv_aload_n hx hb dL_law_1521 rfl (lv_at hl 1 rfl) ?_
  refine lv_aload_n hx hb dL_law_1522 rfl (lv_at hl 0 rfl) ?_
  refine lv_iload_n hx hb dL_law_1523 rfl (lv_at hl 3 rfl) ?_
  refine lv_iconst (v := nI 1) hx hb dL_law_1524 (by decide) ?_
  refine lv_iadd hx hb dL_law_1525 ?_
  refine va_sld hx hb hX hbl hbA hS (hin 1 (by decide)) dL_law_1526 ?_
  have sb : Sb D (LA s) H wx := Sb.rg hP hD hS hA
  refine calI (va_runV (As := [.int (xs (nI i + nI 1).toNatClampNeg)]) (rest := []) ⟨hx, hb, hml, hown, hts⟩ (c1 H.size) (cwV 1 hts gL_law_X11_tell rfl rfl rfl (by decide +kernel) ⟨(Nat.le_of_ble_eq_true rfl), (Nat.le_of_ble_eq_true rfl)⟩) (pvV hE hK hS sb (va_recv hK sb.1 (ci := 11) rfl rx)) rfl rfl hl.1 rfl (lv_room (Nat.le_of_ble_eq_true rfl)) dL_law_1527 ⟨show K + 0 ≤ 600000 by omega, show M + 0 ≤ 7302250 by omega⟩) hS sb (Jn.grow hP hD sb.2.2) (fun H locs hP hD hS => ?_)
  clear sb
  refine lv_aload_n hx hb dL_law_1530 rfl (lv_at hl 2 rfl) ?_
  refine lv_aload_n hx hb dL_law_1531 rfl (lv_at hl 0 rfl) ?_
  refine lv_iload_n hx hb dL_law_1532 rfl (lv_at hl 3 rfl) ?_
  refine lv_iconst (v := nI 1) hx hb dL_law_1533 (by decide) ?_
  refine lv_iadd hx hb dL_law_1534 ?_
  refine va_sld hx hb hX hbl hbA hS (hin 1 (by decide)) dL_law_1535 ?_
  have sb : Sb D (LA s) H wm := Sb.lf hP hD hS hA
  refine calI (va_runV (As := [.int (xs (nI i + nI 1).toNatClampNeg)]) (rest := [.int r]) ⟨hx, hb, hml, hown, hts⟩ (c2 H.size) (cwV 1 hts gL_law_X12_tell rfl rfl rfl (by decide +kernel) ⟨(Nat.le_of_ble_eq_true rfl), (Nat.le_of_ble_eq_true rfl)⟩) (pvV hE hK hS sb (va_recv hK sb.1 (ci := 12) rfl rm)) rfl rfl hl.1 rfl (lv_room (Nat.le_of_ble_eq_true rfl)) dL_law_1536 ⟨show K + 0 ≤ 600000 by omega, show M + 0 ≤ 7302250 by omega⟩) hS sb (Jn.growL hP hD sb.2.2) (fun H locs hP hD hS => ?_)
  refine lv_icmp_eq (tgt := 1603) hx hb dL_law_1539 (by decide) (fun _ => ?_) (fun h9 => absurd rfl h9)
  refine W.widen (k := K + 4) (n := M + 157) (by omega) (by omega) ?_
  exact k _ _ hP hD hS
set_option maxHeartbeats 4000000 in
set_option maxRecDepth 100000 in
theorem wk_check (C : LX p l e s m below meth c b N xs G D cA) (C2 : i + 6 ≤ N ∧ N ≤ 3072 ∧ K ≤ 590000 ∧ M ≤ 7200000) (hP : va_P D vwCl (wm ++ wx) H) (hD : va_D (LA s) (wm ++ wx)) (hS : va_S (LA s) s.heap H locs) (hl : lv_has ls 4 [(0, .ref b), (1, .ref x0), (2, .ref m0), (3, .int (nI i))]) (rx : ∃ fx : List Value, wx[0]? = some (x0, .inr (11, fx))) (rm : ∃ fm : List Value, wm[0]? = some (m0, .inr (12, fm))) (c1 : ∀ sz : Nat, Met l yX11_check wsX11_check ({ frames := 7, cells := 0, slots := 0, locals := 164 } : Room) (PW G D (tyC cA) sz wx [.ref x0]) (QI D (tyC cA) (va_A wx sz) r wx1) 0 0 (va_A wx sz)) (c2 : ∀ sz : Nat, Met l yX12_check wsX12_check ({ frames := 6, cells := 0, slots := 0, locals := 142 } : Room) (PW G D (tyC cA) sz wm [.ref m0]) (QI D (tyC cA) (va_A wm sz) r wm1) 0 0 (va_A wm sz)) (k : ∀ (H : Heap) (locs : List Loc), va_P D vwCl (wm1 ++ wx1) H → va_D (LA s) (wm1 ++ wx1) → va_S (LA s) s.heap H locs → W p l e room_1 s m #[Value.ref b] below meth c H locs (K + 4) (M + 157) (lw_Z below #[Value.ref b] s) (F0 m 1603 ls [])) : W p l e room_1 s m #[Value.ref b] below meth c H locs K M (lw_Z below #[Value.ref b] s) (F0 m 1544 ls []) := by
  obtain ⟨hx, hb, hr, hml, hown, hts, hX, hbl, hlocks, hK, hE⟩ := C
  have hA : ∀ q : Nat, s.heap.size ≤ q → LA s q := fun _ h => h
  have hbA : ¬ LA s b := Nat.not_le.mpr hbl
  have hin : ∀ k, k < 6 → vp_in (nI i + nI k) N := fun k hk => by rw [nI_add]; exact vp_in_nI (by omega) (by omega)
  obtain ⟨fx, rx⟩ := rx
  obtain ⟨fm, rm⟩ := rm
  refine lv_aload_n hx hb dL_law_1544 rfl (lv_at hl 1 rfl) ?_
  have sb : Sb D (LA s) H wx := Sb.rg hP hD hS hA
  refine calI (va_runV (As := []) (rest := []) ⟨hx, hb, hml, hown, hts⟩ (c1 H.size) (cwV 0 hts gL_law_X11_check rfl rfl rfl (by decide +kernel) ⟨(Nat.le_of_ble_eq_true rfl), (Nat.le_of_ble_eq_true rfl)⟩) (pvV hE hK hS sb (va_recv hK sb.1 (ci := 11) rfl rx)) rfl rfl hl.1 rfl (lv_room (Nat.le_of_ble_eq_true rfl)) dL_law_1545 ⟨show K + 0 ≤ 600000 by omega, show M + 0 ≤ 7302250 by omega⟩) hS sb (Jn.grow hP hD sb.2.2) (fun H locs hP hD hS => ?_)
  clear sb
  refine lv_aload_n hx hb dL_law_1548 rfl (lv_at hl 2 rfl) ?_
  have sb : Sb D (LA s) H wm := Sb.lf hP hD hS hA
  refine calI (va_runV (As := []) (rest := [.int r]) ⟨hx, hb, hml, hown, hts⟩ (c2 H.size) (cwV 0 hts gL_law_X12_check rfl rfl rfl (by decide +kernel) ⟨(Nat.le_of_ble_eq_true rfl), (Nat.le_of_ble_eq_true rfl)⟩) (pvV hE hK hS sb (va_recv hK sb.1 (ci := 12) rfl rm)) rfl rfl hl.1 rfl (lv_room (Nat.le_of_ble_eq_true rfl)) dL_law_1549 ⟨show K + 0 ≤ 600000 by omega, show M + 0 ≤ 7302250 by omega⟩) hS sb (Jn.growL hP hD sb.2.2) (fun H locs hP hD hS => ?_)
  refine lv_icmp_eq (tgt := 1603) hx hb dL_law_1552 (by decide) (fun _ => ?_) (fun h9 => absurd rfl h9)
  refine W.widen (k := K + 4) (n := M + 157) (by omega) (by omega) ?_
  exact k _ _ hP hD hS
set_option maxHeartbeats 4000000 in
set_option maxRecDepth 100000 in
theorem wk_count (C : LX p l e s m below meth c b N xs G D cA) (C2 : i + 6 ≤ N ∧ N ≤ 3072 ∧ K ≤ 590000 ∧ M ≤ 7200000) (hP : va_P D vwCl (wm ++ wx) H) (hD : va_D (LA s) (wm ++ wx)) (hS : va_S (LA s) s.heap H locs) (hl : lv_has ls 4 [(0, .ref b), (1, .ref x0), (2, .ref m0), (3, .int (nI i))]) (rx : ∃ fx : List Value, wx[0]? = some (x0, .inr (11, fx))) (rm : ∃ fm : List Value, wm[0]? = some (m0, .inr (12, fm))) (c1 : ∀ sz : Nat, Met l yX11_count wsX11_count ({ frames := 4, cells := 0, slots := 0, locals := 90 } : Room) (PW G D (tyC cA) sz wx [.ref x0, .int (xs (nI i + nI 1).toNatClampNeg)]) (QI D (tyC cA) (va_A wx sz) r wx1) 0 0 (va_A wx sz)) (c2 : ∀ sz : Nat, Met l yX12_count wsX12_count ({ frames := 3, cells := 0, slots := 0, locals := 67 } : Room) (PW G D (tyC cA) sz wm [.ref m0, .int (xs (nI i + nI 1).toNatClampNeg)]) (QI D (tyC cA) (va_A wm sz) r wm1) 0 0 (va_A wm sz)) (k : ∀ (H : Heap) (locs : List Loc), va_P D vwCl (wm1 ++ wx1) H → va_D (LA s) (wm1 ++ wx1) → va_S (LA s) s.heap H locs → W p l e room_1 s m #[Value.ref b] below meth c H locs (K + 4) (M + 157) (lw_Z below #[Value.ref b] s) (F0 m 1603 ls [])) : W p l e room_1 s m #[Value.ref b] below meth c H locs K M (lw_Z below #[Value.ref b] s) (F0 m 1557 ls []) := by
  obtain ⟨hx, hb, hr, hml, hown, hts, hX, hbl, hlocks, hK, hE⟩ := C
  have hA : ∀ q : Nat, s.heap.size ≤ q → LA s q := fun _ h => h
  have hbA : ¬ LA s b := Nat.not_le.mpr hbl
  have hin : ∀ k, k < 6 → vp_in (nI i + nI k) N := fun k hk => by rw [nI_add]; exact vp_in_nI (by omega) (by omega)
  obtain ⟨fx, rx⟩ := rx
  obtain ⟨fm, rm⟩ := rm
  refine lv_aload_n hx hb dL_law_1557 rfl (lv_at hl 1 rfl) ?_
  refine lv_aload_n hx hb dL_law_1558 rfl (lv_at hl 0 rfl) ?_
  refine lv_iload_n hx hb dL_law_1559 rfl (lv_at hl 3 rfl) ?_
  refine lv_iconst (v := nI 1) hx hb dL_law_1560 (by decide) ?_
  refine lv_iadd hx hb dL_law_1561 ?_
  refine va_sld hx hb hX hbl hbA hS (hin 1 (by decide)) dL_law_1562 ?_
  have sb : Sb D (LA s) H wx := Sb.rg hP hD hS hA
  refine calI (va_runV (As := [.int (xs (nI i + nI 1).toNatClampNeg)]) (rest := []) ⟨hx, hb, hml, hown, hts⟩ (c1 H.size) (cwV 1 hts gL_law_X11_count rfl rfl rfl (by decide +kernel) ⟨(Nat.le_of_ble_eq_true rfl), (Nat.le_of_ble_eq_true rfl)⟩) (pvV hE hK hS sb (va_recv hK sb.1 (ci := 11) rfl rx)) rfl rfl hl.1 rfl (lv_room (Nat.le_of_ble_eq_true rfl)) dL_law_1563 ⟨show K + 0 ≤ 600000 by omega, show M + 0 ≤ 7302250 by omega⟩) hS sb (Jn.grow hP hD sb.2.2) (fun H locs hP hD hS => ?_)
  clear sb
  refine lv_aload_n hx hb dL_law_1566 rfl (lv_at hl 2 rfl) ?_
  refine lv_aload_n hx hb dL_law_1567 rfl (lv_at hl 0 rfl) ?_
  refine lv_iload_n hx hb dL_law_1568 rfl (lv_at hl 3 rfl) ?_
  refine lv_iconst (v := nI 1) hx hb dL_law_1569 (by decide) ?_
  refine lv_iadd hx hb dL_law_1570 ?_
  refine va_sld hx hb hX hbl hbA hS (hin 1 (by decide)) dL_law_1571 ?_
  have sb : Sb D (LA s) H wm := Sb.lf hP hD hS hA
  refine calI (va_runV (As := [.int (xs (nI i + nI 1).toNatClampNeg)]) (rest := [.int r]) ⟨hx, hb, hml, hown, hts⟩ (c2 H.size) (cwV 1 hts gL_law_X12_count rfl rfl rfl (by decide +kernel) ⟨(Nat.le_of_ble_eq_true rfl), (Nat.le_of_ble_eq_true rfl)⟩) (pvV hE hK hS sb (va_recv hK sb.1 (ci := 12) rfl rm)) rfl rfl hl.1 rfl (lv_room (Nat.le_of_ble_eq_true rfl)) dL_law_1572 ⟨show K + 0 ≤ 600000 by omega, show M + 0 ≤ 7302250 by omega⟩) hS sb (Jn.growL hP hD sb.2.2) (fun H locs hP hD hS => ?_)
  refine lv_icmp_eq (tgt := 1603) hx hb dL_law_1575 (by decide) (fun _ => ?_) (fun h9 => absurd rfl h9)
  refine W.widen (k := K + 4) (n := M + 157) (by omega) (by omega) ?_
  exact k _ _ hP hD hS
set_option maxHeartbeats 4000000 in
set_option maxRecDepth 100000 in
theorem wk_told (C : LX p l e s m below meth c b N xs G D cA) (C2 : i + 6 ≤ N ∧ N ≤ 3072 ∧ K ≤ 590000 ∧ M ≤ 7200000) (hP : va_P D vwCl (wm ++ wx) H) (hD : va_D (LA s) (wm ++ wx)) (hS : va_S (LA s) s.heap H locs) (hl : lv_has ls 4 [(0, .ref b), (1, .ref x0), (2, .ref m0), (3, .int (nI i))]) (rx : ∃ fx : List Value, wx[0]? = some (x0, .inr (11, fx))) (rm : ∃ fm : List Value, wm[0]? = some (m0, .inr (12, fm))) (c1 : ∀ sz : Nat, Met l yX11_told wsX11_told ({ frames := 1, cells := 0, slots := 0, locals := 22 } : Room) (PW G D (tyC cA) sz wx [.ref x0, .int (xs (nI i + nI 1).toNatClampNeg)]) (QI D (tyC cA) (va_A wx sz) r wx1) 0 0 (va_A wx sz)) (c2 : ∀ sz : Nat, Met l yX12_told wsX12_told ({ frames := 1, cells := 0, slots := 0, locals := 25 } : Room) (PW G D (tyC cA) sz wm [.ref m0, .int (xs (nI i + nI 1).toNatClampNeg)]) (QI D (tyC cA) (va_A wm sz) r wm1) 0 0 (va_A wm sz)) (k : ∀ (H : Heap) (locs : List Loc), va_P D vwCl (wm1 ++ wx1) H → va_D (LA s) (wm1 ++ wx1) → va_S (LA s) s.heap H locs → W p l e room_1 s m #[Value.ref b] below meth c H locs (K + 4) (M + 157) (lw_Z below #[Value.ref b] s) (F0 m 1603 ls [])) : W p l e room_1 s m #[Value.ref b] below meth c H locs K M (lw_Z below #[Value.ref b] s) (F0 m 1580 ls []) := by
  obtain ⟨hx, hb, hr, hml, hown, hts, hX, hbl, hlocks, hK, hE⟩ := C
  have hA : ∀ q : Nat, s.heap.size ≤ q → LA s q := fun _ h => h
  have hbA : ¬ LA s b := Nat.not_le.mpr hbl
  have hin : ∀ k, k < 6 → vp_in (nI i + nI k) N := fun k hk => by rw [nI_add]; exact vp_in_nI (by omega) (by omega)
  obtain ⟨fx, rx⟩ := rx
  obtain ⟨fm, rm⟩ := rm
  refine lv_aload_n hx hb dL_law_1580 rfl (lv_at hl 1 rfl) ?_
  refine lv_aload_n hx hb dL_law_1581 rfl (lv_at hl 0 rfl) ?_
  refine lv_iload_n hx hb dL_law_1582 rfl (lv_at hl 3 rfl) ?_
  refine lv_iconst (v := nI 1) hx hb dL_law_1583 (by decide) ?_
  refine lv_iadd hx hb dL_law_1584 ?_
  refine va_sld hx hb hX hbl hbA hS (hin 1 (by decide)) dL_law_1585 ?_
  have sb : Sb D (LA s) H wx := Sb.rg hP hD hS hA
  refine calI (va_runV (As := [.int (xs (nI i + nI 1).toNatClampNeg)]) (rest := []) ⟨hx, hb, hml, hown, hts⟩ (c1 H.size) (cwV 1 hts gL_law_X11_told rfl rfl rfl (by decide +kernel) ⟨(Nat.le_of_ble_eq_true rfl), (Nat.le_of_ble_eq_true rfl)⟩) (pvV hE hK hS sb (va_recv hK sb.1 (ci := 11) rfl rx)) rfl rfl hl.1 rfl (lv_room (Nat.le_of_ble_eq_true rfl)) dL_law_1586 ⟨show K + 0 ≤ 600000 by omega, show M + 0 ≤ 7302250 by omega⟩) hS sb (Jn.grow hP hD sb.2.2) (fun H locs hP hD hS => ?_)
  clear sb
  refine lv_aload_n hx hb dL_law_1589 rfl (lv_at hl 2 rfl) ?_
  refine lv_aload_n hx hb dL_law_1590 rfl (lv_at hl 0 rfl) ?_
  refine lv_iload_n hx hb dL_law_1591 rfl (lv_at hl 3 rfl) ?_
  refine lv_iconst (v := nI 1) hx hb dL_law_1592 (by decide) ?_
  refine lv_iadd hx hb dL_law_1593 ?_
  refine va_sld hx hb hX hbl hbA hS (hin 1 (by decide)) dL_law_1594 ?_
  have sb : Sb D (LA s) H wm := Sb.lf hP hD hS hA
  refine calI (va_runV (As := [.int (xs (nI i + nI 1).toNatClampNeg)]) (rest := [.int r]) ⟨hx, hb, hml, hown, hts⟩ (c2 H.size) (cwV 1 hts gL_law_X12_told rfl rfl rfl (by decide +kernel) ⟨(Nat.le_of_ble_eq_true rfl), (Nat.le_of_ble_eq_true rfl)⟩) (pvV hE hK hS sb (va_recv hK sb.1 (ci := 12) rfl rm)) rfl rfl hl.1 rfl (lv_room (Nat.le_of_ble_eq_true rfl)) dL_law_1595 ⟨show K + 0 ≤ 600000 by omega, show M + 0 ≤ 7302250 by omega⟩) hS sb (Jn.growL hP hD sb.2.2) (fun H locs hP hD hS => ?_)
  refine lv_icmp_eq (tgt := 1603) hx hb dL_law_1598 (by decide) (fun _ => ?_) (fun h9 => absurd rfl h9)
  refine W.widen (k := K + 4) (n := M + 157) (by omega) (by omega) ?_
  exact k _ _ hP hD hS
end LW
