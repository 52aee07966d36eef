/-! SpoonsLast.text: it makes a text, keeps it or drops it -/
def mkWs (mk : Option (Int32 × Int32 × Int32 × (Nat → Int32))) (L : List Nat) (w0 : va_W) (f : Nat → Nat → Nat → Nat → Int32 × Int32 × Int32 × (Nat → Int32) → va_W) (w : va_W) : Prop := (mk = none ∧ w = w0) ∨ ∃ (t : Int32 × Int32 × Int32 × (Nat → Int32)) (o q1 q2 q3 : Nat), mk = some t ∧ o ∉ L ∧ w = f o q1 q2 q3 t
theorem P_mem {D : va_G} {ws ws' : va_W} {H : Heap} (hP : va_P D vwCl ws H) (h : ∀ q ∈ ws', q ∈ ws) : va_P D vwCl ws' H := fun k q hq => by
  obtain ⟨i, hi⟩ := List.getElem?_of_mem (h q (List.mem_of_getElem? hq))
  exact hP i q hi
theorem D_turn {A : Nat → Prop} {X Y Z : va_W} (hD : va_D A ((X ++ Y) ++ Z)) : va_D A (X ++ (Z ++ Y)) := by
  refine D_join (D_left (D_left hD)) (D_join (D_right hD) (D_right (D_left hD)) fun q hq r hr e => nd_app hD r (List.mem_append_right _ hr) q hq e.symm) fun q hq r hr e => ?_
  rcases List.mem_append.mp hr with h | h
  · exact nd_app hD q (List.mem_append_left _ hq) r h e
  · exact nd_app (D_left hD) q hq r h e
theorem flat_cong {f g : Nat → va_W} : ∀ {L : List Nat}, (∀ a ∈ L, f a = g a) → L.flatMap f = L.flatMap g
  | [], _ => rfl
  | a :: L, h => by rw [List.flatMap_cons, List.flatMap_cons, h a List.mem_cons_self, flat_cong (fun b hb => h b (List.mem_cons_of_mem _ hb))]
theorem wTx_new (cA : Nat → ClassId) (L : List Nat) (tx : Nat → TXc) (tst : Nat → Nat → Int32) (o : Nat) (t : TXc) (f : Nat → Int32) (ho : o ∉ L) : wTx cA (L ++ [o]) (va_up tx o t) (va_up tst o f) = wTx cA L tx tst ++ wTW cA o t f := by
  unfold wTx
  rw [List.flatMap_append]
  congr 1
  · refine flat_cong fun a ha => ?_
    have h : a ≠ o := fun e => ho (e ▸ ha)
    simp [va_up, h]
  · simp [va_up]
def fX11_text (a : Int32) (errors : Nat → Int32) (h_tape : Nat → Int32) (h_tapeCount : Int32) : Option (Int32 × (Nat → Int32) × Int32 × Option (Int32 × Int32 × Int32 × (Nat → Int32))) :=
  bd (fX11_isUse a) fun r_1 => (if r_1 = 0 then bd (fX11_refused (-1000000001 : Int32) errors) fun (r_4, errors_5) => some (r_4, errors_5, h_tapeCount, none) else ckI a 2 (ck (¬ h_tapeCount < 0) (ck (h_tapeCount.toNatClampNeg ≤ 50) (bd (fX9_init (if a = 0 then 0 else 1) h_tape h_tapeCount) fun (tat, tlen, tfault, codes) => (if tfault < 0 then some ((1 : Int32), errors, (0 : Int32), some (tat, tlen, tfault, codes)) else some ((-10 : Int32) - tfault, errors, (0 : Int32), none))))))
set_option maxHeartbeats 8000000 in
set_option maxRecDepth 100000 in
theorem c_X11_text (l : Launch) (G : Nat → Nat) (D : va_G) (cA : Nat → ClassId) (xd : Nat → Nat) (vd : Nat → Nat) (sd : Nat → Nat) (nd : Nat → Nat) (hd : Nat → Nat) (td : Nat → Nat) (ed : Nat → Nat) (kd : Nat → Nat) (sz : Nat) (images : Int32) (errors : Nat → Int32) (fewest : Nat → Int32) (vspoon : Int32) (vmark : Int32) (vcount : Int32) (vbodies : Nat → Int32) (sbits : Nat → Int32) (slens : Nat → Int32) (snum : Nat → Nat → Int32) (h_weight : Nat → Int32) (h_known : Int32) (h_hour : Int32) (h_swS : Nat → Int32) (h_swW : Nat → Int32) (h_waS : Nat → Int32) (h_spoons : Int32) (h_kind : Nat → Int32) (h_mark : Nat → Int32) (h_silver : Nat → Int32) (h_fresh : Nat → Int64) (h_texts : Nat → Option Nat) (h_tape : Nat → Int32) (h_tapeCount : Int32) (h_z : Int32) (h_waiting : Nat → Int32) (h_waitingCount : Int32) (t_weight : Nat → Int32) (t_known : Int32) (t_hour : Int32) (t_swS : Nat → Int32) (t_swW : Nat → Int32) (t_waS : Nat → Int32) (t_spoons : Int32) (t_kind : Nat → Int32) (t_mark : Nat → Int32) (t_silver : Nat → Int32) (t_fresh : Nat → Int64) (t_texts : Nat → Option Nat) (t_tape : Nat → Int32) (t_tapeCount : Int32) (t_z : Int32) (t_waiting : Nat → Int32) (t_waitingCount : Int32) (e_weight : Nat → Int32) (e_known : Int32) (e_hour : Int32) (e_swS : Nat → Int32) (e_swW : Nat → Int32) (e_waS : Nat → Int32) (e_spoons : Int32) (e_kind : Nat → Int32) (e_mark : Nat → Int32) (e_silver : Nat → Int32) (e_fresh : Nat → Int64) (e_texts : Nat → Option Nat) (e_tape : Nat → Int32) (e_tapeCount : Int32) (e_z : Int32) (e_waiting : Nat → Int32) (e_waitingCount : Int32) (L : List Nat) (tx : Nat → TXc) (tst : Nat → Nat → Int32) (a : Int32) (rR : Int32) (errorsR : Nat → Int32) (h_tapeCountR : Int32) (mkR : Option (Int32 × Int32 × Int32 × (Nat → Int32))) (h : fX11_text a errors h_tape h_tapeCount = some (rR, errorsR, h_tapeCountR, mkR)) : Met l yX11_text wsX11_text ({ frames := 92, cells := 4, slots := 157, locals := 2223 } : Room) (PW G D (tyC cA) sz (wX cA xd vd sd nd hd td ed kd images errors fewest vspoon vmark vcount vbodies sbits slens snum h_weight h_known h_hour h_swS h_swW h_waS h_spoons h_kind h_mark h_silver h_fresh h_texts h_tape h_tapeCount h_z h_waiting h_waitingCount t_weight t_known t_hour t_swS t_swW t_waS t_spoons t_kind t_mark t_silver t_fresh t_texts t_tape t_tapeCount t_z t_waiting t_waitingCount e_weight e_known e_hour e_swS e_swW e_waS e_spoons e_kind e_mark e_silver e_fresh e_texts e_tape e_tapeCount e_z e_waiting e_waitingCount L tx tst) [.ref (xd 0), .int a]) (QIX D (tyC cA) (va_A (wX cA xd vd sd nd hd td ed kd images errors fewest vspoon vmark vcount vbodies sbits slens snum h_weight h_known h_hour h_swS h_swW h_waS h_spoons h_kind h_mark h_silver h_fresh h_texts h_tape h_tapeCount h_z h_waiting h_waitingCount t_weight t_known t_hour t_swS t_swW t_waS t_spoons t_kind t_mark t_silver t_fresh t_texts t_tape t_tapeCount t_z t_waiting t_waitingCount e_weight e_known e_hour e_swS e_swW e_waS e_spoons e_kind e_mark e_silver e_fresh e_texts e_tape e_tapeCount e_z e_waiting e_waitingCount L tx tst) sz) rR (mkWs mkR L (wX cA xd vd sd nd hd td ed kd images errorsR fewest vspoon vmark vcount vbodies sbits slens snum h_weight h_known h_hour h_swS h_swW h_waS h_spoons h_kind h_mark h_silver h_fresh h_texts h_tape h_tapeCountR h_z h_waiting h_waitingCount t_weight t_known t_hour t_swS t_swW t_waS t_spoons t_kind t_mark t_silver t_fresh t_texts t_tape t_tapeCount t_z t_waiting t_waitingCount e_weight e_known e_hour e_swS e_swW e_waS e_spoons e_kind e_mark e_silver e_fresh e_texts e_tape e_tapeCount e_z e_waiting e_waitingCount L tx tst) (fun o q1 q2 q3 t => (wX cA xd vd sd nd hd td ed kd images errorsR fewest vspoon vmark vcount vbodies sbits slens snum h_weight h_known h_hour h_swS h_swW h_waS h_spoons h_kind h_mark h_silver h_fresh (va_up h_texts a.toNatClampNeg (some o)) h_tape h_tapeCountR h_z h_waiting h_waitingCount t_weight t_known t_hour t_swS t_swW t_waS t_spoons t_kind t_mark t_silver t_fresh t_texts t_tape t_tapeCount t_z t_waiting t_waitingCount e_weight e_known e_hour e_swS e_swW e_waS e_spoons e_kind e_mark e_silver e_fresh e_texts e_tape e_tapeCount e_z e_waiting e_waitingCount (L ++ [o]) (va_up tx o (q1, G (if a = 0 then 0 else 1), t.1, q2, t.2.1, q3, t.2.2.1, h_tapeCount.toNatClampNeg, t.2.2.2)) (va_up tst o (fun _ => 0)))))) 4 157 (va_A (wX cA xd vd sd nd hd td ed kd images errors fewest vspoon vmark vcount vbodies sbits slens snum h_weight h_known h_hour h_swS h_swW h_waS h_spoons h_kind h_mark h_silver h_fresh h_texts h_tape h_tapeCount h_z h_waiting h_waitingCount t_weight t_known t_hour t_swS t_swW t_waS t_spoons t_kind t_mark t_silver t_fresh t_texts t_tape t_tapeCount t_z t_waiting t_waitingCount e_weight e_known e_hour e_swS e_swW e_waS e_spoons e_kind e_mark e_silver e_fresh e_texts e_tape e_tapeCount e_z e_waiting e_waitingCount L tx tst) sz) := by
  refine ent (cc := cX11_text) (maxL := 3) (ret := (some .int)) (fun A => QIX D (tyC cA) A rR (mkWs mkR L (wX cA xd vd sd nd hd td ed kd images errorsR fewest vspoon vmark vcount vbodies sbits slens snum h_weight h_known h_hour h_swS h_swW h_waS h_spoons h_kind h_mark h_silver h_fresh h_texts h_tape h_tapeCountR h_z h_waiting h_waitingCount t_weight t_known t_hour t_swS t_swW t_waS t_spoons t_kind t_mark t_silver t_fresh t_texts t_tape t_tapeCount t_z t_waiting t_waitingCount e_weight e_known e_hour e_swS e_swW e_waS e_spoons e_kind e_mark e_silver e_fresh e_texts e_tape e_tapeCount e_z e_waiting e_waitingCount L tx tst) (fun o q1 q2 q3 t => (wX cA xd vd sd nd hd td ed kd images errorsR fewest vspoon vmark vcount vbodies sbits slens snum h_weight h_known h_hour h_swS h_swW h_waS h_spoons h_kind h_mark h_silver h_fresh (va_up h_texts a.toNatClampNeg (some o)) h_tape h_tapeCountR h_z h_waiting h_waitingCount t_weight t_known t_hour t_swS t_swW t_waS t_spoons t_kind t_mark t_silver t_fresh t_texts t_tape t_tapeCount t_z t_waiting t_waitingCount e_weight e_known e_hour e_swS e_swW e_waS e_spoons e_kind e_mark e_silver e_fresh e_texts e_tape e_tapeCount e_z e_waiting e_waitingCount (L ++ [o]) (va_up tx o (q1, G (if a = 0 then 0 else 1), t.1, q2, t.2.1, q3, t.2.2.1, h_tapeCount.toNatClampNeg, t.2.2.2)) (va_up tst o (fun _ => 0)))))) (by decide +kernel) rfl (Nat.le_of_ble_eq_true rfl) ?_
  intro p e s m args below meth c A ls H hx hb hml hr hlk hts hown hA hK hE hP hD hS hv hmm
  have hv : lv_has ls 3 [(0, .ref (xd 0)), (1, .int a)] := hv
  have in_3 : ∀ w ∈ u_ws RX3 TX3 18, w ∈ wsX11_text := fun _ h => List.mem_cons_of_mem _ (List.mem_append_right _ h)
  have in_9 : ∀ w ∈ u_ws RX9 TX9 7, w ∈ wsX11_text := fun _ h => List.mem_cons_of_mem _ (List.mem_append_left _ (List.mem_append_left _ (List.mem_append_right _ h)))
  have in_11 : ∀ w ∈ u_ws RX11 TX11 9, w ∈ wsX11_text := fun _ h => List.mem_cons_of_mem _ (List.mem_append_left _ (List.mem_append_right _ h))
  have w_house := hts (.fieldLink RX11 39 "SpoonsLast" "house" "LSpoonsLast$House;") (by decide +kernel)
  have w_tape := hts (.fieldLink RX11 152 "SpoonsLast$House" "tape" "[I") (by decide +kernel)
  have w_tapeCount := hts (.fieldLink RX11 149 "SpoonsLast$House" "tapeCount" "I") (by decide +kernel)
  have w_fault := hts (.fieldLink RX11 167 "SpoonsLast$Text" "fault" "I") (by decide +kernel)
  have w_texts := hts (.fieldLink RX11 170 "SpoonsLast$House" "texts" "[LSpoonsLast$Text;") (by decide +kernel)
  have w_k := hts (.constant RX11 78 (-1000000001)) (by decide +kernel)
  have w_cl := hts (.classLink RX11 158 RX9) (by decide +kernel)
  have w_inst := hts (.instantiable RX9 7) (by decide +kernel)
  have w_ini := hts (.initialized RX9) (by decide +kernel)
  have w_ml := hts (.methodLink RX11 164 yX9_init) (by decide +kernel)
  have w_im := hts (.instanceMethod yX9_init) (by decide +kernel)
  generalize hQ : MQ below _ args s 4 157 A = Q
  have hP : va_P D vwCl (wX cA xd vd sd nd hd td ed kd images errors fewest vspoon vmark vcount vbodies sbits slens snum h_weight h_known h_hour h_swS h_swW h_waS h_spoons h_kind h_mark h_silver h_fresh h_texts h_tape h_tapeCount h_z h_waiting h_waitingCount t_weight t_known t_hour t_swS t_swW t_waS t_spoons t_kind t_mark t_silver t_fresh t_texts t_tape t_tapeCount t_z t_waiting t_waitingCount e_weight e_known e_hour e_swS e_swW e_waS e_spoons e_kind e_mark e_silver e_fresh e_texts e_tape e_tapeCount e_z e_waiting e_waitingCount L tx tst) H := hP
  unfold fX11_text at h
  refine lv_iload_n hx hb dX11_text_0 rfl (lv_at hv 1 rfl) ?_
  obtain ⟨r_1, hf_2, h⟩ := bd_ex h
  have sb := Sb.nil hP hD hS hA
  refine calI (va_runS (As := [.int a]) (rest := []) ⟨hx, hb, hml, hown, hts⟩ (c_X11_isUse l G D cA _ a r_1 hf_2) (va_cwS 1 hts gX11_text_X11_isUse rfl rfl rfl (by decide +kernel) ⟨(Nat.le_of_ble_eq_true rfl), (Nat.le_of_ble_eq_true rfl)⟩) (pvS hE hK hS sb) rfl rfl hv.1 rfl (lv_room (Nat.le_of_ble_eq_true rfl)) dX11_text_1 ⟨(Nat.le_of_ble_eq_true rfl), (Nat.le_of_ble_eq_true rfl)⟩) hS sb (Jn.nil hP hD) (fun H locs hP hD hS => ?_)
  refine lv_if_ne (tgt := 14) hx hb dX11_text_4 (by decide) (fun c_3 => ?_) (fun c_3 => ?_)
  · have h := ite_f c_3 h
    obtain ⟨hin, h⟩ := ckI_ex h
    obtain ⟨hn0, h⟩ := ck_ex h
    obtain ⟨hn50, h⟩ := ck_ex h
    obtain ⟨⟨tat, tlen, tfault, codes⟩, hf_3, h⟩ := bd_ex h
    refine va_new (D := D) (ci := 9) (fs := [.null, .null, .int 0, .null, .int 0, .null, .int 0]) (C := RX9) (T := TX9) (N := 7) hx hb hts in_9 tyX9 tyX9_ok hown w_cl w_inst w_ini hK hP hD hS hA rfl (fun j hj => by rcases (show j = 0 ∨ j = 1 ∨ j = 2 ∨ j = 3 ∨ j = 4 ∨ j = 5 ∨ j = 6 by omega) with rfl | rfl | rfl | rfl | rfl | rfl | rfl <;> rfl) (Nat.le_of_ble_eq_true rfl) (Nat.le_of_ble_eq_true rfl) dX11_text_14 (fun o H hP hD hS => ?_)
    refine lv_dup hx hb dX11_text_17 rfl ?_
    refine lv_aload_n hx hb dX11_text_18 rfl (lv_at hv 0 rfl) ?_
    refine va_get (D := D) (ci := 11) (v := .ref (hd 0)) (C := RX11) (T := TX11) (N := 9) hx hb hts in_11 hown hK hP 0 rfl rfl 0 (by decide) w_house (fun _ h9 => h9) rfl dX11_text_19 ?_
    refine va_get (D := D) (ci := 3) (v := .ref (hd 14)) (C := RX3) (T := TX3) (N := 18) hx hb hts in_3 hown hK hP 14 rfl rfl 13 (by decide) w_tape (fun _ h9 => h9) rfl dX11_text_22 ?_
    refine lv_aload_n hx hb dX11_text_25 rfl (lv_at hv 0 rfl) ?_
    refine va_get (D := D) (ci := 11) (v := .ref (hd 0)) (C := RX11) (T := TX11) (N := 9) hx hb hts in_11 hown hK hP 0 rfl rfl 0 (by decide) w_house (fun _ h9 => h9) rfl dX11_text_26 ?_
    refine va_get (D := D) (ci := 3) (v := .int h_tapeCount) (C := RX3) (T := TX3) (N := 18) hx hb hts in_3 hown hK hP 14 rfl rfl 14 (by decide) w_tapeCount (fun _ h9 => h9) rfl dX11_text_29 ?_
    refine lv_iload_n hx hb dX11_text_32 rfl (lv_at hv 1 rfl) ?_
    have tail : ∀ nmi, nmi = (if a = 0 then 0 else 1) → W p l e ({ frames := 92, cells := 4, slots := 157, locals := 2223 } : Room) s m args below meth c H locs 1 7 Q (F0 m 43 ls [.ref (G nmi), .int h_tapeCount, .ref (hd 14), .ref o, .ref o]) := by
      intro nmi hnmi
      rw [← hnmi] at hf_3
      have htm : (((hd 14, .inl (cA 0, 50, .inl h_tape)) : Nat × va_E)) ∈ (wX cA xd vd sd nd hd td ed kd images errors fewest vspoon vmark vcount vbodies sbits slens snum h_weight h_known h_hour h_swS h_swW h_waS h_spoons h_kind h_mark h_silver h_fresh h_texts h_tape h_tapeCount h_z h_waiting h_waitingCount t_weight t_known t_hour t_swS t_swW t_waS t_spoons t_kind t_mark t_silver t_fresh t_texts t_tape t_tapeCount t_z t_waiting t_waitingCount e_weight e_known e_hour e_swS e_swW e_waS e_spoons e_kind e_mark e_silver e_fresh e_texts e_tape e_tapeCount e_z e_waiting e_waitingCount L tx tst) := List.mem_of_getElem? (i := 24) rfl
      have hdc : va_D A [(o, .inr (9, [.null, .null, .int 0, .null, .int 0, .null, .int 0])), (hd 14, .inl (cA 0, 50, .inl h_tape))] := D_join (P := [(o, .inr (9, [.null, .null, .int 0, .null, .int 0, .null, .int 0]))]) (Q := [(hd 14, .inl (cA 0, 50, .inl h_tape))]) (D_one (List.mem_append_right _ (List.mem_singleton.mpr rfl)) hD) (D_one (List.mem_append_left _ htm) hD) (fun q hq r hr e => by
        rw [List.mem_singleton] at hq hr
        subst hq
        subst hr
        exact nd_app hD _ htm _ (List.mem_singleton.mpr rfl) e.symm)
      have sb : Sb D A H [(o, .inr (9, [.null, .null, .int 0, .null, .int 0, .null, .int 0])), (hd 14, .inl (cA 0, 50, .inl h_tape))] := Sb.of_mem hP hD hS hA (fun q hq => by
        rcases List.mem_cons.mp hq with h | h
        · exact List.mem_append_right _ (List.mem_singleton.mpr h)
        · exact List.mem_append_left _ (List.mem_singleton.mp h ▸ htm)) hdc
      refine calX (va_runI (As := [.ref (hd 14), .int h_tapeCount, .ref (G nmi)]) (rest := [.ref o]) ⟨hx, hb, hml, hown, hts⟩ (c_X9_init l G D cA _ o (hd 14) nmi h_tape h_tapeCount hn0 hn50 tat tlen tfault codes hf_3) (cwI 3 hts gX11_text_X9_init rfl rfl rfl w_ini w_ml w_im rfl (by decide +kernel) ⟨(Nat.le_of_ble_eq_true rfl), (Nat.le_of_ble_eq_true rfl)⟩) (pvS hE hK hS sb) rfl rfl hv.1 rfl (lv_room (Nat.le_of_ble_eq_true rfl)) dX11_text_43 ⟨(Nat.le_of_ble_eq_true rfl), (Nat.le_of_ble_eq_true rfl)⟩) hS sb (fun w1 H1 locs1 hw1 hP1 hD1 hk1 hS1 => ?_)
      obtain ⟨q1, q2, q3, hw1⟩ := hw1
      subst hw1
      obtain ⟨hP2, hD2⟩ := Jn.made (b' := (o, .inr (9, [.ref q1, .ref (G nmi), .int tat, .ref q2, .int tlen, .ref q3, .int tfault]))) (Z := [(q1, .inl (cA 0, h_tapeCount.toNatClampNeg, .inl (cpyOf h_tape h_tapeCount))), (q2, .inl (cA 0, h_tapeCount.toNatClampNeg, .inl codes)), (q3, .inl (cA 0, h_tapeCount.toNatClampNeg, .inl (fun _ => 0)))]) hP hD sb.2.2 htm rfl H1 hP1 hD1 hk1
      clear hP hD hP1 hD1 hk1 sb hS hdc
      have hS := hS1
      have hD : va_D A ((wXl cA xd vd sd nd hd td ed kd images errors fewest vspoon vmark vcount vbodies sbits slens snum h_weight h_known h_hour h_swS h_swW h_waS h_spoons h_kind h_mark h_silver h_fresh h_texts h_tape h_tapeCount h_z h_waiting h_waitingCount t_weight t_known t_hour t_swS t_swW t_waS t_spoons t_kind t_mark t_silver t_fresh t_texts t_tape t_tapeCount t_z t_waiting t_waitingCount e_weight e_known e_hour e_swS e_swW e_waS e_spoons e_kind e_mark e_silver e_fresh e_texts e_tape e_tapeCount e_z e_waiting e_waitingCount) ++ ([(o, .inr (9, [.ref q1, .ref (G nmi), .int tat, .ref q2, .int tlen, .ref q3, .int tfault])), (q1, .inl (cA 0, h_tapeCount.toNatClampNeg, .inl (cpyOf h_tape h_tapeCount))), (q2, .inl (cA 0, h_tapeCount.toNatClampNeg, .inl codes)), (q3, .inl (cA 0, h_tapeCount.toNatClampNeg, .inl (fun _ => 0)))] ++ (wTx cA L tx tst))) := D_turn (X := (wXl cA xd vd sd nd hd td ed kd images errors fewest vspoon vmark vcount vbodies sbits slens snum h_weight h_known h_hour h_swS h_swW h_waS h_spoons h_kind h_mark h_silver h_fresh h_texts h_tape h_tapeCount h_z h_waiting h_waitingCount t_weight t_known t_hour t_swS t_swW t_waS t_spoons t_kind t_mark t_silver t_fresh t_texts t_tape t_tapeCount t_z t_waiting t_waitingCount e_weight e_known e_hour e_swS e_swW e_waS e_spoons e_kind e_mark e_silver e_fresh e_texts e_tape e_tapeCount e_z e_waiting e_waitingCount)) (Y := (wTx cA L tx tst)) (Z := [(o, .inr (9, [.ref q1, .ref (G nmi), .int tat, .ref q2, .int tlen, .ref q3, .int tfault])), (q1, .inl (cA 0, h_tapeCount.toNatClampNeg, .inl (cpyOf h_tape h_tapeCount))), (q2, .inl (cA 0, h_tapeCount.toNatClampNeg, .inl codes)), (q3, .inl (cA 0, h_tapeCount.toNatClampNeg, .inl (fun _ => 0)))]) hD2
      have hP : va_P D vwCl ((wXl cA xd vd sd nd hd td ed kd images errors fewest vspoon vmark vcount vbodies sbits slens snum h_weight h_known h_hour h_swS h_swW h_waS h_spoons h_kind h_mark h_silver h_fresh h_texts h_tape h_tapeCount h_z h_waiting h_waitingCount t_weight t_known t_hour t_swS t_swW t_waS t_spoons t_kind t_mark t_silver t_fresh t_texts t_tape t_tapeCount t_z t_waiting t_waitingCount e_weight e_known e_hour e_swS e_swW e_waS e_spoons e_kind e_mark e_silver e_fresh e_texts e_tape e_tapeCount e_z e_waiting e_waitingCount) ++ ([(o, .inr (9, [.ref q1, .ref (G nmi), .int tat, .ref q2, .int tlen, .ref q3, .int tfault])), (q1, .inl (cA 0, h_tapeCount.toNatClampNeg, .inl (cpyOf h_tape h_tapeCount))), (q2, .inl (cA 0, h_tapeCount.toNatClampNeg, .inl codes)), (q3, .inl (cA 0, h_tapeCount.toNatClampNeg, .inl (fun _ => 0)))] ++ (wTx cA L tx tst))) H1 := P_mem hP2 (fun q hq => by
        rcases List.mem_append.mp hq with h | h
        · exact List.mem_append_left _ (List.mem_append_left _ h)
        · rcases List.mem_append.mp h with h | h
          · exact List.mem_append_right _ h
          · exact List.mem_append_left _ (List.mem_append_right _ h))
      clear hP2 hD2 hS1
      refine lv_astore_n (lv' := [(2, .ref o), (0, .ref (xd 0)), (1, .int a)]) hx hb dX11_text_46 rfl hv (by decide) rfl (fun ls hv => ?_)
      refine lv_aload_n hx hb dX11_text_47 rfl (lv_at hv 1 rfl) ?_
      refine va_get (D := D) (ci := 11) (v := .ref (hd 0)) (C := RX11) (T := TX11) (N := 9) hx hb hts in_11 hown hK hP 0 rfl rfl 0 (by decide) w_house (fun _ h9 => h9) rfl dX11_text_48 ?_
      refine lv_iconst (v := (0 : Int32)) hx hb dX11_text_51 (by decide) ?_
      refine va_put (D := D) (ci := 3) (v := .int 0) (ty := .int) (C := RX3) (T := TX3) (N := 18) hx hb hts in_3 tyX3 tyX3_ok nmX3 hown hK hP hD hS 14 rfl rfl 14 (by decide) w_tapeCount (fun _ h9 => h9) rfl (by decide +kernel) rfl rfl (Nat.le_of_ble_eq_true rfl) dX11_text_52 (fun H locs hP hD hS => ?_)
      have hP : va_P D vwCl ((wXl cA xd vd sd nd hd td ed kd images errors fewest vspoon vmark vcount vbodies sbits slens snum h_weight h_known h_hour h_swS h_swW h_waS h_spoons h_kind h_mark h_silver h_fresh h_texts h_tape (0 : Int32) h_z h_waiting h_waitingCount t_weight t_known t_hour t_swS t_swW t_waS t_spoons t_kind t_mark t_silver t_fresh t_texts t_tape t_tapeCount t_z t_waiting t_waitingCount e_weight e_known e_hour e_swS e_swW e_waS e_spoons e_kind e_mark e_silver e_fresh e_texts e_tape e_tapeCount e_z e_waiting e_waitingCount) ++ ([(o, .inr (9, [.ref q1, .ref (G nmi), .int tat, .ref q2, .int tlen, .ref q3, .int tfault])), (q1, .inl (cA 0, h_tapeCount.toNatClampNeg, .inl (cpyOf h_tape h_tapeCount))), (q2, .inl (cA 0, h_tapeCount.toNatClampNeg, .inl codes)), (q3, .inl (cA 0, h_tapeCount.toNatClampNeg, .inl (fun _ => 0)))] ++ (wTx cA L tx tst))) H := hP
      have hD : va_D A ((wXl cA xd vd sd nd hd td ed kd images errors fewest vspoon vmark vcount vbodies sbits slens snum h_weight h_known h_hour h_swS h_swW h_waS h_spoons h_kind h_mark h_silver h_fresh h_texts h_tape (0 : Int32) h_z h_waiting h_waitingCount t_weight t_known t_hour t_swS t_swW t_waS t_spoons t_kind t_mark t_silver t_fresh t_texts t_tape t_tapeCount t_z t_waiting t_waitingCount e_weight e_known e_hour e_swS e_swW e_waS e_spoons e_kind e_mark e_silver e_fresh e_texts e_tape e_tapeCount e_z e_waiting e_waitingCount) ++ ([(o, .inr (9, [.ref q1, .ref (G nmi), .int tat, .ref q2, .int tlen, .ref q3, .int tfault])), (q1, .inl (cA 0, h_tapeCount.toNatClampNeg, .inl (cpyOf h_tape h_tapeCount))), (q2, .inl (cA 0, h_tapeCount.toNatClampNeg, .inl codes)), (q3, .inl (cA 0, h_tapeCount.toNatClampNeg, .inl (fun _ => 0)))] ++ (wTx cA L tx tst))) := hD
      refine lv_aload_n hx hb dX11_text_55 rfl (lv_at hv 0 rfl) ?_
      refine va_get (D := D) (ci := 9) (v := .int tfault) (C := RX9) (T := TX9) (N := 7) hx hb hts in_9 hown hK hP 58 rfl rfl 6 (by decide) w_fault (fun _ h9 => h9) rfl dX11_text_56 ?_
      refine lv_if_lt (tgt := 70) hx hb dX11_text_59 (by decide) (fun c_4 => ?_) (fun c_4 => ?_)
      · have h := ite_t c_4 h
        refine lv_aload_n hx hb dX11_text_70 rfl (lv_at hv 1 rfl) ?_
        refine va_get (D := D) (ci := 11) (v := .ref (hd 0)) (C := RX11) (T := TX11) (N := 9) hx hb hts in_11 hown hK hP 0 rfl rfl 0 (by decide) w_house (fun _ h9 => h9) rfl dX11_text_71 ?_
        refine va_get (D := D) (ci := 3) (v := .ref (hd 13)) (C := RX3) (T := TX3) (N := 18) hx hb hts in_3 hown hK hP 14 rfl rfl 12 (by decide) w_texts (fun _ h9 => h9) rfl dX11_text_74 ?_
        refine lv_iload_n hx hb dX11_text_77 rfl (lv_at hv 2 rfl) ?_
        refine lv_aload_n hx hb dX11_text_78 rfl (lv_at hv 0 rfl) ?_
        refine va_astq hx hb hK hP hD hS 23 3 58 9 rfl rfl rfl rfl hin dX11_text_79 (fun H locs hP hD hS => ?_)
        have hP : va_P D vwCl ((wXl cA xd vd sd nd hd td ed kd images errors fewest vspoon vmark vcount vbodies sbits slens snum h_weight h_known h_hour h_swS h_swW h_waS h_spoons h_kind h_mark h_silver h_fresh (va_up h_texts a.toNatClampNeg (some o)) h_tape (0 : Int32) h_z h_waiting h_waitingCount t_weight t_known t_hour t_swS t_swW t_waS t_spoons t_kind t_mark t_silver t_fresh t_texts t_tape t_tapeCount t_z t_waiting t_waitingCount e_weight e_known e_hour e_swS e_swW e_waS e_spoons e_kind e_mark e_silver e_fresh e_texts e_tape e_tapeCount e_z e_waiting e_waitingCount) ++ ([(o, .inr (9, [.ref q1, .ref (G nmi), .int tat, .ref q2, .int tlen, .ref q3, .int tfault])), (q1, .inl (cA 0, h_tapeCount.toNatClampNeg, .inl (cpyOf h_tape h_tapeCount))), (q2, .inl (cA 0, h_tapeCount.toNatClampNeg, .inl codes)), (q3, .inl (cA 0, h_tapeCount.toNatClampNeg, .inl (fun _ => 0)))] ++ (wTx cA L tx tst))) H := hP
        have hD : va_D A ((wXl cA xd vd sd nd hd td ed kd images errors fewest vspoon vmark vcount vbodies sbits slens snum h_weight h_known h_hour h_swS h_swW h_waS h_spoons h_kind h_mark h_silver h_fresh (va_up h_texts a.toNatClampNeg (some o)) h_tape (0 : Int32) h_z h_waiting h_waitingCount t_weight t_known t_hour t_swS t_swW t_waS t_spoons t_kind t_mark t_silver t_fresh t_texts t_tape t_tapeCount t_z t_waiting t_waitingCount e_weight e_known e_hour e_swS e_swW e_waS e_spoons e_kind e_mark e_silver e_fresh e_texts e_tape e_tapeCount e_z e_waiting e_waitingCount) ++ ([(o, .inr (9, [.ref q1, .ref (G nmi), .int tat, .ref q2, .int tlen, .ref q3, .int tfault])), (q1, .inl (cA 0, h_tapeCount.toNatClampNeg, .inl (cpyOf h_tape h_tapeCount))), (q2, .inl (cA 0, h_tapeCount.toNatClampNeg, .inl codes)), (q3, .inl (cA 0, h_tapeCount.toNatClampNeg, .inl (fun _ => 0)))] ++ (wTx cA L tx tst))) := hD
        refine lv_iconst (v := (1 : Int32)) hx hb dX11_text_80 (by decide) ?_
        have h := Option.some.inj h
        have ee0 : (1 : Int32) = rR := congrArg (fun q => q.1) h
        have ee1 : errors = errorsR := congrArg (fun q => q.2.1) h
        have ee2 : (0 : Int32) = h_tapeCountR := congrArg (fun q => q.2.2.1) h
        have ee3 : some (tat, tlen, tfault, codes) = mkR := congrArg (fun q => q.2.2.2) h
        subst ee0
        subst ee1
        subst ee2
        subst ee3
        rw [← hQ]
        have hoL : o ∉ L := fun ho => by
          obtain ⟨j, hj⟩ := List.getElem?_of_mem ho
          have h5 : (wTx cA L tx tst)[3 * j]? = some (o, .inr (9, [.ref (tB (tx o)), .ref (tN (tx o)), .int (tA (tx o)), .ref (tC (tx o)), .int (tL (tx o)), .ref (tS (tx o)), .int (tF (tx o))])) := by
            rw [wTx_at, show 3 * j / 3 = j by omega, show 3 * j % 3 = 0 by omega, hj]
            rfl
          exact nd_app (D_right hD) _ List.mem_cons_self _ (List.mem_of_getElem? h5) rfl
        have hDz : va_D A [(o, .inr (9, [.ref q1, .ref (G nmi), .int tat, .ref q2, .int tlen, .ref q3, .int tfault])), (q2, .inl (cA 0, h_tapeCount.toNatClampNeg, .inl codes)), (q3, .inl (cA 0, h_tapeCount.toNatClampNeg, .inl (fun _ => 0)))] := (D_left (D_right hD)).sub [0, 2, 3] (by decide) rfl
        have hD3 : va_D A ((wXl cA xd vd sd nd hd td ed kd images errors fewest vspoon vmark vcount vbodies sbits slens snum h_weight h_known h_hour h_swS h_swW h_waS h_spoons h_kind h_mark h_silver h_fresh (va_up h_texts a.toNatClampNeg (some o)) h_tape (0 : Int32) h_z h_waiting h_waitingCount t_weight t_known t_hour t_swS t_swW t_waS t_spoons t_kind t_mark t_silver t_fresh t_texts t_tape t_tapeCount t_z t_waiting t_waitingCount e_weight e_known e_hour e_swS e_swW e_waS e_spoons e_kind e_mark e_silver e_fresh e_texts e_tape e_tapeCount e_z e_waiting e_waitingCount) ++ ((wTx cA L tx tst) ++ [(o, .inr (9, [.ref q1, .ref (G nmi), .int tat, .ref q2, .int tlen, .ref q3, .int tfault])), (q2, .inl (cA 0, h_tapeCount.toNatClampNeg, .inl codes)), (q3, .inl (cA 0, h_tapeCount.toNatClampNeg, .inl (fun _ => 0)))])) := D_join (D_left hD) (D_join (D_right (D_right hD)) hDz (fun q hq r hr e => nd_app (D_right hD) r (by
            simp only [List.mem_cons, List.not_mem_nil, or_false] at hr ⊢
            rcases hr with h | h | h
            · exact Or.inl h
            · exact Or.inr (Or.inr (Or.inl h))
            · exact Or.inr (Or.inr (Or.inr h))) q hq e.symm)) (fun q hq r hr e => nd_app hD q hq r (by
            rcases List.mem_append.mp hr with h | h
            · exact List.mem_append_right _ h
            · refine List.mem_append_left _ ?_
              simp only [List.mem_cons, List.not_mem_nil, or_false] at h ⊢
              rcases h with h | h | h
              · exact Or.inl h
              · exact Or.inr (Or.inr (Or.inl h))
              · exact Or.inr (Or.inr (Or.inr h))) e)
        have hP3 : va_P D vwCl ((wXl cA xd vd sd nd hd td ed kd images errors fewest vspoon vmark vcount vbodies sbits slens snum h_weight h_known h_hour h_swS h_swW h_waS h_spoons h_kind h_mark h_silver h_fresh (va_up h_texts a.toNatClampNeg (some o)) h_tape (0 : Int32) h_z h_waiting h_waitingCount t_weight t_known t_hour t_swS t_swW t_waS t_spoons t_kind t_mark t_silver t_fresh t_texts t_tape t_tapeCount t_z t_waiting t_waitingCount e_weight e_known e_hour e_swS e_swW e_waS e_spoons e_kind e_mark e_silver e_fresh e_texts e_tape e_tapeCount e_z e_waiting e_waitingCount) ++ ((wTx cA L tx tst) ++ [(o, .inr (9, [.ref q1, .ref (G nmi), .int tat, .ref q2, .int tlen, .ref q3, .int tfault])), (q2, .inl (cA 0, h_tapeCount.toNatClampNeg, .inl codes)), (q3, .inl (cA 0, h_tapeCount.toNatClampNeg, .inl (fun _ => 0)))])) H := P_mem hP (fun q hq => by
          rcases List.mem_append.mp hq with h | hr
          · exact List.mem_append_left _ h
          · refine List.mem_append_right _ ?_
            rcases List.mem_append.mp hr with h | h
            · exact List.mem_append_right _ h
            · refine List.mem_append_left _ ?_
              simp only [List.mem_cons, List.not_mem_nil, or_false] at h ⊢
              rcases h with h | h | h
              · exact Or.inl h
              · exact Or.inr (Or.inr (Or.inl h))
              · exact Or.inr (Or.inr (Or.inr h)))
        have ew : ((wXl cA xd vd sd nd hd td ed kd images errors fewest vspoon vmark vcount vbodies sbits slens snum h_weight h_known h_hour h_swS h_swW h_waS h_spoons h_kind h_mark h_silver h_fresh (va_up h_texts a.toNatClampNeg (some o)) h_tape (0 : Int32) h_z h_waiting h_waitingCount t_weight t_known t_hour t_swS t_swW t_waS t_spoons t_kind t_mark t_silver t_fresh t_texts t_tape t_tapeCount t_z t_waiting t_waitingCount e_weight e_known e_hour e_swS e_swW e_waS e_spoons e_kind e_mark e_silver e_fresh e_texts e_tape e_tapeCount e_z e_waiting e_waitingCount) ++ ((wTx cA L tx tst) ++ [(o, .inr (9, [.ref q1, .ref (G nmi), .int tat, .ref q2, .int tlen, .ref q3, .int tfault])), (q2, .inl (cA 0, h_tapeCount.toNatClampNeg, .inl codes)), (q3, .inl (cA 0, h_tapeCount.toNatClampNeg, .inl (fun _ => 0)))])) = (wX cA xd vd sd nd hd td ed kd images errors fewest vspoon vmark vcount vbodies sbits slens snum h_weight h_known h_hour h_swS h_swW h_waS h_spoons h_kind h_mark h_silver h_fresh (va_up h_texts a.toNatClampNeg (some o)) h_tape (0 : Int32) h_z h_waiting h_waitingCount t_weight t_known t_hour t_swS t_swW t_waS t_spoons t_kind t_mark t_silver t_fresh t_texts t_tape t_tapeCount t_z t_waiting t_waitingCount e_weight e_known e_hour e_swS e_swW e_waS e_spoons e_kind e_mark e_silver e_fresh e_texts e_tape e_tapeCount e_z e_waiting e_waitingCount (L ++ [o]) (va_up tx o (q1, G nmi, tat, q2, tlen, q3, tfault, h_tapeCount.toNatClampNeg, codes)) (va_up tst o (fun _ => 0))) := by
          show _ = (wXl cA xd vd sd nd hd td ed kd images errors fewest vspoon vmark vcount vbodies sbits slens snum h_weight h_known h_hour h_swS h_swW h_waS h_spoons h_kind h_mark h_silver h_fresh (va_up h_texts a.toNatClampNeg (some o)) h_tape (0 : Int32) h_z h_waiting h_waitingCount t_weight t_known t_hour t_swS t_swW t_waS t_spoons t_kind t_mark t_silver t_fresh t_texts t_tape t_tapeCount t_z t_waiting t_waitingCount e_weight e_known e_hour e_swS e_swW e_waS e_spoons e_kind e_mark e_silver e_fresh e_texts e_tape e_tapeCount e_z e_waiting e_waitingCount) ++ wTx cA (L ++ [o]) (va_up tx o (q1, G nmi, tat, q2, tlen, q3, tfault, h_tapeCount.toNatClampNeg, codes)) (va_up tst o (fun _ => 0))
          rw [wTx_new cA L tx tst o (q1, G nmi, tat, q2, tlen, q3, tfault, h_tapeCount.toNatClampNeg, codes) (fun _ => 0) hoL]
          rfl
        rw [ew] at hP3 hD3
        rw [hnmi] at hP3 hD3
        exact retIX (Or.inr ⟨(tat, tlen, tfault, codes), o, q1, q2, q3, rfl, hoL, rfl⟩) hx hb hr hlk hK hP3 hD3 hS dX11_text_81 ⟨(Nat.le_of_ble_eq_true rfl), (Nat.le_of_ble_eq_true rfl)⟩
      · have h := ite_f c_4 h
        refine lv_bipush (v := (-10 : Int32)) hx hb dX11_text_62 (by decide) ?_
        refine lv_aload_n hx hb dX11_text_64 rfl (lv_at hv 0 rfl) ?_
        refine va_get (D := D) (ci := 9) (v := .int tfault) (C := RX9) (T := TX9) (N := 7) hx hb hts in_9 hown hK hP 58 rfl rfl 6 (by decide) w_fault (fun _ h9 => h9) rfl dX11_text_65 ?_
        refine lv_isub hx hb dX11_text_68 ?_
        have h := Option.some.inj h
        have ee0 : (-10 : Int32) - tfault = rR := congrArg (fun q => q.1) h
        have ee1 : errors = errorsR := congrArg (fun q => q.2.1) h
        have ee2 : (0 : Int32) = h_tapeCountR := congrArg (fun q => q.2.2.1) h
        have ee3 : none = mkR := congrArg (fun q => q.2.2.2) h
        subst ee0
        subst ee1
        subst ee2
        subst ee3
        rw [← hQ]
        have hD3 : va_D A (wX cA xd vd sd nd hd td ed kd images errors fewest vspoon vmark vcount vbodies sbits slens snum h_weight h_known h_hour h_swS h_swW h_waS h_spoons h_kind h_mark h_silver h_fresh h_texts h_tape (0 : Int32) h_z h_waiting h_waitingCount t_weight t_known t_hour t_swS t_swW t_waS t_spoons t_kind t_mark t_silver t_fresh t_texts t_tape t_tapeCount t_z t_waiting t_waitingCount e_weight e_known e_hour e_swS e_swW e_waS e_spoons e_kind e_mark e_silver e_fresh e_texts e_tape e_tapeCount e_z e_waiting e_waitingCount L tx tst) := D_join (P := (wXl cA xd vd sd nd hd td ed kd images errors fewest vspoon vmark vcount vbodies sbits slens snum h_weight h_known h_hour h_swS h_swW h_waS h_spoons h_kind h_mark h_silver h_fresh h_texts h_tape (0 : Int32) h_z h_waiting h_waitingCount t_weight t_known t_hour t_swS t_swW t_waS t_spoons t_kind t_mark t_silver t_fresh t_texts t_tape t_tapeCount t_z t_waiting t_waitingCount e_weight e_known e_hour e_swS e_swW e_waS e_spoons e_kind e_mark e_silver e_fresh e_texts e_tape e_tapeCount e_z e_waiting e_waitingCount)) (Q := (wTx cA L tx tst)) (D_left hD) (D_right (D_right hD)) (fun q hq r hr e => nd_app hD q hq r (List.mem_append_right _ hr) e)
        have hP3 : va_P D vwCl (wX cA xd vd sd nd hd td ed kd images errors fewest vspoon vmark vcount vbodies sbits slens snum h_weight h_known h_hour h_swS h_swW h_waS h_spoons h_kind h_mark h_silver h_fresh h_texts h_tape (0 : Int32) h_z h_waiting h_waitingCount t_weight t_known t_hour t_swS t_swW t_waS t_spoons t_kind t_mark t_silver t_fresh t_texts t_tape t_tapeCount t_z t_waiting t_waitingCount e_weight e_known e_hour e_swS e_swW e_waS e_spoons e_kind e_mark e_silver e_fresh e_texts e_tape e_tapeCount e_z e_waiting e_waitingCount L tx tst) H := P_mem hP (fun q hq => by
          have hq : q ∈ (wXl cA xd vd sd nd hd td ed kd images errors fewest vspoon vmark vcount vbodies sbits slens snum h_weight h_known h_hour h_swS h_swW h_waS h_spoons h_kind h_mark h_silver h_fresh h_texts h_tape (0 : Int32) h_z h_waiting h_waitingCount t_weight t_known t_hour t_swS t_swW t_waS t_spoons t_kind t_mark t_silver t_fresh t_texts t_tape t_tapeCount t_z t_waiting t_waitingCount e_weight e_known e_hour e_swS e_swW e_waS e_spoons e_kind e_mark e_silver e_fresh e_texts e_tape e_tapeCount e_z e_waiting e_waitingCount) ++ (wTx cA L tx tst) := hq
          rcases List.mem_append.mp hq with h | h
          · exact List.mem_append_left _ h
          · exact List.mem_append_right _ (List.mem_append_right _ h))
        exact retIX (Or.inl ⟨rfl, rfl⟩) hx hb hr hlk hK hP3 hD3 hS dX11_text_69 ⟨(Nat.le_of_ble_eq_true rfl), (Nat.le_of_ble_eq_true rfl)⟩
    refine lv_if_ne (tgt := 41) hx hb dX11_text_33 (by decide) (fun c_5 => ?_) (fun c_5 => ?_)
    · refine va_ldcS (tx := "rsn") hx hb hown (show vk_R RX11 162 "rsn" (G 1) s from hE.2.2.1 1 (by decide)) dX11_text_41 ?_
      exact tail 1 (if_neg c_5).symm
    · refine va_ldcS (tx := "kws") hx hb hown (show vk_R RX11 160 "kws" (G 0) s from hE.2.2.1 0 (by decide)) dX11_text_36 ?_
      refine lv_goto (tgt := 43) hx hb dX11_text_38 (by decide) ?_
      exact tail 0 (if_pos c_5).symm
  · have h := ite_t c_3 h
    refine lv_aload_n hx hb dX11_text_7 rfl (lv_at hv 0 rfl) ?_
    refine lv_ldc (v := (-1000000001 : Int32)) hx hb hown w_k dX11_text_8 ?_
    obtain ⟨⟨r_4, errors_5⟩, hf_6, h⟩ := bd_ex h
    have sb := Sb.same hP hD hS hA
    refine calI (va_runV (As := [.int (-1000000001 : Int32)]) (rest := []) ⟨hx, hb, hml, hown, hts⟩ (c_X11_refused l G D cA xd vd sd nd hd td ed kd _ images errors fewest vspoon vmark vcount vbodies sbits slens snum h_weight h_known h_hour h_swS h_swW h_waS h_spoons h_kind h_mark h_silver h_fresh h_texts h_tape h_tapeCount h_z h_waiting h_waitingCount t_weight t_known t_hour t_swS t_swW t_waS t_spoons t_kind t_mark t_silver t_fresh t_texts t_tape t_tapeCount t_z t_waiting t_waitingCount e_weight e_known e_hour e_swS e_swW e_waS e_spoons e_kind e_mark e_silver e_fresh e_texts e_tape e_tapeCount e_z e_waiting e_waitingCount L tx tst (-1000000001 : Int32) r_4 errors_5 hf_6) (cwV 1 hts gX11_text_X11_refused rfl rfl rfl (by decide +kernel) ⟨(Nat.le_of_ble_eq_true rfl), (Nat.le_of_ble_eq_true rfl)⟩) (pvV hE hK hS sb (va_recv hK hP (ci := 11) (q0 := 0) rfl rfl)) rfl rfl hv.1 rfl (lv_room (Nat.le_of_ble_eq_true rfl)) dX11_text_10 ⟨(Nat.le_of_ble_eq_true rfl), (Nat.le_of_ble_eq_true rfl)⟩) hS sb (Jn.same sb) (fun H locs hP hD hS => ?_)
    have h := Option.some.inj h
    have ee0 : r_4 = rR := congrArg (fun q => q.1) h
    have ee1 : errors_5 = errorsR := congrArg (fun q => q.2.1) h
    have ee2 : h_tapeCount = h_tapeCountR := congrArg (fun q => q.2.2.1) h
    have ee3 : none = mkR := congrArg (fun q => q.2.2.2) h
    subst ee0
    subst ee1
    subst ee2
    subst ee3
    rw [← hQ]
    exact retIX (Or.inl ⟨rfl, rfl⟩) hx hb hr hlk hK hP hD hS dX11_text_13 ⟨(Nat.le_of_ble_eq_true rfl), (Nat.le_of_ble_eq_true rfl)⟩
