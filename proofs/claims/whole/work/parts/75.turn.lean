section LW
variable {p : Program} {e : Env} {s : State} {m : MethodId} {below : List Frame} {meth : Method} {c : Code} {l : Launch} {b N i K M x0 m0 : Nat} {xs : Nat → Int32} {G : Nat → Nat} {D : va_G} {cA : Nat → ClassId} {H : Heap} {locs : List Loc} {ls : Array Slot} {r : Int32} {wx wx1 wm wm1 : va_W}
variable {xd : Nat → Nat} {vd : Nat → Nat} {sd : Nat → Nat} {nd : Nat → Nat} {hd : Nat → Nat} {td : Nat → Nat} {ed : Nat → Nat} {kd : Nat → Nat} {ad : Nat → Nat} {images : Int32} {errors : Nat → Int32} {fewest : Nat → Int32} {vspoon : Int32} {vmark : Int32} {vcount : Int32} {vbodies : Nat → Int32} {sbits : Nat → Int32} {slens : Nat → Int32} {snum : Nat → Nat → Int32} {h_weight : Nat → Int32} {h_known : Int32} {h_hour : Int32} {h_swS : Nat → Int32} {h_swW : Nat → Int32} {h_waS : Nat → Int32} {h_spoons : Int32} {h_kind : Nat → Int32} {h_mark : Nat → Int32} {h_silver : Nat → Int32} {h_fresh : Nat → Int64} {h_texts : Nat → Option Nat} {h_tape : Nat → Int32} {h_tapeCount : Int32} {h_z : Int32} {h_waiting : Nat → Int32} {h_waitingCount : Int32} {t_weight : Nat → Int32} {t_known : Int32} {t_hour : Int32} {t_swS : Nat → Int32} {t_swW : Nat → Int32} {t_waS : Nat → Int32} {t_spoons : Int32} {t_kind : Nat → Int32} {t_mark : Nat → Int32} {t_silver : Nat → Int32} {t_fresh : Nat → Int64} {t_texts : Nat → Option Nat} {t_tape : Nat → Int32} {t_tapeCount : Int32} {t_z : Int32} {t_waiting : Nat → Int32} {t_waitingCount : Int32} {e_weight : Nat → Int32} {e_known : Int32} {e_hour : Int32} {e_swS : Nat → Int32} {e_swW : Nat → Int32} {e_waS : Nat → Int32} {e_spoons : Int32} {e_kind : Nat → Int32} {e_mark : Nat → Int32} {e_silver : Nat → Int32} {e_fresh : Nat → Int64} {e_texts : Nat → Option Nat} {e_tape : Nat → Int32} {e_tapeCount : Int32} {e_z : Int32} {e_waiting : Nat → Int32} {e_waitingCount : Int32} {L : List Nat} {tx : Nat → TXc} {tst : Nat → Nat → Int32} {d : Nat → Int32} {kept : Nat → Int32} {aside : Nat → Int32} {found : Nat → Int32} {base : Int32} {at0 : Int32} {size : Int32} {fault : Int32} {opened : Int32} {isRub : Int32} {names : Nat → Int32} {code : Nat → Int32} {coded : Int32} {pile : Nat → Int32} {needs : Nat → Int32} {traced : Nat → Int32} {traceMany : Int32} {who : Int32} {bitsOf : Nat → Int32} {sizeOf : Nat → Int32} {number : Nat → Int32} {lifted : Nat → Int32}
set_option maxHeartbeats 8000000 in
set_option maxRecDepth 100000 in
theorem law_turn (C : LX p l e s m below meth c b N xs G D cA) (C2 : i + 6 ≤ N ∧ N ≤ 3072 ∧ K ≤ 590000 ∧ M ≤ 7200000) (hP : va_P D vwCl (wM cA ad d kept aside images found base at0 size fault opened isRub names code coded pile needs traced traceMany who bitsOf sizeOf number lifted ++ wX cA xd vd sd nd hd td ed kd images errors fewest vspoon vmark vcount vbodies sbits slens snum h_weight h_known h_hour h_swS h_swW h_waS h_spoons h_kind h_mark h_silver h_fresh h_texts h_tape h_tapeCount h_z h_waiting h_waitingCount t_weight t_known t_hour t_swS t_swW t_waS t_spoons t_kind t_mark t_silver t_fresh t_texts t_tape t_tapeCount t_z t_waiting t_waitingCount e_weight e_known e_hour e_swS e_swW e_waS e_spoons e_kind e_mark e_silver e_fresh e_texts e_tape e_tapeCount e_z e_waiting e_waitingCount L tx tst) H) (hD : va_D (LA s) (wM cA ad d kept aside images found base at0 size fault opened isRub names code coded pile needs traced traceMany who bitsOf sizeOf number lifted ++ wX cA xd vd sd nd hd td ed kd images errors fewest vspoon vmark vcount vbodies sbits slens snum h_weight h_known h_hour h_swS h_swW h_waS h_spoons h_kind h_mark h_silver h_fresh h_texts h_tape h_tapeCount h_z h_waiting h_waitingCount t_weight t_known t_hour t_swS t_swW t_waS t_spoons t_kind t_mark t_silver t_fresh t_texts t_tape t_tapeCount t_z t_waiting t_waitingCount e_weight e_known e_hour e_swS e_swW e_waS e_spoons e_kind e_mark e_silver e_fresh e_texts e_tape e_tapeCount e_z e_waiting e_waitingCount L tx tst)) (he : Re errors found) (hh : Rh h_weight h_known h_hour h_swS h_swW h_waS h_spoons h_kind h_mark h_silver h_fresh h_texts h_tape h_tapeCount h_z h_waiting h_waitingCount d L tx) (hi : images = 0 ∨ Rh e_weight e_known e_hour e_swS e_swW e_waS e_spoons e_kind e_mark e_silver e_fresh e_texts e_tape e_tapeCount e_z e_waiting e_waitingCount kept L tx) (hv : Rv vcount vbodies traced traceMany) (hs : Rs sbits slens snum bitsOf sizeOf number) (hf : fewest 0 = nI 0) (hS : va_S (LA s) s.heap H locs) (hl : lv_has ls 4 [(0, .ref b), (1, .ref (xd 0)), (2, .ref (ad 0)), (3, .int (nI i))]) (k : ∀ (H : Heap) (locs : List Loc), At D cA (LA s) H (xd 0) (ad 0) → va_S (LA s) s.heap H locs → W p l e room_1 s m #[Value.ref b] below meth c H locs (K + 4) (M + 157) (lw_Z below #[Value.ref b] s) (F0 m 1603 ls [])) (q : Int32) : W p l e room_1 s m #[Value.ref b] below meth c H locs K M (lw_Z below #[Value.ref b] s) (F0 m 33 ls [.int q]) := by
  have hx := C.1
  have hb := C.2.1
  by_cases hc : nI 0 ≤ q ∧ q ≤ nI 44
  · obtain ⟨j, hj, rfl⟩ := bt_of (by decide) hc
    rcases (show j = 0 ∨ j = 1 ∨ j = 2 ∨ j = 3 ∨ j = 4 ∨ j = 5 ∨ j = 6 ∨ j = 7 ∨ j = 8 ∨ j = 9 ∨ j = 10 ∨ j = 11 ∨ j = 12 ∨ j = 13 ∨ j = 14 ∨ j = 15 ∨ j = 16 ∨ j = 17 ∨ j = 18 ∨ j = 19 ∨ j = 20 ∨ j = 21 ∨ j = 22 ∨ j = 23 ∨ j = 24 ∨ j = 25 ∨ j = 26 ∨ j = 27 ∨ j = 28 ∨ j = 29 ∨ j = 30 ∨ j = 31 ∨ j = 32 ∨ j = 33 ∨ j = 34 ∨ j = 35 ∨ j = 36 ∨ j = 37 ∨ j = 38 ∨ j = 39 ∨ j = 40 ∨ j = 41 ∨ j = 42 ∨ j = 43 ∨ j = 44 by omega) with rfl | rfl | rfl | rfl | rfl | rfl | rfl | rfl | rfl | rfl | rfl | rfl | rfl | rfl | rfl | rfl | rfl | rfl | rfl | rfl | rfl | rfl | rfl | rfl | rfl | rfl | rfl | rfl | rfl | rfl | rfl | rfl | rfl | rfl | rfl | rfl | rfl | rfl | rfl | rfl | rfl | rfl | rfl | rfl | rfl
    · refine lv_tableIn (tgt := 228) (off := 195) hx hb dL_law_33 (by decide) (by decide) rfl (by decide) ?_
      exact case_word C C2 hP hD he hh hi hv hs hf hS hl k
    · refine lv_tableIn (tgt := 261) (off := 228) hx hb dL_law_33 (by decide) (by decide) rfl (by decide) ?_
      exact case_ofWord C C2 hP hD he hh hi hv hs hf hS hl k
    · refine lv_tableIn (tgt := 294) (off := 261) hx hb dL_law_33 (by decide) (by decide) rfl (by decide) ?_
      exact case_known C C2 hP hD he hh hi hv hs hf hS hl k
    · refine lv_tableIn (tgt := 317) (off := 284) hx hb dL_law_33 (by decide) (by decide) rfl (by decide) ?_
      exact case_swallow C C2 hP hD he hh hi hv hs hf hS hl k
    · refine lv_tableIn (tgt := 360) (off := 327) hx hb dL_law_33 (by decide) (by decide) rfl (by decide) ?_
      exact case_ofSwallow C C2 hP hD he hh hi hv hs hf hS hl k
    · refine lv_tableIn (tgt := 383) (off := 350) hx hb dL_law_33 (by decide) (by decide) rfl (by decide) ?_
      exact case_wash C C2 hP hD he hh hi hv hs hf hS hl k
    · refine lv_tableIn (tgt := 416) (off := 383) hx hb dL_law_33 (by decide) (by decide) rfl (by decide) ?_
      exact case_ofWash C C2 hP hD he hh hi hv hs hf hS hl k
    · refine lv_tableIn (tgt := 439) (off := 406) hx hb dL_law_33 (by decide) (by decide) rfl (by decide) ?_
      exact case_spoon C C2 hP hD he hh hi hv hs hf hS hl k
    · refine lv_tableIn (tgt := 472) (off := 439) hx hb dL_law_33 (by decide) (by decide) rfl (by decide) ?_
      exact case_ofSpoon C C2 hP hD he hh hi hv hs hf hS hl k
    · refine lv_tableIn (tgt := 505) (off := 472) hx hb dL_law_33 (by decide) (by decide) rfl (by decide) ?_
      exact case_change C C2 hP hD he hh hi hv hs hf hS hl k
    · refine lv_tableIn (tgt := 548) (off := 515) hx hb dL_law_33 (by decide) (by decide) rfl (by decide) ?_
      exact case_become C C2 hP hD he hh hi hv hs hf hS hl k
    · refine lv_tableIn (tgt := 581) (off := 548) hx hb dL_law_33 (by decide) (by decide) rfl (by decide) ?_
      exact case_as C C2 hP hD he hh hi hv hs hf hS hl k
    · refine lv_tableIn (tgt := 614) (off := 581) hx hb dL_law_33 (by decide) (by decide) rfl (by decide) ?_
      exact case_feed C C2 hP hD he hh hi hv hs hf hS hl k
    · refine lv_tableIn (tgt := 677) (off := 644) hx hb dL_law_33 (by decide) (by decide) rfl (by decide) ?_
      exact case_text C C2 hP hD he hh hi hv hs hf hS hl k
    · refine lv_tableIn (tgt := 700) (off := 667) hx hb dL_law_33 (by decide) (by decide) rfl (by decide) ?_
      exact case_law C C2 hP hD he hh hi hv hs hf hS hl k
    · refine lv_tableIn (tgt := 753) (off := 720) hx hb dL_law_33 (by decide) (by decide) rfl (by decide) ?_
      exact case_hours C C2 hP hD he hh hi hv hs hf hS hl k
    · refine lv_tableIn (tgt := 776) (off := 743) hx hb dL_law_33 (by decide) (by decide) rfl (by decide) ?_
      exact case_loose C C2 hP hD he hh hi hv hs hf hS hl k
    · refine lv_tableIn (tgt := 799) (off := 766) hx hb dL_law_33 (by decide) (by decide) rfl (by decide) ?_
      exact case_then C C2 hP hD he hh hi hv hs hf hS hl k
    · refine lv_tableIn (tgt := 842) (off := 809) hx hb dL_law_33 (by decide) (by decide) rfl (by decide) ?_
      exact case_spreads C C2 hP hD he hh hi hv hs hf hS hl k
    · refine lv_tableIn (tgt := 865) (off := 832) hx hb dL_law_33 (by decide) (by decide) rfl (by decide) ?_
      exact case_when C C2 hP hD he hh hi hv hs hf hS hl k
    · refine lv_tableIn (tgt := 888) (off := 855) hx hb dL_law_33 (by decide) (by decide) rfl (by decide) ?_
      exact case_lasts C C2 hP hD he hh hi hv hs hf hS hl k
    · refine lv_tableIn (tgt := 911) (off := 878) hx hb dL_law_33 (by decide) (by decide) rfl (by decide) ?_
      exact case_silverFor C C2 hP hD he hh hi hv hs hf hS hl k
    · refine lv_tableIn (tgt := 944) (off := 911) hx hb dL_law_33 (by decide) (by decide) rfl (by decide) ?_
      exact case_washFor C C2 hP hD he hh hi hv hs hf hS hl k
    · refine lv_tableIn (tgt := 977) (off := 944) hx hb dL_law_33 (by decide) (by decide) rfl (by decide) ?_
      exact case_kindFor C C2 hP hD he hh hi hv hs hf hS hl k
    · refine lv_tableIn (tgt := 1010) (off := 977) hx hb dL_law_33 (by decide) (by decide) rfl (by decide) ?_
      exact case_rubbed C C2 hP hD he hh hi hv hs hf hS hl k
    · refine lv_tableIn (tgt := 1053) (off := 1020) hx hb dL_law_33 (by decide) (by decide) rfl (by decide) ?_
      exact case_which C C2 hP hD he hh hi hv hs hf hS hl k
    · refine lv_tableIn (tgt := 1086) (off := 1053) hx hb dL_law_33 (by decide) (by decide) rfl (by decide) ?_
      exact case_washers C C2 hP hD he hh hi hv hs hf hS hl k
    · refine lv_tableIn (tgt := 1099) (off := 1066) hx hb dL_law_33 (by decide) (by decide) rfl (by decide) ?_
      exact case_telling C C2 hP hD he hh hi hv hs hf hS hl k
    · refine lv_tableIn (tgt := 1122) (off := 1089) hx hb dL_law_33 (by decide) (by decide) rfl (by decide) ?_
      exact case_gossip C C2 hP hD he hh hi hv hs hf hS hl k
    · refine lv_tableIn (tgt := 1145) (off := 1112) hx hb dL_law_33 (by decide) (by decide) rfl (by decide) ?_
      exact case_much C C2 hP hD he hh hi hv hs hf hS hl k
    · refine lv_tableIn (tgt := 1168) (off := 1135) hx hb dL_law_33 (by decide) (by decide) rfl (by decide) ?_
      exact case_odds C C2 hP hD he hh hi hv hs hf hS hl k
    · refine lv_tableIn (tgt := 1211) (off := 1178) hx hb dL_law_33 (by decide) (by decide) rfl (by decide) ?_
      exact case_seed C C2 hP hD he hh hi hv hs hf hS hl k
    · refine lv_tableIn (tgt := 1234) (off := 1201) hx hb dL_law_33 (by decide) (by decide) rfl (by decide) ?_
      exact case_voice C C2 hP hD he hh hi hv hs hf hS hl k
    · refine lv_tableIn (tgt := 1277) (off := 1244) hx hb dL_law_33 (by decide) (by decide) rfl (by decide) ?_
      exact case_trace C C2 hP hD he hh hi hv hs hf hS hl k
    · refine lv_tableIn (tgt := 1300) (off := 1267) hx hb dL_law_33 (by decide) (by decide) rfl (by decide) ?_
      exact case_sheet C C2 hP hD he hh hi hv hs hf hS hl k
    · refine lv_tableIn (tgt := 1343) (off := 1310) hx hb dL_law_33 (by decide) (by decide) rfl (by decide) ?_
      exact case_put C C2 hP hD he hh hi hv hs hf hS hl k
    · refine lv_tableIn (tgt := 1386) (off := 1353) hx hb dL_law_33 (by decide) (by decide) rfl (by decide) ?_
      exact case_move C C2 hP hD he hh hi hv hs hf hS hl k
    · refine lv_tableIn (tgt := 1449) (off := 1416) hx hb dL_law_33 (by decide) (by decide) rfl (by decide) ?_
      exact case_weights C C2 hP hD he hh hi hv hs hf hS hl k
    · refine lv_tableIn (tgt := 1472) (off := 1439) hx hb dL_law_33 (by decide) (by decide) rfl (by decide) ?_
      exact case_judge C C2 hP hD he hh hi hv hs hf hS hl k
    · refine lv_tableIn (tgt := 1495) (off := 1462) hx hb dL_law_33 (by decide) (by decide) rfl (by decide) ?_
      exact case_image C C2 hP hD he hh hi hv hs hf hS hl k
    · refine lv_tableIn (tgt := 1508) (off := 1475) hx hb dL_law_33 (by decide) (by decide) rfl (by decide) ?_
      exact case_restore C C2 hP hD he hh hi hv hs hf hS hl k
    · refine lv_tableIn (tgt := 1521) (off := 1488) hx hb dL_law_33 (by decide) (by decide) rfl (by decide) ?_
      exact case_tell C C2 hP hD he hh hi hv hs hf hS hl k
    · refine lv_tableIn (tgt := 1544) (off := 1511) hx hb dL_law_33 (by decide) (by decide) rfl (by decide) ?_
      exact case_check C C2 hP hD he hh hi hv hs hf hS hl k
    · refine lv_tableIn (tgt := 1557) (off := 1524) hx hb dL_law_33 (by decide) (by decide) rfl (by decide) ?_
      exact case_count C C2 hP hD he hh hi hv hs hf hS hl k
    · refine lv_tableIn (tgt := 1580) (off := 1547) hx hb dL_law_33 (by decide) (by decide) rfl (by decide) ?_
      exact case_told C C2 hP hD he hh hi hv hs hf hS hl k
  · refine lv_tableOut (tgt := 1603) hx hb dL_law_33 (by
      rw [q_le, q_le, nI_toInt (by decide), nI_toInt (by decide)] at hc
      omega) (by decide) ?_
    refine W.widen (k := K + 4) (n := M + 157) (by omega) (by omega) ?_
    exact k H locs (At.mk hP hD he hh hi hv hs hf) hS
end LW
section LW
variable {p : Program} {e : Env} {s : State} {m : MethodId} {below : List Frame} {meth : Method} {c : Code} {l : Launch} {b N i K M x0 m0 : Nat} {xs : Nat → Int32} {G : Nat → Nat} {D : va_G} {cA : Nat → ClassId} {H : Heap} {locs : List Loc} {ls : Array Slot} {r : Int32} {wx wx1 wm wm1 : va_W}
set_option maxHeartbeats 8000000 in
set_option maxRecDepth 100000 in
theorem law_loop (C : LX p l e s m below meth c b N xs G D cA) (hN : N ≤ 3072) : ∀ (n i : Nat), N < i + n → i ≤ N → ∀ (H : Heap) (locs : List Loc) (ls : Array Slot) (K M x0 m0 : Nat), K ≤ 200 + 4 * i → M ≤ 4000 + 157 * i → At D cA (LA s) H x0 m0 → va_S (LA s) s.heap H locs → lv_has ls 4 [(0, .ref b), (1, .ref x0), (2, .ref m0), (3, .int (nI i))] → W p l e room_1 s m #[Value.ref b] below meth c H locs K M (lw_Z below #[Value.ref b] s) (F0 m 18 ls []) := by
  obtain ⟨hx, hb, hr, hml, hown, hts, hX, hbl, hlocks, hK, hE⟩ := id C
  have hbA : ¬ LA s b := Nat.not_le.mpr hbl
  intro n
  induction n with
  | zero => exact fun i h1 h2 => absurd h1 (by omega)
  | succ n ih =>
    intro i h1 h2 H locs ls K M x0 m0 hKK hMM hAt hS hl
    refine lv_iload_n hx hb dL_law_18 rfl (lv_at hl 3 rfl) ?_
    refine lv_aload_n hx hb dL_law_19 rfl (lv_at hl 0 rfl) ?_
    refine va_slen hx hb hX hbl hbA hS dL_law_20 ?_
    refine lv_bipush (v := nI 6) hx hb dL_law_21 (by decide) ?_
    refine lv_isub hx hb dL_law_23 ?_
    refine lv_icmp_gt (tgt := 1609) hx hb dL_law_24 (by decide) (fun c1 => ?_) (fun c1 => ?_)
    · refine lv_iconst (v := (1 : Int32)) hx hb dL_law_1609 (by decide) ?_
      refine va_forget (fun q hq => hS.2.2 q hq) ?_
      refine W.widen (k := 600000) (n := 7302250) (by omega) (by omega) ?_
      exact lw_ret hx hb hr hlocks dL_law_1610
    · have hi6 : i + 6 ≤ N := by
        have c1 : ¬ nI N - nI 6 < nI i := c1
        rw [q_lt, pk_sub_toInt (by omega) (by decide), nI_toInt (by omega)] at c1
        omega
      refine lv_aload_n hx hb dL_law_27 rfl (lv_at hl 0 rfl) ?_
      refine lv_iload_n hx hb dL_law_28 rfl (lv_at hl 3 rfl) ?_
      refine va_sld hx hb hX hbl hbA hS (vp_in_nI (by omega) (by omega)) dL_law_29 ?_
      refine lv_bipush (v := nI 63) hx hb dL_law_30 (by decide) ?_
      refine lv_iand hx hb dL_law_32 ?_
      have kk : ∀ (H : Heap) (locs : List Loc), At D cA (LA s) H x0 m0 → va_S (LA s) s.heap H locs → W p l e room_1 s m #[Value.ref b] below meth c H locs (K + 4) (M + 157) (lw_Z below #[Value.ref b] s) (F0 m 1603 ls []) := fun H locs hAt hS => by
        refine lv_iinc (v := nI (i + 6)) (lv' := [(3, .int (nI (i + 6))), (0, .ref b), (1, .ref x0), (2, .ref m0)]) hx hb dL_law_1603 hl (k := 3) rfl (nI_add i 6) (by decide) rfl (fun ls hl => ?_)
        refine lv_goto (tgt := 18) hx hb dL_law_1606 (by decide) ?_
        exact ih (i + 6) (by omega) hi6 H locs ls (K + 4) (M + 157) x0 m0 (by omega) (by omega) hAt hS (lv_sub hl [1, 2, 3, 0] rfl)
      generalize xs (nI i).toNatClampNeg &&& nI 63 = q
      have C2 : i + 6 ≤ N ∧ N ≤ 3072 ∧ K ≤ 590000 ∧ M ≤ 7200000 := ⟨hi6, hN, by omega, by omega⟩
      refine hAt _ (fun xd vd sd nd hd td ed kd ad images errors fewest vspoon vmark vcount vbodies sbits slens snum h_weight h_known h_hour h_swS h_swW h_waS h_spoons h_kind h_mark h_silver h_fresh h_texts h_tape h_tapeCount h_z h_waiting h_waitingCount t_weight t_known t_hour t_swS t_swW t_waS t_spoons t_kind t_mark t_silver t_fresh t_texts t_tape t_tapeCount t_z t_waiting t_waitingCount e_weight e_known e_hour e_swS e_swW e_waS e_spoons e_kind e_mark e_silver e_fresh e_texts e_tape e_tapeCount e_z e_waiting e_waitingCount L tx tst d kept aside found base at0 size fault opened isRub names code coded pile needs traced traceMany who bitsOf sizeOf number lifted hx0 hm0 hP hD he hh hi hv hs hf => ?_)
      subst hx0
      subst hm0
      exact law_turn C C2 hP hD he hh hi hv hs hf hS hl kk q
end LW
