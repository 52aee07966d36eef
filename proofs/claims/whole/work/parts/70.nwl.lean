set_option maxRecDepth 20000 in
theorem in_nwl : ∀ w ∈ nwl, w ∈ lw_tbl := w_cons wl1351 (w_cons wl1350 (w_cons wl1349 (w_cons wl1348 (w_cons wl1347 (w_cons wl1346 (w_cons wl1345 (w_cons wl1344 (w_cons wl1343 (w_cons wl1342 (w_cons wl1341 (w_cons wl1340 (w_cons wl1339 (w_cons wl1338 (w_cons wl1337 (w_cons wl1336 w_nil)))))))))))))))
set_option maxRecDepth 20000 in
theorem in_wsX8_stays : ∀ w ∈ wsX8_stays, w ∈ lw_tbl := w_cons wl756 (w_nil)
set_option maxRecDepth 20000 in
theorem in_wsX8_wears : ∀ w ∈ wsX8_wears, w ∈ lw_tbl := w_cons wl354 (w_nil)
set_option maxRecDepth 20000 in
theorem in_wsX8_tells_r1 : ∀ w ∈ wsX8_tells_r1, w ∈ lw_tbl := w_cons wl1081 (w_cons wl1080 (w_cons wl1079 (w_cons wl39 (w_cons wl1078 (w_cons wl1087 (w_cons wl77 (w_cons wl1169 (w_cons wl1103 (w_cons wl1096 (w_cons wl1102 (w_cons wl1101 (w_cons wl13 (w_cons wl1100 (w_cons wl1099 (w_cons wl1098 (w_cons wl1097 (w_cons wl1096 (w_cons wl19 (w_cons wl1095 (w_cons wl1094 (w_cons wl1085 (w_cons wl1084 (w_cons wl1076 w_nil)))))))))))))))))))))))
set_option maxRecDepth 20000 in
theorem in_wsX8_tells_r2 : ∀ w ∈ wsX8_tells_r2, w ∈ lw_tbl := w_cons wl1083 (w_cons wl1082 (w_cons wl1077 (w_cons wl1076 (w_cons wl1075 (w_cons wl1074 (w_cons wl16 (w_cons wl1073 (w_cons wl1072 (w_cons wl1109 (w_cons wl340 (w_cons wl1108 (w_cons wl1107 (w_cons wl1106 (w_cons wl1094 (w_cons wl1105 (w_cons wl1093 (w_cons wl1092 (w_cons wl1091 (w_cons wl1112 (w_cons wl1130 (w_cons wl1129 (w_cons wl1128 (w_cons wl1127 w_nil)))))))))))))))))))))))
set_option maxRecDepth 20000 in
theorem in_wsX8_tells_r3 : ∀ w ∈ wsX8_tells_r3, w ∈ lw_tbl := w_cons wl1126 (w_cons wl1125 (w_cons wl1124 (w_cons wl4 (w_cons wl1123 (w_cons wl1122 (w_cons wl1121 (w_cons wl1120 (w_cons wl1119 (w_cons wl1118 (w_cons wl1117 (w_cons wl1169 (w_cons wl1116 (w_cons wl1168 (w_cons wl1114 (w_cons wl1113 (w_cons wl1112 (w_cons wl1111 (w_cons wl1110 (w_cons wl1 (w_cons wl1150 (w_cons wl1149 (w_cons wl1148 (w_cons wl1147 w_nil)))))))))))))))))))))))
set_option maxRecDepth 20000 in
theorem in_wsX8_tells_r4 : ∀ w ∈ wsX8_tells_r4, w ∈ lw_tbl := w_cons wl1146 (w_cons wl347 (w_cons wl1145 (w_cons wl10 (w_cons wl1144 (w_cons wl1143 (w_cons wl1142 (w_cons wl1141 (w_cons wl1140 (w_cons wl1139 (w_cons wl1138 (w_cons wl1137 (w_cons wl1168 (w_cons wl1136 w_nil)))))))))))))
set_option maxRecDepth 20000 in
theorem in_wsX8_tells : ∀ w ∈ wsX8_tells, w ∈ lw_tbl := w_cons wl1131 (w_app (w_app (in_wsX8_tells_r1) (w_app (in_wsX8_tells_r2) (w_app (in_wsX8_tells_r3) (in_wsX8_tells_r4)))) (in_wsX100))
set_option maxRecDepth 20000 in
theorem in_xwl : ∀ w ∈ xwl, w ∈ lw_tbl := w_app (w_cons wl1359 (w_cons wl1358 (w_cons wl1119 (w_cons wl1097 (w_cons wl755 (w_cons wl19 (w_cons wl1357 (w_cons wl1356 (w_cons wl353 (w_cons wl1355 (w_cons wl1354 (w_cons wl759 (w_cons wl340 (w_cons wl1132 (w_cons wl1353 (w_cons wl1352 (w_cons wl347 (w_cons wl1141 w_nil)))))))))))))))))) (w_app (in_wsX8_stays) (w_app (in_wsX8_wears) (in_wsX8_tells)))
set_option maxRecDepth 20000 in
theorem w_sr : ∀ i, i < 11 → Cond.stringRef (sow.getD i ("", 0)).1 (sow.getD i ("", 0)).2 (stx.getD i "") ∈ lw_tbl := fun i hi => match i, hi with
  | 0, _ => wl1360
  | 1, _ => wl1361
  | 2, _ => wl1362
  | 3, _ => wl1363
  | 4, _ => wl1364
  | 5, _ => wl1365
  | 6, _ => wl1366
  | 7, _ => wl1367
  | 8, _ => wl1368
  | 9, _ => wl1369
  | 10, _ => wl1370
  | n + 11, h => absurd h (by omega)
set_option maxRecDepth 20000 in
theorem w_cast {args : Array Value} {s : State} (hts : ∀ w ∈ lw_tbl, w.before args s = true) : ∀ x ∈ cwl, va_Nw (.castable x.1 x.2) s := List.forall_mem_cons.mpr ⟨va_Nw.of rfl (hts _ wl1377), List.forall_mem_cons.mpr ⟨va_Nw.of rfl (hts _ wl1376), List.forall_mem_cons.mpr ⟨va_Nw.of rfl (hts _ wl1375), List.forall_mem_cons.mpr ⟨va_Nw.of rfl (hts _ wl1374), List.forall_mem_cons.mpr ⟨va_Nw.of rfl (hts _ wl1373), List.forall_mem_cons.mpr ⟨va_Nw.of rfl (hts _ wl1372), List.forall_mem_cons.mpr ⟨va_Nw.of rfl (hts _ wl1371), fun _ h => absurd h List.not_mem_nil⟩⟩⟩⟩⟩⟩⟩
set_option maxRecDepth 20000 in
theorem w_ao {args : Array Value} {s : State} (hts : ∀ w ∈ lw_tbl, w.before args s = true) : ∀ C ∈ [RX8, RX9, RX7], va_AO C s := List.forall_mem_cons.mpr ⟨va_AO.of (hts _ wl1380), List.forall_mem_cons.mpr ⟨va_AO.of (hts _ wl1379), List.forall_mem_cons.mpr ⟨va_AO.of (hts _ wl1378), fun _ h => absurd h List.not_mem_nil⟩⟩⟩
