set_option maxHeartbeats 4000000 in
set_option maxRecDepth 100000 in
theorem law_case_28 (hop : Op_next) {p : Program} {l : Launch} {e : Env} {s : State} {m : MethodId} {below : List Frame} {meth : Method} {c : Code} {b L : Nat} {xs : Nat → Int32} (hL : L ≤ 384) (C0 : lw_At p s m meth c b L xs) {G : GT} {A : Nat → Nat} (X : CX G p s m meth c code 4 lw_tbl #[Value.ref b] RL (fun q : Nat => s.heap.size ≤ q)) (I : Nat → CS) (J : Nat → JS) (M : CS) (N : JS) (hR : Rel I J M N) (i : Nat) (hi : i + 6 ≤ L) (H : Heap) (locs : List Loc) (ls : Array Slot) (hP : va_P G.1 vwCl (w_Lw G A I J M N) H) (hD : va_D (fun q : Nat => s.heap.size ≤ q) (w_Lw G A I J M N)) (hS : va_S (fun q : Nat => s.heap.size ≤ q) s.heap H locs) (hl : lv_has ls 4 [(3, .int (nI i)), (2, .ref (A 73)), (1, .ref (A 0)), (0, .ref b)]) (kk : ∀ (I' : Nat → CS) (J' : Nat → JS) (M' : CS) (N' : JS) (H : Heap) (locs : List Loc), Rel I' J' M' N' → va_P G.1 vwCl (w_Lw G A I' J' M' N') H → va_D (fun q : Nat => s.heap.size ≤ q) (w_Lw G A I' J' M' N') → va_S (fun q : Nat => s.heap.size ≤ q) s.heap H locs → W p l e room_1 s m #[Value.ref b] below meth c H locs 87 2655 (lw_Z below #[Value.ref b] s) (F0 m 1545 ls [])) : W p l e room_1 s m #[Value.ref b] below meth c H locs 87 2655 (lw_Z below #[Value.ref b] s) (F0 m 1170 ls []) := by
  obtain ⟨hx, hb, hr, hml, hown, hts, hX, hbl, hlocks, hgv⟩ := C0
  have hbA : ¬ (fun q : Nat => s.heap.size ≤ q) b := Nat.not_le.mpr hbl
  obtain ⟨r, I', M', ht, hm, hR⟩ := hop I J M N (xs (i + 1)) (xs (i + 2)) (xs (i + 3)) (xs (i + 4)) hR
  refine lv_aload_n (pc := 1170) hx hb dL_law_1170 rfl (lv_at hl 2 rfl) ?_
  refine lv_aload_n (pc := 1171) hx hb dL_law_1171 rfl (lv_at hl 3 rfl) ?_
  refine lv_iload_n (pc := 1172) hx hb dL_law_1172 rfl (lv_at hl 0 rfl) ?_
  refine lv_iconst (pc := 1173) (v := 1) hx hb dL_law_1173 (by decide) ?_
  refine lv_iadd (pc := 1174) hx hb dL_law_1174 ?_
  refine wsld (pc := 1175) hx hb hX hbl hbA hS (j := i + 1) (nI_add i 1) (by omega) hL dL_law_1175 ?_
  refine lv_aload_n (pc := 1176) hx hb dL_law_1176 rfl (lv_at hl 3 rfl) ?_
  refine lv_iload_n (pc := 1177) hx hb dL_law_1177 rfl (lv_at hl 0 rfl) ?_
  refine lv_iconst (pc := 1178) (v := 2) hx hb dL_law_1178 (by decide) ?_
  refine lv_iadd (pc := 1179) hx hb dL_law_1179 ?_
  refine wsld (pc := 1180) hx hb hX hbl hbA hS (j := i + 2) (nI_add i 2) (by omega) hL dL_law_1180 ?_
  refine lv_aload_n (pc := 1181) hx hb dL_law_1181 rfl (lv_at hl 3 rfl) ?_
  refine lv_iload_n (pc := 1182) hx hb dL_law_1182 rfl (lv_at hl 0 rfl) ?_
  refine lv_iconst (pc := 1183) (v := 3) hx hb dL_law_1183 (by decide) ?_
  refine lv_iadd (pc := 1184) hx hb dL_law_1184 ?_
  refine wsld (pc := 1185) hx hb hX hbl hbA hS (j := i + 3) (nI_add i 3) (by omega) hL dL_law_1185 ?_
  refine lv_aload_n (pc := 1186) hx hb dL_law_1186 rfl (lv_at hl 3 rfl) ?_
  refine lv_iload_n (pc := 1187) hx hb dL_law_1187 rfl (lv_at hl 0 rfl) ?_
  refine lv_iconst (pc := 1188) (v := 4) hx hb dL_law_1188 (by decide) ?_
  refine lv_iadd (pc := 1189) hx hb dL_law_1189 ?_
  refine wsld (pc := 1190) hx hb hX hbl hbA hS (j := i + 4) (nI_add i 4) (by omega) hL dL_law_1190 ?_
  refine endi X.2.2.2.2 (runV (pc := 1191) (As := [.int (xs (i + 1)), .int (xs (i + 2)), .int (xs (i + 3)), .int (xs (i + 4))]) (rest := []) X (c_X5_next G l A H.size I J (xs (i + 1)) (xs (i + 2)) (xs (i + 3)) (xs (i + 4)) r I' ht) gL_X5_next k_X5_next ⟨rfl, rfl⟩ ⟨Nat.le_of_ble_eq_true rfl, Nat.le_of_ble_eq_true rfl⟩ (em_Lw_Tw_I G A I J M N I') hP hD hS (ci := 5) rfl rfl (at_Tw_0 G A I J) rfl hl.1 rfl (Nat.le_of_ble_eq_true rfl) ⟨Nat.le_of_ble_eq_true rfl, Nat.le_of_ble_eq_true rfl⟩ dL_law_1191) (em_Lw_Tw_I G A I J M N I') hP hD hS (fun H locs hP hD hS => ?_)
  refine lv_aload_n (pc := 1194) hx hb dL_law_1194 rfl (lv_at hl 1 rfl) ?_
  refine lv_aload_n (pc := 1195) hx hb dL_law_1195 rfl (lv_at hl 3 rfl) ?_
  refine lv_iload_n (pc := 1196) hx hb dL_law_1196 rfl (lv_at hl 0 rfl) ?_
  refine lv_iconst (pc := 1197) (v := 1) hx hb dL_law_1197 (by decide) ?_
  refine lv_iadd (pc := 1198) hx hb dL_law_1198 ?_
  refine wsld (pc := 1199) hx hb hX hbl hbA hS (j := i + 1) (nI_add i 1) (by omega) hL dL_law_1199 ?_
  refine lv_aload_n (pc := 1200) hx hb dL_law_1200 rfl (lv_at hl 3 rfl) ?_
  refine lv_iload_n (pc := 1201) hx hb dL_law_1201 rfl (lv_at hl 0 rfl) ?_
  refine lv_iconst (pc := 1202) (v := 2) hx hb dL_law_1202 (by decide) ?_
  refine lv_iadd (pc := 1203) hx hb dL_law_1203 ?_
  refine wsld (pc := 1204) hx hb hX hbl hbA hS (j := i + 2) (nI_add i 2) (by omega) hL dL_law_1204 ?_
  refine lv_aload_n (pc := 1205) hx hb dL_law_1205 rfl (lv_at hl 3 rfl) ?_
  refine lv_iload_n (pc := 1206) hx hb dL_law_1206 rfl (lv_at hl 0 rfl) ?_
  refine lv_iconst (pc := 1207) (v := 3) hx hb dL_law_1207 (by decide) ?_
  refine lv_iadd (pc := 1208) hx hb dL_law_1208 ?_
  refine wsld (pc := 1209) hx hb hX hbl hbA hS (j := i + 3) (nI_add i 3) (by omega) hL dL_law_1209 ?_
  refine lv_aload_n (pc := 1210) hx hb dL_law_1210 rfl (lv_at hl 3 rfl) ?_
  refine lv_iload_n (pc := 1211) hx hb dL_law_1211 rfl (lv_at hl 0 rfl) ?_
  refine lv_iconst (pc := 1212) (v := 4) hx hb dL_law_1212 (by decide) ?_
  refine lv_iadd (pc := 1213) hx hb dL_law_1213 ?_
  refine wsld (pc := 1214) hx hb hX hbl hbA hS (j := i + 4) (nI_add i 4) (by omega) hL dL_law_1214 ?_
  refine endi X.2.2.2.2 (runV (pc := 1215) (As := [.int (xs (i + 1)), .int (xs (i + 2)), .int (xs (i + 3)), .int (xs (i + 4))]) (rest := [.int r]) X (c_X6_next G l (fun k => A (73 + k)) H.size M N (xs (i + 1)) (xs (i + 2)) (xs (i + 3)) (xs (i + 4)) r M' hm) gL_X6_next k_X6_next ⟨rfl, rfl⟩ ⟨Nat.le_of_ble_eq_true rfl, Nat.le_of_ble_eq_true rfl⟩ (em_Lw_Mo_M G A I' J M N M') hP hD hS (ci := 6) rfl rfl (at_Mo_0 G (fun k => A (73 + k)) M N) rfl hl.1 rfl (Nat.le_of_ble_eq_true rfl) ⟨Nat.le_of_ble_eq_true rfl, Nat.le_of_ble_eq_true rfl⟩ dL_law_1215) (em_Lw_Mo_M G A I' J M N M') hP hD hS (fun H locs hP hD hS => ?_)
  refine lv_icmp_eq (pc := 1218) (tgt := 1545) hx hb dL_law_1218 (by decide) (fun _ => ?_) (fun h => absurd rfl h)
  exact kk I' J M' N H locs hR hP hD hS
set_option maxHeartbeats 4000000 in
set_option maxRecDepth 100000 in
theorem law_case_29 (hop : Op_letter) {p : Program} {l : Launch} {e : Env} {s : State} {m : MethodId} {below : List Frame} {meth : Method} {c : Code} {b L : Nat} {xs : Nat → Int32} (hL : L ≤ 384) (C0 : lw_At p s m meth c b L xs) {G : GT} {A : Nat → Nat} (X : CX G p s m meth c code 4 lw_tbl #[Value.ref b] RL (fun q : Nat => s.heap.size ≤ q)) (I : Nat → CS) (J : Nat → JS) (M : CS) (N : JS) (hR : Rel I J M N) (i : Nat) (hi : i + 6 ≤ L) (H : Heap) (locs : List Loc) (ls : Array Slot) (hP : va_P G.1 vwCl (w_Lw G A I J M N) H) (hD : va_D (fun q : Nat => s.heap.size ≤ q) (w_Lw G A I J M N)) (hS : va_S (fun q : Nat => s.heap.size ≤ q) s.heap H locs) (hl : lv_has ls 4 [(3, .int (nI i)), (2, .ref (A 73)), (1, .ref (A 0)), (0, .ref b)]) (kk : ∀ (I' : Nat → CS) (J' : Nat → JS) (M' : CS) (N' : JS) (H : Heap) (locs : List Loc), Rel I' J' M' N' → va_P G.1 vwCl (w_Lw G A I' J' M' N') H → va_D (fun q : Nat => s.heap.size ≤ q) (w_Lw G A I' J' M' N') → va_S (fun q : Nat => s.heap.size ≤ q) s.heap H locs → W p l e room_1 s m #[Value.ref b] below meth c H locs 87 2655 (lw_Z below #[Value.ref b] s) (F0 m 1545 ls [])) : W p l e room_1 s m #[Value.ref b] below meth c H locs 87 2655 (lw_Z below #[Value.ref b] s) (F0 m 1223 ls []) := by
  obtain ⟨hx, hb, hr, hml, hown, hts, hX, hbl, hlocks, hgv⟩ := C0
  have hbA : ¬ (fun q : Nat => s.heap.size ≤ q) b := Nat.not_le.mpr hbl
  obtain ⟨r, I', M', ht, hm, hR⟩ := hop I J M N (xs (i + 1)) (xs (i + 2)) (xs (i + 3)) hR
  refine lv_aload_n (pc := 1223) hx hb dL_law_1223 rfl (lv_at hl 2 rfl) ?_
  refine lv_aload_n (pc := 1224) hx hb dL_law_1224 rfl (lv_at hl 3 rfl) ?_
  refine lv_iload_n (pc := 1225) hx hb dL_law_1225 rfl (lv_at hl 0 rfl) ?_
  refine lv_iconst (pc := 1226) (v := 1) hx hb dL_law_1226 (by decide) ?_
  refine lv_iadd (pc := 1227) hx hb dL_law_1227 ?_
  refine wsld (pc := 1228) hx hb hX hbl hbA hS (j := i + 1) (nI_add i 1) (by omega) hL dL_law_1228 ?_
  refine lv_aload_n (pc := 1229) hx hb dL_law_1229 rfl (lv_at hl 3 rfl) ?_
  refine lv_iload_n (pc := 1230) hx hb dL_law_1230 rfl (lv_at hl 0 rfl) ?_
  refine lv_iconst (pc := 1231) (v := 2) hx hb dL_law_1231 (by decide) ?_
  refine lv_iadd (pc := 1232) hx hb dL_law_1232 ?_
  refine wsld (pc := 1233) hx hb hX hbl hbA hS (j := i + 2) (nI_add i 2) (by omega) hL dL_law_1233 ?_
  refine lv_aload_n (pc := 1234) hx hb dL_law_1234 rfl (lv_at hl 3 rfl) ?_
  refine lv_iload_n (pc := 1235) hx hb dL_law_1235 rfl (lv_at hl 0 rfl) ?_
  refine lv_iconst (pc := 1236) (v := 3) hx hb dL_law_1236 (by decide) ?_
  refine lv_iadd (pc := 1237) hx hb dL_law_1237 ?_
  refine wsld (pc := 1238) hx hb hX hbl hbA hS (j := i + 3) (nI_add i 3) (by omega) hL dL_law_1238 ?_
  refine endi X.2.2.2.2 (runV (pc := 1239) (As := [.int (xs (i + 1)), .int (xs (i + 2)), .int (xs (i + 3))]) (rest := []) X (c_X5_letter G l A H.size I J (xs (i + 1)) (xs (i + 2)) (xs (i + 3)) r I' ht) gL_X5_letter k_X5_letter ⟨rfl, rfl⟩ ⟨Nat.le_of_ble_eq_true rfl, Nat.le_of_ble_eq_true rfl⟩ (em_Lw_Tw_I G A I J M N I') hP hD hS (ci := 5) rfl rfl (at_Tw_0 G A I J) rfl hl.1 rfl (Nat.le_of_ble_eq_true rfl) ⟨Nat.le_of_ble_eq_true rfl, Nat.le_of_ble_eq_true rfl⟩ dL_law_1239) (em_Lw_Tw_I G A I J M N I') hP hD hS (fun H locs hP hD hS => ?_)
  refine lv_aload_n (pc := 1242) hx hb dL_law_1242 rfl (lv_at hl 1 rfl) ?_
  refine lv_aload_n (pc := 1243) hx hb dL_law_1243 rfl (lv_at hl 3 rfl) ?_
  refine lv_iload_n (pc := 1244) hx hb dL_law_1244 rfl (lv_at hl 0 rfl) ?_
  refine lv_iconst (pc := 1245) (v := 1) hx hb dL_law_1245 (by decide) ?_
  refine lv_iadd (pc := 1246) hx hb dL_law_1246 ?_
  refine wsld (pc := 1247) hx hb hX hbl hbA hS (j := i + 1) (nI_add i 1) (by omega) hL dL_law_1247 ?_
  refine lv_aload_n (pc := 1248) hx hb dL_law_1248 rfl (lv_at hl 3 rfl) ?_
  refine lv_iload_n (pc := 1249) hx hb dL_law_1249 rfl (lv_at hl 0 rfl) ?_
  refine lv_iconst (pc := 1250) (v := 2) hx hb dL_law_1250 (by decide) ?_
  refine lv_iadd (pc := 1251) hx hb dL_law_1251 ?_
  refine wsld (pc := 1252) hx hb hX hbl hbA hS (j := i + 2) (nI_add i 2) (by omega) hL dL_law_1252 ?_
  refine lv_aload_n (pc := 1253) hx hb dL_law_1253 rfl (lv_at hl 3 rfl) ?_
  refine lv_iload_n (pc := 1254) hx hb dL_law_1254 rfl (lv_at hl 0 rfl) ?_
  refine lv_iconst (pc := 1255) (v := 3) hx hb dL_law_1255 (by decide) ?_
  refine lv_iadd (pc := 1256) hx hb dL_law_1256 ?_
  refine wsld (pc := 1257) hx hb hX hbl hbA hS (j := i + 3) (nI_add i 3) (by omega) hL dL_law_1257 ?_
  refine endi X.2.2.2.2 (runV (pc := 1258) (As := [.int (xs (i + 1)), .int (xs (i + 2)), .int (xs (i + 3))]) (rest := [.int r]) X (c_X6_letter G l (fun k => A (73 + k)) H.size M N (xs (i + 1)) (xs (i + 2)) (xs (i + 3)) r M' hm) gL_X6_letter k_X6_letter ⟨rfl, rfl⟩ ⟨Nat.le_of_ble_eq_true rfl, Nat.le_of_ble_eq_true rfl⟩ (em_Lw_Mo_M G A I' J M N M') hP hD hS (ci := 6) rfl rfl (at_Mo_0 G (fun k => A (73 + k)) M N) rfl hl.1 rfl (Nat.le_of_ble_eq_true rfl) ⟨Nat.le_of_ble_eq_true rfl, Nat.le_of_ble_eq_true rfl⟩ dL_law_1258) (em_Lw_Mo_M G A I' J M N M') hP hD hS (fun H locs hP hD hS => ?_)
  refine lv_icmp_eq (pc := 1261) (tgt := 1545) hx hb dL_law_1261 (by decide) (fun _ => ?_) (fun h => absurd rfl h)
  exact kk I' J M' N H locs hR hP hD hS
set_option maxHeartbeats 4000000 in
set_option maxRecDepth 100000 in
theorem law_case_30 (hop : Op_fits) {p : Program} {l : Launch} {e : Env} {s : State} {m : MethodId} {below : List Frame} {meth : Method} {c : Code} {b L : Nat} {xs : Nat → Int32} (hL : L ≤ 384) (C0 : lw_At p s m meth c b L xs) {G : GT} {A : Nat → Nat} (X : CX G p s m meth c code 4 lw_tbl #[Value.ref b] RL (fun q : Nat => s.heap.size ≤ q)) (I : Nat → CS) (J : Nat → JS) (M : CS) (N : JS) (hR : Rel I J M N) (i : Nat) (hi : i + 6 ≤ L) (H : Heap) (locs : List Loc) (ls : Array Slot) (hP : va_P G.1 vwCl (w_Lw G A I J M N) H) (hD : va_D (fun q : Nat => s.heap.size ≤ q) (w_Lw G A I J M N)) (hS : va_S (fun q : Nat => s.heap.size ≤ q) s.heap H locs) (hl : lv_has ls 4 [(3, .int (nI i)), (2, .ref (A 73)), (1, .ref (A 0)), (0, .ref b)]) (kk : ∀ (I' : Nat → CS) (J' : Nat → JS) (M' : CS) (N' : JS) (H : Heap) (locs : List Loc), Rel I' J' M' N' → va_P G.1 vwCl (w_Lw G A I' J' M' N') H → va_D (fun q : Nat => s.heap.size ≤ q) (w_Lw G A I' J' M' N') → va_S (fun q : Nat => s.heap.size ≤ q) s.heap H locs → W p l e room_1 s m #[Value.ref b] below meth c H locs 87 2655 (lw_Z below #[Value.ref b] s) (F0 m 1545 ls [])) : W p l e room_1 s m #[Value.ref b] below meth c H locs 87 2655 (lw_Z below #[Value.ref b] s) (F0 m 1266 ls []) := by
  obtain ⟨hx, hb, hr, hml, hown, hts, hX, hbl, hlocks, hgv⟩ := C0
  have hbA : ¬ (fun q : Nat => s.heap.size ≤ q) b := Nat.not_le.mpr hbl
  obtain ⟨r, I', J', M', N', ht, hm, hR⟩ := hop I J M N (xs (i + 1)) hR
  refine lv_aload_n (pc := 1266) hx hb dL_law_1266 rfl (lv_at hl 2 rfl) ?_
  refine lv_aload_n (pc := 1267) hx hb dL_law_1267 rfl (lv_at hl 3 rfl) ?_
  refine lv_iload_n (pc := 1268) hx hb dL_law_1268 rfl (lv_at hl 0 rfl) ?_
  refine lv_iconst (pc := 1269) (v := 1) hx hb dL_law_1269 (by decide) ?_
  refine lv_iadd (pc := 1270) hx hb dL_law_1270 ?_
  refine wsld (pc := 1271) hx hb hX hbl hbA hS (j := i + 1) (nI_add i 1) (by omega) hL dL_law_1271 ?_
  refine endi X.2.2.2.2 (runV (pc := 1272) (As := [.int (xs (i + 1))]) (rest := []) X (c_X5_fits G l A H.size I J (xs (i + 1)) r I' J' ht) gL_X5_fits k_X5_fits ⟨rfl, rfl⟩ ⟨Nat.le_of_ble_eq_true rfl, Nat.le_of_ble_eq_true rfl⟩ (em_Lw_Tw_IJ G A I J M N I' J') hP hD hS (ci := 5) rfl rfl (at_Tw_0 G A I J) rfl hl.1 rfl (Nat.le_of_ble_eq_true rfl) ⟨Nat.le_of_ble_eq_true rfl, Nat.le_of_ble_eq_true rfl⟩ dL_law_1272) (em_Lw_Tw_IJ G A I J M N I' J') hP hD hS (fun H locs hP hD hS => ?_)
  refine lv_aload_n (pc := 1275) hx hb dL_law_1275 rfl (lv_at hl 1 rfl) ?_
  refine lv_aload_n (pc := 1276) hx hb dL_law_1276 rfl (lv_at hl 3 rfl) ?_
  refine lv_iload_n (pc := 1277) hx hb dL_law_1277 rfl (lv_at hl 0 rfl) ?_
  refine lv_iconst (pc := 1278) (v := 1) hx hb dL_law_1278 (by decide) ?_
  refine lv_iadd (pc := 1279) hx hb dL_law_1279 ?_
  refine wsld (pc := 1280) hx hb hX hbl hbA hS (j := i + 1) (nI_add i 1) (by omega) hL dL_law_1280 ?_
  refine endi X.2.2.2.2 (runV (pc := 1281) (As := [.int (xs (i + 1))]) (rest := [.int r]) X (c_X6_fits G l (fun k => A (73 + k)) H.size M N (xs (i + 1)) r M' N' hm) gL_X6_fits k_X6_fits ⟨rfl, rfl⟩ ⟨Nat.le_of_ble_eq_true rfl, Nat.le_of_ble_eq_true rfl⟩ (em_Lw_Mo_MN G A I' J' M N M' N') hP hD hS (ci := 6) rfl rfl (at_Mo_0 G (fun k => A (73 + k)) M N) rfl hl.1 rfl (Nat.le_of_ble_eq_true rfl) ⟨Nat.le_of_ble_eq_true rfl, Nat.le_of_ble_eq_true rfl⟩ dL_law_1281) (em_Lw_Mo_MN G A I' J' M N M' N') hP hD hS (fun H locs hP hD hS => ?_)
  refine lv_icmp_eq (pc := 1284) (tgt := 1545) hx hb dL_law_1284 (by decide) (fun _ => ?_) (fun h => absurd rfl h)
  exact kk I' J' M' N' H locs hR hP hD hS
set_option maxHeartbeats 4000000 in
set_option maxRecDepth 100000 in
theorem law_case_31 (hop : Op_sure) {p : Program} {l : Launch} {e : Env} {s : State} {m : MethodId} {below : List Frame} {meth : Method} {c : Code} {b L : Nat} {xs : Nat → Int32} (hL : L ≤ 384) (C0 : lw_At p s m meth c b L xs) {G : GT} {A : Nat → Nat} (X : CX G p s m meth c code 4 lw_tbl #[Value.ref b] RL (fun q : Nat => s.heap.size ≤ q)) (I : Nat → CS) (J : Nat → JS) (M : CS) (N : JS) (hR : Rel I J M N) (i : Nat) (hi : i + 6 ≤ L) (H : Heap) (locs : List Loc) (ls : Array Slot) (hP : va_P G.1 vwCl (w_Lw G A I J M N) H) (hD : va_D (fun q : Nat => s.heap.size ≤ q) (w_Lw G A I J M N)) (hS : va_S (fun q : Nat => s.heap.size ≤ q) s.heap H locs) (hl : lv_has ls 4 [(3, .int (nI i)), (2, .ref (A 73)), (1, .ref (A 0)), (0, .ref b)]) (kk : ∀ (I' : Nat → CS) (J' : Nat → JS) (M' : CS) (N' : JS) (H : Heap) (locs : List Loc), Rel I' J' M' N' → va_P G.1 vwCl (w_Lw G A I' J' M' N') H → va_D (fun q : Nat => s.heap.size ≤ q) (w_Lw G A I' J' M' N') → va_S (fun q : Nat => s.heap.size ≤ q) s.heap H locs → W p l e room_1 s m #[Value.ref b] below meth c H locs 87 2655 (lw_Z below #[Value.ref b] s) (F0 m 1545 ls [])) : W p l e room_1 s m #[Value.ref b] below meth c H locs 87 2655 (lw_Z below #[Value.ref b] s) (F0 m 1289 ls []) := by
  obtain ⟨hx, hb, hr, hml, hown, hts, hX, hbl, hlocks, hgv⟩ := C0
  have hbA : ¬ (fun q : Nat => s.heap.size ≤ q) b := Nat.not_le.mpr hbl
  obtain ⟨r, I', J', M', ht, hm, hR⟩ := hop I J M N (xs (i + 1)) hR
  refine lv_aload_n (pc := 1289) hx hb dL_law_1289 rfl (lv_at hl 2 rfl) ?_
  refine lv_aload_n (pc := 1290) hx hb dL_law_1290 rfl (lv_at hl 3 rfl) ?_
  refine lv_iload_n (pc := 1291) hx hb dL_law_1291 rfl (lv_at hl 0 rfl) ?_
  refine lv_iconst (pc := 1292) (v := 1) hx hb dL_law_1292 (by decide) ?_
  refine lv_iadd (pc := 1293) hx hb dL_law_1293 ?_
  refine wsld (pc := 1294) hx hb hX hbl hbA hS (j := i + 1) (nI_add i 1) (by omega) hL dL_law_1294 ?_
  refine endi X.2.2.2.2 (runV (pc := 1295) (As := [.int (xs (i + 1))]) (rest := []) X (c_X5_sure G l A H.size I J (xs (i + 1)) r I' J' ht) gL_X5_sure k_X5_sure ⟨rfl, rfl⟩ ⟨Nat.le_of_ble_eq_true rfl, Nat.le_of_ble_eq_true rfl⟩ (em_Lw_Tw_IJ G A I J M N I' J') hP hD hS (ci := 5) rfl rfl (at_Tw_0 G A I J) rfl hl.1 rfl (Nat.le_of_ble_eq_true rfl) ⟨Nat.le_of_ble_eq_true rfl, Nat.le_of_ble_eq_true rfl⟩ dL_law_1295) (em_Lw_Tw_IJ G A I J M N I' J') hP hD hS (fun H locs hP hD hS => ?_)
  refine lv_aload_n (pc := 1298) hx hb dL_law_1298 rfl (lv_at hl 1 rfl) ?_
  refine lv_aload_n (pc := 1299) hx hb dL_law_1299 rfl (lv_at hl 3 rfl) ?_
  refine lv_iload_n (pc := 1300) hx hb dL_law_1300 rfl (lv_at hl 0 rfl) ?_
  refine lv_iconst (pc := 1301) (v := 1) hx hb dL_law_1301 (by decide) ?_
  refine lv_iadd (pc := 1302) hx hb dL_law_1302 ?_
  refine wsld (pc := 1303) hx hb hX hbl hbA hS (j := i + 1) (nI_add i 1) (by omega) hL dL_law_1303 ?_
  refine endi X.2.2.2.2 (runV (pc := 1304) (As := [.int (xs (i + 1))]) (rest := [.int r]) X (c_X6_sure G l (fun k => A (73 + k)) H.size M N (xs (i + 1)) r M' hm) gL_X6_sure k_X6_sure ⟨rfl, rfl⟩ ⟨Nat.le_of_ble_eq_true rfl, Nat.le_of_ble_eq_true rfl⟩ (em_Lw_Mo_M G A I' J' M N M') hP hD hS (ci := 6) rfl rfl (at_Mo_0 G (fun k => A (73 + k)) M N) rfl hl.1 rfl (Nat.le_of_ble_eq_true rfl) ⟨Nat.le_of_ble_eq_true rfl, Nat.le_of_ble_eq_true rfl⟩ dL_law_1304) (em_Lw_Mo_M G A I' J' M N M') hP hD hS (fun H locs hP hD hS => ?_)
  refine lv_icmp_eq (pc := 1307) (tgt := 1545) hx hb dL_law_1307 (by decide) (fun _ => ?_) (fun h => absurd rfl h)
  exact kk I' J' M' N H locs hR hP hD hS
set_option maxHeartbeats 4000000 in
set_option maxRecDepth 100000 in
theorem law_case_32 (hop : Op_lies) {p : Program} {l : Launch} {e : Env} {s : State} {m : MethodId} {below : List Frame} {meth : Method} {c : Code} {b L : Nat} {xs : Nat → Int32} (hL : L ≤ 384) (C0 : lw_At p s m meth c b L xs) {G : GT} {A : Nat → Nat} (X : CX G p s m meth c code 4 lw_tbl #[Value.ref b] RL (fun q : Nat => s.heap.size ≤ q)) (I : Nat → CS) (J : Nat → JS) (M : CS) (N : JS) (hR : Rel I J M N) (i : Nat) (hi : i + 6 ≤ L) (H : Heap) (locs : List Loc) (ls : Array Slot) (hP : va_P G.1 vwCl (w_Lw G A I J M N) H) (hD : va_D (fun q : Nat => s.heap.size ≤ q) (w_Lw G A I J M N)) (hS : va_S (fun q : Nat => s.heap.size ≤ q) s.heap H locs) (hl : lv_has ls 4 [(3, .int (nI i)), (2, .ref (A 73)), (1, .ref (A 0)), (0, .ref b)]) (kk : ∀ (I' : Nat → CS) (J' : Nat → JS) (M' : CS) (N' : JS) (H : Heap) (locs : List Loc), Rel I' J' M' N' → va_P G.1 vwCl (w_Lw G A I' J' M' N') H → va_D (fun q : Nat => s.heap.size ≤ q) (w_Lw G A I' J' M' N') → va_S (fun q : Nat => s.heap.size ≤ q) s.heap H locs → W p l e room_1 s m #[Value.ref b] below meth c H locs 87 2655 (lw_Z below #[Value.ref b] s) (F0 m 1545 ls [])) : W p l e room_1 s m #[Value.ref b] below meth c H locs 87 2655 (lw_Z below #[Value.ref b] s) (F0 m 1312 ls []) := by
  obtain ⟨hx, hb, hr, hml, hown, hts, hX, hbl, hlocks, hgv⟩ := C0
  have hbA : ¬ (fun q : Nat => s.heap.size ≤ q) b := Nat.not_le.mpr hbl
  obtain ⟨r, I', M', ht, hm, hR⟩ := hop I J M N (xs (i + 1)) hR
  refine lv_aload_n (pc := 1312) hx hb dL_law_1312 rfl (lv_at hl 2 rfl) ?_
  refine lv_aload_n (pc := 1313) hx hb dL_law_1313 rfl (lv_at hl 3 rfl) ?_
  refine lv_iload_n (pc := 1314) hx hb dL_law_1314 rfl (lv_at hl 0 rfl) ?_
  refine lv_iconst (pc := 1315) (v := 1) hx hb dL_law_1315 (by decide) ?_
  refine lv_iadd (pc := 1316) hx hb dL_law_1316 ?_
  refine wsld (pc := 1317) hx hb hX hbl hbA hS (j := i + 1) (nI_add i 1) (by omega) hL dL_law_1317 ?_
  refine endi X.2.2.2.2 (runV (pc := 1318) (As := [.int (xs (i + 1))]) (rest := []) X (c_X5_lies G l A H.size I J (xs (i + 1)) r I' ht) gL_X5_lies k_X5_lies ⟨rfl, rfl⟩ ⟨Nat.le_of_ble_eq_true rfl, Nat.le_of_ble_eq_true rfl⟩ (em_Lw_Tw_I G A I J M N I') hP hD hS (ci := 5) rfl rfl (at_Tw_0 G A I J) rfl hl.1 rfl (Nat.le_of_ble_eq_true rfl) ⟨Nat.le_of_ble_eq_true rfl, Nat.le_of_ble_eq_true rfl⟩ dL_law_1318) (em_Lw_Tw_I G A I J M N I') hP hD hS (fun H locs hP hD hS => ?_)
  refine lv_aload_n (pc := 1321) hx hb dL_law_1321 rfl (lv_at hl 1 rfl) ?_
  refine lv_aload_n (pc := 1322) hx hb dL_law_1322 rfl (lv_at hl 3 rfl) ?_
  refine lv_iload_n (pc := 1323) hx hb dL_law_1323 rfl (lv_at hl 0 rfl) ?_
  refine lv_iconst (pc := 1324) (v := 1) hx hb dL_law_1324 (by decide) ?_
  refine lv_iadd (pc := 1325) hx hb dL_law_1325 ?_
  refine wsld (pc := 1326) hx hb hX hbl hbA hS (j := i + 1) (nI_add i 1) (by omega) hL dL_law_1326 ?_
  refine endi X.2.2.2.2 (runV (pc := 1327) (As := [.int (xs (i + 1))]) (rest := [.int r]) X (c_X6_lies G l (fun k => A (73 + k)) H.size M N (xs (i + 1)) r M' hm) gL_X6_lies k_X6_lies ⟨rfl, rfl⟩ ⟨Nat.le_of_ble_eq_true rfl, Nat.le_of_ble_eq_true rfl⟩ (em_Lw_Mo_M G A I' J M N M') hP hD hS (ci := 6) rfl rfl (at_Mo_0 G (fun k => A (73 + k)) M N) rfl hl.1 rfl (Nat.le_of_ble_eq_true rfl) ⟨Nat.le_of_ble_eq_true rfl, Nat.le_of_ble_eq_true rfl⟩ dL_law_1327) (em_Lw_Mo_M G A I' J M N M') hP hD hS (fun H locs hP hD hS => ?_)
  refine lv_icmp_eq (pc := 1330) (tgt := 1545) hx hb dL_law_1330 (by decide) (fun _ => ?_) (fun h => absurd rfl h)
  exact kk I' J M' N H locs hR hP hD hS
set_option maxHeartbeats 4000000 in
set_option maxRecDepth 100000 in
theorem law_case_33 (hop : Op_odds) {p : Program} {l : Launch} {e : Env} {s : State} {m : MethodId} {below : List Frame} {meth : Method} {c : Code} {b L : Nat} {xs : Nat → Int32} (hL : L ≤ 384) (C0 : lw_At p s m meth c b L xs) {G : GT} {A : Nat → Nat} (X : CX G p s m meth c code 4 lw_tbl #[Value.ref b] RL (fun q : Nat => s.heap.size ≤ q)) (I : Nat → CS) (J : Nat → JS) (M : CS) (N : JS) (hR : Rel I J M N) (i : Nat) (hi : i + 6 ≤ L) (H : Heap) (locs : List Loc) (ls : Array Slot) (hP : va_P G.1 vwCl (w_Lw G A I J M N) H) (hD : va_D (fun q : Nat => s.heap.size ≤ q) (w_Lw G A I J M N)) (hS : va_S (fun q : Nat => s.heap.size ≤ q) s.heap H locs) (hl : lv_has ls 4 [(3, .int (nI i)), (2, .ref (A 73)), (1, .ref (A 0)), (0, .ref b)]) (kk : ∀ (I' : Nat → CS) (J' : Nat → JS) (M' : CS) (N' : JS) (H : Heap) (locs : List Loc), Rel I' J' M' N' → va_P G.1 vwCl (w_Lw G A I' J' M' N') H → va_D (fun q : Nat => s.heap.size ≤ q) (w_Lw G A I' J' M' N') → va_S (fun q : Nat => s.heap.size ≤ q) s.heap H locs → W p l e room_1 s m #[Value.ref b] below meth c H locs 87 2655 (lw_Z below #[Value.ref b] s) (F0 m 1545 ls [])) : W p l e room_1 s m #[Value.ref b] below meth c H locs 87 2655 (lw_Z below #[Value.ref b] s) (F0 m 1335 ls []) := by
  obtain ⟨hx, hb, hr, hml, hown, hts, hX, hbl, hlocks, hgv⟩ := C0
  have hbA : ¬ (fun q : Nat => s.heap.size ≤ q) b := Nat.not_le.mpr hbl
  obtain ⟨r, I', J', M', N', ht, hm, hR⟩ := hop I J M N (xs (i + 1)) (xs (i + 2)) (xs (i + 3)) (xs (i + 4)) (xs (i + 5)) hR
  refine lv_aload_n (pc := 1335) hx hb dL_law_1335 rfl (lv_at hl 2 rfl) ?_
  refine lv_aload_n (pc := 1336) hx hb dL_law_1336 rfl (lv_at hl 3 rfl) ?_
  refine lv_iload_n (pc := 1337) hx hb dL_law_1337 rfl (lv_at hl 0 rfl) ?_
  refine lv_iconst (pc := 1338) (v := 1) hx hb dL_law_1338 (by decide) ?_
  refine lv_iadd (pc := 1339) hx hb dL_law_1339 ?_
  refine wsld (pc := 1340) hx hb hX hbl hbA hS (j := i + 1) (nI_add i 1) (by omega) hL dL_law_1340 ?_
  refine lv_aload_n (pc := 1341) hx hb dL_law_1341 rfl (lv_at hl 3 rfl) ?_
  refine lv_iload_n (pc := 1342) hx hb dL_law_1342 rfl (lv_at hl 0 rfl) ?_
  refine lv_iconst (pc := 1343) (v := 2) hx hb dL_law_1343 (by decide) ?_
  refine lv_iadd (pc := 1344) hx hb dL_law_1344 ?_
  refine wsld (pc := 1345) hx hb hX hbl hbA hS (j := i + 2) (nI_add i 2) (by omega) hL dL_law_1345 ?_
  refine lv_aload_n (pc := 1346) hx hb dL_law_1346 rfl (lv_at hl 3 rfl) ?_
  refine lv_iload_n (pc := 1347) hx hb dL_law_1347 rfl (lv_at hl 0 rfl) ?_
  refine lv_iconst (pc := 1348) (v := 3) hx hb dL_law_1348 (by decide) ?_
  refine lv_iadd (pc := 1349) hx hb dL_law_1349 ?_
  refine wsld (pc := 1350) hx hb hX hbl hbA hS (j := i + 3) (nI_add i 3) (by omega) hL dL_law_1350 ?_
  refine lv_aload_n (pc := 1351) hx hb dL_law_1351 rfl (lv_at hl 3 rfl) ?_
  refine lv_iload_n (pc := 1352) hx hb dL_law_1352 rfl (lv_at hl 0 rfl) ?_
  refine lv_iconst (pc := 1353) (v := 4) hx hb dL_law_1353 (by decide) ?_
  refine lv_iadd (pc := 1354) hx hb dL_law_1354 ?_
  refine wsld (pc := 1355) hx hb hX hbl hbA hS (j := i + 4) (nI_add i 4) (by omega) hL dL_law_1355 ?_
  refine lv_aload_n (pc := 1356) hx hb dL_law_1356 rfl (lv_at hl 3 rfl) ?_
  refine lv_iload_n (pc := 1357) hx hb dL_law_1357 rfl (lv_at hl 0 rfl) ?_
  refine lv_iconst (pc := 1358) (v := 5) hx hb dL_law_1358 (by decide) ?_
  refine lv_iadd (pc := 1359) hx hb dL_law_1359 ?_
  refine wsld (pc := 1360) hx hb hX hbl hbA hS (j := i + 5) (nI_add i 5) (by omega) hL dL_law_1360 ?_
  refine endi X.2.2.2.2 (runV (pc := 1361) (As := [.int (xs (i + 1)), .int (xs (i + 2)), .int (xs (i + 3)), .int (xs (i + 4)), .int (xs (i + 5))]) (rest := []) X (c_X5_odds G l A H.size I J (xs (i + 1)) (xs (i + 2)) (xs (i + 3)) (xs (i + 4)) (xs (i + 5)) r I' J' ht) gL_X5_odds k_X5_odds ⟨rfl, rfl⟩ ⟨Nat.le_of_ble_eq_true rfl, Nat.le_of_ble_eq_true rfl⟩ (em_Lw_Tw_IJ G A I J M N I' J') hP hD hS (ci := 5) rfl rfl (at_Tw_0 G A I J) rfl hl.1 rfl (Nat.le_of_ble_eq_true rfl) ⟨Nat.le_of_ble_eq_true rfl, Nat.le_of_ble_eq_true rfl⟩ dL_law_1361) (em_Lw_Tw_IJ G A I J M N I' J') hP hD hS (fun H locs hP hD hS => ?_)
  refine lv_aload_n (pc := 1364) hx hb dL_law_1364 rfl (lv_at hl 1 rfl) ?_
  refine lv_aload_n (pc := 1365) hx hb dL_law_1365 rfl (lv_at hl 3 rfl) ?_
  refine lv_iload_n (pc := 1366) hx hb dL_law_1366 rfl (lv_at hl 0 rfl) ?_
  refine lv_iconst (pc := 1367) (v := 1) hx hb dL_law_1367 (by decide) ?_
  refine lv_iadd (pc := 1368) hx hb dL_law_1368 ?_
  refine wsld (pc := 1369) hx hb hX hbl hbA hS (j := i + 1) (nI_add i 1) (by omega) hL dL_law_1369 ?_
  refine lv_aload_n (pc := 1370) hx hb dL_law_1370 rfl (lv_at hl 3 rfl) ?_
  refine lv_iload_n (pc := 1371) hx hb dL_law_1371 rfl (lv_at hl 0 rfl) ?_
  refine lv_iconst (pc := 1372) (v := 2) hx hb dL_law_1372 (by decide) ?_
  refine lv_iadd (pc := 1373) hx hb dL_law_1373 ?_
  refine wsld (pc := 1374) hx hb hX hbl hbA hS (j := i + 2) (nI_add i 2) (by omega) hL dL_law_1374 ?_
  refine lv_aload_n (pc := 1375) hx hb dL_law_1375 rfl (lv_at hl 3 rfl) ?_
  refine lv_iload_n (pc := 1376) hx hb dL_law_1376 rfl (lv_at hl 0 rfl) ?_
  refine lv_iconst (pc := 1377) (v := 3) hx hb dL_law_1377 (by decide) ?_
  refine lv_iadd (pc := 1378) hx hb dL_law_1378 ?_
  refine wsld (pc := 1379) hx hb hX hbl hbA hS (j := i + 3) (nI_add i 3) (by omega) hL dL_law_1379 ?_
  refine lv_aload_n (pc := 1380) hx hb dL_law_1380 rfl (lv_at hl 3 rfl) ?_
  refine lv_iload_n (pc := 1381) hx hb dL_law_1381 rfl (lv_at hl 0 rfl) ?_
  refine lv_iconst (pc := 1382) (v := 4) hx hb dL_law_1382 (by decide) ?_
  refine lv_iadd (pc := 1383) hx hb dL_law_1383 ?_
  refine wsld (pc := 1384) hx hb hX hbl hbA hS (j := i + 4) (nI_add i 4) (by omega) hL dL_law_1384 ?_
  refine lv_aload_n (pc := 1385) hx hb dL_law_1385 rfl (lv_at hl 3 rfl) ?_
  refine lv_iload_n (pc := 1386) hx hb dL_law_1386 rfl (lv_at hl 0 rfl) ?_
  refine lv_iconst (pc := 1387) (v := 5) hx hb dL_law_1387 (by decide) ?_
  refine lv_iadd (pc := 1388) hx hb dL_law_1388 ?_
  refine wsld (pc := 1389) hx hb hX hbl hbA hS (j := i + 5) (nI_add i 5) (by omega) hL dL_law_1389 ?_
  refine endi X.2.2.2.2 (runV (pc := 1390) (As := [.int (xs (i + 1)), .int (xs (i + 2)), .int (xs (i + 3)), .int (xs (i + 4)), .int (xs (i + 5))]) (rest := [.int r]) X (c_X6_odds G l (fun k => A (73 + k)) H.size M N (xs (i + 1)) (xs (i + 2)) (xs (i + 3)) (xs (i + 4)) (xs (i + 5)) r M' N' hm) gL_X6_odds k_X6_odds ⟨rfl, rfl⟩ ⟨Nat.le_of_ble_eq_true rfl, Nat.le_of_ble_eq_true rfl⟩ (em_Lw_Mo_MN G A I' J' M N M' N') hP hD hS (ci := 6) rfl rfl (at_Mo_0 G (fun k => A (73 + k)) M N) rfl hl.1 rfl (Nat.le_of_ble_eq_true rfl) ⟨Nat.le_of_ble_eq_true rfl, Nat.le_of_ble_eq_true rfl⟩ dL_law_1390) (em_Lw_Mo_MN G A I' J' M N M' N') hP hD hS (fun H locs hP hD hS => ?_)
  refine lv_icmp_eq (pc := 1393) (tgt := 1545) hx hb dL_law_1393 (by decide) (fun _ => ?_) (fun h => absurd rfl h)
  exact kk I' J' M' N' H locs hR hP hD hS
set_option maxHeartbeats 4000000 in
set_option maxRecDepth 100000 in
theorem law_case_34 (hop : Op_lots) {p : Program} {l : Launch} {e : Env} {s : State} {m : MethodId} {below : List Frame} {meth : Method} {c : Code} {b L : Nat} {xs : Nat → Int32} (hL : L ≤ 384) (C0 : lw_At p s m meth c b L xs) {G : GT} {A : Nat → Nat} (X : CX G p s m meth c code 4 lw_tbl #[Value.ref b] RL (fun q : Nat => s.heap.size ≤ q)) (I : Nat → CS) (J : Nat → JS) (M : CS) (N : JS) (hR : Rel I J M N) (i : Nat) (hi : i + 6 ≤ L) (H : Heap) (locs : List Loc) (ls : Array Slot) (hP : va_P G.1 vwCl (w_Lw G A I J M N) H) (hD : va_D (fun q : Nat => s.heap.size ≤ q) (w_Lw G A I J M N)) (hS : va_S (fun q : Nat => s.heap.size ≤ q) s.heap H locs) (hl : lv_has ls 4 [(3, .int (nI i)), (2, .ref (A 73)), (1, .ref (A 0)), (0, .ref b)]) (kk : ∀ (I' : Nat → CS) (J' : Nat → JS) (M' : CS) (N' : JS) (H : Heap) (locs : List Loc), Rel I' J' M' N' → va_P G.1 vwCl (w_Lw G A I' J' M' N') H → va_D (fun q : Nat => s.heap.size ≤ q) (w_Lw G A I' J' M' N') → va_S (fun q : Nat => s.heap.size ≤ q) s.heap H locs → W p l e room_1 s m #[Value.ref b] below meth c H locs 87 2655 (lw_Z below #[Value.ref b] s) (F0 m 1545 ls [])) : W p l e room_1 s m #[Value.ref b] below meth c H locs 87 2655 (lw_Z below #[Value.ref b] s) (F0 m 1398 ls []) := by
  obtain ⟨hx, hb, hr, hml, hown, hts, hX, hbl, hlocks, hgv⟩ := C0
  have hbA : ¬ (fun q : Nat => s.heap.size ≤ q) b := Nat.not_le.mpr hbl
  obtain ⟨r, I', M', ht, hm, hR⟩ := hop I J M N (xs (i + 1)) (xs (i + 2)) hR
  refine lv_aload_n (pc := 1398) hx hb dL_law_1398 rfl (lv_at hl 2 rfl) ?_
  refine lv_aload_n (pc := 1399) hx hb dL_law_1399 rfl (lv_at hl 3 rfl) ?_
  refine lv_iload_n (pc := 1400) hx hb dL_law_1400 rfl (lv_at hl 0 rfl) ?_
  refine lv_iconst (pc := 1401) (v := 1) hx hb dL_law_1401 (by decide) ?_
  refine lv_iadd (pc := 1402) hx hb dL_law_1402 ?_
  refine wsld (pc := 1403) hx hb hX hbl hbA hS (j := i + 1) (nI_add i 1) (by omega) hL dL_law_1403 ?_
  refine lv_aload_n (pc := 1404) hx hb dL_law_1404 rfl (lv_at hl 3 rfl) ?_
  refine lv_iload_n (pc := 1405) hx hb dL_law_1405 rfl (lv_at hl 0 rfl) ?_
  refine lv_iconst (pc := 1406) (v := 2) hx hb dL_law_1406 (by decide) ?_
  refine lv_iadd (pc := 1407) hx hb dL_law_1407 ?_
  refine wsld (pc := 1408) hx hb hX hbl hbA hS (j := i + 2) (nI_add i 2) (by omega) hL dL_law_1408 ?_
  refine endi X.2.2.2.2 (runV (pc := 1409) (As := [.int (xs (i + 1)), .int (xs (i + 2))]) (rest := []) X (c_X5_lots G l A H.size I J (xs (i + 1)) (xs (i + 2)) r I' ht) gL_X5_lots k_X5_lots ⟨rfl, rfl⟩ ⟨Nat.le_of_ble_eq_true rfl, Nat.le_of_ble_eq_true rfl⟩ (em_Lw_Tw_I G A I J M N I') hP hD hS (ci := 5) rfl rfl (at_Tw_0 G A I J) rfl hl.1 rfl (Nat.le_of_ble_eq_true rfl) ⟨Nat.le_of_ble_eq_true rfl, Nat.le_of_ble_eq_true rfl⟩ dL_law_1409) (em_Lw_Tw_I G A I J M N I') hP hD hS (fun H locs hP hD hS => ?_)
  refine lv_aload_n (pc := 1412) hx hb dL_law_1412 rfl (lv_at hl 1 rfl) ?_
  refine lv_aload_n (pc := 1413) hx hb dL_law_1413 rfl (lv_at hl 3 rfl) ?_
  refine lv_iload_n (pc := 1414) hx hb dL_law_1414 rfl (lv_at hl 0 rfl) ?_
  refine lv_iconst (pc := 1415) (v := 1) hx hb dL_law_1415 (by decide) ?_
  refine lv_iadd (pc := 1416) hx hb dL_law_1416 ?_
  refine wsld (pc := 1417) hx hb hX hbl hbA hS (j := i + 1) (nI_add i 1) (by omega) hL dL_law_1417 ?_
  refine lv_aload_n (pc := 1418) hx hb dL_law_1418 rfl (lv_at hl 3 rfl) ?_
  refine lv_iload_n (pc := 1419) hx hb dL_law_1419 rfl (lv_at hl 0 rfl) ?_
  refine lv_iconst (pc := 1420) (v := 2) hx hb dL_law_1420 (by decide) ?_
  refine lv_iadd (pc := 1421) hx hb dL_law_1421 ?_
  refine wsld (pc := 1422) hx hb hX hbl hbA hS (j := i + 2) (nI_add i 2) (by omega) hL dL_law_1422 ?_
  refine endi X.2.2.2.2 (runV (pc := 1423) (As := [.int (xs (i + 1)), .int (xs (i + 2))]) (rest := [.int r]) X (c_X6_lots G l (fun k => A (73 + k)) H.size M N (xs (i + 1)) (xs (i + 2)) r M' hm) gL_X6_lots k_X6_lots ⟨rfl, rfl⟩ ⟨Nat.le_of_ble_eq_true rfl, Nat.le_of_ble_eq_true rfl⟩ (em_Lw_Mo_M G A I' J M N M') hP hD hS (ci := 6) rfl rfl (at_Mo_0 G (fun k => A (73 + k)) M N) rfl hl.1 rfl (Nat.le_of_ble_eq_true rfl) ⟨Nat.le_of_ble_eq_true rfl, Nat.le_of_ble_eq_true rfl⟩ dL_law_1423) (em_Lw_Mo_M G A I' J M N M') hP hD hS (fun H locs hP hD hS => ?_)
  refine lv_icmp_eq (pc := 1426) (tgt := 1545) hx hb dL_law_1426 (by decide) (fun _ => ?_) (fun h => absurd rfl h)
  exact kk I' J M' N H locs hR hP hD hS
set_option maxHeartbeats 4000000 in
set_option maxRecDepth 100000 in
theorem law_case_35 (hop : Op_asked) {p : Program} {l : Launch} {e : Env} {s : State} {m : MethodId} {below : List Frame} {meth : Method} {c : Code} {b L : Nat} {xs : Nat → Int32} (hL : L ≤ 384) (C0 : lw_At p s m meth c b L xs) {G : GT} {A : Nat → Nat} (X : CX G p s m meth c code 4 lw_tbl #[Value.ref b] RL (fun q : Nat => s.heap.size ≤ q)) (I : Nat → CS) (J : Nat → JS) (M : CS) (N : JS) (hR : Rel I J M N) (i : Nat) (hi : i + 6 ≤ L) (H : Heap) (locs : List Loc) (ls : Array Slot) (hP : va_P G.1 vwCl (w_Lw G A I J M N) H) (hD : va_D (fun q : Nat => s.heap.size ≤ q) (w_Lw G A I J M N)) (hS : va_S (fun q : Nat => s.heap.size ≤ q) s.heap H locs) (hl : lv_has ls 4 [(3, .int (nI i)), (2, .ref (A 73)), (1, .ref (A 0)), (0, .ref b)]) (kk : ∀ (I' : Nat → CS) (J' : Nat → JS) (M' : CS) (N' : JS) (H : Heap) (locs : List Loc), Rel I' J' M' N' → va_P G.1 vwCl (w_Lw G A I' J' M' N') H → va_D (fun q : Nat => s.heap.size ≤ q) (w_Lw G A I' J' M' N') → va_S (fun q : Nat => s.heap.size ≤ q) s.heap H locs → W p l e room_1 s m #[Value.ref b] below meth c H locs 87 2655 (lw_Z below #[Value.ref b] s) (F0 m 1545 ls [])) : W p l e room_1 s m #[Value.ref b] below meth c H locs 87 2655 (lw_Z below #[Value.ref b] s) (F0 m 1431 ls []) := by
  obtain ⟨hx, hb, hr, hml, hown, hts, hX, hbl, hlocks, hgv⟩ := C0
  have hbA : ¬ (fun q : Nat => s.heap.size ≤ q) b := Nat.not_le.mpr hbl
  obtain ⟨r, ht, hm, hR⟩ := hop I J M N  hR
  refine lv_aload_n (pc := 1431) hx hb dL_law_1431 rfl (lv_at hl 2 rfl) ?_
  refine endi X.2.2.2.2 (runV (pc := 1432) (As := []) (rest := []) X (c_X5_asked G l A H.size I J r ht) gL_X5_asked k_X5_asked ⟨rfl, rfl⟩ ⟨Nat.le_of_ble_eq_true rfl, Nat.le_of_ble_eq_true rfl⟩ (em_Lw_Tw_0 G A I J M N ) hP hD hS (ci := 5) rfl rfl (at_Tw_0 G A I J) rfl hl.1 rfl (Nat.le_of_ble_eq_true rfl) ⟨Nat.le_of_ble_eq_true rfl, Nat.le_of_ble_eq_true rfl⟩ dL_law_1432) (em_Lw_Tw_0 G A I J M N ) hP hD hS (fun H locs hP hD hS => ?_)
  refine lv_aload_n (pc := 1435) hx hb dL_law_1435 rfl (lv_at hl 1 rfl) ?_
  refine endi X.2.2.2.2 (runV (pc := 1436) (As := []) (rest := [.int r]) X (c_X6_asked G l (fun k => A (73 + k)) H.size M N r hm) gL_X6_asked k_X6_asked ⟨rfl, rfl⟩ ⟨Nat.le_of_ble_eq_true rfl, Nat.le_of_ble_eq_true rfl⟩ (em_Lw_Mo_0 G A I J M N ) hP hD hS (ci := 6) rfl rfl (at_Mo_0 G (fun k => A (73 + k)) M N) rfl hl.1 rfl (Nat.le_of_ble_eq_true rfl) ⟨Nat.le_of_ble_eq_true rfl, Nat.le_of_ble_eq_true rfl⟩ dL_law_1436) (em_Lw_Mo_0 G A I J M N ) hP hD hS (fun H locs hP hD hS => ?_)
  refine lv_icmp_eq (pc := 1439) (tgt := 1545) hx hb dL_law_1439 (by decide) (fun _ => ?_) (fun h => absurd rfl h)
  exact kk I J M N H locs hR hP hD hS
set_option maxHeartbeats 4000000 in
set_option maxRecDepth 100000 in
theorem law_case_36 (hop : Op_upper) {p : Program} {l : Launch} {e : Env} {s : State} {m : MethodId} {below : List Frame} {meth : Method} {c : Code} {b L : Nat} {xs : Nat → Int32} (hL : L ≤ 384) (C0 : lw_At p s m meth c b L xs) {G : GT} {A : Nat → Nat} (X : CX G p s m meth c code 4 lw_tbl #[Value.ref b] RL (fun q : Nat => s.heap.size ≤ q)) (I : Nat → CS) (J : Nat → JS) (M : CS) (N : JS) (hR : Rel I J M N) (i : Nat) (hi : i + 6 ≤ L) (H : Heap) (locs : List Loc) (ls : Array Slot) (hP : va_P G.1 vwCl (w_Lw G A I J M N) H) (hD : va_D (fun q : Nat => s.heap.size ≤ q) (w_Lw G A I J M N)) (hS : va_S (fun q : Nat => s.heap.size ≤ q) s.heap H locs) (hl : lv_has ls 4 [(3, .int (nI i)), (2, .ref (A 73)), (1, .ref (A 0)), (0, .ref b)]) (kk : ∀ (I' : Nat → CS) (J' : Nat → JS) (M' : CS) (N' : JS) (H : Heap) (locs : List Loc), Rel I' J' M' N' → va_P G.1 vwCl (w_Lw G A I' J' M' N') H → va_D (fun q : Nat => s.heap.size ≤ q) (w_Lw G A I' J' M' N') → va_S (fun q : Nat => s.heap.size ≤ q) s.heap H locs → W p l e room_1 s m #[Value.ref b] below meth c H locs 87 2655 (lw_Z below #[Value.ref b] s) (F0 m 1545 ls [])) : W p l e room_1 s m #[Value.ref b] below meth c H locs 87 2655 (lw_Z below #[Value.ref b] s) (F0 m 1444 ls []) := by
  obtain ⟨hx, hb, hr, hml, hown, hts, hX, hbl, hlocks, hgv⟩ := C0
  have hbA : ¬ (fun q : Nat => s.heap.size ≤ q) b := Nat.not_le.mpr hbl
  obtain ⟨r, ht, hm, hR⟩ := hop I J M N  hR
  refine lv_aload_n (pc := 1444) hx hb dL_law_1444 rfl (lv_at hl 2 rfl) ?_
  refine endl X.2.2.2.2 (runV (pc := 1445) (As := []) (rest := []) X (c_X5_upper G l A H.size I J r ht) gL_X5_upper k_X5_upper ⟨rfl, rfl⟩ ⟨Nat.le_of_ble_eq_true rfl, Nat.le_of_ble_eq_true rfl⟩ (em_Lw_Tw_0 G A I J M N ) hP hD hS (ci := 5) rfl rfl (at_Tw_0 G A I J) rfl hl.1 rfl (Nat.le_of_ble_eq_true rfl) ⟨Nat.le_of_ble_eq_true rfl, Nat.le_of_ble_eq_true rfl⟩ dL_law_1445) (em_Lw_Tw_0 G A I J M N ) hP hD hS (fun H locs hP hD hS => ?_)
  refine lv_aload_n (pc := 1448) hx hb dL_law_1448 rfl (lv_at hl 1 rfl) ?_
  refine endl X.2.2.2.2 (runV (pc := 1449) (As := []) (rest := [.long r]) X (c_X6_upper G l (fun k => A (73 + k)) H.size M N r hm) gL_X6_upper k_X6_upper ⟨rfl, rfl⟩ ⟨Nat.le_of_ble_eq_true rfl, Nat.le_of_ble_eq_true rfl⟩ (em_Lw_Mo_0 G A I J M N ) hP hD hS (ci := 6) rfl rfl (at_Mo_0 G (fun k => A (73 + k)) M N) rfl hl.1 rfl (Nat.le_of_ble_eq_true rfl) ⟨Nat.le_of_ble_eq_true rfl, Nat.le_of_ble_eq_true rfl⟩ dL_law_1449) (em_Lw_Mo_0 G A I J M N ) hP hD hS (fun H locs hP hD hS => ?_)
  refine W.lcmp (pc := 1452) hx hb dL_law_1452 ?_
  refine lv_if_eq (pc := 1453) (tgt := 1545) hx hb dL_law_1453 (by decide) (fun _ => ?_) (fun h => absurd (lg_cmp_self r) h)
  exact kk I J M N H locs hR hP hD hS
set_option maxHeartbeats 4000000 in
set_option maxRecDepth 100000 in
theorem law_case_37 (hop : Op_lower) {p : Program} {l : Launch} {e : Env} {s : State} {m : MethodId} {below : List Frame} {meth : Method} {c : Code} {b L : Nat} {xs : Nat → Int32} (hL : L ≤ 384) (C0 : lw_At p s m meth c b L xs) {G : GT} {A : Nat → Nat} (X : CX G p s m meth c code 4 lw_tbl #[Value.ref b] RL (fun q : Nat => s.heap.size ≤ q)) (I : Nat → CS) (J : Nat → JS) (M : CS) (N : JS) (hR : Rel I J M N) (i : Nat) (hi : i + 6 ≤ L) (H : Heap) (locs : List Loc) (ls : Array Slot) (hP : va_P G.1 vwCl (w_Lw G A I J M N) H) (hD : va_D (fun q : Nat => s.heap.size ≤ q) (w_Lw G A I J M N)) (hS : va_S (fun q : Nat => s.heap.size ≤ q) s.heap H locs) (hl : lv_has ls 4 [(3, .int (nI i)), (2, .ref (A 73)), (1, .ref (A 0)), (0, .ref b)]) (kk : ∀ (I' : Nat → CS) (J' : Nat → JS) (M' : CS) (N' : JS) (H : Heap) (locs : List Loc), Rel I' J' M' N' → va_P G.1 vwCl (w_Lw G A I' J' M' N') H → va_D (fun q : Nat => s.heap.size ≤ q) (w_Lw G A I' J' M' N') → va_S (fun q : Nat => s.heap.size ≤ q) s.heap H locs → W p l e room_1 s m #[Value.ref b] below meth c H locs 87 2655 (lw_Z below #[Value.ref b] s) (F0 m 1545 ls [])) : W p l e room_1 s m #[Value.ref b] below meth c H locs 87 2655 (lw_Z below #[Value.ref b] s) (F0 m 1458 ls []) := by
  obtain ⟨hx, hb, hr, hml, hown, hts, hX, hbl, hlocks, hgv⟩ := C0
  have hbA : ¬ (fun q : Nat => s.heap.size ≤ q) b := Nat.not_le.mpr hbl
  obtain ⟨r, ht, hm, hR⟩ := hop I J M N  hR
  refine lv_aload_n (pc := 1458) hx hb dL_law_1458 rfl (lv_at hl 2 rfl) ?_
  refine endl X.2.2.2.2 (runV (pc := 1459) (As := []) (rest := []) X (c_X5_lower G l A H.size I J r ht) gL_X5_lower k_X5_lower ⟨rfl, rfl⟩ ⟨Nat.le_of_ble_eq_true rfl, Nat.le_of_ble_eq_true rfl⟩ (em_Lw_Tw_0 G A I J M N ) hP hD hS (ci := 5) rfl rfl (at_Tw_0 G A I J) rfl hl.1 rfl (Nat.le_of_ble_eq_true rfl) ⟨Nat.le_of_ble_eq_true rfl, Nat.le_of_ble_eq_true rfl⟩ dL_law_1459) (em_Lw_Tw_0 G A I J M N ) hP hD hS (fun H locs hP hD hS => ?_)
  refine lv_aload_n (pc := 1462) hx hb dL_law_1462 rfl (lv_at hl 1 rfl) ?_
  refine endl X.2.2.2.2 (runV (pc := 1463) (As := []) (rest := [.long r]) X (c_X6_lower G l (fun k => A (73 + k)) H.size M N r hm) gL_X6_lower k_X6_lower ⟨rfl, rfl⟩ ⟨Nat.le_of_ble_eq_true rfl, Nat.le_of_ble_eq_true rfl⟩ (em_Lw_Mo_0 G A I J M N ) hP hD hS (ci := 6) rfl rfl (at_Mo_0 G (fun k => A (73 + k)) M N) rfl hl.1 rfl (Nat.le_of_ble_eq_true rfl) ⟨Nat.le_of_ble_eq_true rfl, Nat.le_of_ble_eq_true rfl⟩ dL_law_1463) (em_Lw_Mo_0 G A I J M N ) hP hD hS (fun H locs hP hD hS => ?_)
  refine W.lcmp (pc := 1466) hx hb dL_law_1466 ?_
  refine lv_if_eq (pc := 1467) (tgt := 1545) hx hb dL_law_1467 (by decide) (fun _ => ?_) (fun h => absurd (lg_cmp_self r) h)
  exact kk I J M N H locs hR hP hD hS
set_option maxHeartbeats 4000000 in
set_option maxRecDepth 100000 in
theorem law_case_38 (hop : Op_count) {p : Program} {l : Launch} {e : Env} {s : State} {m : MethodId} {below : List Frame} {meth : Method} {c : Code} {b L : Nat} {xs : Nat → Int32} (hL : L ≤ 384) (C0 : lw_At p s m meth c b L xs) {G : GT} {A : Nat → Nat} (X : CX G p s m meth c code 4 lw_tbl #[Value.ref b] RL (fun q : Nat => s.heap.size ≤ q)) (I : Nat → CS) (J : Nat → JS) (M : CS) (N : JS) (hR : Rel I J M N) (i : Nat) (hi : i + 6 ≤ L) (H : Heap) (locs : List Loc) (ls : Array Slot) (hP : va_P G.1 vwCl (w_Lw G A I J M N) H) (hD : va_D (fun q : Nat => s.heap.size ≤ q) (w_Lw G A I J M N)) (hS : va_S (fun q : Nat => s.heap.size ≤ q) s.heap H locs) (hl : lv_has ls 4 [(3, .int (nI i)), (2, .ref (A 73)), (1, .ref (A 0)), (0, .ref b)]) (kk : ∀ (I' : Nat → CS) (J' : Nat → JS) (M' : CS) (N' : JS) (H : Heap) (locs : List Loc), Rel I' J' M' N' → va_P G.1 vwCl (w_Lw G A I' J' M' N') H → va_D (fun q : Nat => s.heap.size ≤ q) (w_Lw G A I' J' M' N') → va_S (fun q : Nat => s.heap.size ≤ q) s.heap H locs → W p l e room_1 s m #[Value.ref b] below meth c H locs 87 2655 (lw_Z below #[Value.ref b] s) (F0 m 1545 ls [])) : W p l e room_1 s m #[Value.ref b] below meth c H locs 87 2655 (lw_Z below #[Value.ref b] s) (F0 m 1472 ls []) := by
  obtain ⟨hx, hb, hr, hml, hown, hts, hX, hbl, hlocks, hgv⟩ := C0
  have hbA : ¬ (fun q : Nat => s.heap.size ≤ q) b := Nat.not_le.mpr hbl
  obtain ⟨r, ht, hm, hR⟩ := hop I J M N (xs (i + 1)) hR
  refine lv_aload_n (pc := 1472) hx hb dL_law_1472 rfl (lv_at hl 2 rfl) ?_
  refine lv_aload_n (pc := 1473) hx hb dL_law_1473 rfl (lv_at hl 3 rfl) ?_
  refine lv_iload_n (pc := 1474) hx hb dL_law_1474 rfl (lv_at hl 0 rfl) ?_
  refine lv_iconst (pc := 1475) (v := 1) hx hb dL_law_1475 (by decide) ?_
  refine lv_iadd (pc := 1476) hx hb dL_law_1476 ?_
  refine wsld (pc := 1477) hx hb hX hbl hbA hS (j := i + 1) (nI_add i 1) (by omega) hL dL_law_1477 ?_
  refine endi X.2.2.2.2 (runV (pc := 1478) (As := [.int (xs (i + 1))]) (rest := []) X (c_X5_count G l A H.size I J (xs (i + 1)) r ht) gL_X5_count k_X5_count ⟨rfl, rfl⟩ ⟨Nat.le_of_ble_eq_true rfl, Nat.le_of_ble_eq_true rfl⟩ (em_Lw_Tw_0 G A I J M N ) hP hD hS (ci := 5) rfl rfl (at_Tw_0 G A I J) rfl hl.1 rfl (Nat.le_of_ble_eq_true rfl) ⟨Nat.le_of_ble_eq_true rfl, Nat.le_of_ble_eq_true rfl⟩ dL_law_1478) (em_Lw_Tw_0 G A I J M N ) hP hD hS (fun H locs hP hD hS => ?_)
  refine lv_aload_n (pc := 1481) hx hb dL_law_1481 rfl (lv_at hl 1 rfl) ?_
  refine lv_aload_n (pc := 1482) hx hb dL_law_1482 rfl (lv_at hl 3 rfl) ?_
  refine lv_iload_n (pc := 1483) hx hb dL_law_1483 rfl (lv_at hl 0 rfl) ?_
  refine lv_iconst (pc := 1484) (v := 1) hx hb dL_law_1484 (by decide) ?_
  refine lv_iadd (pc := 1485) hx hb dL_law_1485 ?_
  refine wsld (pc := 1486) hx hb hX hbl hbA hS (j := i + 1) (nI_add i 1) (by omega) hL dL_law_1486 ?_
  refine endi X.2.2.2.2 (runV (pc := 1487) (As := [.int (xs (i + 1))]) (rest := [.int r]) X (c_X6_count G l (fun k => A (73 + k)) H.size M N (xs (i + 1)) r hm) gL_X6_count k_X6_count ⟨rfl, rfl⟩ ⟨Nat.le_of_ble_eq_true rfl, Nat.le_of_ble_eq_true rfl⟩ (em_Lw_Mo_0 G A I J M N ) hP hD hS (ci := 6) rfl rfl (at_Mo_0 G (fun k => A (73 + k)) M N) rfl hl.1 rfl (Nat.le_of_ble_eq_true rfl) ⟨Nat.le_of_ble_eq_true rfl, Nat.le_of_ble_eq_true rfl⟩ dL_law_1487) (em_Lw_Mo_0 G A I J M N ) hP hD hS (fun H locs hP hD hS => ?_)
  refine lv_icmp_eq (pc := 1490) (tgt := 1545) hx hb dL_law_1490 (by decide) (fun _ => ?_) (fun h => absurd rfl h)
  exact kk I J M N H locs hR hP hD hS
set_option maxHeartbeats 4000000 in
set_option maxRecDepth 100000 in
theorem law_case_39 (hop : Op_finding) {p : Program} {l : Launch} {e : Env} {s : State} {m : MethodId} {below : List Frame} {meth : Method} {c : Code} {b L : Nat} {xs : Nat → Int32} (hL : L ≤ 384) (C0 : lw_At p s m meth c b L xs) {G : GT} {A : Nat → Nat} (X : CX G p s m meth c code 4 lw_tbl #[Value.ref b] RL (fun q : Nat => s.heap.size ≤ q)) (I : Nat → CS) (J : Nat → JS) (M : CS) (N : JS) (hR : Rel I J M N) (i : Nat) (hi : i + 6 ≤ L) (H : Heap) (locs : List Loc) (ls : Array Slot) (hP : va_P G.1 vwCl (w_Lw G A I J M N) H) (hD : va_D (fun q : Nat => s.heap.size ≤ q) (w_Lw G A I J M N)) (hS : va_S (fun q : Nat => s.heap.size ≤ q) s.heap H locs) (hl : lv_has ls 4 [(3, .int (nI i)), (2, .ref (A 73)), (1, .ref (A 0)), (0, .ref b)]) (kk : ∀ (I' : Nat → CS) (J' : Nat → JS) (M' : CS) (N' : JS) (H : Heap) (locs : List Loc), Rel I' J' M' N' → va_P G.1 vwCl (w_Lw G A I' J' M' N') H → va_D (fun q : Nat => s.heap.size ≤ q) (w_Lw G A I' J' M' N') → va_S (fun q : Nat => s.heap.size ≤ q) s.heap H locs → W p l e room_1 s m #[Value.ref b] below meth c H locs 87 2655 (lw_Z below #[Value.ref b] s) (F0 m 1545 ls [])) : W p l e room_1 s m #[Value.ref b] below meth c H locs 87 2655 (lw_Z below #[Value.ref b] s) (F0 m 1495 ls []) := by
  obtain ⟨hx, hb, hr, hml, hown, hts, hX, hbl, hlocks, hgv⟩ := C0
  have hbA : ¬ (fun q : Nat => s.heap.size ≤ q) b := Nat.not_le.mpr hbl
  obtain ⟨r, ht, hm, hR⟩ := hop I J M N  hR
  refine lv_aload_n (pc := 1495) hx hb dL_law_1495 rfl (lv_at hl 2 rfl) ?_
  refine endi X.2.2.2.2 (runV (pc := 1496) (As := []) (rest := []) X (c_X5_finding G l A H.size I J r ht) gL_X5_finding k_X5_finding ⟨rfl, rfl⟩ ⟨Nat.le_of_ble_eq_true rfl, Nat.le_of_ble_eq_true rfl⟩ (em_Lw_Tw_0 G A I J M N ) hP hD hS (ci := 5) rfl rfl (at_Tw_0 G A I J) rfl hl.1 rfl (Nat.le_of_ble_eq_true rfl) ⟨Nat.le_of_ble_eq_true rfl, Nat.le_of_ble_eq_true rfl⟩ dL_law_1496) (em_Lw_Tw_0 G A I J M N ) hP hD hS (fun H locs hP hD hS => ?_)
  refine lv_aload_n (pc := 1499) hx hb dL_law_1499 rfl (lv_at hl 1 rfl) ?_
  refine endi X.2.2.2.2 (runV (pc := 1500) (As := []) (rest := [.int r]) X (c_X6_finding G l (fun k => A (73 + k)) H.size M N r hm) gL_X6_finding k_X6_finding ⟨rfl, rfl⟩ ⟨Nat.le_of_ble_eq_true rfl, Nat.le_of_ble_eq_true rfl⟩ (em_Lw_Mo_0 G A I J M N ) hP hD hS (ci := 6) rfl rfl (at_Mo_0 G (fun k => A (73 + k)) M N) rfl hl.1 rfl (Nat.le_of_ble_eq_true rfl) ⟨Nat.le_of_ble_eq_true rfl, Nat.le_of_ble_eq_true rfl⟩ dL_law_1500) (em_Lw_Mo_0 G A I J M N ) hP hD hS (fun H locs hP hD hS => ?_)
  refine lv_icmp_eq (pc := 1503) (tgt := 1545) hx hb dL_law_1503 (by decide) (fun _ => ?_) (fun h => absurd rfl h)
  exact kk I J M N H locs hR hP hD hS
set_option maxHeartbeats 4000000 in
set_option maxRecDepth 100000 in
theorem law_case_40 (hop : Op_findings) {p : Program} {l : Launch} {e : Env} {s : State} {m : MethodId} {below : List Frame} {meth : Method} {c : Code} {b L : Nat} {xs : Nat → Int32} (hL : L ≤ 384) (C0 : lw_At p s m meth c b L xs) {G : GT} {A : Nat → Nat} (X : CX G p s m meth c code 4 lw_tbl #[Value.ref b] RL (fun q : Nat => s.heap.size ≤ q)) (I : Nat → CS) (J : Nat → JS) (M : CS) (N : JS) (hR : Rel I J M N) (i : Nat) (hi : i + 6 ≤ L) (H : Heap) (locs : List Loc) (ls : Array Slot) (hP : va_P G.1 vwCl (w_Lw G A I J M N) H) (hD : va_D (fun q : Nat => s.heap.size ≤ q) (w_Lw G A I J M N)) (hS : va_S (fun q : Nat => s.heap.size ≤ q) s.heap H locs) (hl : lv_has ls 4 [(3, .int (nI i)), (2, .ref (A 73)), (1, .ref (A 0)), (0, .ref b)]) (kk : ∀ (I' : Nat → CS) (J' : Nat → JS) (M' : CS) (N' : JS) (H : Heap) (locs : List Loc), Rel I' J' M' N' → va_P G.1 vwCl (w_Lw G A I' J' M' N') H → va_D (fun q : Nat => s.heap.size ≤ q) (w_Lw G A I' J' M' N') → va_S (fun q : Nat => s.heap.size ≤ q) s.heap H locs → W p l e room_1 s m #[Value.ref b] below meth c H locs 87 2655 (lw_Z below #[Value.ref b] s) (F0 m 1545 ls [])) : W p l e room_1 s m #[Value.ref b] below meth c H locs 87 2655 (lw_Z below #[Value.ref b] s) (F0 m 1508 ls []) := by
  obtain ⟨hx, hb, hr, hml, hown, hts, hX, hbl, hlocks, hgv⟩ := C0
  have hbA : ¬ (fun q : Nat => s.heap.size ≤ q) b := Nat.not_le.mpr hbl
  obtain ⟨r, ht, hm, hR⟩ := hop I J M N (xs (i + 1)) hR
  refine lv_aload_n (pc := 1508) hx hb dL_law_1508 rfl (lv_at hl 2 rfl) ?_
  refine lv_aload_n (pc := 1509) hx hb dL_law_1509 rfl (lv_at hl 3 rfl) ?_
  refine lv_iload_n (pc := 1510) hx hb dL_law_1510 rfl (lv_at hl 0 rfl) ?_
  refine lv_iconst (pc := 1511) (v := 1) hx hb dL_law_1511 (by decide) ?_
  refine lv_iadd (pc := 1512) hx hb dL_law_1512 ?_
  refine wsld (pc := 1513) hx hb hX hbl hbA hS (j := i + 1) (nI_add i 1) (by omega) hL dL_law_1513 ?_
  refine endi X.2.2.2.2 (runV (pc := 1514) (As := [.int (xs (i + 1))]) (rest := []) X (c_X5_findings G l A H.size I J (xs (i + 1)) r ht) gL_X5_findings k_X5_findings ⟨rfl, rfl⟩ ⟨Nat.le_of_ble_eq_true rfl, Nat.le_of_ble_eq_true rfl⟩ (em_Lw_Tw_0 G A I J M N ) hP hD hS (ci := 5) rfl rfl (at_Tw_0 G A I J) rfl hl.1 rfl (Nat.le_of_ble_eq_true rfl) ⟨Nat.le_of_ble_eq_true rfl, Nat.le_of_ble_eq_true rfl⟩ dL_law_1514) (em_Lw_Tw_0 G A I J M N ) hP hD hS (fun H locs hP hD hS => ?_)
  refine lv_aload_n (pc := 1517) hx hb dL_law_1517 rfl (lv_at hl 1 rfl) ?_
  refine lv_aload_n (pc := 1518) hx hb dL_law_1518 rfl (lv_at hl 3 rfl) ?_
  refine lv_iload_n (pc := 1519) hx hb dL_law_1519 rfl (lv_at hl 0 rfl) ?_
  refine lv_iconst (pc := 1520) (v := 1) hx hb dL_law_1520 (by decide) ?_
  refine lv_iadd (pc := 1521) hx hb dL_law_1521 ?_
  refine wsld (pc := 1522) hx hb hX hbl hbA hS (j := i + 1) (nI_add i 1) (by omega) hL dL_law_1522 ?_
  refine endi X.2.2.2.2 (runV (pc := 1523) (As := [.int (xs (i + 1))]) (rest := [.int r]) X (c_X6_findings G l (fun k => A (73 + k)) H.size M N (xs (i + 1)) r hm) gL_X6_findings k_X6_findings ⟨rfl, rfl⟩ ⟨Nat.le_of_ble_eq_true rfl, Nat.le_of_ble_eq_true rfl⟩ (em_Lw_Mo_0 G A I J M N ) hP hD hS (ci := 6) rfl rfl (at_Mo_0 G (fun k => A (73 + k)) M N) rfl hl.1 rfl (Nat.le_of_ble_eq_true rfl) ⟨Nat.le_of_ble_eq_true rfl, Nat.le_of_ble_eq_true rfl⟩ dL_law_1523) (em_Lw_Mo_0 G A I J M N ) hP hD hS (fun H locs hP hD hS => ?_)
  refine lv_icmp_eq (pc := 1526) (tgt := 1545) hx hb dL_law_1526 (by decide) (fun _ => ?_) (fun h => absurd rfl h)
  exact kk I J M N H locs hR hP hD hS
set_option maxHeartbeats 4000000 in
set_option maxRecDepth 100000 in
theorem law_case_41 (hop : Op_digest) {p : Program} {l : Launch} {e : Env} {s : State} {m : MethodId} {below : List Frame} {meth : Method} {c : Code} {b L : Nat} {xs : Nat → Int32} (hL : L ≤ 384) (C0 : lw_At p s m meth c b L xs) {G : GT} {A : Nat → Nat} (X : CX G p s m meth c code 4 lw_tbl #[Value.ref b] RL (fun q : Nat => s.heap.size ≤ q)) (I : Nat → CS) (J : Nat → JS) (M : CS) (N : JS) (hR : Rel I J M N) (i : Nat) (hi : i + 6 ≤ L) (H : Heap) (locs : List Loc) (ls : Array Slot) (hP : va_P G.1 vwCl (w_Lw G A I J M N) H) (hD : va_D (fun q : Nat => s.heap.size ≤ q) (w_Lw G A I J M N)) (hS : va_S (fun q : Nat => s.heap.size ≤ q) s.heap H locs) (hl : lv_has ls 4 [(3, .int (nI i)), (2, .ref (A 73)), (1, .ref (A 0)), (0, .ref b)]) (kk : ∀ (I' : Nat → CS) (J' : Nat → JS) (M' : CS) (N' : JS) (H : Heap) (locs : List Loc), Rel I' J' M' N' → va_P G.1 vwCl (w_Lw G A I' J' M' N') H → va_D (fun q : Nat => s.heap.size ≤ q) (w_Lw G A I' J' M' N') → va_S (fun q : Nat => s.heap.size ≤ q) s.heap H locs → W p l e room_1 s m #[Value.ref b] below meth c H locs 87 2655 (lw_Z below #[Value.ref b] s) (F0 m 1545 ls [])) : W p l e room_1 s m #[Value.ref b] below meth c H locs 87 2655 (lw_Z below #[Value.ref b] s) (F0 m 1531 ls []) := by
  obtain ⟨hx, hb, hr, hml, hown, hts, hX, hbl, hlocks, hgv⟩ := C0
  have hbA : ¬ (fun q : Nat => s.heap.size ≤ q) b := Nat.not_le.mpr hbl
  obtain ⟨r, I', M', ht, hm, hR⟩ := hop I J M N  hR
  refine lv_aload_n (pc := 1531) hx hb dL_law_1531 rfl (lv_at hl 2 rfl) ?_
  refine endl X.2.2.2.2 (runV (pc := 1532) (As := []) (rest := []) X (c_X5_digest G l A H.size I J r I' ht) gL_X5_digest k_X5_digest ⟨rfl, rfl⟩ ⟨Nat.le_of_ble_eq_true rfl, Nat.le_of_ble_eq_true rfl⟩ (em_Lw_Tw_I G A I J M N I') hP hD hS (ci := 5) rfl rfl (at_Tw_0 G A I J) rfl hl.1 rfl (Nat.le_of_ble_eq_true rfl) ⟨Nat.le_of_ble_eq_true rfl, Nat.le_of_ble_eq_true rfl⟩ dL_law_1532) (em_Lw_Tw_I G A I J M N I') hP hD hS (fun H locs hP hD hS => ?_)
  refine lv_aload_n (pc := 1535) hx hb dL_law_1535 rfl (lv_at hl 1 rfl) ?_
  refine endl X.2.2.2.2 (runV (pc := 1536) (As := []) (rest := [.long r]) X (c_X6_digest G l (fun k => A (73 + k)) H.size M N r M' hm) gL_X6_digest k_X6_digest ⟨rfl, rfl⟩ ⟨Nat.le_of_ble_eq_true rfl, Nat.le_of_ble_eq_true rfl⟩ (em_Lw_Mo_M G A I' J M N M') hP hD hS (ci := 6) rfl rfl (at_Mo_0 G (fun k => A (73 + k)) M N) rfl hl.1 rfl (Nat.le_of_ble_eq_true rfl) ⟨Nat.le_of_ble_eq_true rfl, Nat.le_of_ble_eq_true rfl⟩ dL_law_1536) (em_Lw_Mo_M G A I' J M N M') hP hD hS (fun H locs hP hD hS => ?_)
  refine W.lcmp (pc := 1539) hx hb dL_law_1539 ?_
  refine lv_if_eq (pc := 1540) (tgt := 1545) hx hb dL_law_1540 (by decide) (fun _ => ?_) (fun h => absurd (lg_cmp_self r) h)
  exact kk I' J M' N H locs hR hP hD hS
