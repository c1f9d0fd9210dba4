set_option maxHeartbeats 4000000 in
set_option maxRecDepth 100000 in
theorem law_case_0 (hop : Op_row) {p : Program} {l : Launch} {e : Env} {s : State} {m : MethodId} {below : List Frame} {meth : Method} {c : Code} {b L : Nat} {xs : Nat → Int32} (hL : L ≤ 384) (C0 : lw_At p s m meth c b L xs) {G : GT} {A : Nat → Nat} (X : CX G p s m meth c code 4 lw_tbl #[Value.ref b] RL (fun q : Nat => s.heap.size ≤ q)) (I : Nat → CS) (J : Nat → JS) (M : CS) (N : JS) (hR : Rel I J M N) (i : Nat) (hi : i + 6 ≤ L) (H : Heap) (locs : List Loc) (ls : Array Slot) (hP : va_P G.1 vwCl (w_Lw G A I J M N) H) (hD : va_D (fun q : Nat => s.heap.size ≤ q) (w_Lw G A I J M N)) (hS : va_S (fun q : Nat => s.heap.size ≤ q) s.heap H locs) (hl : lv_has ls 4 [(3, .int (nI i)), (2, .ref (A 73)), (1, .ref (A 0)), (0, .ref b)]) (kk : ∀ (I' : Nat → CS) (J' : Nat → JS) (M' : CS) (N' : JS) (H : Heap) (locs : List Loc), Rel I' J' M' N' → va_P G.1 vwCl (w_Lw G A I' J' M' N') H → va_D (fun q : Nat => s.heap.size ≤ q) (w_Lw G A I' J' M' N') → va_S (fun q : Nat => s.heap.size ≤ q) s.heap H locs → W p l e room_1 s m #[Value.ref b] below meth c H locs 87 2655 (lw_Z below #[Value.ref b] s) (F0 m 1545 ls [])) : W p l e room_1 s m #[Value.ref b] below meth c H locs 87 2655 (lw_Z below #[Value.ref b] s) (F0 m 216 ls []) := by
  obtain ⟨hx, hb, hr, hml, hown, hts, hX, hbl, hlocks, hgv⟩ := C0
  have hbA : ¬ (fun q : Nat => s.heap.size ≤ q) b := Nat.not_le.mpr hbl
  obtain ⟨r, I', M', ht, hm, hR⟩ := hop I J M N (xs (i + 1)) (xs (i + 2)) hR
  refine lv_aload_n (pc := 216) hx hb dL_law_216 rfl (lv_at hl 2 rfl) ?_
  refine lv_aload_n (pc := 217) hx hb dL_law_217 rfl (lv_at hl 3 rfl) ?_
  refine lv_iload_n (pc := 218) hx hb dL_law_218 rfl (lv_at hl 0 rfl) ?_
  refine lv_iconst (pc := 219) (v := 1) hx hb dL_law_219 (by decide) ?_
  refine lv_iadd (pc := 220) hx hb dL_law_220 ?_
  refine wsld (pc := 221) hx hb hX hbl hbA hS (j := i + 1) (nI_add i 1) (by omega) hL dL_law_221 ?_
  refine lv_aload_n (pc := 222) hx hb dL_law_222 rfl (lv_at hl 3 rfl) ?_
  refine lv_iload_n (pc := 223) hx hb dL_law_223 rfl (lv_at hl 0 rfl) ?_
  refine lv_iconst (pc := 224) (v := 2) hx hb dL_law_224 (by decide) ?_
  refine lv_iadd (pc := 225) hx hb dL_law_225 ?_
  refine wsld (pc := 226) hx hb hX hbl hbA hS (j := i + 2) (nI_add i 2) (by omega) hL dL_law_226 ?_
  refine endi X.2.2.2.2 (runV (pc := 227) (As := [.int (xs (i + 1)), .int (xs (i + 2))]) (rest := []) X (c_X5_row G l A H.size I J (xs (i + 1)) (xs (i + 2)) r I' ht) gL_X5_row k_X5_row ⟨rfl, rfl⟩ ⟨Nat.le_of_ble_eq_true rfl, Nat.le_of_ble_eq_true rfl⟩ (em_Lw_Tw_I G A I J M N I') hP hD hS (ci := 5) rfl rfl (at_Tw_0 G A I J) rfl hl.1 rfl (Nat.le_of_ble_eq_true rfl) ⟨Nat.le_of_ble_eq_true rfl, Nat.le_of_ble_eq_true rfl⟩ dL_law_227) (em_Lw_Tw_I G A I J M N I') hP hD hS (fun H locs hP hD hS => ?_)
  refine lv_aload_n (pc := 230) hx hb dL_law_230 rfl (lv_at hl 1 rfl) ?_
  refine lv_aload_n (pc := 231) hx hb dL_law_231 rfl (lv_at hl 3 rfl) ?_
  refine lv_iload_n (pc := 232) hx hb dL_law_232 rfl (lv_at hl 0 rfl) ?_
  refine lv_iconst (pc := 233) (v := 1) hx hb dL_law_233 (by decide) ?_
  refine lv_iadd (pc := 234) hx hb dL_law_234 ?_
  refine wsld (pc := 235) hx hb hX hbl hbA hS (j := i + 1) (nI_add i 1) (by omega) hL dL_law_235 ?_
  refine lv_aload_n (pc := 236) hx hb dL_law_236 rfl (lv_at hl 3 rfl) ?_
  refine lv_iload_n (pc := 237) hx hb dL_law_237 rfl (lv_at hl 0 rfl) ?_
  refine lv_iconst (pc := 238) (v := 2) hx hb dL_law_238 (by decide) ?_
  refine lv_iadd (pc := 239) hx hb dL_law_239 ?_
  refine wsld (pc := 240) hx hb hX hbl hbA hS (j := i + 2) (nI_add i 2) (by omega) hL dL_law_240 ?_
  refine endi X.2.2.2.2 (runV (pc := 241) (As := [.int (xs (i + 1)), .int (xs (i + 2))]) (rest := [.int r]) X (c_X6_row G l (fun k => A (73 + k)) H.size M N (xs (i + 1)) (xs (i + 2)) r M' hm) gL_X6_row k_X6_row ⟨rfl, rfl⟩ ⟨Nat.le_of_ble_eq_true rfl, Nat.le_of_ble_eq_true rfl⟩ (em_Lw_Mo_M G A I' J M N M') hP hD hS (ci := 6) rfl rfl (at_Mo_0 G (fun k => A (73 + k)) M N) rfl hl.1 rfl (Nat.le_of_ble_eq_true rfl) ⟨Nat.le_of_ble_eq_true rfl, Nat.le_of_ble_eq_true rfl⟩ dL_law_241) (em_Lw_Mo_M G A I' J M N M') hP hD hS (fun H locs hP hD hS => ?_)
  refine lv_icmp_eq (pc := 244) (tgt := 1545) hx hb dL_law_244 (by decide) (fun _ => ?_) (fun h => absurd rfl h)
  exact kk I' J M' N H locs hR hP hD hS
set_option maxHeartbeats 4000000 in
set_option maxRecDepth 100000 in
theorem law_case_1 (hop : Op_lay) {p : Program} {l : Launch} {e : Env} {s : State} {m : MethodId} {below : List Frame} {meth : Method} {c : Code} {b L : Nat} {xs : Nat → Int32} (hL : L ≤ 384) (C0 : lw_At p s m meth c b L xs) {G : GT} {A : Nat → Nat} (X : CX G p s m meth c code 4 lw_tbl #[Value.ref b] RL (fun q : Nat => s.heap.size ≤ q)) (I : Nat → CS) (J : Nat → JS) (M : CS) (N : JS) (hR : Rel I J M N) (i : Nat) (hi : i + 6 ≤ L) (H : Heap) (locs : List Loc) (ls : Array Slot) (hP : va_P G.1 vwCl (w_Lw G A I J M N) H) (hD : va_D (fun q : Nat => s.heap.size ≤ q) (w_Lw G A I J M N)) (hS : va_S (fun q : Nat => s.heap.size ≤ q) s.heap H locs) (hl : lv_has ls 4 [(3, .int (nI i)), (2, .ref (A 73)), (1, .ref (A 0)), (0, .ref b)]) (kk : ∀ (I' : Nat → CS) (J' : Nat → JS) (M' : CS) (N' : JS) (H : Heap) (locs : List Loc), Rel I' J' M' N' → va_P G.1 vwCl (w_Lw G A I' J' M' N') H → va_D (fun q : Nat => s.heap.size ≤ q) (w_Lw G A I' J' M' N') → va_S (fun q : Nat => s.heap.size ≤ q) s.heap H locs → W p l e room_1 s m #[Value.ref b] below meth c H locs 87 2655 (lw_Z below #[Value.ref b] s) (F0 m 1545 ls [])) : W p l e room_1 s m #[Value.ref b] below meth c H locs 87 2655 (lw_Z below #[Value.ref b] s) (F0 m 249 ls []) := by
  obtain ⟨hx, hb, hr, hml, hown, hts, hX, hbl, hlocks, hgv⟩ := C0
  have hbA : ¬ (fun q : Nat => s.heap.size ≤ q) b := Nat.not_le.mpr hbl
  obtain ⟨r, I', M', ht, hm, hR⟩ := hop I J M N (xs (i + 1)) (xs (i + 2)) (xs (i + 3)) hR
  refine lv_aload_n (pc := 249) hx hb dL_law_249 rfl (lv_at hl 2 rfl) ?_
  refine lv_aload_n (pc := 250) hx hb dL_law_250 rfl (lv_at hl 3 rfl) ?_
  refine lv_iload_n (pc := 251) hx hb dL_law_251 rfl (lv_at hl 0 rfl) ?_
  refine lv_iconst (pc := 252) (v := 1) hx hb dL_law_252 (by decide) ?_
  refine lv_iadd (pc := 253) hx hb dL_law_253 ?_
  refine wsld (pc := 254) hx hb hX hbl hbA hS (j := i + 1) (nI_add i 1) (by omega) hL dL_law_254 ?_
  refine lv_aload_n (pc := 255) hx hb dL_law_255 rfl (lv_at hl 3 rfl) ?_
  refine lv_iload_n (pc := 256) hx hb dL_law_256 rfl (lv_at hl 0 rfl) ?_
  refine lv_iconst (pc := 257) (v := 2) hx hb dL_law_257 (by decide) ?_
  refine lv_iadd (pc := 258) hx hb dL_law_258 ?_
  refine wsld (pc := 259) hx hb hX hbl hbA hS (j := i + 2) (nI_add i 2) (by omega) hL dL_law_259 ?_
  refine lv_aload_n (pc := 260) hx hb dL_law_260 rfl (lv_at hl 3 rfl) ?_
  refine lv_iload_n (pc := 261) hx hb dL_law_261 rfl (lv_at hl 0 rfl) ?_
  refine lv_iconst (pc := 262) (v := 3) hx hb dL_law_262 (by decide) ?_
  refine lv_iadd (pc := 263) hx hb dL_law_263 ?_
  refine wsld (pc := 264) hx hb hX hbl hbA hS (j := i + 3) (nI_add i 3) (by omega) hL dL_law_264 ?_
  refine endi X.2.2.2.2 (runV (pc := 265) (As := [.int (xs (i + 1)), .int (xs (i + 2)), .int (xs (i + 3))]) (rest := []) X (c_X5_lay G l A H.size I J (xs (i + 1)) (xs (i + 2)) (xs (i + 3)) r I' ht) gL_X5_lay k_X5_lay ⟨rfl, rfl⟩ ⟨Nat.le_of_ble_eq_true rfl, Nat.le_of_ble_eq_true rfl⟩ (em_Lw_Tw_I G A I J M N I') hP hD hS (ci := 5) rfl rfl (at_Tw_0 G A I J) rfl hl.1 rfl (Nat.le_of_ble_eq_true rfl) ⟨Nat.le_of_ble_eq_true rfl, Nat.le_of_ble_eq_true rfl⟩ dL_law_265) (em_Lw_Tw_I G A I J M N I') hP hD hS (fun H locs hP hD hS => ?_)
  refine lv_aload_n (pc := 268) hx hb dL_law_268 rfl (lv_at hl 1 rfl) ?_
  refine lv_aload_n (pc := 269) hx hb dL_law_269 rfl (lv_at hl 3 rfl) ?_
  refine lv_iload_n (pc := 270) hx hb dL_law_270 rfl (lv_at hl 0 rfl) ?_
  refine lv_iconst (pc := 271) (v := 1) hx hb dL_law_271 (by decide) ?_
  refine lv_iadd (pc := 272) hx hb dL_law_272 ?_
  refine wsld (pc := 273) hx hb hX hbl hbA hS (j := i + 1) (nI_add i 1) (by omega) hL dL_law_273 ?_
  refine lv_aload_n (pc := 274) hx hb dL_law_274 rfl (lv_at hl 3 rfl) ?_
  refine lv_iload_n (pc := 275) hx hb dL_law_275 rfl (lv_at hl 0 rfl) ?_
  refine lv_iconst (pc := 276) (v := 2) hx hb dL_law_276 (by decide) ?_
  refine lv_iadd (pc := 277) hx hb dL_law_277 ?_
  refine wsld (pc := 278) hx hb hX hbl hbA hS (j := i + 2) (nI_add i 2) (by omega) hL dL_law_278 ?_
  refine lv_aload_n (pc := 279) hx hb dL_law_279 rfl (lv_at hl 3 rfl) ?_
  refine lv_iload_n (pc := 280) hx hb dL_law_280 rfl (lv_at hl 0 rfl) ?_
  refine lv_iconst (pc := 281) (v := 3) hx hb dL_law_281 (by decide) ?_
  refine lv_iadd (pc := 282) hx hb dL_law_282 ?_
  refine wsld (pc := 283) hx hb hX hbl hbA hS (j := i + 3) (nI_add i 3) (by omega) hL dL_law_283 ?_
  refine endi X.2.2.2.2 (runV (pc := 284) (As := [.int (xs (i + 1)), .int (xs (i + 2)), .int (xs (i + 3))]) (rest := [.int r]) X (c_X6_lay G l (fun k => A (73 + k)) H.size M N (xs (i + 1)) (xs (i + 2)) (xs (i + 3)) r M' hm) gL_X6_lay k_X6_lay ⟨rfl, rfl⟩ ⟨Nat.le_of_ble_eq_true rfl, Nat.le_of_ble_eq_true rfl⟩ (em_Lw_Mo_M G A I' J M N M') hP hD hS (ci := 6) rfl rfl (at_Mo_0 G (fun k => A (73 + k)) M N) rfl hl.1 rfl (Nat.le_of_ble_eq_true rfl) ⟨Nat.le_of_ble_eq_true rfl, Nat.le_of_ble_eq_true rfl⟩ dL_law_284) (em_Lw_Mo_M G A I' J M N M') hP hD hS (fun H locs hP hD hS => ?_)
  refine lv_icmp_eq (pc := 287) (tgt := 1545) hx hb dL_law_287 (by decide) (fun _ => ?_) (fun h => absurd rfl h)
  exact kk I' J M' N H locs hR hP hD hS
set_option maxHeartbeats 4000000 in
set_option maxRecDepth 100000 in
theorem law_case_2 (hop : Op_at) {p : Program} {l : Launch} {e : Env} {s : State} {m : MethodId} {below : List Frame} {meth : Method} {c : Code} {b L : Nat} {xs : Nat → Int32} (hL : L ≤ 384) (C0 : lw_At p s m meth c b L xs) {G : GT} {A : Nat → Nat} (X : CX G p s m meth c code 4 lw_tbl #[Value.ref b] RL (fun q : Nat => s.heap.size ≤ q)) (I : Nat → CS) (J : Nat → JS) (M : CS) (N : JS) (hR : Rel I J M N) (i : Nat) (hi : i + 6 ≤ L) (H : Heap) (locs : List Loc) (ls : Array Slot) (hP : va_P G.1 vwCl (w_Lw G A I J M N) H) (hD : va_D (fun q : Nat => s.heap.size ≤ q) (w_Lw G A I J M N)) (hS : va_S (fun q : Nat => s.heap.size ≤ q) s.heap H locs) (hl : lv_has ls 4 [(3, .int (nI i)), (2, .ref (A 73)), (1, .ref (A 0)), (0, .ref b)]) (kk : ∀ (I' : Nat → CS) (J' : Nat → JS) (M' : CS) (N' : JS) (H : Heap) (locs : List Loc), Rel I' J' M' N' → va_P G.1 vwCl (w_Lw G A I' J' M' N') H → va_D (fun q : Nat => s.heap.size ≤ q) (w_Lw G A I' J' M' N') → va_S (fun q : Nat => s.heap.size ≤ q) s.heap H locs → W p l e room_1 s m #[Value.ref b] below meth c H locs 87 2655 (lw_Z below #[Value.ref b] s) (F0 m 1545 ls [])) : W p l e room_1 s m #[Value.ref b] below meth c H locs 87 2655 (lw_Z below #[Value.ref b] s) (F0 m 292 ls []) := by
  obtain ⟨hx, hb, hr, hml, hown, hts, hX, hbl, hlocks, hgv⟩ := C0
  have hbA : ¬ (fun q : Nat => s.heap.size ≤ q) b := Nat.not_le.mpr hbl
  obtain ⟨r, I', M', ht, hm, hR⟩ := hop I J M N (xs (i + 1)) (xs (i + 2)) hR
  refine lv_aload_n (pc := 292) hx hb dL_law_292 rfl (lv_at hl 2 rfl) ?_
  refine lv_aload_n (pc := 293) hx hb dL_law_293 rfl (lv_at hl 3 rfl) ?_
  refine lv_iload_n (pc := 294) hx hb dL_law_294 rfl (lv_at hl 0 rfl) ?_
  refine lv_iconst (pc := 295) (v := 1) hx hb dL_law_295 (by decide) ?_
  refine lv_iadd (pc := 296) hx hb dL_law_296 ?_
  refine wsld (pc := 297) hx hb hX hbl hbA hS (j := i + 1) (nI_add i 1) (by omega) hL dL_law_297 ?_
  refine lv_aload_n (pc := 298) hx hb dL_law_298 rfl (lv_at hl 3 rfl) ?_
  refine lv_iload_n (pc := 299) hx hb dL_law_299 rfl (lv_at hl 0 rfl) ?_
  refine lv_iconst (pc := 300) (v := 2) hx hb dL_law_300 (by decide) ?_
  refine lv_iadd (pc := 301) hx hb dL_law_301 ?_
  refine wsld (pc := 302) hx hb hX hbl hbA hS (j := i + 2) (nI_add i 2) (by omega) hL dL_law_302 ?_
  refine endi X.2.2.2.2 (runV (pc := 303) (As := [.int (xs (i + 1)), .int (xs (i + 2))]) (rest := []) X (c_X5_at G l A H.size I J (xs (i + 1)) (xs (i + 2)) r I' ht) gL_X5_at k_X5_at ⟨rfl, rfl⟩ ⟨Nat.le_of_ble_eq_true rfl, Nat.le_of_ble_eq_true rfl⟩ (em_Lw_Tw_I G A I J M N I') hP hD hS (ci := 5) rfl rfl (at_Tw_0 G A I J) rfl hl.1 rfl (Nat.le_of_ble_eq_true rfl) ⟨Nat.le_of_ble_eq_true rfl, Nat.le_of_ble_eq_true rfl⟩ dL_law_303) (em_Lw_Tw_I G A I J M N I') hP hD hS (fun H locs hP hD hS => ?_)
  refine lv_aload_n (pc := 306) hx hb dL_law_306 rfl (lv_at hl 1 rfl) ?_
  refine lv_aload_n (pc := 307) hx hb dL_law_307 rfl (lv_at hl 3 rfl) ?_
  refine lv_iload_n (pc := 308) hx hb dL_law_308 rfl (lv_at hl 0 rfl) ?_
  refine lv_iconst (pc := 309) (v := 1) hx hb dL_law_309 (by decide) ?_
  refine lv_iadd (pc := 310) hx hb dL_law_310 ?_
  refine wsld (pc := 311) hx hb hX hbl hbA hS (j := i + 1) (nI_add i 1) (by omega) hL dL_law_311 ?_
  refine lv_aload_n (pc := 312) hx hb dL_law_312 rfl (lv_at hl 3 rfl) ?_
  refine lv_iload_n (pc := 313) hx hb dL_law_313 rfl (lv_at hl 0 rfl) ?_
  refine lv_iconst (pc := 314) (v := 2) hx hb dL_law_314 (by decide) ?_
  refine lv_iadd (pc := 315) hx hb dL_law_315 ?_
  refine wsld (pc := 316) hx hb hX hbl hbA hS (j := i + 2) (nI_add i 2) (by omega) hL dL_law_316 ?_
  refine endi X.2.2.2.2 (runV (pc := 317) (As := [.int (xs (i + 1)), .int (xs (i + 2))]) (rest := [.int r]) X (c_X6_at G l (fun k => A (73 + k)) H.size M N (xs (i + 1)) (xs (i + 2)) r M' hm) gL_X6_at k_X6_at ⟨rfl, rfl⟩ ⟨Nat.le_of_ble_eq_true rfl, Nat.le_of_ble_eq_true rfl⟩ (em_Lw_Mo_M G A I' J M N M') hP hD hS (ci := 6) rfl rfl (at_Mo_0 G (fun k => A (73 + k)) M N) rfl hl.1 rfl (Nat.le_of_ble_eq_true rfl) ⟨Nat.le_of_ble_eq_true rfl, Nat.le_of_ble_eq_true rfl⟩ dL_law_317) (em_Lw_Mo_M G A I' J M N M') hP hD hS (fun H locs hP hD hS => ?_)
  refine lv_icmp_eq (pc := 320) (tgt := 1545) hx hb dL_law_320 (by decide) (fun _ => ?_) (fun h => absurd rfl h)
  exact kk I' J M' N H locs hR hP hD hS
set_option maxHeartbeats 4000000 in
set_option maxRecDepth 100000 in
theorem law_case_3 (hop : Op_tear) {p : Program} {l : Launch} {e : Env} {s : State} {m : MethodId} {below : List Frame} {meth : Method} {c : Code} {b L : Nat} {xs : Nat → Int32} (hL : L ≤ 384) (C0 : lw_At p s m meth c b L xs) {G : GT} {A : Nat → Nat} (X : CX G p s m meth c code 4 lw_tbl #[Value.ref b] RL (fun q : Nat => s.heap.size ≤ q)) (I : Nat → CS) (J : Nat → JS) (M : CS) (N : JS) (hR : Rel I J M N) (i : Nat) (hi : i + 6 ≤ L) (H : Heap) (locs : List Loc) (ls : Array Slot) (hP : va_P G.1 vwCl (w_Lw G A I J M N) H) (hD : va_D (fun q : Nat => s.heap.size ≤ q) (w_Lw G A I J M N)) (hS : va_S (fun q : Nat => s.heap.size ≤ q) s.heap H locs) (hl : lv_has ls 4 [(3, .int (nI i)), (2, .ref (A 73)), (1, .ref (A 0)), (0, .ref b)]) (kk : ∀ (I' : Nat → CS) (J' : Nat → JS) (M' : CS) (N' : JS) (H : Heap) (locs : List Loc), Rel I' J' M' N' → va_P G.1 vwCl (w_Lw G A I' J' M' N') H → va_D (fun q : Nat => s.heap.size ≤ q) (w_Lw G A I' J' M' N') → va_S (fun q : Nat => s.heap.size ≤ q) s.heap H locs → W p l e room_1 s m #[Value.ref b] below meth c H locs 87 2655 (lw_Z below #[Value.ref b] s) (F0 m 1545 ls [])) : W p l e room_1 s m #[Value.ref b] below meth c H locs 87 2655 (lw_Z below #[Value.ref b] s) (F0 m 325 ls []) := by
  obtain ⟨hx, hb, hr, hml, hown, hts, hX, hbl, hlocks, hgv⟩ := C0
  have hbA : ¬ (fun q : Nat => s.heap.size ≤ q) b := Nat.not_le.mpr hbl
  obtain ⟨r, I', M', ht, hm, hR⟩ := hop I J M N (xs (i + 1)) hR
  refine lv_aload_n (pc := 325) hx hb dL_law_325 rfl (lv_at hl 2 rfl) ?_
  refine lv_aload_n (pc := 326) hx hb dL_law_326 rfl (lv_at hl 3 rfl) ?_
  refine lv_iload_n (pc := 327) hx hb dL_law_327 rfl (lv_at hl 0 rfl) ?_
  refine lv_iconst (pc := 328) (v := 1) hx hb dL_law_328 (by decide) ?_
  refine lv_iadd (pc := 329) hx hb dL_law_329 ?_
  refine wsld (pc := 330) hx hb hX hbl hbA hS (j := i + 1) (nI_add i 1) (by omega) hL dL_law_330 ?_
  refine endi X.2.2.2.2 (runV (pc := 331) (As := [.int (xs (i + 1))]) (rest := []) X (c_X5_tear G l A H.size I J (xs (i + 1)) r I' ht) gL_X5_tear k_X5_tear ⟨rfl, rfl⟩ ⟨Nat.le_of_ble_eq_true rfl, Nat.le_of_ble_eq_true rfl⟩ (em_Lw_Tw_I G A I J M N I') hP hD hS (ci := 5) rfl rfl (at_Tw_0 G A I J) rfl hl.1 rfl (Nat.le_of_ble_eq_true rfl) ⟨Nat.le_of_ble_eq_true rfl, Nat.le_of_ble_eq_true rfl⟩ dL_law_331) (em_Lw_Tw_I G A I J M N I') hP hD hS (fun H locs hP hD hS => ?_)
  refine lv_aload_n (pc := 334) hx hb dL_law_334 rfl (lv_at hl 1 rfl) ?_
  refine lv_aload_n (pc := 335) hx hb dL_law_335 rfl (lv_at hl 3 rfl) ?_
  refine lv_iload_n (pc := 336) hx hb dL_law_336 rfl (lv_at hl 0 rfl) ?_
  refine lv_iconst (pc := 337) (v := 1) hx hb dL_law_337 (by decide) ?_
  refine lv_iadd (pc := 338) hx hb dL_law_338 ?_
  refine wsld (pc := 339) hx hb hX hbl hbA hS (j := i + 1) (nI_add i 1) (by omega) hL dL_law_339 ?_
  refine endi X.2.2.2.2 (runV (pc := 340) (As := [.int (xs (i + 1))]) (rest := [.int r]) X (c_X6_tear G l (fun k => A (73 + k)) H.size M N (xs (i + 1)) r M' hm) gL_X6_tear k_X6_tear ⟨rfl, rfl⟩ ⟨Nat.le_of_ble_eq_true rfl, Nat.le_of_ble_eq_true rfl⟩ (em_Lw_Mo_M G A I' J M N M') hP hD hS (ci := 6) rfl rfl (at_Mo_0 G (fun k => A (73 + k)) M N) rfl hl.1 rfl (Nat.le_of_ble_eq_true rfl) ⟨Nat.le_of_ble_eq_true rfl, Nat.le_of_ble_eq_true rfl⟩ dL_law_340) (em_Lw_Mo_M G A I' J M N M') hP hD hS (fun H locs hP hD hS => ?_)
  refine lv_icmp_eq (pc := 343) (tgt := 1545) hx hb dL_law_343 (by decide) (fun _ => ?_) (fun h => absurd rfl h)
  exact kk I' J M' N H locs hR hP hD hS
set_option maxHeartbeats 4000000 in
set_option maxRecDepth 100000 in
theorem law_case_4 (hop : Op_copy) {p : Program} {l : Launch} {e : Env} {s : State} {m : MethodId} {below : List Frame} {meth : Method} {c : Code} {b L : Nat} {xs : Nat → Int32} (hL : L ≤ 384) (C0 : lw_At p s m meth c b L xs) {G : GT} {A : Nat → Nat} (X : CX G p s m meth c code 4 lw_tbl #[Value.ref b] RL (fun q : Nat => s.heap.size ≤ q)) (I : Nat → CS) (J : Nat → JS) (M : CS) (N : JS) (hR : Rel I J M N) (i : Nat) (hi : i + 6 ≤ L) (H : Heap) (locs : List Loc) (ls : Array Slot) (hP : va_P G.1 vwCl (w_Lw G A I J M N) H) (hD : va_D (fun q : Nat => s.heap.size ≤ q) (w_Lw G A I J M N)) (hS : va_S (fun q : Nat => s.heap.size ≤ q) s.heap H locs) (hl : lv_has ls 4 [(3, .int (nI i)), (2, .ref (A 73)), (1, .ref (A 0)), (0, .ref b)]) (kk : ∀ (I' : Nat → CS) (J' : Nat → JS) (M' : CS) (N' : JS) (H : Heap) (locs : List Loc), Rel I' J' M' N' → va_P G.1 vwCl (w_Lw G A I' J' M' N') H → va_D (fun q : Nat => s.heap.size ≤ q) (w_Lw G A I' J' M' N') → va_S (fun q : Nat => s.heap.size ≤ q) s.heap H locs → W p l e room_1 s m #[Value.ref b] below meth c H locs 87 2655 (lw_Z below #[Value.ref b] s) (F0 m 1545 ls [])) : W p l e room_1 s m #[Value.ref b] below meth c H locs 87 2655 (lw_Z below #[Value.ref b] s) (F0 m 348 ls []) := by
  obtain ⟨hx, hb, hr, hml, hown, hts, hX, hbl, hlocks, hgv⟩ := C0
  have hbA : ¬ (fun q : Nat => s.heap.size ≤ q) b := Nat.not_le.mpr hbl
  obtain ⟨r, I', M', ht, hm, hR⟩ := hop I J M N (xs (i + 1)) (xs (i + 2)) (xs (i + 3)) (xs (i + 4)) (xs (i + 5)) hR
  refine lv_aload_n (pc := 348) hx hb dL_law_348 rfl (lv_at hl 2 rfl) ?_
  refine lv_aload_n (pc := 349) hx hb dL_law_349 rfl (lv_at hl 3 rfl) ?_
  refine lv_iload_n (pc := 350) hx hb dL_law_350 rfl (lv_at hl 0 rfl) ?_
  refine lv_iconst (pc := 351) (v := 1) hx hb dL_law_351 (by decide) ?_
  refine lv_iadd (pc := 352) hx hb dL_law_352 ?_
  refine wsld (pc := 353) hx hb hX hbl hbA hS (j := i + 1) (nI_add i 1) (by omega) hL dL_law_353 ?_
  refine lv_aload_n (pc := 354) hx hb dL_law_354 rfl (lv_at hl 3 rfl) ?_
  refine lv_iload_n (pc := 355) hx hb dL_law_355 rfl (lv_at hl 0 rfl) ?_
  refine lv_iconst (pc := 356) (v := 2) hx hb dL_law_356 (by decide) ?_
  refine lv_iadd (pc := 357) hx hb dL_law_357 ?_
  refine wsld (pc := 358) hx hb hX hbl hbA hS (j := i + 2) (nI_add i 2) (by omega) hL dL_law_358 ?_
  refine lv_aload_n (pc := 359) hx hb dL_law_359 rfl (lv_at hl 3 rfl) ?_
  refine lv_iload_n (pc := 360) hx hb dL_law_360 rfl (lv_at hl 0 rfl) ?_
  refine lv_iconst (pc := 361) (v := 3) hx hb dL_law_361 (by decide) ?_
  refine lv_iadd (pc := 362) hx hb dL_law_362 ?_
  refine wsld (pc := 363) hx hb hX hbl hbA hS (j := i + 3) (nI_add i 3) (by omega) hL dL_law_363 ?_
  refine lv_aload_n (pc := 364) hx hb dL_law_364 rfl (lv_at hl 3 rfl) ?_
  refine lv_iload_n (pc := 365) hx hb dL_law_365 rfl (lv_at hl 0 rfl) ?_
  refine lv_iconst (pc := 366) (v := 4) hx hb dL_law_366 (by decide) ?_
  refine lv_iadd (pc := 367) hx hb dL_law_367 ?_
  refine wsld (pc := 368) hx hb hX hbl hbA hS (j := i + 4) (nI_add i 4) (by omega) hL dL_law_368 ?_
  refine lv_aload_n (pc := 369) hx hb dL_law_369 rfl (lv_at hl 3 rfl) ?_
  refine lv_iload_n (pc := 370) hx hb dL_law_370 rfl (lv_at hl 0 rfl) ?_
  refine lv_iconst (pc := 371) (v := 5) hx hb dL_law_371 (by decide) ?_
  refine lv_iadd (pc := 372) hx hb dL_law_372 ?_
  refine wsld (pc := 373) hx hb hX hbl hbA hS (j := i + 5) (nI_add i 5) (by omega) hL dL_law_373 ?_
  refine endi X.2.2.2.2 (runV (pc := 374) (As := [.int (xs (i + 1)), .int (xs (i + 2)), .int (xs (i + 3)), .int (xs (i + 4)), .int (xs (i + 5))]) (rest := []) X (c_X5_copy G l A H.size I J (xs (i + 1)) (xs (i + 2)) (xs (i + 3)) (xs (i + 4)) (xs (i + 5)) r I' ht) gL_X5_copy k_X5_copy ⟨rfl, rfl⟩ ⟨Nat.le_of_ble_eq_true rfl, Nat.le_of_ble_eq_true rfl⟩ (em_Lw_Tw_I G A I J M N I') hP hD hS (ci := 5) rfl rfl (at_Tw_0 G A I J) rfl hl.1 rfl (Nat.le_of_ble_eq_true rfl) ⟨Nat.le_of_ble_eq_true rfl, Nat.le_of_ble_eq_true rfl⟩ dL_law_374) (em_Lw_Tw_I G A I J M N I') hP hD hS (fun H locs hP hD hS => ?_)
  refine lv_aload_n (pc := 377) hx hb dL_law_377 rfl (lv_at hl 1 rfl) ?_
  refine lv_aload_n (pc := 378) hx hb dL_law_378 rfl (lv_at hl 3 rfl) ?_
  refine lv_iload_n (pc := 379) hx hb dL_law_379 rfl (lv_at hl 0 rfl) ?_
  refine lv_iconst (pc := 380) (v := 1) hx hb dL_law_380 (by decide) ?_
  refine lv_iadd (pc := 381) hx hb dL_law_381 ?_
  refine wsld (pc := 382) hx hb hX hbl hbA hS (j := i + 1) (nI_add i 1) (by omega) hL dL_law_382 ?_
  refine lv_aload_n (pc := 383) hx hb dL_law_383 rfl (lv_at hl 3 rfl) ?_
  refine lv_iload_n (pc := 384) hx hb dL_law_384 rfl (lv_at hl 0 rfl) ?_
  refine lv_iconst (pc := 385) (v := 2) hx hb dL_law_385 (by decide) ?_
  refine lv_iadd (pc := 386) hx hb dL_law_386 ?_
  refine wsld (pc := 387) hx hb hX hbl hbA hS (j := i + 2) (nI_add i 2) (by omega) hL dL_law_387 ?_
  refine lv_aload_n (pc := 388) hx hb dL_law_388 rfl (lv_at hl 3 rfl) ?_
  refine lv_iload_n (pc := 389) hx hb dL_law_389 rfl (lv_at hl 0 rfl) ?_
  refine lv_iconst (pc := 390) (v := 3) hx hb dL_law_390 (by decide) ?_
  refine lv_iadd (pc := 391) hx hb dL_law_391 ?_
  refine wsld (pc := 392) hx hb hX hbl hbA hS (j := i + 3) (nI_add i 3) (by omega) hL dL_law_392 ?_
  refine lv_aload_n (pc := 393) hx hb dL_law_393 rfl (lv_at hl 3 rfl) ?_
  refine lv_iload_n (pc := 394) hx hb dL_law_394 rfl (lv_at hl 0 rfl) ?_
  refine lv_iconst (pc := 395) (v := 4) hx hb dL_law_395 (by decide) ?_
  refine lv_iadd (pc := 396) hx hb dL_law_396 ?_
  refine wsld (pc := 397) hx hb hX hbl hbA hS (j := i + 4) (nI_add i 4) (by omega) hL dL_law_397 ?_
  refine lv_aload_n (pc := 398) hx hb dL_law_398 rfl (lv_at hl 3 rfl) ?_
  refine lv_iload_n (pc := 399) hx hb dL_law_399 rfl (lv_at hl 0 rfl) ?_
  refine lv_iconst (pc := 400) (v := 5) hx hb dL_law_400 (by decide) ?_
  refine lv_iadd (pc := 401) hx hb dL_law_401 ?_
  refine wsld (pc := 402) hx hb hX hbl hbA hS (j := i + 5) (nI_add i 5) (by omega) hL dL_law_402 ?_
  refine endi X.2.2.2.2 (runV (pc := 403) (As := [.int (xs (i + 1)), .int (xs (i + 2)), .int (xs (i + 3)), .int (xs (i + 4)), .int (xs (i + 5))]) (rest := [.int r]) X (c_X6_copy G l (fun k => A (73 + k)) H.size M N (xs (i + 1)) (xs (i + 2)) (xs (i + 3)) (xs (i + 4)) (xs (i + 5)) r M' hm) gL_X6_copy k_X6_copy ⟨rfl, rfl⟩ ⟨Nat.le_of_ble_eq_true rfl, Nat.le_of_ble_eq_true rfl⟩ (em_Lw_Mo_M G A I' J M N M') hP hD hS (ci := 6) rfl rfl (at_Mo_0 G (fun k => A (73 + k)) M N) rfl hl.1 rfl (Nat.le_of_ble_eq_true rfl) ⟨Nat.le_of_ble_eq_true rfl, Nat.le_of_ble_eq_true rfl⟩ dL_law_403) (em_Lw_Mo_M G A I' J M N M') hP hD hS (fun H locs hP hD hS => ?_)
  refine lv_icmp_eq (pc := 406) (tgt := 1545) hx hb dL_law_406 (by decide) (fun _ => ?_) (fun h => absurd rfl h)
  exact kk I' J M' N H locs hR hP hD hS
set_option maxHeartbeats 4000000 in
set_option maxRecDepth 100000 in
theorem law_case_5 (hop : Op_mean) {p : Program} {l : Launch} {e : Env} {s : State} {m : MethodId} {below : List Frame} {meth : Method} {c : Code} {b L : Nat} {xs : Nat → Int32} (hL : L ≤ 384) (C0 : lw_At p s m meth c b L xs) {G : GT} {A : Nat → Nat} (X : CX G p s m meth c code 4 lw_tbl #[Value.ref b] RL (fun q : Nat => s.heap.size ≤ q)) (I : Nat → CS) (J : Nat → JS) (M : CS) (N : JS) (hR : Rel I J M N) (i : Nat) (hi : i + 6 ≤ L) (H : Heap) (locs : List Loc) (ls : Array Slot) (hP : va_P G.1 vwCl (w_Lw G A I J M N) H) (hD : va_D (fun q : Nat => s.heap.size ≤ q) (w_Lw G A I J M N)) (hS : va_S (fun q : Nat => s.heap.size ≤ q) s.heap H locs) (hl : lv_has ls 4 [(3, .int (nI i)), (2, .ref (A 73)), (1, .ref (A 0)), (0, .ref b)]) (kk : ∀ (I' : Nat → CS) (J' : Nat → JS) (M' : CS) (N' : JS) (H : Heap) (locs : List Loc), Rel I' J' M' N' → va_P G.1 vwCl (w_Lw G A I' J' M' N') H → va_D (fun q : Nat => s.heap.size ≤ q) (w_Lw G A I' J' M' N') → va_S (fun q : Nat => s.heap.size ≤ q) s.heap H locs → W p l e room_1 s m #[Value.ref b] below meth c H locs 87 2655 (lw_Z below #[Value.ref b] s) (F0 m 1545 ls [])) : W p l e room_1 s m #[Value.ref b] below meth c H locs 87 2655 (lw_Z below #[Value.ref b] s) (F0 m 411 ls []) := by
  obtain ⟨hx, hb, hr, hml, hown, hts, hX, hbl, hlocks, hgv⟩ := C0
  have hbA : ¬ (fun q : Nat => s.heap.size ≤ q) b := Nat.not_le.mpr hbl
  obtain ⟨r, I', M', ht, hm, hR⟩ := hop I J M N (xs (i + 1)) hR
  refine lv_aload_n (pc := 411) hx hb dL_law_411 rfl (lv_at hl 2 rfl) ?_
  refine lv_aload_n (pc := 412) hx hb dL_law_412 rfl (lv_at hl 3 rfl) ?_
  refine lv_iload_n (pc := 413) hx hb dL_law_413 rfl (lv_at hl 0 rfl) ?_
  refine lv_iconst (pc := 414) (v := 1) hx hb dL_law_414 (by decide) ?_
  refine lv_iadd (pc := 415) hx hb dL_law_415 ?_
  refine wsld (pc := 416) hx hb hX hbl hbA hS (j := i + 1) (nI_add i 1) (by omega) hL dL_law_416 ?_
  refine endi X.2.2.2.2 (runV (pc := 417) (As := [.int (xs (i + 1))]) (rest := []) X (c_X5_mean G l A H.size I J (xs (i + 1)) r I' ht) gL_X5_mean k_X5_mean ⟨rfl, rfl⟩ ⟨Nat.le_of_ble_eq_true rfl, Nat.le_of_ble_eq_true rfl⟩ (em_Lw_Tw_I G A I J M N I') hP hD hS (ci := 5) rfl rfl (at_Tw_0 G A I J) rfl hl.1 rfl (Nat.le_of_ble_eq_true rfl) ⟨Nat.le_of_ble_eq_true rfl, Nat.le_of_ble_eq_true rfl⟩ dL_law_417) (em_Lw_Tw_I G A I J M N I') hP hD hS (fun H locs hP hD hS => ?_)
  refine lv_aload_n (pc := 420) hx hb dL_law_420 rfl (lv_at hl 1 rfl) ?_
  refine lv_aload_n (pc := 421) hx hb dL_law_421 rfl (lv_at hl 3 rfl) ?_
  refine lv_iload_n (pc := 422) hx hb dL_law_422 rfl (lv_at hl 0 rfl) ?_
  refine lv_iconst (pc := 423) (v := 1) hx hb dL_law_423 (by decide) ?_
  refine lv_iadd (pc := 424) hx hb dL_law_424 ?_
  refine wsld (pc := 425) hx hb hX hbl hbA hS (j := i + 1) (nI_add i 1) (by omega) hL dL_law_425 ?_
  refine endi X.2.2.2.2 (runV (pc := 426) (As := [.int (xs (i + 1))]) (rest := [.int r]) X (c_X6_mean G l (fun k => A (73 + k)) H.size M N (xs (i + 1)) r M' hm) gL_X6_mean k_X6_mean ⟨rfl, rfl⟩ ⟨Nat.le_of_ble_eq_true rfl, Nat.le_of_ble_eq_true rfl⟩ (em_Lw_Mo_M G A I' J M N M') hP hD hS (ci := 6) rfl rfl (at_Mo_0 G (fun k => A (73 + k)) M N) rfl hl.1 rfl (Nat.le_of_ble_eq_true rfl) ⟨Nat.le_of_ble_eq_true rfl, Nat.le_of_ble_eq_true rfl⟩ dL_law_426) (em_Lw_Mo_M G A I' J M N M') hP hD hS (fun H locs hP hD hS => ?_)
  refine lv_icmp_eq (pc := 429) (tgt := 1545) hx hb dL_law_429 (by decide) (fun _ => ?_) (fun h => absurd rfl h)
  exact kk I' J M' N H locs hR hP hD hS
set_option maxHeartbeats 4000000 in
set_option maxRecDepth 100000 in
theorem law_case_6 (hop : Op_text) {p : Program} {l : Launch} {e : Env} {s : State} {m : MethodId} {below : List Frame} {meth : Method} {c : Code} {b L : Nat} {xs : Nat → Int32} (hL : L ≤ 384) (C0 : lw_At p s m meth c b L xs) {G : GT} {A : Nat → Nat} (X : CX G p s m meth c code 4 lw_tbl #[Value.ref b] RL (fun q : Nat => s.heap.size ≤ q)) (I : Nat → CS) (J : Nat → JS) (M : CS) (N : JS) (hR : Rel I J M N) (i : Nat) (hi : i + 6 ≤ L) (H : Heap) (locs : List Loc) (ls : Array Slot) (hP : va_P G.1 vwCl (w_Lw G A I J M N) H) (hD : va_D (fun q : Nat => s.heap.size ≤ q) (w_Lw G A I J M N)) (hS : va_S (fun q : Nat => s.heap.size ≤ q) s.heap H locs) (hl : lv_has ls 4 [(3, .int (nI i)), (2, .ref (A 73)), (1, .ref (A 0)), (0, .ref b)]) (kk : ∀ (I' : Nat → CS) (J' : Nat → JS) (M' : CS) (N' : JS) (H : Heap) (locs : List Loc), Rel I' J' M' N' → va_P G.1 vwCl (w_Lw G A I' J' M' N') H → va_D (fun q : Nat => s.heap.size ≤ q) (w_Lw G A I' J' M' N') → va_S (fun q : Nat => s.heap.size ≤ q) s.heap H locs → W p l e room_1 s m #[Value.ref b] below meth c H locs 87 2655 (lw_Z below #[Value.ref b] s) (F0 m 1545 ls [])) : W p l e room_1 s m #[Value.ref b] below meth c H locs 87 2655 (lw_Z below #[Value.ref b] s) (F0 m 434 ls []) := by
  obtain ⟨hx, hb, hr, hml, hown, hts, hX, hbl, hlocks, hgv⟩ := C0
  have hbA : ¬ (fun q : Nat => s.heap.size ≤ q) b := Nat.not_le.mpr hbl
  obtain ⟨r, I', M', ht, hm, hR⟩ := hop I J M N (xs (i + 1)) (xs (i + 2)) hR
  refine lv_aload_n (pc := 434) hx hb dL_law_434 rfl (lv_at hl 2 rfl) ?_
  refine lv_aload_n (pc := 435) hx hb dL_law_435 rfl (lv_at hl 3 rfl) ?_
  refine lv_iload_n (pc := 436) hx hb dL_law_436 rfl (lv_at hl 0 rfl) ?_
  refine lv_iconst (pc := 437) (v := 1) hx hb dL_law_437 (by decide) ?_
  refine lv_iadd (pc := 438) hx hb dL_law_438 ?_
  refine wsld (pc := 439) hx hb hX hbl hbA hS (j := i + 1) (nI_add i 1) (by omega) hL dL_law_439 ?_
  refine lv_aload_n (pc := 440) hx hb dL_law_440 rfl (lv_at hl 3 rfl) ?_
  refine lv_iload_n (pc := 441) hx hb dL_law_441 rfl (lv_at hl 0 rfl) ?_
  refine lv_iconst (pc := 442) (v := 2) hx hb dL_law_442 (by decide) ?_
  refine lv_iadd (pc := 443) hx hb dL_law_443 ?_
  refine wsld (pc := 444) hx hb hX hbl hbA hS (j := i + 2) (nI_add i 2) (by omega) hL dL_law_444 ?_
  refine endi X.2.2.2.2 (runV (pc := 445) (As := [.int (xs (i + 1)), .int (xs (i + 2))]) (rest := []) X (c_X5_text G l A H.size I J (xs (i + 1)) (xs (i + 2)) r I' ht) gL_X5_text k_X5_text ⟨rfl, rfl⟩ ⟨Nat.le_of_ble_eq_true rfl, Nat.le_of_ble_eq_true rfl⟩ (em_Lw_Tw_I G A I J M N I') hP hD hS (ci := 5) rfl rfl (at_Tw_0 G A I J) rfl hl.1 rfl (Nat.le_of_ble_eq_true rfl) ⟨Nat.le_of_ble_eq_true rfl, Nat.le_of_ble_eq_true rfl⟩ dL_law_445) (em_Lw_Tw_I G A I J M N I') hP hD hS (fun H locs hP hD hS => ?_)
  refine lv_aload_n (pc := 448) hx hb dL_law_448 rfl (lv_at hl 1 rfl) ?_
  refine lv_aload_n (pc := 449) hx hb dL_law_449 rfl (lv_at hl 3 rfl) ?_
  refine lv_iload_n (pc := 450) hx hb dL_law_450 rfl (lv_at hl 0 rfl) ?_
  refine lv_iconst (pc := 451) (v := 1) hx hb dL_law_451 (by decide) ?_
  refine lv_iadd (pc := 452) hx hb dL_law_452 ?_
  refine wsld (pc := 453) hx hb hX hbl hbA hS (j := i + 1) (nI_add i 1) (by omega) hL dL_law_453 ?_
  refine lv_aload_n (pc := 454) hx hb dL_law_454 rfl (lv_at hl 3 rfl) ?_
  refine lv_iload_n (pc := 455) hx hb dL_law_455 rfl (lv_at hl 0 rfl) ?_
  refine lv_iconst (pc := 456) (v := 2) hx hb dL_law_456 (by decide) ?_
  refine lv_iadd (pc := 457) hx hb dL_law_457 ?_
  refine wsld (pc := 458) hx hb hX hbl hbA hS (j := i + 2) (nI_add i 2) (by omega) hL dL_law_458 ?_
  refine endi X.2.2.2.2 (runV (pc := 459) (As := [.int (xs (i + 1)), .int (xs (i + 2))]) (rest := [.int r]) X (c_X6_text G l (fun k => A (73 + k)) H.size M N (xs (i + 1)) (xs (i + 2)) r M' hm) gL_X6_text k_X6_text ⟨rfl, rfl⟩ ⟨Nat.le_of_ble_eq_true rfl, Nat.le_of_ble_eq_true rfl⟩ (em_Lw_Mo_M G A I' J M N M') hP hD hS (ci := 6) rfl rfl (at_Mo_0 G (fun k => A (73 + k)) M N) rfl hl.1 rfl (Nat.le_of_ble_eq_true rfl) ⟨Nat.le_of_ble_eq_true rfl, Nat.le_of_ble_eq_true rfl⟩ dL_law_459) (em_Lw_Mo_M G A I' J M N M') hP hD hS (fun H locs hP hD hS => ?_)
  refine lv_icmp_eq (pc := 462) (tgt := 1545) hx hb dL_law_462 (by decide) (fun _ => ?_) (fun h => absurd rfl h)
  exact kk I' J M' N H locs hR hP hD hS
set_option maxHeartbeats 4000000 in
set_option maxRecDepth 100000 in
theorem law_case_7 (hop : Op_put) {p : Program} {l : Launch} {e : Env} {s : State} {m : MethodId} {below : List Frame} {meth : Method} {c : Code} {b L : Nat} {xs : Nat → Int32} (hL : L ≤ 384) (C0 : lw_At p s m meth c b L xs) {G : GT} {A : Nat → Nat} (X : CX G p s m meth c code 4 lw_tbl #[Value.ref b] RL (fun q : Nat => s.heap.size ≤ q)) (I : Nat → CS) (J : Nat → JS) (M : CS) (N : JS) (hR : Rel I J M N) (i : Nat) (hi : i + 6 ≤ L) (H : Heap) (locs : List Loc) (ls : Array Slot) (hP : va_P G.1 vwCl (w_Lw G A I J M N) H) (hD : va_D (fun q : Nat => s.heap.size ≤ q) (w_Lw G A I J M N)) (hS : va_S (fun q : Nat => s.heap.size ≤ q) s.heap H locs) (hl : lv_has ls 4 [(3, .int (nI i)), (2, .ref (A 73)), (1, .ref (A 0)), (0, .ref b)]) (kk : ∀ (I' : Nat → CS) (J' : Nat → JS) (M' : CS) (N' : JS) (H : Heap) (locs : List Loc), Rel I' J' M' N' → va_P G.1 vwCl (w_Lw G A I' J' M' N') H → va_D (fun q : Nat => s.heap.size ≤ q) (w_Lw G A I' J' M' N') → va_S (fun q : Nat => s.heap.size ≤ q) s.heap H locs → W p l e room_1 s m #[Value.ref b] below meth c H locs 87 2655 (lw_Z below #[Value.ref b] s) (F0 m 1545 ls [])) : W p l e room_1 s m #[Value.ref b] below meth c H locs 87 2655 (lw_Z below #[Value.ref b] s) (F0 m 467 ls []) := by
  obtain ⟨hx, hb, hr, hml, hown, hts, hX, hbl, hlocks, hgv⟩ := C0
  have hbA : ¬ (fun q : Nat => s.heap.size ≤ q) b := Nat.not_le.mpr hbl
  obtain ⟨r, I', M', ht, hm, hR⟩ := hop I J M N (xs (i + 1)) (xs (i + 2)) (xs (i + 3)) hR
  refine lv_aload_n (pc := 467) hx hb dL_law_467 rfl (lv_at hl 2 rfl) ?_
  refine lv_aload_n (pc := 468) hx hb dL_law_468 rfl (lv_at hl 3 rfl) ?_
  refine lv_iload_n (pc := 469) hx hb dL_law_469 rfl (lv_at hl 0 rfl) ?_
  refine lv_iconst (pc := 470) (v := 1) hx hb dL_law_470 (by decide) ?_
  refine lv_iadd (pc := 471) hx hb dL_law_471 ?_
  refine wsld (pc := 472) hx hb hX hbl hbA hS (j := i + 1) (nI_add i 1) (by omega) hL dL_law_472 ?_
  refine lv_aload_n (pc := 473) hx hb dL_law_473 rfl (lv_at hl 3 rfl) ?_
  refine lv_iload_n (pc := 474) hx hb dL_law_474 rfl (lv_at hl 0 rfl) ?_
  refine lv_iconst (pc := 475) (v := 2) hx hb dL_law_475 (by decide) ?_
  refine lv_iadd (pc := 476) hx hb dL_law_476 ?_
  refine wsld (pc := 477) hx hb hX hbl hbA hS (j := i + 2) (nI_add i 2) (by omega) hL dL_law_477 ?_
  refine lv_aload_n (pc := 478) hx hb dL_law_478 rfl (lv_at hl 3 rfl) ?_
  refine lv_iload_n (pc := 479) hx hb dL_law_479 rfl (lv_at hl 0 rfl) ?_
  refine lv_iconst (pc := 480) (v := 3) hx hb dL_law_480 (by decide) ?_
  refine lv_iadd (pc := 481) hx hb dL_law_481 ?_
  refine wsld (pc := 482) hx hb hX hbl hbA hS (j := i + 3) (nI_add i 3) (by omega) hL dL_law_482 ?_
  refine endi X.2.2.2.2 (runV (pc := 483) (As := [.int (xs (i + 1)), .int (xs (i + 2)), .int (xs (i + 3))]) (rest := []) X (c_X5_put G l A H.size I J (xs (i + 1)) (xs (i + 2)) (xs (i + 3)) r I' ht) gL_X5_put k_X5_put ⟨rfl, rfl⟩ ⟨Nat.le_of_ble_eq_true rfl, Nat.le_of_ble_eq_true rfl⟩ (em_Lw_Tw_I G A I J M N I') hP hD hS (ci := 5) rfl rfl (at_Tw_0 G A I J) rfl hl.1 rfl (Nat.le_of_ble_eq_true rfl) ⟨Nat.le_of_ble_eq_true rfl, Nat.le_of_ble_eq_true rfl⟩ dL_law_483) (em_Lw_Tw_I G A I J M N I') hP hD hS (fun H locs hP hD hS => ?_)
  refine lv_aload_n (pc := 486) hx hb dL_law_486 rfl (lv_at hl 1 rfl) ?_
  refine lv_aload_n (pc := 487) hx hb dL_law_487 rfl (lv_at hl 3 rfl) ?_
  refine lv_iload_n (pc := 488) hx hb dL_law_488 rfl (lv_at hl 0 rfl) ?_
  refine lv_iconst (pc := 489) (v := 1) hx hb dL_law_489 (by decide) ?_
  refine lv_iadd (pc := 490) hx hb dL_law_490 ?_
  refine wsld (pc := 491) hx hb hX hbl hbA hS (j := i + 1) (nI_add i 1) (by omega) hL dL_law_491 ?_
  refine lv_aload_n (pc := 492) hx hb dL_law_492 rfl (lv_at hl 3 rfl) ?_
  refine lv_iload_n (pc := 493) hx hb dL_law_493 rfl (lv_at hl 0 rfl) ?_
  refine lv_iconst (pc := 494) (v := 2) hx hb dL_law_494 (by decide) ?_
  refine lv_iadd (pc := 495) hx hb dL_law_495 ?_
  refine wsld (pc := 496) hx hb hX hbl hbA hS (j := i + 2) (nI_add i 2) (by omega) hL dL_law_496 ?_
  refine lv_aload_n (pc := 497) hx hb dL_law_497 rfl (lv_at hl 3 rfl) ?_
  refine lv_iload_n (pc := 498) hx hb dL_law_498 rfl (lv_at hl 0 rfl) ?_
  refine lv_iconst (pc := 499) (v := 3) hx hb dL_law_499 (by decide) ?_
  refine lv_iadd (pc := 500) hx hb dL_law_500 ?_
  refine wsld (pc := 501) hx hb hX hbl hbA hS (j := i + 3) (nI_add i 3) (by omega) hL dL_law_501 ?_
  refine endi X.2.2.2.2 (runV (pc := 502) (As := [.int (xs (i + 1)), .int (xs (i + 2)), .int (xs (i + 3))]) (rest := [.int r]) X (c_X6_put G l (fun k => A (73 + k)) H.size M N (xs (i + 1)) (xs (i + 2)) (xs (i + 3)) r M' hm) gL_X6_put k_X6_put ⟨rfl, rfl⟩ ⟨Nat.le_of_ble_eq_true rfl, Nat.le_of_ble_eq_true rfl⟩ (em_Lw_Mo_M G A I' J M N M') hP hD hS (ci := 6) rfl rfl (at_Mo_0 G (fun k => A (73 + k)) M N) rfl hl.1 rfl (Nat.le_of_ble_eq_true rfl) ⟨Nat.le_of_ble_eq_true rfl, Nat.le_of_ble_eq_true rfl⟩ dL_law_502) (em_Lw_Mo_M G A I' J M N M') hP hD hS (fun H locs hP hD hS => ?_)
  refine lv_icmp_eq (pc := 505) (tgt := 1545) hx hb dL_law_505 (by decide) (fun _ => ?_) (fun h => absurd rfl h)
  exact kk I' J M' N H locs hR hP hD hS
set_option maxHeartbeats 4000000 in
set_option maxRecDepth 100000 in
theorem law_case_8 (hop : Op_fault) {p : Program} {l : Launch} {e : Env} {s : State} {m : MethodId} {below : List Frame} {meth : Method} {c : Code} {b L : Nat} {xs : Nat → Int32} (hL : L ≤ 384) (C0 : lw_At p s m meth c b L xs) {G : GT} {A : Nat → Nat} (X : CX G p s m meth c code 4 lw_tbl #[Value.ref b] RL (fun q : Nat => s.heap.size ≤ q)) (I : Nat → CS) (J : Nat → JS) (M : CS) (N : JS) (hR : Rel I J M N) (i : Nat) (hi : i + 6 ≤ L) (H : Heap) (locs : List Loc) (ls : Array Slot) (hP : va_P G.1 vwCl (w_Lw G A I J M N) H) (hD : va_D (fun q : Nat => s.heap.size ≤ q) (w_Lw G A I J M N)) (hS : va_S (fun q : Nat => s.heap.size ≤ q) s.heap H locs) (hl : lv_has ls 4 [(3, .int (nI i)), (2, .ref (A 73)), (1, .ref (A 0)), (0, .ref b)]) (kk : ∀ (I' : Nat → CS) (J' : Nat → JS) (M' : CS) (N' : JS) (H : Heap) (locs : List Loc), Rel I' J' M' N' → va_P G.1 vwCl (w_Lw G A I' J' M' N') H → va_D (fun q : Nat => s.heap.size ≤ q) (w_Lw G A I' J' M' N') → va_S (fun q : Nat => s.heap.size ≤ q) s.heap H locs → W p l e room_1 s m #[Value.ref b] below meth c H locs 87 2655 (lw_Z below #[Value.ref b] s) (F0 m 1545 ls [])) : W p l e room_1 s m #[Value.ref b] below meth c H locs 87 2655 (lw_Z below #[Value.ref b] s) (F0 m 510 ls []) := by
  obtain ⟨hx, hb, hr, hml, hown, hts, hX, hbl, hlocks, hgv⟩ := C0
  have hbA : ¬ (fun q : Nat => s.heap.size ≤ q) b := Nat.not_le.mpr hbl
  obtain ⟨r, I', M', ht, hm, hR⟩ := hop I J M N (xs (i + 1)) hR
  refine lv_aload_n (pc := 510) hx hb dL_law_510 rfl (lv_at hl 2 rfl) ?_
  refine lv_aload_n (pc := 511) hx hb dL_law_511 rfl (lv_at hl 3 rfl) ?_
  refine lv_iload_n (pc := 512) hx hb dL_law_512 rfl (lv_at hl 0 rfl) ?_
  refine lv_iconst (pc := 513) (v := 1) hx hb dL_law_513 (by decide) ?_
  refine lv_iadd (pc := 514) hx hb dL_law_514 ?_
  refine wsld (pc := 515) hx hb hX hbl hbA hS (j := i + 1) (nI_add i 1) (by omega) hL dL_law_515 ?_
  refine endi X.2.2.2.2 (runV (pc := 516) (As := [.int (xs (i + 1))]) (rest := []) X (c_X5_fault G l A H.size I J (xs (i + 1)) r I' ht) gL_X5_fault k_X5_fault ⟨rfl, rfl⟩ ⟨Nat.le_of_ble_eq_true rfl, Nat.le_of_ble_eq_true rfl⟩ (em_Lw_Tw_I G A I J M N I') hP hD hS (ci := 5) rfl rfl (at_Tw_0 G A I J) rfl hl.1 rfl (Nat.le_of_ble_eq_true rfl) ⟨Nat.le_of_ble_eq_true rfl, Nat.le_of_ble_eq_true rfl⟩ dL_law_516) (em_Lw_Tw_I G A I J M N I') hP hD hS (fun H locs hP hD hS => ?_)
  refine lv_aload_n (pc := 519) hx hb dL_law_519 rfl (lv_at hl 1 rfl) ?_
  refine lv_aload_n (pc := 520) hx hb dL_law_520 rfl (lv_at hl 3 rfl) ?_
  refine lv_iload_n (pc := 521) hx hb dL_law_521 rfl (lv_at hl 0 rfl) ?_
  refine lv_iconst (pc := 522) (v := 1) hx hb dL_law_522 (by decide) ?_
  refine lv_iadd (pc := 523) hx hb dL_law_523 ?_
  refine wsld (pc := 524) hx hb hX hbl hbA hS (j := i + 1) (nI_add i 1) (by omega) hL dL_law_524 ?_
  refine endi X.2.2.2.2 (runV (pc := 525) (As := [.int (xs (i + 1))]) (rest := [.int r]) X (c_X6_fault G l (fun k => A (73 + k)) H.size M N (xs (i + 1)) r M' hm) gL_X6_fault k_X6_fault ⟨rfl, rfl⟩ ⟨Nat.le_of_ble_eq_true rfl, Nat.le_of_ble_eq_true rfl⟩ (em_Lw_Mo_M G A I' J M N M') hP hD hS (ci := 6) rfl rfl (at_Mo_0 G (fun k => A (73 + k)) M N) rfl hl.1 rfl (Nat.le_of_ble_eq_true rfl) ⟨Nat.le_of_ble_eq_true rfl, Nat.le_of_ble_eq_true rfl⟩ dL_law_525) (em_Lw_Mo_M G A I' J M N M') hP hD hS (fun H locs hP hD hS => ?_)
  refine lv_icmp_eq (pc := 528) (tgt := 1545) hx hb dL_law_528 (by decide) (fun _ => ?_) (fun h => absurd rfl h)
  exact kk I' J M' N H locs hR hP hD hS
set_option maxHeartbeats 4000000 in
set_option maxRecDepth 100000 in
theorem law_case_9 (hop : Op_chain) {p : Program} {l : Launch} {e : Env} {s : State} {m : MethodId} {below : List Frame} {meth : Method} {c : Code} {b L : Nat} {xs : Nat → Int32} (hL : L ≤ 384) (C0 : lw_At p s m meth c b L xs) {G : GT} {A : Nat → Nat} (X : CX G p s m meth c code 4 lw_tbl #[Value.ref b] RL (fun q : Nat => s.heap.size ≤ q)) (I : Nat → CS) (J : Nat → JS) (M : CS) (N : JS) (hR : Rel I J M N) (i : Nat) (hi : i + 6 ≤ L) (H : Heap) (locs : List Loc) (ls : Array Slot) (hP : va_P G.1 vwCl (w_Lw G A I J M N) H) (hD : va_D (fun q : Nat => s.heap.size ≤ q) (w_Lw G A I J M N)) (hS : va_S (fun q : Nat => s.heap.size ≤ q) s.heap H locs) (hl : lv_has ls 4 [(3, .int (nI i)), (2, .ref (A 73)), (1, .ref (A 0)), (0, .ref b)]) (kk : ∀ (I' : Nat → CS) (J' : Nat → JS) (M' : CS) (N' : JS) (H : Heap) (locs : List Loc), Rel I' J' M' N' → va_P G.1 vwCl (w_Lw G A I' J' M' N') H → va_D (fun q : Nat => s.heap.size ≤ q) (w_Lw G A I' J' M' N') → va_S (fun q : Nat => s.heap.size ≤ q) s.heap H locs → W p l e room_1 s m #[Value.ref b] below meth c H locs 87 2655 (lw_Z below #[Value.ref b] s) (F0 m 1545 ls [])) : W p l e room_1 s m #[Value.ref b] below meth c H locs 87 2655 (lw_Z below #[Value.ref b] s) (F0 m 533 ls []) := by
  obtain ⟨hx, hb, hr, hml, hown, hts, hX, hbl, hlocks, hgv⟩ := C0
  have hbA : ¬ (fun q : Nat => s.heap.size ≤ q) b := Nat.not_le.mpr hbl
  obtain ⟨r, I', M', ht, hm, hR⟩ := hop I J M N (xs (i + 1)) hR
  refine lv_aload_n (pc := 533) hx hb dL_law_533 rfl (lv_at hl 2 rfl) ?_
  refine lv_aload_n (pc := 534) hx hb dL_law_534 rfl (lv_at hl 3 rfl) ?_
  refine lv_iload_n (pc := 535) hx hb dL_law_535 rfl (lv_at hl 0 rfl) ?_
  refine lv_iconst (pc := 536) (v := 1) hx hb dL_law_536 (by decide) ?_
  refine lv_iadd (pc := 537) hx hb dL_law_537 ?_
  refine wsld (pc := 538) hx hb hX hbl hbA hS (j := i + 1) (nI_add i 1) (by omega) hL dL_law_538 ?_
  refine endi X.2.2.2.2 (runV (pc := 539) (As := [.int (xs (i + 1))]) (rest := []) X (c_X5_chain G l A H.size I J (xs (i + 1)) r I' ht) gL_X5_chain k_X5_chain ⟨rfl, rfl⟩ ⟨Nat.le_of_ble_eq_true rfl, Nat.le_of_ble_eq_true rfl⟩ (em_Lw_Tw_I G A I J M N I') hP hD hS (ci := 5) rfl rfl (at_Tw_0 G A I J) rfl hl.1 rfl (Nat.le_of_ble_eq_true rfl) ⟨Nat.le_of_ble_eq_true rfl, Nat.le_of_ble_eq_true rfl⟩ dL_law_539) (em_Lw_Tw_I G A I J M N I') hP hD hS (fun H locs hP hD hS => ?_)
  refine lv_aload_n (pc := 542) hx hb dL_law_542 rfl (lv_at hl 1 rfl) ?_
  refine lv_aload_n (pc := 543) hx hb dL_law_543 rfl (lv_at hl 3 rfl) ?_
  refine lv_iload_n (pc := 544) hx hb dL_law_544 rfl (lv_at hl 0 rfl) ?_
  refine lv_iconst (pc := 545) (v := 1) hx hb dL_law_545 (by decide) ?_
  refine lv_iadd (pc := 546) hx hb dL_law_546 ?_
  refine wsld (pc := 547) hx hb hX hbl hbA hS (j := i + 1) (nI_add i 1) (by omega) hL dL_law_547 ?_
  refine endi X.2.2.2.2 (runV (pc := 548) (As := [.int (xs (i + 1))]) (rest := [.int r]) X (c_X6_chain G l (fun k => A (73 + k)) H.size M N (xs (i + 1)) r M' hm) gL_X6_chain k_X6_chain ⟨rfl, rfl⟩ ⟨Nat.le_of_ble_eq_true rfl, Nat.le_of_ble_eq_true rfl⟩ (em_Lw_Mo_M G A I' J M N M') hP hD hS (ci := 6) rfl rfl (at_Mo_0 G (fun k => A (73 + k)) M N) rfl hl.1 rfl (Nat.le_of_ble_eq_true rfl) ⟨Nat.le_of_ble_eq_true rfl, Nat.le_of_ble_eq_true rfl⟩ dL_law_548) (em_Lw_Mo_M G A I' J M N M') hP hD hS (fun H locs hP hD hS => ?_)
  refine lv_icmp_eq (pc := 551) (tgt := 1545) hx hb dL_law_551 (by decide) (fun _ => ?_) (fun h => absurd rfl h)
  exact kk I' J M' N H locs hR hP hD hS
set_option maxHeartbeats 4000000 in
set_option maxRecDepth 100000 in
theorem law_case_10 (hop : Op_person) {p : Program} {l : Launch} {e : Env} {s : State} {m : MethodId} {below : List Frame} {meth : Method} {c : Code} {b L : Nat} {xs : Nat → Int32} (hL : L ≤ 384) (C0 : lw_At p s m meth c b L xs) {G : GT} {A : Nat → Nat} (X : CX G p s m meth c code 4 lw_tbl #[Value.ref b] RL (fun q : Nat => s.heap.size ≤ q)) (I : Nat → CS) (J : Nat → JS) (M : CS) (N : JS) (hR : Rel I J M N) (i : Nat) (hi : i + 6 ≤ L) (H : Heap) (locs : List Loc) (ls : Array Slot) (hP : va_P G.1 vwCl (w_Lw G A I J M N) H) (hD : va_D (fun q : Nat => s.heap.size ≤ q) (w_Lw G A I J M N)) (hS : va_S (fun q : Nat => s.heap.size ≤ q) s.heap H locs) (hl : lv_has ls 4 [(3, .int (nI i)), (2, .ref (A 73)), (1, .ref (A 0)), (0, .ref b)]) (kk : ∀ (I' : Nat → CS) (J' : Nat → JS) (M' : CS) (N' : JS) (H : Heap) (locs : List Loc), Rel I' J' M' N' → va_P G.1 vwCl (w_Lw G A I' J' M' N') H → va_D (fun q : Nat => s.heap.size ≤ q) (w_Lw G A I' J' M' N') → va_S (fun q : Nat => s.heap.size ≤ q) s.heap H locs → W p l e room_1 s m #[Value.ref b] below meth c H locs 87 2655 (lw_Z below #[Value.ref b] s) (F0 m 1545 ls [])) : W p l e room_1 s m #[Value.ref b] below meth c H locs 87 2655 (lw_Z below #[Value.ref b] s) (F0 m 556 ls []) := by
  obtain ⟨hx, hb, hr, hml, hown, hts, hX, hbl, hlocks, hgv⟩ := C0
  have hbA : ¬ (fun q : Nat => s.heap.size ≤ q) b := Nat.not_le.mpr hbl
  obtain ⟨r, I', M', ht, hm, hR⟩ := hop I J M N (xs (i + 1)) (xs (i + 2)) hR
  refine lv_aload_n (pc := 556) hx hb dL_law_556 rfl (lv_at hl 2 rfl) ?_
  refine lv_aload_n (pc := 557) hx hb dL_law_557 rfl (lv_at hl 3 rfl) ?_
  refine lv_iload_n (pc := 558) hx hb dL_law_558 rfl (lv_at hl 0 rfl) ?_
  refine lv_iconst (pc := 559) (v := 1) hx hb dL_law_559 (by decide) ?_
  refine lv_iadd (pc := 560) hx hb dL_law_560 ?_
  refine wsld (pc := 561) hx hb hX hbl hbA hS (j := i + 1) (nI_add i 1) (by omega) hL dL_law_561 ?_
  refine lv_aload_n (pc := 562) hx hb dL_law_562 rfl (lv_at hl 3 rfl) ?_
  refine lv_iload_n (pc := 563) hx hb dL_law_563 rfl (lv_at hl 0 rfl) ?_
  refine lv_iconst (pc := 564) (v := 2) hx hb dL_law_564 (by decide) ?_
  refine lv_iadd (pc := 565) hx hb dL_law_565 ?_
  refine wsld (pc := 566) hx hb hX hbl hbA hS (j := i + 2) (nI_add i 2) (by omega) hL dL_law_566 ?_
  refine endi X.2.2.2.2 (runV (pc := 567) (As := [.int (xs (i + 1)), .int (xs (i + 2))]) (rest := []) X (c_X5_person G l A H.size I J (xs (i + 1)) (xs (i + 2)) r I' ht) gL_X5_person k_X5_person ⟨rfl, rfl⟩ ⟨Nat.le_of_ble_eq_true rfl, Nat.le_of_ble_eq_true rfl⟩ (em_Lw_Tw_I G A I J M N I') hP hD hS (ci := 5) rfl rfl (at_Tw_0 G A I J) rfl hl.1 rfl (Nat.le_of_ble_eq_true rfl) ⟨Nat.le_of_ble_eq_true rfl, Nat.le_of_ble_eq_true rfl⟩ dL_law_567) (em_Lw_Tw_I G A I J M N I') hP hD hS (fun H locs hP hD hS => ?_)
  refine lv_aload_n (pc := 570) hx hb dL_law_570 rfl (lv_at hl 1 rfl) ?_
  refine lv_aload_n (pc := 571) hx hb dL_law_571 rfl (lv_at hl 3 rfl) ?_
  refine lv_iload_n (pc := 572) hx hb dL_law_572 rfl (lv_at hl 0 rfl) ?_
  refine lv_iconst (pc := 573) (v := 1) hx hb dL_law_573 (by decide) ?_
  refine lv_iadd (pc := 574) hx hb dL_law_574 ?_
  refine wsld (pc := 575) hx hb hX hbl hbA hS (j := i + 1) (nI_add i 1) (by omega) hL dL_law_575 ?_
  refine lv_aload_n (pc := 576) hx hb dL_law_576 rfl (lv_at hl 3 rfl) ?_
  refine lv_iload_n (pc := 577) hx hb dL_law_577 rfl (lv_at hl 0 rfl) ?_
  refine lv_iconst (pc := 578) (v := 2) hx hb dL_law_578 (by decide) ?_
  refine lv_iadd (pc := 579) hx hb dL_law_579 ?_
  refine wsld (pc := 580) hx hb hX hbl hbA hS (j := i + 2) (nI_add i 2) (by omega) hL dL_law_580 ?_
  refine endi X.2.2.2.2 (runV (pc := 581) (As := [.int (xs (i + 1)), .int (xs (i + 2))]) (rest := [.int r]) X (c_X6_person G l (fun k => A (73 + k)) H.size M N (xs (i + 1)) (xs (i + 2)) r M' hm) gL_X6_person k_X6_person ⟨rfl, rfl⟩ ⟨Nat.le_of_ble_eq_true rfl, Nat.le_of_ble_eq_true rfl⟩ (em_Lw_Mo_M G A I' J M N M') hP hD hS (ci := 6) rfl rfl (at_Mo_0 G (fun k => A (73 + k)) M N) rfl hl.1 rfl (Nat.le_of_ble_eq_true rfl) ⟨Nat.le_of_ble_eq_true rfl, Nat.le_of_ble_eq_true rfl⟩ dL_law_581) (em_Lw_Mo_M G A I' J M N M') hP hD hS (fun H locs hP hD hS => ?_)
  refine lv_icmp_eq (pc := 584) (tgt := 1545) hx hb dL_law_584 (by decide) (fun _ => ?_) (fun h => absurd rfl h)
  exact kk I' J M' N H locs hR hP hD hS
set_option maxHeartbeats 4000000 in
set_option maxRecDepth 100000 in
theorem law_case_11 (hop : Op_error) {p : Program} {l : Launch} {e : Env} {s : State} {m : MethodId} {below : List Frame} {meth : Method} {c : Code} {b L : Nat} {xs : Nat → Int32} (hL : L ≤ 384) (C0 : lw_At p s m meth c b L xs) {G : GT} {A : Nat → Nat} (X : CX G p s m meth c code 4 lw_tbl #[Value.ref b] RL (fun q : Nat => s.heap.size ≤ q)) (I : Nat → CS) (J : Nat → JS) (M : CS) (N : JS) (hR : Rel I J M N) (i : Nat) (hi : i + 6 ≤ L) (H : Heap) (locs : List Loc) (ls : Array Slot) (hP : va_P G.1 vwCl (w_Lw G A I J M N) H) (hD : va_D (fun q : Nat => s.heap.size ≤ q) (w_Lw G A I J M N)) (hS : va_S (fun q : Nat => s.heap.size ≤ q) s.heap H locs) (hl : lv_has ls 4 [(3, .int (nI i)), (2, .ref (A 73)), (1, .ref (A 0)), (0, .ref b)]) (kk : ∀ (I' : Nat → CS) (J' : Nat → JS) (M' : CS) (N' : JS) (H : Heap) (locs : List Loc), Rel I' J' M' N' → va_P G.1 vwCl (w_Lw G A I' J' M' N') H → va_D (fun q : Nat => s.heap.size ≤ q) (w_Lw G A I' J' M' N') → va_S (fun q : Nat => s.heap.size ≤ q) s.heap H locs → W p l e room_1 s m #[Value.ref b] below meth c H locs 87 2655 (lw_Z below #[Value.ref b] s) (F0 m 1545 ls [])) : W p l e room_1 s m #[Value.ref b] below meth c H locs 87 2655 (lw_Z below #[Value.ref b] s) (F0 m 589 ls []) := by
  obtain ⟨hx, hb, hr, hml, hown, hts, hX, hbl, hlocks, hgv⟩ := C0
  have hbA : ¬ (fun q : Nat => s.heap.size ≤ q) b := Nat.not_le.mpr hbl
  obtain ⟨r, I', M', ht, hm, hR⟩ := hop I J M N (xs (i + 1)) (xs (i + 2)) hR
  refine lv_aload_n (pc := 589) hx hb dL_law_589 rfl (lv_at hl 2 rfl) ?_
  refine lv_aload_n (pc := 590) hx hb dL_law_590 rfl (lv_at hl 3 rfl) ?_
  refine lv_iload_n (pc := 591) hx hb dL_law_591 rfl (lv_at hl 0 rfl) ?_
  refine lv_iconst (pc := 592) (v := 1) hx hb dL_law_592 (by decide) ?_
  refine lv_iadd (pc := 593) hx hb dL_law_593 ?_
  refine wsld (pc := 594) hx hb hX hbl hbA hS (j := i + 1) (nI_add i 1) (by omega) hL dL_law_594 ?_
  refine lv_aload_n (pc := 595) hx hb dL_law_595 rfl (lv_at hl 3 rfl) ?_
  refine lv_iload_n (pc := 596) hx hb dL_law_596 rfl (lv_at hl 0 rfl) ?_
  refine lv_iconst (pc := 597) (v := 2) hx hb dL_law_597 (by decide) ?_
  refine lv_iadd (pc := 598) hx hb dL_law_598 ?_
  refine wsld (pc := 599) hx hb hX hbl hbA hS (j := i + 2) (nI_add i 2) (by omega) hL dL_law_599 ?_
  refine endi X.2.2.2.2 (runV (pc := 600) (As := [.int (xs (i + 1)), .int (xs (i + 2))]) (rest := []) X (c_X5_error G l A H.size I J (xs (i + 1)) (xs (i + 2)) r I' ht) gL_X5_error k_X5_error ⟨rfl, rfl⟩ ⟨Nat.le_of_ble_eq_true rfl, Nat.le_of_ble_eq_true rfl⟩ (em_Lw_Tw_I G A I J M N I') hP hD hS (ci := 5) rfl rfl (at_Tw_0 G A I J) rfl hl.1 rfl (Nat.le_of_ble_eq_true rfl) ⟨Nat.le_of_ble_eq_true rfl, Nat.le_of_ble_eq_true rfl⟩ dL_law_600) (em_Lw_Tw_I G A I J M N I') hP hD hS (fun H locs hP hD hS => ?_)
  refine lv_aload_n (pc := 603) hx hb dL_law_603 rfl (lv_at hl 1 rfl) ?_
  refine lv_aload_n (pc := 604) hx hb dL_law_604 rfl (lv_at hl 3 rfl) ?_
  refine lv_iload_n (pc := 605) hx hb dL_law_605 rfl (lv_at hl 0 rfl) ?_
  refine lv_iconst (pc := 606) (v := 1) hx hb dL_law_606 (by decide) ?_
  refine lv_iadd (pc := 607) hx hb dL_law_607 ?_
  refine wsld (pc := 608) hx hb hX hbl hbA hS (j := i + 1) (nI_add i 1) (by omega) hL dL_law_608 ?_
  refine lv_aload_n (pc := 609) hx hb dL_law_609 rfl (lv_at hl 3 rfl) ?_
  refine lv_iload_n (pc := 610) hx hb dL_law_610 rfl (lv_at hl 0 rfl) ?_
  refine lv_iconst (pc := 611) (v := 2) hx hb dL_law_611 (by decide) ?_
  refine lv_iadd (pc := 612) hx hb dL_law_612 ?_
  refine wsld (pc := 613) hx hb hX hbl hbA hS (j := i + 2) (nI_add i 2) (by omega) hL dL_law_613 ?_
  refine endi X.2.2.2.2 (runV (pc := 614) (As := [.int (xs (i + 1)), .int (xs (i + 2))]) (rest := [.int r]) X (c_X6_error G l (fun k => A (73 + k)) H.size M N (xs (i + 1)) (xs (i + 2)) r M' hm) gL_X6_error k_X6_error ⟨rfl, rfl⟩ ⟨Nat.le_of_ble_eq_true rfl, Nat.le_of_ble_eq_true rfl⟩ (em_Lw_Mo_M G A I' J M N M') hP hD hS (ci := 6) rfl rfl (at_Mo_0 G (fun k => A (73 + k)) M N) rfl hl.1 rfl (Nat.le_of_ble_eq_true rfl) ⟨Nat.le_of_ble_eq_true rfl, Nat.le_of_ble_eq_true rfl⟩ dL_law_614) (em_Lw_Mo_M G A I' J M N M') hP hD hS (fun H locs hP hD hS => ?_)
  refine lv_icmp_eq (pc := 617) (tgt := 1545) hx hb dL_law_617 (by decide) (fun _ => ?_) (fun h => absurd rfl h)
  exact kk I' J M' N H locs hR hP hD hS
set_option maxHeartbeats 4000000 in
set_option maxRecDepth 100000 in
theorem law_case_12 (hop : Op_mark) {p : Program} {l : Launch} {e : Env} {s : State} {m : MethodId} {below : List Frame} {meth : Method} {c : Code} {b L : Nat} {xs : Nat → Int32} (hL : L ≤ 384) (C0 : lw_At p s m meth c b L xs) {G : GT} {A : Nat → Nat} (X : CX G p s m meth c code 4 lw_tbl #[Value.ref b] RL (fun q : Nat => s.heap.size ≤ q)) (I : Nat → CS) (J : Nat → JS) (M : CS) (N : JS) (hR : Rel I J M N) (i : Nat) (hi : i + 6 ≤ L) (H : Heap) (locs : List Loc) (ls : Array Slot) (hP : va_P G.1 vwCl (w_Lw G A I J M N) H) (hD : va_D (fun q : Nat => s.heap.size ≤ q) (w_Lw G A I J M N)) (hS : va_S (fun q : Nat => s.heap.size ≤ q) s.heap H locs) (hl : lv_has ls 4 [(3, .int (nI i)), (2, .ref (A 73)), (1, .ref (A 0)), (0, .ref b)]) (kk : ∀ (I' : Nat → CS) (J' : Nat → JS) (M' : CS) (N' : JS) (H : Heap) (locs : List Loc), Rel I' J' M' N' → va_P G.1 vwCl (w_Lw G A I' J' M' N') H → va_D (fun q : Nat => s.heap.size ≤ q) (w_Lw G A I' J' M' N') → va_S (fun q : Nat => s.heap.size ≤ q) s.heap H locs → W p l e room_1 s m #[Value.ref b] below meth c H locs 87 2655 (lw_Z below #[Value.ref b] s) (F0 m 1545 ls [])) : W p l e room_1 s m #[Value.ref b] below meth c H locs 87 2655 (lw_Z below #[Value.ref b] s) (F0 m 622 ls []) := by
  obtain ⟨hx, hb, hr, hml, hown, hts, hX, hbl, hlocks, hgv⟩ := C0
  have hbA : ¬ (fun q : Nat => s.heap.size ≤ q) b := Nat.not_le.mpr hbl
  obtain ⟨r, I', M', ht, hm, hR⟩ := hop I J M N (xs (i + 1)) (xs (i + 2)) hR
  refine lv_aload_n (pc := 622) hx hb dL_law_622 rfl (lv_at hl 2 rfl) ?_
  refine lv_aload_n (pc := 623) hx hb dL_law_623 rfl (lv_at hl 3 rfl) ?_
  refine lv_iload_n (pc := 624) hx hb dL_law_624 rfl (lv_at hl 0 rfl) ?_
  refine lv_iconst (pc := 625) (v := 1) hx hb dL_law_625 (by decide) ?_
  refine lv_iadd (pc := 626) hx hb dL_law_626 ?_
  refine wsld (pc := 627) hx hb hX hbl hbA hS (j := i + 1) (nI_add i 1) (by omega) hL dL_law_627 ?_
  refine lv_aload_n (pc := 628) hx hb dL_law_628 rfl (lv_at hl 3 rfl) ?_
  refine lv_iload_n (pc := 629) hx hb dL_law_629 rfl (lv_at hl 0 rfl) ?_
  refine lv_iconst (pc := 630) (v := 2) hx hb dL_law_630 (by decide) ?_
  refine lv_iadd (pc := 631) hx hb dL_law_631 ?_
  refine wsld (pc := 632) hx hb hX hbl hbA hS (j := i + 2) (nI_add i 2) (by omega) hL dL_law_632 ?_
  refine endi X.2.2.2.2 (runV (pc := 633) (As := [.int (xs (i + 1)), .int (xs (i + 2))]) (rest := []) X (c_X5_mark G l A H.size I J (xs (i + 1)) (xs (i + 2)) r I' ht) gL_X5_mark k_X5_mark ⟨rfl, rfl⟩ ⟨Nat.le_of_ble_eq_true rfl, Nat.le_of_ble_eq_true rfl⟩ (em_Lw_Tw_I G A I J M N I') hP hD hS (ci := 5) rfl rfl (at_Tw_0 G A I J) rfl hl.1 rfl (Nat.le_of_ble_eq_true rfl) ⟨Nat.le_of_ble_eq_true rfl, Nat.le_of_ble_eq_true rfl⟩ dL_law_633) (em_Lw_Tw_I G A I J M N I') hP hD hS (fun H locs hP hD hS => ?_)
  refine lv_aload_n (pc := 636) hx hb dL_law_636 rfl (lv_at hl 1 rfl) ?_
  refine lv_aload_n (pc := 637) hx hb dL_law_637 rfl (lv_at hl 3 rfl) ?_
  refine lv_iload_n (pc := 638) hx hb dL_law_638 rfl (lv_at hl 0 rfl) ?_
  refine lv_iconst (pc := 639) (v := 1) hx hb dL_law_639 (by decide) ?_
  refine lv_iadd (pc := 640) hx hb dL_law_640 ?_
  refine wsld (pc := 641) hx hb hX hbl hbA hS (j := i + 1) (nI_add i 1) (by omega) hL dL_law_641 ?_
  refine lv_aload_n (pc := 642) hx hb dL_law_642 rfl (lv_at hl 3 rfl) ?_
  refine lv_iload_n (pc := 643) hx hb dL_law_643 rfl (lv_at hl 0 rfl) ?_
  refine lv_iconst (pc := 644) (v := 2) hx hb dL_law_644 (by decide) ?_
  refine lv_iadd (pc := 645) hx hb dL_law_645 ?_
  refine wsld (pc := 646) hx hb hX hbl hbA hS (j := i + 2) (nI_add i 2) (by omega) hL dL_law_646 ?_
  refine endi X.2.2.2.2 (runV (pc := 647) (As := [.int (xs (i + 1)), .int (xs (i + 2))]) (rest := [.int r]) X (c_X6_mark G l (fun k => A (73 + k)) H.size M N (xs (i + 1)) (xs (i + 2)) r M' hm) gL_X6_mark k_X6_mark ⟨rfl, rfl⟩ ⟨Nat.le_of_ble_eq_true rfl, Nat.le_of_ble_eq_true rfl⟩ (em_Lw_Mo_M G A I' J M N M') hP hD hS (ci := 6) rfl rfl (at_Mo_0 G (fun k => A (73 + k)) M N) rfl hl.1 rfl (Nat.le_of_ble_eq_true rfl) ⟨Nat.le_of_ble_eq_true rfl, Nat.le_of_ble_eq_true rfl⟩ dL_law_647) (em_Lw_Mo_M G A I' J M N M') hP hD hS (fun H locs hP hD hS => ?_)
  refine lv_icmp_eq (pc := 650) (tgt := 1545) hx hb dL_law_650 (by decide) (fun _ => ?_) (fun h => absurd rfl h)
  exact kk I' J M' N H locs hR hP hD hS
set_option maxHeartbeats 4000000 in
set_option maxRecDepth 100000 in
theorem law_case_13 (hop : Op_stride) {p : Program} {l : Launch} {e : Env} {s : State} {m : MethodId} {below : List Frame} {meth : Method} {c : Code} {b L : Nat} {xs : Nat → Int32} (hL : L ≤ 384) (C0 : lw_At p s m meth c b L xs) {G : GT} {A : Nat → Nat} (X : CX G p s m meth c code 4 lw_tbl #[Value.ref b] RL (fun q : Nat => s.heap.size ≤ q)) (I : Nat → CS) (J : Nat → JS) (M : CS) (N : JS) (hR : Rel I J M N) (i : Nat) (hi : i + 6 ≤ L) (H : Heap) (locs : List Loc) (ls : Array Slot) (hP : va_P G.1 vwCl (w_Lw G A I J M N) H) (hD : va_D (fun q : Nat => s.heap.size ≤ q) (w_Lw G A I J M N)) (hS : va_S (fun q : Nat => s.heap.size ≤ q) s.heap H locs) (hl : lv_has ls 4 [(3, .int (nI i)), (2, .ref (A 73)), (1, .ref (A 0)), (0, .ref b)]) (kk : ∀ (I' : Nat → CS) (J' : Nat → JS) (M' : CS) (N' : JS) (H : Heap) (locs : List Loc), Rel I' J' M' N' → va_P G.1 vwCl (w_Lw G A I' J' M' N') H → va_D (fun q : Nat => s.heap.size ≤ q) (w_Lw G A I' J' M' N') → va_S (fun q : Nat => s.heap.size ≤ q) s.heap H locs → W p l e room_1 s m #[Value.ref b] below meth c H locs 87 2655 (lw_Z below #[Value.ref b] s) (F0 m 1545 ls [])) : W p l e room_1 s m #[Value.ref b] below meth c H locs 87 2655 (lw_Z below #[Value.ref b] s) (F0 m 655 ls []) := by
  obtain ⟨hx, hb, hr, hml, hown, hts, hX, hbl, hlocks, hgv⟩ := C0
  have hbA : ¬ (fun q : Nat => s.heap.size ≤ q) b := Nat.not_le.mpr hbl
  obtain ⟨r, I', M', ht, hm, hR⟩ := hop I J M N (xs (i + 1)) (xs (i + 2)) hR
  refine lv_aload_n (pc := 655) hx hb dL_law_655 rfl (lv_at hl 2 rfl) ?_
  refine lv_aload_n (pc := 656) hx hb dL_law_656 rfl (lv_at hl 3 rfl) ?_
  refine lv_iload_n (pc := 657) hx hb dL_law_657 rfl (lv_at hl 0 rfl) ?_
  refine lv_iconst (pc := 658) (v := 1) hx hb dL_law_658 (by decide) ?_
  refine lv_iadd (pc := 659) hx hb dL_law_659 ?_
  refine wsld (pc := 660) hx hb hX hbl hbA hS (j := i + 1) (nI_add i 1) (by omega) hL dL_law_660 ?_
  refine lv_aload_n (pc := 661) hx hb dL_law_661 rfl (lv_at hl 3 rfl) ?_
  refine lv_iload_n (pc := 662) hx hb dL_law_662 rfl (lv_at hl 0 rfl) ?_
  refine lv_iconst (pc := 663) (v := 2) hx hb dL_law_663 (by decide) ?_
  refine lv_iadd (pc := 664) hx hb dL_law_664 ?_
  refine wsld (pc := 665) hx hb hX hbl hbA hS (j := i + 2) (nI_add i 2) (by omega) hL dL_law_665 ?_
  refine endi X.2.2.2.2 (runV (pc := 666) (As := [.int (xs (i + 1)), .int (xs (i + 2))]) (rest := []) X (c_X5_stride G l A H.size I J (xs (i + 1)) (xs (i + 2)) r I' ht) gL_X5_stride k_X5_stride ⟨rfl, rfl⟩ ⟨Nat.le_of_ble_eq_true rfl, Nat.le_of_ble_eq_true rfl⟩ (em_Lw_Tw_I G A I J M N I') hP hD hS (ci := 5) rfl rfl (at_Tw_0 G A I J) rfl hl.1 rfl (Nat.le_of_ble_eq_true rfl) ⟨Nat.le_of_ble_eq_true rfl, Nat.le_of_ble_eq_true rfl⟩ dL_law_666) (em_Lw_Tw_I G A I J M N I') hP hD hS (fun H locs hP hD hS => ?_)
  refine lv_aload_n (pc := 669) hx hb dL_law_669 rfl (lv_at hl 1 rfl) ?_
  refine lv_aload_n (pc := 670) hx hb dL_law_670 rfl (lv_at hl 3 rfl) ?_
  refine lv_iload_n (pc := 671) hx hb dL_law_671 rfl (lv_at hl 0 rfl) ?_
  refine lv_iconst (pc := 672) (v := 1) hx hb dL_law_672 (by decide) ?_
  refine lv_iadd (pc := 673) hx hb dL_law_673 ?_
  refine wsld (pc := 674) hx hb hX hbl hbA hS (j := i + 1) (nI_add i 1) (by omega) hL dL_law_674 ?_
  refine lv_aload_n (pc := 675) hx hb dL_law_675 rfl (lv_at hl 3 rfl) ?_
  refine lv_iload_n (pc := 676) hx hb dL_law_676 rfl (lv_at hl 0 rfl) ?_
  refine lv_iconst (pc := 677) (v := 2) hx hb dL_law_677 (by decide) ?_
  refine lv_iadd (pc := 678) hx hb dL_law_678 ?_
  refine wsld (pc := 679) hx hb hX hbl hbA hS (j := i + 2) (nI_add i 2) (by omega) hL dL_law_679 ?_
  refine endi X.2.2.2.2 (runV (pc := 680) (As := [.int (xs (i + 1)), .int (xs (i + 2))]) (rest := [.int r]) X (c_X6_stride G l (fun k => A (73 + k)) H.size M N (xs (i + 1)) (xs (i + 2)) r M' hm) gL_X6_stride k_X6_stride ⟨rfl, rfl⟩ ⟨Nat.le_of_ble_eq_true rfl, Nat.le_of_ble_eq_true rfl⟩ (em_Lw_Mo_M G A I' J M N M') hP hD hS (ci := 6) rfl rfl (at_Mo_0 G (fun k => A (73 + k)) M N) rfl hl.1 rfl (Nat.le_of_ble_eq_true rfl) ⟨Nat.le_of_ble_eq_true rfl, Nat.le_of_ble_eq_true rfl⟩ dL_law_680) (em_Lw_Mo_M G A I' J M N M') hP hD hS (fun H locs hP hD hS => ?_)
  refine lv_icmp_eq (pc := 683) (tgt := 1545) hx hb dL_law_683 (by decide) (fun _ => ?_) (fun h => absurd rfl h)
  exact kk I' J M' N H locs hR hP hD hS
