set_option maxHeartbeats 8000000 in
set_option maxRecDepth 100000 in
theorem law_loop (hops : Op_row ∧ Op_lay ∧ Op_at ∧ Op_tear ∧ Op_copy ∧ Op_mean ∧ Op_text ∧ Op_put ∧ Op_fault ∧ Op_chain ∧ Op_person ∧ Op_error ∧ Op_mark ∧ Op_stride ∧ Op_mend ∧ Op_err ∧ Op_day ∧ Op_undo ∧ Op_keep ∧ Op_on ∧ Op_does ∧ Op_differ ∧ Op_since ∧ Op_worst ∧ Op_source ∧ Op_together ∧ Op_warn ∧ Op_agree ∧ Op_next ∧ Op_letter ∧ Op_fits ∧ Op_sure ∧ Op_lies ∧ Op_odds ∧ Op_lots ∧ Op_asked ∧ Op_upper ∧ Op_lower ∧ Op_count ∧ Op_finding ∧ Op_findings ∧ Op_digest) {p : Program} {l : Launch} {e : Env} {s : State} {m : MethodId} {below : List Frame} {meth : Method} {c : Code} {b L : Nat} {xs : Nat → Int32} (hL : L ≤ 384) (C0 : lw_At p s m meth c b L xs) {G : GT} {A : Nat → Nat} (X : CX G p s m meth c code 4 lw_tbl #[Value.ref b] RL (fun q : Nat => s.heap.size ≤ q)) : ∀ (n i : Nat), L + 1 ≤ i + n → i ≤ L + 6 → ∀ (I : Nat → CS) (J : Nat → JS) (M : CS) (N : JS), Rel I J M N → ∀ (H : Heap) (locs : List Loc) (ls : Array Slot), va_P G.1 vwCl (w_Lw G A I J M N) H → va_D (fun q : Nat => s.heap.size ≤ q) (w_Lw G A I J M N) → va_S (fun q : Nat => s.heap.size ≤ q) s.heap H locs → lv_has ls 4 [(3, .int (nI i)), (2, .ref (A 73)), (1, .ref (A 0)), (0, .ref b)] → W p l e room_1 s m #[Value.ref b] below meth c H locs 87 2655 (lw_Z below #[Value.ref b] s) (F0 m 18 ls []) := by
  obtain ⟨hx, hb, hr, hml, hown, hts, hX, hbl, hlocks, hgv⟩ := id C0
  have hbA : ¬ (fun q : Nat => s.heap.size ≤ q) b := Nat.not_le.mpr hbl
  intro n
  induction n with
  | zero =>
    intro i h1 h2 I J M N hR H locs ls hP hD hS hl
    refine lv_iload_n (pc := 18) hx hb dL_law_18 rfl (lv_at hl 0 rfl) ?_
    refine lv_aload_n (pc := 19) hx hb dL_law_19 rfl (lv_at hl 3 rfl) ?_
    refine va_slen (pc := 20) hx hb hX hbl hbA hS dL_law_20 ?_
    refine lv_bipush (pc := 21) (v := 6) hx hb dL_law_21 (by decide) ?_
    refine lv_isub (pc := 23) hx hb dL_law_23 ?_
    refine lv_icmp_gt (pc := 24) (tgt := 1551) hx hb dL_law_24 (by decide) (fun _ => ?_) (fun h => absurd (law_gt (by omega) (by omega) (by omega)) h)
    refine lv_iconst (pc := 1551) (v := 1) hx hb dL_law_1551 (by decide) ?_
    refine va_forget (fun q hq => hS.2.2 q hq) ?_
    refine W.widen (k := 600000) (n := 7302250) (Nat.le_of_ble_eq_true rfl) (Nat.le_of_ble_eq_true rfl) ?_
    exact lw_ret hx hb hr hlocks dL_law_1552
  | succ n ih =>
    intro i h1 h2 I J M N hR H locs ls hP hD hS hl
    refine lv_iload_n (pc := 18) hx hb dL_law_18 rfl (lv_at hl 0 rfl) ?_
    refine lv_aload_n (pc := 19) hx hb dL_law_19 rfl (lv_at hl 3 rfl) ?_
    refine va_slen (pc := 20) hx hb hX hbl hbA hS dL_law_20 ?_
    refine lv_bipush (pc := 21) (v := 6) hx hb dL_law_21 (by decide) ?_
    refine lv_isub (pc := 23) hx hb dL_law_23 ?_
    refine lv_icmp_gt (pc := 24) (tgt := 1551) hx hb dL_law_24 (by decide) (fun _ => ?_) (fun hgt => ?_)
    · refine lv_iconst (pc := 1551) (v := 1) hx hb dL_law_1551 (by decide) ?_
      refine va_forget (fun q hq => hS.2.2 q hq) ?_
      refine W.widen (k := 600000) (n := 7302250) (Nat.le_of_ble_eq_true rfl) (Nat.le_of_ble_eq_true rfl) ?_
      exact lw_ret hx hb hr hlocks dL_law_1552
    · have hi : i + 6 ≤ L := by
        rcases Nat.lt_or_ge L (i + 6) with h | h
        · exact absurd (law_gt h (by omega) (by omega)) hgt
        · exact h
      have kk : ∀ (I' : Nat → CS) (J' : Nat → JS) (M' : CS) (N' : JS) (H : Heap) (locs : List Loc), Rel I' J' M' N' → va_P G.1 vwCl (w_Lw G A I' J' M' N') H → va_D (fun q : Nat => s.heap.size ≤ q) (w_Lw G A I' J' M' N') → va_S (fun q : Nat => s.heap.size ≤ q) s.heap H locs → W p l e room_1 s m #[Value.ref b] below meth c H locs 87 2655 (lw_Z below #[Value.ref b] s) (F0 m 1545 ls []) := by
        intro I' J' M' N' H locs hR hP hD hS
        refine lv_iinc (pc := 1545) (v := nI (i + 6)) (lv' := [(3, .int (nI (i + 6))), (2, .ref (A 73)), (1, .ref (A 0)), (0, .ref b)]) hx hb dL_law_1545 hl (k := 0) rfl (nI_add i 6) (by decide) rfl (fun ls hl => ?_)
        refine lv_goto (pc := 1548) (tgt := 18) hx hb dL_law_1548 (by decide) ?_
        exact ih (i + 6) (by omega) (by omega) I' J' M' N' hR H locs ls hP hD hS hl
      refine lv_aload_n (pc := 27) hx hb dL_law_27 rfl (lv_at hl 3 rfl) ?_
      refine lv_iload_n (pc := 28) hx hb dL_law_28 rfl (lv_at hl 0 rfl) ?_
      refine wsld (pc := 29) hx hb hX hbl hbA hS (j := i) rfl (by omega) hL dL_law_29 ?_
      refine lv_bipush (pc := 30) (v := 63) hx hb dL_law_30 (by decide) ?_
      refine lv_iand (pc := 32) hx hb dL_law_32 ?_
      generalize xs i &&& 63 = v
      by_cases h0 : v = (0 : Int32)
      · refine lv_tableIn (pc := 33) (off := 183) (tgt := 216) hx hb dL_law_33 (by rw [h0]; decide) (by rw [h0]; decide) (by rw [h0]; rfl) (by decide) ?_
        exact law_case_0 (hops.1) hL C0 X I J M N hR i hi H locs ls hP hD hS hl kk
      by_cases h1 : v = (1 : Int32)
      · refine lv_tableIn (pc := 33) (off := 216) (tgt := 249) hx hb dL_law_33 (by rw [h1]; decide) (by rw [h1]; decide) (by rw [h1]; rfl) (by decide) ?_
        exact law_case_1 (hops.2.1) hL C0 X I J M N hR i hi H locs ls hP hD hS hl kk
      by_cases h2 : v = (2 : Int32)
      · refine lv_tableIn (pc := 33) (off := 259) (tgt := 292) hx hb dL_law_33 (by rw [h2]; decide) (by rw [h2]; decide) (by rw [h2]; rfl) (by decide) ?_
        exact law_case_2 (hops.2.2.1) hL C0 X I J M N hR i hi H locs ls hP hD hS hl kk
      by_cases h3 : v = (3 : Int32)
      · refine lv_tableIn (pc := 33) (off := 292) (tgt := 325) hx hb dL_law_33 (by rw [h3]; decide) (by rw [h3]; decide) (by rw [h3]; rfl) (by decide) ?_
        exact law_case_3 (hops.2.2.2.1) hL C0 X I J M N hR i hi H locs ls hP hD hS hl kk
      by_cases h4 : v = (4 : Int32)
      · refine lv_tableIn (pc := 33) (off := 315) (tgt := 348) hx hb dL_law_33 (by rw [h4]; decide) (by rw [h4]; decide) (by rw [h4]; rfl) (by decide) ?_
        exact law_case_4 (hops.2.2.2.2.1) hL C0 X I J M N hR i hi H locs ls hP hD hS hl kk
      by_cases h5 : v = (5 : Int32)
      · refine lv_tableIn (pc := 33) (off := 378) (tgt := 411) hx hb dL_law_33 (by rw [h5]; decide) (by rw [h5]; decide) (by rw [h5]; rfl) (by decide) ?_
        exact law_case_5 (hops.2.2.2.2.2.1) hL C0 X I J M N hR i hi H locs ls hP hD hS hl kk
      by_cases h6 : v = (6 : Int32)
      · refine lv_tableIn (pc := 33) (off := 401) (tgt := 434) hx hb dL_law_33 (by rw [h6]; decide) (by rw [h6]; decide) (by rw [h6]; rfl) (by decide) ?_
        exact law_case_6 (hops.2.2.2.2.2.2.1) hL C0 X I J M N hR i hi H locs ls hP hD hS hl kk
      by_cases h7 : v = (7 : Int32)
      · refine lv_tableIn (pc := 33) (off := 434) (tgt := 467) hx hb dL_law_33 (by rw [h7]; decide) (by rw [h7]; decide) (by rw [h7]; rfl) (by decide) ?_
        exact law_case_7 (hops.2.2.2.2.2.2.2.1) hL C0 X I J M N hR i hi H locs ls hP hD hS hl kk
      by_cases h8 : v = (8 : Int32)
      · refine lv_tableIn (pc := 33) (off := 477) (tgt := 510) hx hb dL_law_33 (by rw [h8]; decide) (by rw [h8]; decide) (by rw [h8]; rfl) (by decide) ?_
        exact law_case_8 (hops.2.2.2.2.2.2.2.2.1) hL C0 X I J M N hR i hi H locs ls hP hD hS hl kk
      by_cases h9 : v = (9 : Int32)
      · refine lv_tableIn (pc := 33) (off := 500) (tgt := 533) hx hb dL_law_33 (by rw [h9]; decide) (by rw [h9]; decide) (by rw [h9]; rfl) (by decide) ?_
        exact law_case_9 (hops.2.2.2.2.2.2.2.2.2.1) hL C0 X I J M N hR i hi H locs ls hP hD hS hl kk
      by_cases h10 : v = (10 : Int32)
      · refine lv_tableIn (pc := 33) (off := 523) (tgt := 556) hx hb dL_law_33 (by rw [h10]; decide) (by rw [h10]; decide) (by rw [h10]; rfl) (by decide) ?_
        exact law_case_10 (hops.2.2.2.2.2.2.2.2.2.2.1) hL C0 X I J M N hR i hi H locs ls hP hD hS hl kk
      by_cases h11 : v = (11 : Int32)
      · refine lv_tableIn (pc := 33) (off := 556) (tgt := 589) hx hb dL_law_33 (by rw [h11]; decide) (by rw [h11]; decide) (by rw [h11]; rfl) (by decide) ?_
        exact law_case_11 (hops.2.2.2.2.2.2.2.2.2.2.2.1) hL C0 X I J M N hR i hi H locs ls hP hD hS hl kk
      by_cases h12 : v = (12 : Int32)
      · refine lv_tableIn (pc := 33) (off := 589) (tgt := 622) hx hb dL_law_33 (by rw [h12]; decide) (by rw [h12]; decide) (by rw [h12]; rfl) (by decide) ?_
        exact law_case_12 (hops.2.2.2.2.2.2.2.2.2.2.2.2.1) hL C0 X I J M N hR i hi H locs ls hP hD hS hl kk
      by_cases h13 : v = (13 : Int32)
      · refine lv_tableIn (pc := 33) (off := 622) (tgt := 655) hx hb dL_law_33 (by rw [h13]; decide) (by rw [h13]; decide) (by rw [h13]; rfl) (by decide) ?_
        exact law_case_13 (hops.2.2.2.2.2.2.2.2.2.2.2.2.2.1) hL C0 X I J M N hR i hi H locs ls hP hD hS hl kk
      by_cases h14 : v = (14 : Int32)
      · refine lv_tableIn (pc := 33) (off := 655) (tgt := 688) hx hb dL_law_33 (by rw [h14]; decide) (by rw [h14]; decide) (by rw [h14]; rfl) (by decide) ?_
        exact law_case_14 (hops.2.2.2.2.2.2.2.2.2.2.2.2.2.2.1) hL C0 X I J M N hR i hi H locs ls hP hD hS hl kk
      by_cases h15 : v = (15 : Int32)
      · refine lv_tableIn (pc := 33) (off := 688) (tgt := 721) hx hb dL_law_33 (by rw [h15]; decide) (by rw [h15]; decide) (by rw [h15]; rfl) (by decide) ?_
        exact law_case_15 (hops.2.2.2.2.2.2.2.2.2.2.2.2.2.2.2.1) hL C0 X I J M N hR i hi H locs ls hP hD hS hl kk
      by_cases h16 : v = (16 : Int32)
      · refine lv_tableIn (pc := 33) (off := 721) (tgt := 754) hx hb dL_law_33 (by rw [h16]; decide) (by rw [h16]; decide) (by rw [h16]; rfl) (by decide) ?_
        exact law_case_16 (hops.2.2.2.2.2.2.2.2.2.2.2.2.2.2.2.2.1) hL C0 X I J M N hR i hi H locs ls hP hD hS hl kk
      by_cases h17 : v = (17 : Int32)
      · refine lv_tableIn (pc := 33) (off := 734) (tgt := 767) hx hb dL_law_33 (by rw [h17]; decide) (by rw [h17]; decide) (by rw [h17]; rfl) (by decide) ?_
        exact law_case_17 (hops.2.2.2.2.2.2.2.2.2.2.2.2.2.2.2.2.2.1) hL C0 X I J M N hR i hi H locs ls hP hD hS hl kk
      by_cases h18 : v = (18 : Int32)
      · refine lv_tableIn (pc := 33) (off := 757) (tgt := 790) hx hb dL_law_33 (by rw [h18]; decide) (by rw [h18]; decide) (by rw [h18]; rfl) (by decide) ?_
        exact law_case_18 (hops.2.2.2.2.2.2.2.2.2.2.2.2.2.2.2.2.2.2.1) hL C0 X I J M N hR i hi H locs ls hP hD hS hl kk
      by_cases h19 : v = (19 : Int32)
      · refine lv_tableIn (pc := 33) (off := 780) (tgt := 813) hx hb dL_law_33 (by rw [h19]; decide) (by rw [h19]; decide) (by rw [h19]; rfl) (by decide) ?_
        exact law_case_19 (hops.2.2.2.2.2.2.2.2.2.2.2.2.2.2.2.2.2.2.2.1) hL C0 X I J M N hR i hi H locs ls hP hD hS hl kk
      by_cases h20 : v = (20 : Int32)
      · refine lv_tableIn (pc := 33) (off := 803) (tgt := 836) hx hb dL_law_33 (by rw [h20]; decide) (by rw [h20]; decide) (by rw [h20]; rfl) (by decide) ?_
        exact law_case_20 (hops.2.2.2.2.2.2.2.2.2.2.2.2.2.2.2.2.2.2.2.2.1) hL C0 X I J M N hR i hi H locs ls hP hD hS hl kk
      by_cases h21 : v = (21 : Int32)
      · refine lv_tableIn (pc := 33) (off := 846) (tgt := 879) hx hb dL_law_33 (by rw [h21]; decide) (by rw [h21]; decide) (by rw [h21]; rfl) (by decide) ?_
        exact law_case_21 (hops.2.2.2.2.2.2.2.2.2.2.2.2.2.2.2.2.2.2.2.2.2.1) hL C0 X I J M N hR i hi H locs ls hP hD hS hl kk
      by_cases h22 : v = (22 : Int32)
      · refine lv_tableIn (pc := 33) (off := 889) (tgt := 922) hx hb dL_law_33 (by rw [h22]; decide) (by rw [h22]; decide) (by rw [h22]; rfl) (by decide) ?_
        exact law_case_22 (hops.2.2.2.2.2.2.2.2.2.2.2.2.2.2.2.2.2.2.2.2.2.2.1) hL C0 X I J M N hR i hi H locs ls hP hD hS hl kk
      by_cases h23 : v = (23 : Int32)
      · refine lv_tableIn (pc := 33) (off := 932) (tgt := 965) hx hb dL_law_33 (by rw [h23]; decide) (by rw [h23]; decide) (by rw [h23]; rfl) (by decide) ?_
        exact law_case_23 (hops.2.2.2.2.2.2.2.2.2.2.2.2.2.2.2.2.2.2.2.2.2.2.2.1) hL C0 X I J M N hR i hi H locs ls hP hD hS hl kk
      by_cases h24 : v = (24 : Int32)
      · refine lv_tableIn (pc := 33) (off := 955) (tgt := 988) hx hb dL_law_33 (by rw [h24]; decide) (by rw [h24]; decide) (by rw [h24]; rfl) (by decide) ?_
        exact law_case_24 (hops.2.2.2.2.2.2.2.2.2.2.2.2.2.2.2.2.2.2.2.2.2.2.2.2.1) hL C0 X I J M N hR i hi H locs ls hP hD hS hl kk
      by_cases h25 : v = (25 : Int32)
      · refine lv_tableIn (pc := 33) (off := 998) (tgt := 1031) hx hb dL_law_33 (by rw [h25]; decide) (by rw [h25]; decide) (by rw [h25]; rfl) (by decide) ?_
        exact law_case_25 (hops.2.2.2.2.2.2.2.2.2.2.2.2.2.2.2.2.2.2.2.2.2.2.2.2.2.1) hL C0 X I J M N hR i hi H locs ls hP hD hS hl kk
      by_cases h26 : v = (26 : Int32)
      · refine lv_tableIn (pc := 33) (off := 1041) (tgt := 1074) hx hb dL_law_33 (by rw [h26]; decide) (by rw [h26]; decide) (by rw [h26]; rfl) (by decide) ?_
        exact law_case_26 (hops.2.2.2.2.2.2.2.2.2.2.2.2.2.2.2.2.2.2.2.2.2.2.2.2.2.2.1) hL C0 X I J M N hR i hi H locs ls hP hD hS hl kk
      by_cases h27 : v = (27 : Int32)
      · refine lv_tableIn (pc := 33) (off := 1094) (tgt := 1127) hx hb dL_law_33 (by rw [h27]; decide) (by rw [h27]; decide) (by rw [h27]; rfl) (by decide) ?_
        exact law_case_27 (hops.2.2.2.2.2.2.2.2.2.2.2.2.2.2.2.2.2.2.2.2.2.2.2.2.2.2.2.1) hL C0 X I J M N hR i hi H locs ls hP hD hS hl kk
      by_cases h28 : v = (28 : Int32)
      · refine lv_tableIn (pc := 33) (off := 1137) (tgt := 1170) hx hb dL_law_33 (by rw [h28]; decide) (by rw [h28]; decide) (by rw [h28]; rfl) (by decide) ?_
        exact law_case_28 (hops.2.2.2.2.2.2.2.2.2.2.2.2.2.2.2.2.2.2.2.2.2.2.2.2.2.2.2.2.1) hL C0 X I J M N hR i hi H locs ls hP hD hS hl kk
      by_cases h29 : v = (29 : Int32)
      · refine lv_tableIn (pc := 33) (off := 1190) (tgt := 1223) hx hb dL_law_33 (by rw [h29]; decide) (by rw [h29]; decide) (by rw [h29]; rfl) (by decide) ?_
        exact law_case_29 (hops.2.2.2.2.2.2.2.2.2.2.2.2.2.2.2.2.2.2.2.2.2.2.2.2.2.2.2.2.2.1) hL C0 X I J M N hR i hi H locs ls hP hD hS hl kk
      by_cases h30 : v = (30 : Int32)
      · refine lv_tableIn (pc := 33) (off := 1233) (tgt := 1266) hx hb dL_law_33 (by rw [h30]; decide) (by rw [h30]; decide) (by rw [h30]; rfl) (by decide) ?_
        exact law_case_30 (hops.2.2.2.2.2.2.2.2.2.2.2.2.2.2.2.2.2.2.2.2.2.2.2.2.2.2.2.2.2.2.1) hL C0 X I J M N hR i hi H locs ls hP hD hS hl kk
      by_cases h31 : v = (31 : Int32)
      · refine lv_tableIn (pc := 33) (off := 1256) (tgt := 1289) hx hb dL_law_33 (by rw [h31]; decide) (by rw [h31]; decide) (by rw [h31]; rfl) (by decide) ?_
        exact law_case_31 (hops.2.2.2.2.2.2.2.2.2.2.2.2.2.2.2.2.2.2.2.2.2.2.2.2.2.2.2.2.2.2.2.1) hL C0 X I J M N hR i hi H locs ls hP hD hS hl kk
      by_cases h32 : v = (32 : Int32)
      · refine lv_tableIn (pc := 33) (off := 1279) (tgt := 1312) hx hb dL_law_33 (by rw [h32]; decide) (by rw [h32]; decide) (by rw [h32]; rfl) (by decide) ?_
        exact law_case_32 (hops.2.2.2.2.2.2.2.2.2.2.2.2.2.2.2.2.2.2.2.2.2.2.2.2.2.2.2.2.2.2.2.2.1) hL C0 X I J M N hR i hi H locs ls hP hD hS hl kk
      by_cases h33 : v = (33 : Int32)
      · refine lv_tableIn (pc := 33) (off := 1302) (tgt := 1335) hx hb dL_law_33 (by rw [h33]; decide) (by rw [h33]; decide) (by rw [h33]; rfl) (by decide) ?_
        exact law_case_33 (hops.2.2.2.2.2.2.2.2.2.2.2.2.2.2.2.2.2.2.2.2.2.2.2.2.2.2.2.2.2.2.2.2.2.1) hL C0 X I J M N hR i hi H locs ls hP hD hS hl kk
      by_cases h34 : v = (34 : Int32)
      · refine lv_tableIn (pc := 33) (off := 1365) (tgt := 1398) hx hb dL_law_33 (by rw [h34]; decide) (by rw [h34]; decide) (by rw [h34]; rfl) (by decide) ?_
        exact law_case_34 (hops.2.2.2.2.2.2.2.2.2.2.2.2.2.2.2.2.2.2.2.2.2.2.2.2.2.2.2.2.2.2.2.2.2.2.1) hL C0 X I J M N hR i hi H locs ls hP hD hS hl kk
      by_cases h35 : v = (35 : Int32)
      · refine lv_tableIn (pc := 33) (off := 1398) (tgt := 1431) hx hb dL_law_33 (by rw [h35]; decide) (by rw [h35]; decide) (by rw [h35]; rfl) (by decide) ?_
        exact law_case_35 (hops.2.2.2.2.2.2.2.2.2.2.2.2.2.2.2.2.2.2.2.2.2.2.2.2.2.2.2.2.2.2.2.2.2.2.2.1) hL C0 X I J M N hR i hi H locs ls hP hD hS hl kk
      by_cases h36 : v = (36 : Int32)
      · refine lv_tableIn (pc := 33) (off := 1411) (tgt := 1444) hx hb dL_law_33 (by rw [h36]; decide) (by rw [h36]; decide) (by rw [h36]; rfl) (by decide) ?_
        exact law_case_36 (hops.2.2.2.2.2.2.2.2.2.2.2.2.2.2.2.2.2.2.2.2.2.2.2.2.2.2.2.2.2.2.2.2.2.2.2.2.1) hL C0 X I J M N hR i hi H locs ls hP hD hS hl kk
      by_cases h37 : v = (37 : Int32)
      · refine lv_tableIn (pc := 33) (off := 1425) (tgt := 1458) hx hb dL_law_33 (by rw [h37]; decide) (by rw [h37]; decide) (by rw [h37]; rfl) (by decide) ?_
        exact law_case_37 (hops.2.2.2.2.2.2.2.2.2.2.2.2.2.2.2.2.2.2.2.2.2.2.2.2.2.2.2.2.2.2.2.2.2.2.2.2.2.1) hL C0 X I J M N hR i hi H locs ls hP hD hS hl kk
      by_cases h38 : v = (38 : Int32)
      · refine lv_tableIn (pc := 33) (off := 1439) (tgt := 1472) hx hb dL_law_33 (by rw [h38]; decide) (by rw [h38]; decide) (by rw [h38]; rfl) (by decide) ?_
        exact law_case_38 (hops.2.2.2.2.2.2.2.2.2.2.2.2.2.2.2.2.2.2.2.2.2.2.2.2.2.2.2.2.2.2.2.2.2.2.2.2.2.2.1) hL C0 X I J M N hR i hi H locs ls hP hD hS hl kk
      by_cases h39 : v = (39 : Int32)
      · refine lv_tableIn (pc := 33) (off := 1462) (tgt := 1495) hx hb dL_law_33 (by rw [h39]; decide) (by rw [h39]; decide) (by rw [h39]; rfl) (by decide) ?_
        exact law_case_39 (hops.2.2.2.2.2.2.2.2.2.2.2.2.2.2.2.2.2.2.2.2.2.2.2.2.2.2.2.2.2.2.2.2.2.2.2.2.2.2.2.1) hL C0 X I J M N hR i hi H locs ls hP hD hS hl kk
      by_cases h40 : v = (40 : Int32)
      · refine lv_tableIn (pc := 33) (off := 1475) (tgt := 1508) hx hb dL_law_33 (by rw [h40]; decide) (by rw [h40]; decide) (by rw [h40]; rfl) (by decide) ?_
        exact law_case_40 (hops.2.2.2.2.2.2.2.2.2.2.2.2.2.2.2.2.2.2.2.2.2.2.2.2.2.2.2.2.2.2.2.2.2.2.2.2.2.2.2.2.1) hL C0 X I J M N hR i hi H locs ls hP hD hS hl kk
      by_cases h41 : v = (41 : Int32)
      · refine lv_tableIn (pc := 33) (off := 1498) (tgt := 1531) hx hb dL_law_33 (by rw [h41]; decide) (by rw [h41]; decide) (by rw [h41]; rfl) (by decide) ?_
        exact law_case_41 (hops.2.2.2.2.2.2.2.2.2.2.2.2.2.2.2.2.2.2.2.2.2.2.2.2.2.2.2.2.2.2.2.2.2.2.2.2.2.2.2.2.2) hL C0 X I J M N hR i hi H locs ls hP hD hS hl kk
      refine lv_tableOut (pc := 33) (tgt := 1545) hx hb dL_law_33 (by have := sw_ne (k := 0) (by decide) h0; have := sw_ne (k := 1) (by decide) h1; have := sw_ne (k := 2) (by decide) h2; have := sw_ne (k := 3) (by decide) h3; have := sw_ne (k := 4) (by decide) h4; have := sw_ne (k := 5) (by decide) h5; have := sw_ne (k := 6) (by decide) h6; have := sw_ne (k := 7) (by decide) h7; have := sw_ne (k := 8) (by decide) h8; have := sw_ne (k := 9) (by decide) h9; have := sw_ne (k := 10) (by decide) h10; have := sw_ne (k := 11) (by decide) h11; have := sw_ne (k := 12) (by decide) h12; have := sw_ne (k := 13) (by decide) h13; have := sw_ne (k := 14) (by decide) h14; have := sw_ne (k := 15) (by decide) h15; have := sw_ne (k := 16) (by decide) h16; have := sw_ne (k := 17) (by decide) h17; have := sw_ne (k := 18) (by decide) h18; have := sw_ne (k := 19) (by decide) h19; have := sw_ne (k := 20) (by decide) h20; have := sw_ne (k := 21) (by decide) h21; have := sw_ne (k := 22) (by decide) h22; have := sw_ne (k := 23) (by decide) h23; have := sw_ne (k := 24) (by decide) h24; have := sw_ne (k := 25) (by decide) h25; have := sw_ne (k := 26) (by decide) h26; have := sw_ne (k := 27) (by decide) h27; have := sw_ne (k := 28) (by decide) h28; have := sw_ne (k := 29) (by decide) h29; have := sw_ne (k := 30) (by decide) h30; have := sw_ne (k := 31) (by decide) h31; have := sw_ne (k := 32) (by decide) h32; have := sw_ne (k := 33) (by decide) h33; have := sw_ne (k := 34) (by decide) h34; have := sw_ne (k := 35) (by decide) h35; have := sw_ne (k := 36) (by decide) h36; have := sw_ne (k := 37) (by decide) h37; have := sw_ne (k := 38) (by decide) h38; have := sw_ne (k := 39) (by decide) h39; have := sw_ne (k := 40) (by decide) h40; have := sw_ne (k := 41) (by decide) h41; omega) (by decide) ?_
      exact kk I J M N H locs hR hP hD hS
