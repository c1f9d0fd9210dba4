def r_X1_add : Room := { frames := 0, cells := 0, slots := 0, locals := 0 }
set_option maxHeartbeats 4000000 in
set_option maxRecDepth 100000 in
theorem c_X1_add (G : GT) (l : Launch) (A : Nat → Nat) (sz : Nat) (o : CS) (j : JS) (x1 : Int32) (o' : CS) (j' : JS) (hf : f_X1_add o j x1 = some (o', j')) : MTv l yX1_add wsX1_add r_X1_add [.ref (A 0), .int x1] G (w_Fi G A o j) (w_Fi G A o' j') sz := by
  refine MTv.of (cc := cX1_add) (maxL := 2) (by decide +kernel) rfl (Nat.le_of_ble_eq_true rfl) (fun p e s m av below meth cd Q B H locs ls X hret hl hP hD hS => ?_)
  have hx := X.1.1
  have hb := X.1.2.1
  have hl : lv_has ls 2 [(0, .ref (A 0)), (1, .int x1)] := hl
  have b_18 : ∀ (x1 : Int32) (t1 : Int32) (o : CS) (j : JS) (H : Heap) (locs : List Loc) (ls : Array Slot), f_X1_add_18 x1 t1 o j = some (o', j') → va_P G.1 vwCl (w_Fi G A o j) H → va_D B (w_Fi G A o j) → va_S B s.heap H locs → lv_has ls 2 [(0, .ref (A 0)), (1, .int x1)] → W p l e r_X1_add s m av below meth cd H locs 0 0 Q (F0 m 18 ls [.int t1, .ref (A 0)]) := by
    intro x1 t1 o j H locs ls hf hP hD hS hl
    unfold f_X1_add_18 at hf
    refine wput (pc := 18) X (fun _ h9 => List.mem_cons_of_mem _ (List.mem_append_right _ h9)) tyX1 tyX1_ok nmX1 hP hD hS 0 (at_Fi_0 G A o j) rfl 1 (by decide) (List.mem_cons_of_mem _ (List.mem_append_left _ (List.mem_of_getElem? (i := 1) rfl))) rfl rfl (ty := .int) (v := .int t1) rfl rfl rfl (Nat.le_of_ble_eq_true rfl) (st_Fi_0_1 G A o j t1) dX1_add_18 (fun H locs hP hD hS => ?_)
    refine lv_aload_n (pc := 21) hx hb dX1_add_21 rfl (lv_at hl 0 rfl) ?_
    refine lv_dup (pc := 22) hx hb dX1_add_22 rfl ?_
    refine wget (pc := 23) X (fun _ h9 => List.mem_cons_of_mem _ (List.mem_append_right _ h9)) hP 0 (at_Fi_0 G A (cset o 0 0 t1) j) rfl 0 (by decide) (List.mem_cons_of_mem _ (List.mem_append_left _ (List.mem_of_getElem? (i := 0) rfl))) rfl (v := .long (j 0)) rfl dX1_add_23 ?_
    refine lv_lconst (pc := 26) (v := (1 : Int64)) hx hb dX1_add_26 (by decide) ?_
    refine lv_ladd (pc := 27) hx hb dX1_add_27 ?_
    refine wput (pc := 28) X (fun _ h9 => List.mem_cons_of_mem _ (List.mem_append_right _ h9)) tyX1 tyX1_ok nmX1 hP hD hS 0 (at_Fi_0 G A (cset o 0 0 t1) j) rfl 0 (by decide) (List.mem_cons_of_mem _ (List.mem_append_left _ (List.mem_of_getElem? (i := 0) rfl))) rfl rfl (ty := .long) (v := .long ((j 0) + (1 : Int64))) rfl rfl rfl (Nat.le_of_ble_eq_true rfl) (st_Fi_0_0 G A (cset o 0 0 t1) j ((j 0) + (1 : Int64))) dX1_add_28 (fun H locs hP hD hS => ?_)
    refine lv_aload_n (pc := 31) hx hb dX1_add_31 rfl (lv_at hl 0 rfl) ?_
    refine lv_dup (pc := 32) hx hb dX1_add_32 rfl ?_
    refine wget (pc := 33) X (fun _ h9 => List.mem_cons_of_mem _ (List.mem_append_right _ h9)) hP 0 (at_Fi_0 G A (cset o 0 0 t1) (jset j 0 ((j 0) + (1 : Int64)))) rfl 2 (by decide) (List.mem_cons_of_mem _ (List.mem_append_left _ (List.mem_of_getElem? (i := 2) rfl))) rfl (v := .int (o 1 0)) rfl dX1_add_33 ?_
    refine lv_iload_n (pc := 36) hx hb dX1_add_36 rfl (lv_at hl 1 rfl) ?_
    refine lv_iand (pc := 37) hx hb dX1_add_37 ?_
    refine wput (pc := 38) X (fun _ h9 => List.mem_cons_of_mem _ (List.mem_append_right _ h9)) tyX1 tyX1_ok nmX1 hP hD hS 0 (at_Fi_0 G A (cset o 0 0 t1) (jset j 0 ((j 0) + (1 : Int64)))) rfl 2 (by decide) (List.mem_cons_of_mem _ (List.mem_append_left _ (List.mem_of_getElem? (i := 2) rfl))) rfl rfl (ty := .int) (v := .int ((o 1 0) &&& x1)) rfl rfl rfl (Nat.le_of_ble_eq_true rfl) (st_Fi_0_2 G A (cset o 0 0 t1) (jset j 0 ((j 0) + (1 : Int64))) ((o 1 0) &&& x1)) dX1_add_38 (fun H locs hP hD hS => ?_)
    refine lv_aload_n (pc := 41) hx hb dX1_add_41 rfl (lv_at hl 0 rfl) ?_
    refine lv_dup (pc := 42) hx hb dX1_add_42 rfl ?_
    refine wget (pc := 43) X (fun _ h9 => List.mem_cons_of_mem _ (List.mem_append_right _ h9)) hP 0 (at_Fi_0 G A (cset (cset o 0 0 t1) 1 0 ((o 1 0) &&& x1)) (jset j 0 ((j 0) + (1 : Int64)))) rfl 3 (by decide) (List.mem_cons_of_mem _ (List.mem_append_left _ (List.mem_of_getElem? (i := 3) rfl))) rfl (v := .int (o 2 0)) rfl dX1_add_43 ?_
    refine lv_iload_n (pc := 46) hx hb dX1_add_46 rfl (lv_at hl 1 rfl) ?_
    refine lv_ior (pc := 47) hx hb dX1_add_47 ?_
    refine wput (pc := 48) X (fun _ h9 => List.mem_cons_of_mem _ (List.mem_append_right _ h9)) tyX1 tyX1_ok nmX1 hP hD hS 0 (at_Fi_0 G A (cset (cset o 0 0 t1) 1 0 ((o 1 0) &&& x1)) (jset j 0 ((j 0) + (1 : Int64)))) rfl 3 (by decide) (List.mem_cons_of_mem _ (List.mem_append_left _ (List.mem_of_getElem? (i := 3) rfl))) rfl rfl (ty := .int) (v := .int ((o 2 0) ||| x1)) rfl rfl rfl (Nat.le_of_ble_eq_true rfl) (st_Fi_0_3 G A (cset (cset o 0 0 t1) 1 0 ((o 1 0) &&& x1)) (jset j 0 ((j 0) + (1 : Int64))) ((o 2 0) ||| x1)) dX1_add_48 (fun H locs hP hD hS => ?_)
    cases hf
    exact hret _ _ _ _ dX1_add_51 hP hD hS
  unfold f_X1_add at hf
  refine lv_aload_n (pc := 0) hx hb dX1_add_0 rfl (lv_at hl 0 rfl) ?_
  refine lv_aload_n (pc := 1) hx hb dX1_add_1 rfl (lv_at hl 0 rfl) ?_
  refine wget (pc := 2) X (fun _ h9 => List.mem_cons_of_mem _ (List.mem_append_right _ h9)) hP 0 (at_Fi_0 G A o j) rfl 0 (by decide) (List.mem_cons_of_mem _ (List.mem_append_left _ (List.mem_of_getElem? (i := 0) rfl))) rfl (v := .long (j 0)) rfl dX1_add_2 ?_
  refine lv_lconst (pc := 5) (v := (0 : Int64)) hx hb dX1_add_5 (by decide) ?_
  refine W.lcmp (pc := 6) hx hb dX1_add_6 ?_
  refine lv_if_ne (pc := 7) (tgt := 14) hx hb dX1_add_7 (by decide) (fun h1 => ?_) (fun h1 => ?_)
  · have hf := br_n h1 hf
    refine lv_aload_n (pc := 14) hx hb dX1_add_14 rfl (lv_at hl 0 rfl) ?_
    refine wget (pc := 15) X (fun _ h9 => List.mem_cons_of_mem _ (List.mem_append_right _ h9)) hP 0 (at_Fi_0 G A o j) rfl 1 (by decide) (List.mem_cons_of_mem _ (List.mem_append_left _ (List.mem_of_getElem? (i := 1) rfl))) rfl (v := .int (o 0 0)) rfl dX1_add_15 ?_
    exact b_18 _ _ _ _ H locs ls hf hP hD hS (lv_sub hl [0, 1] rfl)
  · have hf := br_y h1 hf
    refine lv_iload_n (pc := 10) hx hb dX1_add_10 rfl (lv_at hl 1 rfl) ?_
    refine lv_goto (pc := 11) (tgt := 18) hx hb dX1_add_11 (by decide) ?_
    exact b_18 _ _ _ _ H locs ls hf hP hD hS (lv_sub hl [0, 1] rfl)
def r_X1_addFree : Room := { frames := 1, cells := 0, slots := 0, locals := 20 }
set_option maxHeartbeats 4000000 in
set_option maxRecDepth 100000 in
theorem c_X1_addFree (G : GT) (l : Launch) (A : Nat → Nat) (sz : Nat) (o : CS) (j : JS) (x1 : Int32) (o' : CS) (j' : JS) (hf : f_X1_addFree o j x1 = some (o', j')) : MTv l yX1_addFree wsX1_addFree r_X1_addFree [.ref (A 0), .int x1] G (w_Fi G A o j) (w_Fi G A o' j') sz := by
  refine MTv.of (cc := cX1_addFree) (maxL := 2) (by decide +kernel) rfl (Nat.le_of_ble_eq_true rfl) (fun p e s m av below meth cd Q B H locs ls X hret hl hP hD hS => ?_)
  have hx := X.1.1
  have hb := X.1.2.1
  have hl : lv_has ls 2 [(0, .ref (A 0)), (1, .int x1)] := hl
  have b_32 : ∀ (o : CS) (j : JS) (H : Heap) (locs : List Loc) (ls : Array Slot), f_X1_addFree_32 o j = some (o', j') → va_P G.1 vwCl (w_Fi G A o j) H → va_D B (w_Fi G A o j) → va_S B s.heap H locs → lv_has ls 2 [] → W p l e r_X1_addFree s m av below meth cd H locs 0 0 Q (F0 m 32 ls []) := by
    intro o j H locs ls hf hP hD hS hl
    unfold f_X1_addFree_32 at hf
    cases hf
    exact hret _ _ _ _ dX1_addFree_32 hP hD hS
  unfold f_X1_addFree at hf
  refine lv_aload_n (pc := 0) hx hb dX1_addFree_0 rfl (lv_at hl 0 rfl) ?_
  refine wget (pc := 1) X (fun _ h9 => List.mem_cons_of_mem _ (List.mem_append_right _ h9)) hP 0 (at_Fi_0 G A o j) rfl 0 (by decide) (List.mem_cons_of_mem _ (List.mem_append_left _ (List.mem_of_getElem? (i := 0) rfl))) rfl (v := .long (j 0)) rfl dX1_addFree_1 ?_
  refine lv_lconst (pc := 4) (v := (0 : Int64)) hx hb dX1_addFree_4 (by decide) ?_
  refine W.lcmp (pc := 5) hx hb dX1_addFree_5 ?_
  refine lv_if_le (pc := 6) (tgt := 32) hx hb dX1_addFree_6 (by decide) (fun h1 => ?_) (fun h1 => ?_)
  · have hf := br_y h1 hf
    exact b_32 _ _ H locs ls hf hP hD hS (lv_sub hl [] rfl)
  · have hf := br_n h1 hf
    refine lv_aload_n (pc := 9) hx hb dX1_addFree_9 rfl (lv_at hl 0 rfl) ?_
    refine lv_dup (pc := 10) hx hb dX1_addFree_10 rfl ?_
    refine wget (pc := 11) X (fun _ h9 => List.mem_cons_of_mem _ (List.mem_append_right _ h9)) hP 0 (at_Fi_0 G A o j) rfl 0 (by decide) (List.mem_cons_of_mem _ (List.mem_append_left _ (List.mem_of_getElem? (i := 0) rfl))) rfl (v := .long (j 0)) rfl dX1_addFree_11 ?_
    refine lv_iload_n (pc := 14) hx hb dX1_addFree_14 rfl (lv_at hl 1 rfl) ?_
    obtain ⟨r1, hc1, hf⟩ := ob1_some hf
    refine endi X.2.2.2.2 (runS (pc := 15) (As := [.int x1]) (rest := [.long (j 0), .ref (A 0)]) X (c_J6_bitCount_0f7a4 G l  H.size x1 r1 hc1) gX1_addFree_J6_bitCount_0f7a4 k_J6_bitCount_0f7a4 ⟨rfl, rfl⟩ ⟨Nat.le_of_ble_eq_true rfl, Nat.le_of_ble_eq_true rfl⟩ (EM.nil (w_Fi G A o j)) hP hD hS rfl hl.1 rfl (Nat.le_of_ble_eq_true rfl) ⟨Nat.zero_le _, Nat.zero_le _⟩ dX1_addFree_15) (EM.nil (w_Fi G A o j)) hP hD hS (fun H locs hP hD hS => ?_)
    refine lv_lshl (pc := 18) (v := (jshlL (j 0) r1)) hx hb dX1_addFree_18 rfl ?_
    refine wput (pc := 19) X (fun _ h9 => List.mem_cons_of_mem _ (List.mem_append_right _ h9)) tyX1 tyX1_ok nmX1 hP hD hS 0 (at_Fi_0 G A o j) rfl 0 (by decide) (List.mem_cons_of_mem _ (List.mem_append_left _ (List.mem_of_getElem? (i := 0) rfl))) rfl rfl (ty := .long) (v := .long (jshlL (j 0) r1)) rfl rfl rfl (Nat.le_of_ble_eq_true rfl) (st_Fi_0_0 G A o j (jshlL (j 0) r1)) dX1_addFree_19 (fun H locs hP hD hS => ?_)
    refine lv_aload_n (pc := 22) hx hb dX1_addFree_22 rfl (lv_at hl 0 rfl) ?_
    refine lv_dup (pc := 23) hx hb dX1_addFree_23 rfl ?_
    refine wget (pc := 24) X (fun _ h9 => List.mem_cons_of_mem _ (List.mem_append_right _ h9)) hP 0 (at_Fi_0 G A o (jset j 0 (jshlL (j 0) r1))) rfl 3 (by decide) (List.mem_cons_of_mem _ (List.mem_append_left _ (List.mem_of_getElem? (i := 1) rfl))) rfl (v := .int (o 2 0)) rfl dX1_addFree_24 ?_
    refine lv_iload_n (pc := 27) hx hb dX1_addFree_27 rfl (lv_at hl 1 rfl) ?_
    refine lv_ior (pc := 28) hx hb dX1_addFree_28 ?_
    refine wput (pc := 29) X (fun _ h9 => List.mem_cons_of_mem _ (List.mem_append_right _ h9)) tyX1 tyX1_ok nmX1 hP hD hS 0 (at_Fi_0 G A o (jset j 0 (jshlL (j 0) r1))) rfl 3 (by decide) (List.mem_cons_of_mem _ (List.mem_append_left _ (List.mem_of_getElem? (i := 1) rfl))) rfl rfl (ty := .int) (v := .int ((o 2 0) ||| x1)) rfl rfl rfl (Nat.le_of_ble_eq_true rfl) (st_Fi_0_3 G A o (jset j 0 (jshlL (j 0) r1)) ((o 2 0) ||| x1)) dX1_addFree_29 (fun H locs hP hD hS => ?_)
    exact b_32 _ _ H locs ls hf hP hD hS (lv_sub hl [] rfl)
def r_X1_isAsTold : Room := { frames := 3, cells := 0, slots := 0, locals := 76 }
set_option maxHeartbeats 4000000 in
set_option maxRecDepth 100000 in
theorem c_X1_isAsTold (G : GT) (l : Launch) (A : Nat → Nat) (sz : Nat) (o : CS) (j : JS) (c : CS) (b : CS) (x3 : Int32) (x4 : Int32) (x5 : Int32) (r : Int32) (c' : CS) (hf : f_X1_isAsTold o j c b x3 x4 x5 = some (r, c')) : MTi l yX1_isAsTold wsX1_isAsTold r_X1_isAsTold [.ref (A 0), .ref (A 1), .ref (A 11), .int x3, .int x4, .int x5] G (w_FCS G A o j c b) (w_FCS G A o j c' b) sz r := by
  refine MTz.of (cc := cX1_isAsTold) (maxL := 8) (by decide +kernel) rfl (Nat.le_of_ble_eq_true rfl) (fun p e s m av below meth cd Q B H locs ls X hret hl hP hD hS => ?_)
  have hx := X.1.1
  have hb := X.1.2.1
  have hl : lv_has ls 8 [(0, .ref (A 0)), (1, .ref (A 1)), (2, .ref (A 11)), (3, .int x3), (4, .int x4), (5, .int x5)] := hl
  have b_58 : ∀ (t0 : Int32) (c : CS) (H : Heap) (locs : List Loc) (ls : Array Slot), f_X1_isAsTold_58 t0 o j c b = some (r, c') → va_P G.1 vwCl (w_FCS G A o j c b) H → va_D B (w_FCS G A o j c b) → va_S B s.heap H locs → lv_has ls 8 [] → W p l e r_X1_isAsTold s m av below meth cd H locs 0 0 Q (F0 m 58 ls [.int t0]) := by
    intro t0 c H locs ls hf hP hD hS hl
    unfold f_X1_isAsTold_58 at hf
    obtain ⟨hz, hf⟩ := ck_some hf
    cases hf
    exact hret _ _ _ _ (isb_or hz) dX1_isAsTold_58 hP hD hS
  unfold f_X1_isAsTold at hf
  refine lv_iload (pc := 0) hx hb dX1_isAsTold_0 (lv_at hl 4 rfl) ?_
  refine lv_iconst (pc := 2) (v := (4 : Int32)) hx hb dX1_isAsTold_2 (by decide) ?_
  refine lv_imul (pc := 3) hx hb dX1_isAsTold_3 ?_
  refine lv_istore (pc := 4) (lv' := [(6, .int (x4 * (4 : Int32))), (0, .ref (A 0)), (1, .ref (A 1)), (2, .ref (A 11)), (3, .int x3), (4, .int x4), (5, .int x5)]) hx hb dX1_isAsTold_4 hl (by decide) rfl (fun ls hl => ?_)
  refine lv_aload_n (pc := 6) hx hb dX1_isAsTold_6 rfl (lv_at hl 2 rfl) ?_
  refine lv_aload_n (pc := 7) hx hb dX1_isAsTold_7 rfl (lv_at hl 3 rfl) ?_
  refine lv_iload_n (pc := 8) hx hb dX1_isAsTold_8 rfl (lv_at hl 4 rfl) ?_
  refine lv_iload (pc := 9) hx hb dX1_isAsTold_9 (lv_at hl 0 rfl) ?_
  obtain ⟨r1, hc1, hf⟩ := ob1_some hf
  refine endi X.2.2.2.2 (runV (pc := 11) (As := [.int x3, .int (x4 * (4 : Int32))]) (rest := [.ref (A 1)]) X (c_X3_get_r G l (fun k => A (11 + k)) H.size b x3 (x4 * (4 : Int32)) r1 hc1) gX1_isAsTold_X3_get k_X3_get ⟨rfl, rfl⟩ ⟨Nat.le_of_ble_eq_true rfl, Nat.le_of_ble_eq_true rfl⟩ (em_FCS_S6_11 G A o j c b ) hP hD hS (ci := 3) rfl rfl (at_S6_0 G (fun k => A (11 + k)) b) rfl hl.1 rfl (Nat.le_of_ble_eq_true rfl) ⟨Nat.zero_le _, Nat.zero_le _⟩ dX1_isAsTold_11) (em_FCS_S6_11 G A o j c b ) hP hD hS (fun H locs hP hD hS => ?_)
  refine lv_aload_n (pc := 14) hx hb dX1_isAsTold_14 rfl (lv_at hl 3 rfl) ?_
  refine lv_iload_n (pc := 15) hx hb dX1_isAsTold_15 rfl (lv_at hl 4 rfl) ?_
  refine lv_iload (pc := 16) hx hb dX1_isAsTold_16 (lv_at hl 0 rfl) ?_
  refine lv_iconst (pc := 18) (v := (1 : Int32)) hx hb dX1_isAsTold_18 (by decide) ?_
  refine lv_iadd (pc := 19) hx hb dX1_isAsTold_19 ?_
  obtain ⟨r2, hc2, hf⟩ := ob1_some hf
  refine endi X.2.2.2.2 (runV (pc := 20) (As := [.int x3, .int ((x4 * (4 : Int32)) + (1 : Int32))]) (rest := [.int r1, .ref (A 1)]) X (c_X3_get_r G l (fun k => A (11 + k)) H.size b x3 ((x4 * (4 : Int32)) + (1 : Int32)) r2 hc2) gX1_isAsTold_X3_get k_X3_get ⟨rfl, rfl⟩ ⟨Nat.le_of_ble_eq_true rfl, Nat.le_of_ble_eq_true rfl⟩ (em_FCS_S6_11 G A o j c b ) hP hD hS (ci := 3) rfl rfl (at_S6_0 G (fun k => A (11 + k)) b) rfl hl.1 rfl (Nat.le_of_ble_eq_true rfl) ⟨Nat.zero_le _, Nat.zero_le _⟩ dX1_isAsTold_20) (em_FCS_S6_11 G A o j c b ) hP hD hS (fun H locs hP hD hS => ?_)
  refine lv_aload_n (pc := 23) hx hb dX1_isAsTold_23 rfl (lv_at hl 3 rfl) ?_
  refine lv_iload_n (pc := 24) hx hb dX1_isAsTold_24 rfl (lv_at hl 4 rfl) ?_
  refine lv_iload (pc := 25) hx hb dX1_isAsTold_25 (lv_at hl 0 rfl) ?_
  refine lv_iconst (pc := 27) (v := (2 : Int32)) hx hb dX1_isAsTold_27 (by decide) ?_
  refine lv_iadd (pc := 28) hx hb dX1_isAsTold_28 ?_
  obtain ⟨r3, hc3, hf⟩ := ob1_some hf
  refine endi X.2.2.2.2 (runV (pc := 29) (As := [.int x3, .int ((x4 * (4 : Int32)) + (2 : Int32))]) (rest := [.int r2, .int r1, .ref (A 1)]) X (c_X3_get_r G l (fun k => A (11 + k)) H.size b x3 ((x4 * (4 : Int32)) + (2 : Int32)) r3 hc3) gX1_isAsTold_X3_get k_X3_get ⟨rfl, rfl⟩ ⟨Nat.le_of_ble_eq_true rfl, Nat.le_of_ble_eq_true rfl⟩ (em_FCS_S6_11 G A o j c b ) hP hD hS (ci := 3) rfl rfl (at_S6_0 G (fun k => A (11 + k)) b) rfl hl.1 rfl (Nat.le_of_ble_eq_true rfl) ⟨Nat.zero_le _, Nat.zero_le _⟩ dX1_isAsTold_29) (em_FCS_S6_11 G A o j c b ) hP hD hS (fun H locs hP hD hS => ?_)
  refine lv_iload (pc := 32) hx hb dX1_isAsTold_32 (lv_at hl 6 rfl) ?_
  obtain ⟨r4, c4, hc4, hf⟩ := ob2_some hf
  refine endi X.2.2.2.2 (runV (pc := 34) (As := [.int r1, .int r2, .int r3, .int x5]) (rest := []) X (c_X0_doneIf G l (fun k => A (1 + k)) H.size c r1 r2 r3 x5 r4 c4 hc4) gX1_isAsTold_X0_doneIf k_X0_doneIf ⟨rfl, rfl⟩ ⟨Nat.le_of_ble_eq_true rfl, Nat.le_of_ble_eq_true rfl⟩ (em_FCS_Ch_1_c G A o j c b c4) hP hD hS (ci := 0) rfl rfl (at_Ch_0 G (fun k => A (1 + k)) c) rfl hl.1 rfl (Nat.le_of_ble_eq_true rfl) ⟨Nat.zero_le _, Nat.zero_le _⟩ dX1_isAsTold_34) (em_FCS_Ch_1_c G A o j c b c4) hP hD hS (fun H locs hP hD hS => ?_)
  refine lv_istore (pc := 37) (lv' := [(7, .int r4), (6, .int (x4 * (4 : Int32))), (0, .ref (A 0)), (1, .ref (A 1)), (2, .ref (A 11)), (3, .int x3), (4, .int x4), (5, .int x5)]) hx hb dX1_isAsTold_37 hl (by decide) rfl (fun ls hl => ?_)
  refine lv_iload (pc := 39) hx hb dX1_isAsTold_39 (lv_at hl 0 rfl) ?_
  refine lv_aload_n (pc := 41) hx hb dX1_isAsTold_41 rfl (lv_at hl 4 rfl) ?_
  refine lv_iload_n (pc := 42) hx hb dX1_isAsTold_42 rfl (lv_at hl 5 rfl) ?_
  refine lv_iload (pc := 43) hx hb dX1_isAsTold_43 (lv_at hl 1 rfl) ?_
  refine lv_iconst (pc := 45) (v := (3 : Int32)) hx hb dX1_isAsTold_45 (by decide) ?_
  refine lv_iadd (pc := 46) hx hb dX1_isAsTold_46 ?_
  obtain ⟨r5, hc5, hf⟩ := ob1_some hf
  refine endi X.2.2.2.2 (runV (pc := 47) (As := [.int x3, .int ((x4 * (4 : Int32)) + (3 : Int32))]) (rest := [.int r4]) X (c_X3_get_r G l (fun k => A (11 + k)) H.size b x3 ((x4 * (4 : Int32)) + (3 : Int32)) r5 hc5) gX1_isAsTold_X3_get k_X3_get ⟨rfl, rfl⟩ ⟨Nat.le_of_ble_eq_true rfl, Nat.le_of_ble_eq_true rfl⟩ (em_FCS_S6_11 G A o j c4 b ) hP hD hS (ci := 3) rfl rfl (at_S6_0 G (fun k => A (11 + k)) b) rfl hl.1 rfl (Nat.le_of_ble_eq_true rfl) ⟨Nat.zero_le _, Nat.zero_le _⟩ dX1_isAsTold_47) (em_FCS_S6_11 G A o j c4 b ) hP hD hS (fun H locs hP hD hS => ?_)
  refine lv_icmp_ne (pc := 50) (tgt := 57) hx hb dX1_isAsTold_50 (by decide) (fun h1 => ?_) (fun h1 => ?_)
  · have hf := br_n h1 hf
    refine lv_iconst (pc := 57) (v := (0 : Int32)) hx hb dX1_isAsTold_57 (by decide) ?_
    exact b_58 _ _ H locs ls hf hP hD hS (lv_sub hl [] rfl)
  · have hf := br_y h1 hf
    refine lv_iconst (pc := 53) (v := (1 : Int32)) hx hb dX1_isAsTold_53 (by decide) ?_
    refine lv_goto (pc := 54) (tgt := 58) hx hb dX1_isAsTold_54 (by decide) ?_
    exact b_58 _ _ H locs ls hf hP hD hS (lv_sub hl [] rfl)
def r_X1_isAllAsTold : Room := { frames := 4, cells := 0, slots := 0, locals := 103 }
set_option maxHeartbeats 4000000 in
set_option maxRecDepth 100000 in
theorem c_X1_isAllAsTold (G : GT) (l : Launch) (A : Nat → Nat) (sz : Nat) (o : CS) (j : JS) (c : CS) (b : CS) (x3 : Int32) (x4 : Int32) (r : Int32) (c' : CS) (hf : f_X1_isAllAsTold o j c b x3 x4 = some (r, c')) : MTi l yX1_isAllAsTold wsX1_isAllAsTold r_X1_isAllAsTold [.ref (A 0), .ref (A 1), .ref (A 11), .int x3, .int x4] G (w_FCS G A o j c b) (w_FCS G A o j c' b) sz r := by
  refine MTz.of (cc := cX1_isAllAsTold) (maxL := 7) (by decide +kernel) rfl (Nat.le_of_ble_eq_true rfl) (fun p e s m av below meth cd Q B H locs ls X hret hl hP hD hS => ?_)
  have hx := X.1.1
  have hb := X.1.2.1
  have hl : lv_has ls 7 [(0, .ref (A 0)), (1, .ref (A 1)), (2, .ref (A 11)), (3, .int x3), (4, .int x4)] := hl
  have l_12 : ∀ (n12 : Nat), ∀ (x3 : Int32) (x4 : Int32) (x5 : Int32) (x6 : Int32) (c : CS) (H : Heap) (locs : List Loc) (ls : Array Slot), f_X1_isAllAsTold_12 n12 x3 x4 x5 x6 o j c b = some (r, c') → va_P G.1 vwCl (w_FCS G A o j c b) H → va_D B (w_FCS G A o j c b) → va_S B s.heap H locs → lv_has ls 7 [(0, .ref (A 0)), (1, .ref (A 1)), (2, .ref (A 11)), (3, .int x3), (4, .int x4), (5, .int x5), (6, .int x6)] → W p l e r_X1_isAllAsTold s m av below meth cd H locs 0 0 Q (F0 m 12 ls []) := by
    intro n12
    induction n12 with
    | zero =>
      intro x3 x4 x5 x6 c H locs ls hf hP hD hS hl
      rw [f_X1_isAllAsTold_12] at hf
      cases hf
    | succ n12 ih12 =>
      intro x3 x4 x5 x6 c H locs ls hf hP hD hS hl
      rw [f_X1_isAllAsTold_12] at hf
      refine lv_iload (pc := 12) hx hb dX1_isAllAsTold_12 (lv_at hl 6 rfl) ?_
      refine lv_iload (pc := 14) hx hb dX1_isAllAsTold_14 (lv_at hl 5 rfl) ?_
      refine lv_icmp_ge (pc := 16) (tgt := 41) hx hb dX1_isAllAsTold_16 (by decide) (fun h2 => ?_) (fun h2 => ?_)
      · have hf := br_y h2 hf
        refine lv_iconst (pc := 41) (v := (1 : Int32)) hx hb dX1_isAllAsTold_41 (by decide) ?_
        cases hf
        exact hret _ _ _ _ (by decide) dX1_isAllAsTold_42 hP hD hS
      · have hf := br_n h2 hf
        refine lv_aload_n (pc := 19) hx hb dX1_isAllAsTold_19 rfl (lv_at hl 0 rfl) ?_
        refine lv_aload_n (pc := 20) hx hb dX1_isAllAsTold_20 rfl (lv_at hl 1 rfl) ?_
        refine lv_aload_n (pc := 21) hx hb dX1_isAllAsTold_21 rfl (lv_at hl 2 rfl) ?_
        refine lv_iload_n (pc := 22) hx hb dX1_isAllAsTold_22 rfl (lv_at hl 3 rfl) ?_
        refine lv_iload (pc := 23) hx hb dX1_isAllAsTold_23 (lv_at hl 6 rfl) ?_
        refine lv_iload (pc := 25) hx hb dX1_isAllAsTold_25 (lv_at hl 4 rfl) ?_
        obtain ⟨r1, c1, hc1, hf⟩ := ob2_some hf
        refine endi X.2.2.2.2 (runV (pc := 27) (As := [.ref (A 1), .ref (A 11), .int x3, .int x6, .int x4]) (rest := []) X (c_X1_isAsTold G l A H.size o j c b x3 x6 x4 r1 c1 hc1) gX1_isAllAsTold_X1_isAsTold k_X1_isAsTold ⟨rfl, rfl⟩ ⟨Nat.le_of_ble_eq_true rfl, Nat.le_of_ble_eq_true rfl⟩ (EM.all (w_FCS G A o j c b) (w_FCS G A o j c1 b)) hP hD hS (ci := 1) rfl rfl (at_FCS_0 G A o j c b) rfl hl.1 rfl (Nat.le_of_ble_eq_true rfl) ⟨Nat.zero_le _, Nat.zero_le _⟩ dX1_isAllAsTold_27) (EM.all (w_FCS G A o j c b) (w_FCS G A o j c1 b)) hP hD hS (fun H locs hP hD hS => ?_)
        refine lv_if_ne (pc := 30) (tgt := 35) hx hb dX1_isAllAsTold_30 (by decide) (fun h1 => ?_) (fun h1 => ?_)
        · have hf := br_n h1 hf
          refine lv_iinc (pc := 35) (v := (x6 + (1 : Int32))) (lv' := [(6, .int (x6 + (1 : Int32))), (0, .ref (A 0)), (1, .ref (A 1)), (2, .ref (A 11)), (3, .int x3), (4, .int x4), (5, .int x5)]) hx hb dX1_isAllAsTold_35 hl (k := 6) rfl rfl (by decide) rfl (fun ls hl => ?_)
          refine lv_goto (pc := 38) (tgt := 12) hx hb dX1_isAllAsTold_38 (by decide) ?_
          exact ih12 _ _ _ _ _ H locs ls hf hP hD hS (lv_sub hl [1, 2, 3, 4, 5, 6, 0] rfl)
        · have hf := br_y h1 hf
          refine lv_iconst (pc := 33) (v := (0 : Int32)) hx hb dX1_isAllAsTold_33 (by decide) ?_
          cases hf
          exact hret _ _ _ _ (by decide) dX1_isAllAsTold_34 hP hD hS
  unfold f_X1_isAllAsTold at hf
  refine lv_aload_n (pc := 0) hx hb dX1_isAllAsTold_0 rfl (lv_at hl 2 rfl) ?_
  refine lv_iload_n (pc := 1) hx hb dX1_isAllAsTold_1 rfl (lv_at hl 3 rfl) ?_
  obtain ⟨r1, hc1, hf⟩ := ob1_some hf
  refine endi X.2.2.2.2 (runV (pc := 2) (As := [.int x3]) (rest := []) X (c_X3_sizeOf_r G l (fun k => A (11 + k)) H.size b x3 r1 hc1) gX1_isAllAsTold_X3_sizeOf k_X3_sizeOf ⟨rfl, rfl⟩ ⟨Nat.le_of_ble_eq_true rfl, Nat.le_of_ble_eq_true rfl⟩ (em_FCS_S6_11 G A o j c b ) hP hD hS (ci := 3) rfl rfl (at_S6_0 G (fun k => A (11 + k)) b) rfl hl.1 rfl (Nat.le_of_ble_eq_true rfl) ⟨Nat.zero_le _, Nat.zero_le _⟩ dX1_isAllAsTold_2) (em_FCS_S6_11 G A o j c b ) hP hD hS (fun H locs hP hD hS => ?_)
  refine lv_iconst (pc := 5) (v := (4 : Int32)) hx hb dX1_isAllAsTold_5 (by decide) ?_
  refine lv_idiv (pc := 6) hx hb dX1_isAllAsTold_6 (by decide) ?_
  refine lv_istore (pc := 7) (lv' := [(5, .int (r1 / (4 : Int32))), (0, .ref (A 0)), (1, .ref (A 1)), (2, .ref (A 11)), (3, .int x3), (4, .int x4)]) hx hb dX1_isAllAsTold_7 hl (by decide) rfl (fun ls hl => ?_)
  refine lv_iconst (pc := 9) (v := (0 : Int32)) hx hb dX1_isAllAsTold_9 (by decide) ?_
  refine lv_istore (pc := 10) (lv' := [(6, .int (0 : Int32)), (5, .int (r1 / (4 : Int32))), (0, .ref (A 0)), (1, .ref (A 1)), (2, .ref (A 11)), (3, .int x3), (4, .int x4)]) hx hb dX1_isAllAsTold_10 hl (by decide) rfl (fun ls hl => ?_)
  exact l_12 FU _ _ _ _ _ H locs ls hf hP hD hS (lv_sub hl [2, 3, 4, 5, 6, 1, 0] rfl)
def r_X1_onTheWays : Room := { frames := 3, cells := 0, slots := 0, locals := 65 }
set_option maxHeartbeats 4000000 in
set_option maxRecDepth 100000 in
theorem c_X1_onTheWays (G : GT) (l : Launch) (A : Nat → Nat) (sz : Nat) (c : CS) (b : CS) (x2 : Int32) (r : Int32) (hf : f_X1_onTheWays c b x2 = some r) : MTi l yX1_onTheWays wsX1_onTheWays r_X1_onTheWays [.ref (A 0), .ref (A 10), .int x2] G (w_CS G A c b) (w_CS G A c b) sz r := by
  refine MTi.of (cc := cX1_onTheWays) (maxL := 7) (by decide +kernel) rfl (Nat.le_of_ble_eq_true rfl) (fun p e s m av below meth cd Q B H locs ls X hret hl hP hD hS => ?_)
  have hx := X.1.1
  have hb := X.1.2.1
  have hl : lv_has ls 7 [(0, .ref (A 0)), (1, .ref (A 10)), (2, .int x2)] := hl
  have l_14 : ∀ (n14 : Nat), ∀ (x2 : Int32) (x3 : Int32) (x4 : Int32) (x5 : Int32) (H : Heap) (locs : List Loc) (ls : Array Slot), f_X1_onTheWays_14 n14 x2 x3 x4 x5 c b = some r → va_P G.1 vwCl (w_CS G A c b) H → va_D B (w_CS G A c b) → va_S B s.heap H locs → lv_has ls 7 [(0, .ref (A 0)), (1, .ref (A 10)), (2, .int x2), (3, .int x3), (4, .int x4), (5, .int x5)] → W p l e r_X1_onTheWays s m av below meth cd H locs 0 0 Q (F0 m 14 ls []) := by
    intro n14
    induction n14 with
    | zero =>
      intro x2 x3 x4 x5 H locs ls hf hP hD hS hl
      rw [f_X1_onTheWays_14] at hf
      cases hf
    | succ n14 ih14 =>
      intro x2 x3 x4 x5 H locs ls hf hP hD hS hl
      rw [f_X1_onTheWays_14] at hf
      refine lv_iload (pc := 14) hx hb dX1_onTheWays_14 (lv_at hl 5 rfl) ?_
      refine lv_iload (pc := 16) hx hb dX1_onTheWays_16 (lv_at hl 4 rfl) ?_
      refine lv_icmp_ge (pc := 18) (tgt := 65) hx hb dX1_onTheWays_18 (by decide) (fun h1 => ?_) (fun h1 => ?_)
      · have hf := br_y h1 hf
        refine lv_iload_n (pc := 65) hx hb dX1_onTheWays_65 rfl (lv_at hl 3 rfl) ?_
        refine lv_aload_n (pc := 66) hx hb dX1_onTheWays_66 rfl (lv_at hl 0 rfl) ?_
        obtain ⟨r1, hc1, hf⟩ := ob1_some hf
        refine endi X.2.2.2.2 (runV (pc := 67) (As := []) (rest := [.int x3]) X (c_X0_unmended G l (fun k => A (0 + k)) H.size c r1 hc1) gX1_onTheWays_X0_unmended k_X0_unmended ⟨rfl, rfl⟩ ⟨Nat.le_of_ble_eq_true rfl, Nat.le_of_ble_eq_true rfl⟩ (em_CS_Ch_0 G A c b ) hP hD hS (ci := 0) rfl rfl (at_Ch_0 G (fun k => A (0 + k)) c) rfl hl.1 rfl (Nat.le_of_ble_eq_true rfl) ⟨Nat.zero_le _, Nat.zero_le _⟩ dX1_onTheWays_67) (em_CS_Ch_0 G A c b ) hP hD hS (fun H locs hP hD hS => ?_)
        refine lv_iand (pc := 70) hx hb dX1_onTheWays_70 ?_
        cases hf
        exact hret _ _ _ _ dX1_onTheWays_71 hP hD hS
      · have hf := br_n h1 hf
        refine lv_iload (pc := 21) hx hb dX1_onTheWays_21 (lv_at hl 5 rfl) ?_
        refine lv_iconst (pc := 23) (v := (4 : Int32)) hx hb dX1_onTheWays_23 (by decide) ?_
        refine lv_imul (pc := 24) hx hb dX1_onTheWays_24 ?_
        refine lv_istore (pc := 25) (lv' := [(6, .int (x5 * (4 : Int32))), (0, .ref (A 0)), (1, .ref (A 10)), (2, .int x2), (3, .int x3), (4, .int x4), (5, .int x5)]) hx hb dX1_onTheWays_25 hl (by decide) rfl (fun ls hl => ?_)
        refine lv_iload_n (pc := 27) hx hb dX1_onTheWays_27 rfl (lv_at hl 4 rfl) ?_
        refine lv_aload_n (pc := 28) hx hb dX1_onTheWays_28 rfl (lv_at hl 1 rfl) ?_
        refine lv_aload_n (pc := 29) hx hb dX1_onTheWays_29 rfl (lv_at hl 2 rfl) ?_
        refine lv_iload_n (pc := 30) hx hb dX1_onTheWays_30 rfl (lv_at hl 3 rfl) ?_
        refine lv_iload (pc := 31) hx hb dX1_onTheWays_31 (lv_at hl 0 rfl) ?_
        obtain ⟨r2, hc2, hf⟩ := ob1_some hf
        refine endi X.2.2.2.2 (runV (pc := 33) (As := [.int x2, .int (x5 * (4 : Int32))]) (rest := [.ref (A 0), .int x3]) X (c_X3_get_r G l (fun k => A (10 + k)) H.size b x2 (x5 * (4 : Int32)) r2 hc2) gX1_onTheWays_X3_get k_X3_get ⟨rfl, rfl⟩ ⟨Nat.le_of_ble_eq_true rfl, Nat.le_of_ble_eq_true rfl⟩ (em_CS_S6_10 G A c b ) hP hD hS (ci := 3) rfl rfl (at_S6_0 G (fun k => A (10 + k)) b) rfl hl.1 rfl (Nat.le_of_ble_eq_true rfl) ⟨Nat.zero_le _, Nat.zero_le _⟩ dX1_onTheWays_33) (em_CS_S6_10 G A c b ) hP hD hS (fun H locs hP hD hS => ?_)
        refine lv_aload_n (pc := 36) hx hb dX1_onTheWays_36 rfl (lv_at hl 2 rfl) ?_
        refine lv_iload_n (pc := 37) hx hb dX1_onTheWays_37 rfl (lv_at hl 3 rfl) ?_
        refine lv_iload (pc := 38) hx hb dX1_onTheWays_38 (lv_at hl 0 rfl) ?_
        refine lv_iconst (pc := 40) (v := (1 : Int32)) hx hb dX1_onTheWays_40 (by decide) ?_
        refine lv_iadd (pc := 41) hx hb dX1_onTheWays_41 ?_
        obtain ⟨r3, hc3, hf⟩ := ob1_some hf
        refine endi X.2.2.2.2 (runV (pc := 42) (As := [.int x2, .int ((x5 * (4 : Int32)) + (1 : Int32))]) (rest := [.int r2, .ref (A 0), .int x3]) X (c_X3_get_r G l (fun k => A (10 + k)) H.size b x2 ((x5 * (4 : Int32)) + (1 : Int32)) r3 hc3) gX1_onTheWays_X3_get k_X3_get ⟨rfl, rfl⟩ ⟨Nat.le_of_ble_eq_true rfl, Nat.le_of_ble_eq_true rfl⟩ (em_CS_S6_10 G A c b ) hP hD hS (ci := 3) rfl rfl (at_S6_0 G (fun k => A (10 + k)) b) rfl hl.1 rfl (Nat.le_of_ble_eq_true rfl) ⟨Nat.zero_le _, Nat.zero_le _⟩ dX1_onTheWays_42) (em_CS_S6_10 G A c b ) hP hD hS (fun H locs hP hD hS => ?_)
        refine lv_aload_n (pc := 45) hx hb dX1_onTheWays_45 rfl (lv_at hl 2 rfl) ?_
        refine lv_iload_n (pc := 46) hx hb dX1_onTheWays_46 rfl (lv_at hl 3 rfl) ?_
        refine lv_iload (pc := 47) hx hb dX1_onTheWays_47 (lv_at hl 0 rfl) ?_
        refine lv_iconst (pc := 49) (v := (2 : Int32)) hx hb dX1_onTheWays_49 (by decide) ?_
        refine lv_iadd (pc := 50) hx hb dX1_onTheWays_50 ?_
        obtain ⟨r4, hc4, hf⟩ := ob1_some hf
        refine endi X.2.2.2.2 (runV (pc := 51) (As := [.int x2, .int ((x5 * (4 : Int32)) + (2 : Int32))]) (rest := [.int r3, .int r2, .ref (A 0), .int x3]) X (c_X3_get_r G l (fun k => A (10 + k)) H.size b x2 ((x5 * (4 : Int32)) + (2 : Int32)) r4 hc4) gX1_onTheWays_X3_get k_X3_get ⟨rfl, rfl⟩ ⟨Nat.le_of_ble_eq_true rfl, Nat.le_of_ble_eq_true rfl⟩ (em_CS_S6_10 G A c b ) hP hD hS (ci := 3) rfl rfl (at_S6_0 G (fun k => A (10 + k)) b) rfl hl.1 rfl (Nat.le_of_ble_eq_true rfl) ⟨Nat.zero_le _, Nat.zero_le _⟩ dX1_onTheWays_51) (em_CS_S6_10 G A c b ) hP hD hS (fun H locs hP hD hS => ?_)
        obtain ⟨r5, hc5, hf⟩ := ob1_some hf
        refine endi X.2.2.2.2 (runV (pc := 54) (As := [.int r2, .int r3, .int r4]) (rest := [.int x3]) X (c_X0_onTheWay G l (fun k => A (0 + k)) H.size c r2 r3 r4 r5 hc5) gX1_onTheWays_X0_onTheWay k_X0_onTheWay ⟨rfl, rfl⟩ ⟨Nat.le_of_ble_eq_true rfl, Nat.le_of_ble_eq_true rfl⟩ (em_CS_Ch_0 G A c b ) hP hD hS (ci := 0) rfl rfl (at_Ch_0 G (fun k => A (0 + k)) c) rfl hl.1 rfl (Nat.le_of_ble_eq_true rfl) ⟨Nat.zero_le _, Nat.zero_le _⟩ dX1_onTheWays_54) (em_CS_Ch_0 G A c b ) hP hD hS (fun H locs hP hD hS => ?_)
        refine lv_ior (pc := 57) hx hb dX1_onTheWays_57 ?_
        refine lv_istore_n (pc := 58) (lv' := [(3, .int (x3 ||| r5)), (6, .int (x5 * (4 : Int32))), (0, .ref (A 0)), (1, .ref (A 10)), (2, .int x2), (4, .int x4), (5, .int x5)]) hx hb dX1_onTheWays_58 rfl hl (by decide) rfl (fun ls hl => ?_)
        refine lv_iinc (pc := 59) (v := (x5 + (1 : Int32))) (lv' := [(5, .int (x5 + (1 : Int32))), (3, .int (x3 ||| r5)), (6, .int (x5 * (4 : Int32))), (0, .ref (A 0)), (1, .ref (A 10)), (2, .int x2), (4, .int x4)]) hx hb dX1_onTheWays_59 hl (k := 6) rfl rfl (by decide) rfl (fun ls hl => ?_)
        refine lv_goto (pc := 62) (tgt := 14) hx hb dX1_onTheWays_62 (by decide) ?_
        exact ih14 _ _ _ _ H locs ls hf hP hD hS (lv_sub hl [3, 4, 5, 1, 6, 0] rfl)
  unfold f_X1_onTheWays at hf
  refine lv_iconst (pc := 0) (v := (0 : Int32)) hx hb dX1_onTheWays_0 (by decide) ?_
  refine lv_istore_n (pc := 1) (lv' := [(3, .int (0 : Int32)), (0, .ref (A 0)), (1, .ref (A 10)), (2, .int x2)]) hx hb dX1_onTheWays_1 rfl hl (by decide) rfl (fun ls hl => ?_)
  refine lv_aload_n (pc := 2) hx hb dX1_onTheWays_2 rfl (lv_at hl 2 rfl) ?_
  refine lv_iload_n (pc := 3) hx hb dX1_onTheWays_3 rfl (lv_at hl 3 rfl) ?_
  obtain ⟨r1, hc1, hf⟩ := ob1_some hf
  refine endi X.2.2.2.2 (runV (pc := 4) (As := [.int x2]) (rest := []) X (c_X3_sizeOf_r G l (fun k => A (10 + k)) H.size b x2 r1 hc1) gX1_onTheWays_X3_sizeOf k_X3_sizeOf ⟨rfl, rfl⟩ ⟨Nat.le_of_ble_eq_true rfl, Nat.le_of_ble_eq_true rfl⟩ (em_CS_S6_10 G A c b ) hP hD hS (ci := 3) rfl rfl (at_S6_0 G (fun k => A (10 + k)) b) rfl hl.1 rfl (Nat.le_of_ble_eq_true rfl) ⟨Nat.zero_le _, Nat.zero_le _⟩ dX1_onTheWays_4) (em_CS_S6_10 G A c b ) hP hD hS (fun H locs hP hD hS => ?_)
  refine lv_iconst (pc := 7) (v := (4 : Int32)) hx hb dX1_onTheWays_7 (by decide) ?_
  refine lv_idiv (pc := 8) hx hb dX1_onTheWays_8 (by decide) ?_
  refine lv_istore (pc := 9) (lv' := [(4, .int (r1 / (4 : Int32))), (3, .int (0 : Int32)), (0, .ref (A 0)), (1, .ref (A 10)), (2, .int x2)]) hx hb dX1_onTheWays_9 hl (by decide) rfl (fun ls hl => ?_)
  refine lv_iconst (pc := 11) (v := (0 : Int32)) hx hb dX1_onTheWays_11 (by decide) ?_
  refine lv_istore (pc := 12) (lv' := [(5, .int (0 : Int32)), (4, .int (r1 / (4 : Int32))), (3, .int (0 : Int32)), (0, .ref (A 0)), (1, .ref (A 10)), (2, .int x2)]) hx hb dX1_onTheWays_12 hl (by decide) rfl (fun ls hl => ?_)
  exact l_14 FU _ _ _ _ H locs ls hf hP hD hS (lv_sub hl [3, 4, 5, 2, 1, 0] rfl)
def r_X1_find : Room := { frames := 5, cells := 0, slots := 0, locals := 129 }
set_option maxHeartbeats 4000000 in
set_option maxRecDepth 100000 in
theorem c_X1_find (G : GT) (l : Launch) (A : Nat → Nat) (sz : Nat) (o : CS) (j : JS) (c : CS) (b : CS) (x3 : Int32) (o' : CS) (j' : JS) (c' : CS) (hf : f_X1_find o j c b x3 = some (o', j', c')) : MTv l yX1_find wsX1_find r_X1_find [.ref (A 0), .ref (A 1), .ref (A 11), .int x3] G (w_FCS G A o j c b) (w_FCS G A o' j' c' b) sz := by
  refine MTv.of (cc := cX1_find) (maxL := 7) (by decide +kernel) rfl (Nat.le_of_ble_eq_true rfl) (fun p e s m av below meth cd Q B H locs ls X hret hl hP hD hS => ?_)
  have hx := X.1.1
  have hb := X.1.2.1
  have hl : lv_has ls 7 [(0, .ref (A 0)), (1, .ref (A 1)), (2, .ref (A 11)), (3, .int x3)] := hl
  have l_38 : ∀ (n38 : Nat), ∀ (x3 : Int32) (x4 : Int32) (x5 : Int32) (x6 : Int32) (o : CS) (j : JS) (c : CS) (H : Heap) (locs : List Loc) (ls : Array Slot), f_X1_find_38 n38 x3 x4 x5 x6 o j c b = some (o', j', c') → va_P G.1 vwCl (w_FCS G A o j c b) H → va_D B (w_FCS G A o j c b) → va_S B s.heap H locs → lv_has ls 7 [(0, .ref (A 0)), (1, .ref (A 1)), (2, .ref (A 11)), (3, .int x3), (4, .int x4), (5, .int x5), (6, .int x6)] → W p l e r_X1_find s m av below meth cd H locs 0 0 Q (F0 m 38 ls []) := by
    intro n38
    induction n38 with
    | zero =>
      intro x3 x4 x5 x6 o j c H locs ls hf hP hD hS hl
      rw [f_X1_find_38] at hf
      cases hf
    | succ n38 ih38 =>
      have b_68 : ∀ (x3 : Int32) (x4 : Int32) (x5 : Int32) (x6 : Int32) (o : CS) (j : JS) (c : CS) (H : Heap) (locs : List Loc) (ls : Array Slot), f_X1_find_68 (f_X1_find_38 n38) x3 x4 x5 x6 o j c b = some (o', j', c') → va_P G.1 vwCl (w_FCS G A o j c b) H → va_D B (w_FCS G A o j c b) → va_S B s.heap H locs → lv_has ls 7 [(0, .ref (A 0)), (1, .ref (A 1)), (2, .ref (A 11)), (3, .int x3), (4, .int x4), (5, .int x5), (6, .int x6)] → W p l e r_X1_find s m av below meth cd H locs 0 0 Q (F0 m 68 ls []) := by
        intro x3 x4 x5 x6 o j c H locs ls hf hP hD hS hl
        unfold f_X1_find_68 at hf
        refine lv_iload (pc := 68) hx hb dX1_find_68 (lv_at hl 5 rfl) ?_
        refine lv_iload (pc := 70) hx hb dX1_find_70 (lv_at hl 4 rfl) ?_
        obtain ⟨r1, hc1, hf⟩ := ob1_some hf
        refine endi X.2.2.2.2 (runN (pc := 72) (As := [.int x5, .int x4]) (rest := []) X (c_X5_nextSet G l  H.size x5 x4 r1 hc1) gX1_find_X5_nextSet_n49 k_X5_nextSet (List.mem_of_getElem? (i := 8) rfl) (List.mem_cons_of_mem _ (List.mem_append_left _ (List.mem_append_left _ (List.mem_append_left _ (List.mem_append_right _ (List.mem_append_right _ (List.mem_append_left _ (List.mem_of_getElem? (i := 21) rfl)))))))) (List.mem_cons_of_mem _ (List.mem_append_left _ (List.mem_append_left _ (List.mem_append_left _ (List.mem_append_right _ (List.mem_append_right _ (List.mem_append_right _ (List.mem_append_right _ (List.mem_of_getElem? (i := 5) rfl))))))))) ⟨rfl, rfl⟩ ⟨Nat.le_of_ble_eq_true rfl, Nat.le_of_ble_eq_true rfl⟩ (EM.nil (w_FCS G A o j c b)) hP hD hS rfl hl.1 rfl (Nat.le_of_ble_eq_true rfl) ⟨Nat.zero_le _, Nat.zero_le _⟩ dX1_find_72) (EM.nil (w_FCS G A o j c b)) hP hD hS (fun H locs hP hD hS => ?_)
        refine lv_istore (pc := 75) (lv' := [(5, .int r1), (0, .ref (A 0)), (1, .ref (A 1)), (2, .ref (A 11)), (3, .int x3), (4, .int x4), (6, .int x6)]) hx hb dX1_find_75 hl (by decide) rfl (fun ls hl => ?_)
        refine lv_iinc (pc := 77) (v := (x6 + (1 : Int32))) (lv' := [(6, .int (x6 + (1 : Int32))), (5, .int r1), (0, .ref (A 0)), (1, .ref (A 1)), (2, .ref (A 11)), (3, .int x3), (4, .int x4)]) hx hb dX1_find_77 hl (k := 6) rfl rfl (by decide) rfl (fun ls hl => ?_)
        refine lv_goto (pc := 80) (tgt := 38) hx hb dX1_find_80 (by decide) ?_
        exact ih38 _ _ _ _ _ _ _ H locs ls hf hP hD hS (lv_sub hl [2, 3, 4, 5, 6, 1, 0] rfl)
      intro x3 x4 x5 x6 o j c H locs ls hf hP hD hS hl
      rw [f_X1_find_38] at hf
      refine lv_iload (pc := 38) hx hb dX1_find_38 (lv_at hl 6 rfl) ?_
      refine lv_iconst (pc := 40) (v := (1 : Int32)) hx hb dX1_find_40 (by decide) ?_
      refine lv_iload (pc := 41) hx hb dX1_find_41 (lv_at hl 4 rfl) ?_
      obtain ⟨r1, hc1, hf⟩ := ob1_some hf
      refine endi X.2.2.2.2 (runS (pc := 43) (As := [.int x4]) (rest := [.int (1 : Int32), .int x6]) X (c_J6_bitCount_0f7a4 G l  H.size x4 r1 hc1) gX1_find_J6_bitCount_0f7a4 k_J6_bitCount_0f7a4 ⟨rfl, rfl⟩ ⟨Nat.le_of_ble_eq_true rfl, Nat.le_of_ble_eq_true rfl⟩ (EM.nil (w_FCS G A o j c b)) hP hD hS rfl hl.1 rfl (Nat.le_of_ble_eq_true rfl) ⟨Nat.zero_le _, Nat.zero_le _⟩ dX1_find_43) (EM.nil (w_FCS G A o j c b)) hP hD hS (fun H locs hP hD hS => ?_)
      refine lv_ishl (pc := 46) hx hb dX1_find_46 ?_
      refine lv_icmp_ge (pc := 47) (tgt := 83) hx hb dX1_find_47 (by decide) (fun h2 => ?_) (fun h2 => ?_)
      · have hf := br_y h2 hf
        refine lv_aload_n (pc := 83) hx hb dX1_find_83 rfl (lv_at hl 0 rfl) ?_
        refine lv_aload_n (pc := 84) hx hb dX1_find_84 rfl (lv_at hl 1 rfl) ?_
        obtain ⟨r2, hc2, hf⟩ := ob1_some hf
        refine endi X.2.2.2.2 (runV (pc := 85) (As := []) (rest := [.ref (A 0)]) X (c_X0_unmended G l (fun k => A (1 + k)) H.size c r2 hc2) gX1_find_X0_unmended k_X0_unmended ⟨rfl, rfl⟩ ⟨Nat.le_of_ble_eq_true rfl, Nat.le_of_ble_eq_true rfl⟩ (em_FCS_Ch_1 G A o j c b ) hP hD hS (ci := 0) rfl rfl (at_Ch_0 G (fun k => A (1 + k)) c) rfl hl.1 rfl (Nat.le_of_ble_eq_true rfl) ⟨Nat.zero_le _, Nat.zero_le _⟩ dX1_find_85) (em_FCS_Ch_1 G A o j c b ) hP hD hS (fun H locs hP hD hS => ?_)
        refine lv_iload (pc := 88) hx hb dX1_find_88 (lv_at hl 4 rfl) ?_
        refine lv_iconst (pc := 90) (v := (-1 : Int32)) hx hb dX1_find_90 (by decide) ?_
        refine lv_ixor (pc := 91) hx hb dX1_find_91 ?_
        refine lv_iand (pc := 92) hx hb dX1_find_92 ?_
        obtain ⟨o3, j3, hc3, hf⟩ := ob2_some hf
        refine endv X.2.2.2.2 (runV (pc := 93) (As := [.int (r2 &&& (x4 ^^^ (-1 : Int32)))]) (rest := []) X (c_X1_addFree G l (fun k => A (0 + k)) H.size o j (r2 &&& (x4 ^^^ (-1 : Int32))) o3 j3 hc3) gX1_find_X1_addFree k_X1_addFree ⟨rfl, rfl⟩ ⟨Nat.le_of_ble_eq_true rfl, Nat.le_of_ble_eq_true rfl⟩ (em_FCS_Fi_0_oj G A o j c b o3 j3) hP hD hS (ci := 1) rfl rfl (at_Fi_0 G (fun k => A (0 + k)) o j) rfl hl.1 rfl (Nat.le_of_ble_eq_true rfl) ⟨Nat.zero_le _, Nat.zero_le _⟩ dX1_find_93) (em_FCS_Fi_0_oj G A o j c b o3 j3) hP hD hS (fun H locs hP hD hS => ?_)
        cases hf
        exact hret _ _ _ _ dX1_find_96 hP hD hS
      · have hf := br_n h2 hf
        refine lv_aload_n (pc := 50) hx hb dX1_find_50 rfl (lv_at hl 0 rfl) ?_
        refine lv_aload_n (pc := 51) hx hb dX1_find_51 rfl (lv_at hl 1 rfl) ?_
        refine lv_aload_n (pc := 52) hx hb dX1_find_52 rfl (lv_at hl 2 rfl) ?_
        refine lv_iload_n (pc := 53) hx hb dX1_find_53 rfl (lv_at hl 3 rfl) ?_
        refine lv_iload (pc := 54) hx hb dX1_find_54 (lv_at hl 5 rfl) ?_
        obtain ⟨r4, c4, hc4, hf⟩ := ob2_some hf
        refine endi X.2.2.2.2 (runV (pc := 56) (As := [.ref (A 1), .ref (A 11), .int x3, .int x5]) (rest := []) X (c_X1_isAllAsTold G l A H.size o j c b x3 x5 r4 c4 hc4) gX1_find_X1_isAllAsTold k_X1_isAllAsTold ⟨rfl, rfl⟩ ⟨Nat.le_of_ble_eq_true rfl, Nat.le_of_ble_eq_true rfl⟩ (EM.all (w_FCS G A o j c b) (w_FCS G A o j c4 b)) hP hD hS (ci := 1) rfl rfl (at_FCS_0 G A o j c b) rfl hl.1 rfl (Nat.le_of_ble_eq_true rfl) ⟨Nat.zero_le _, Nat.zero_le _⟩ dX1_find_56) (EM.all (w_FCS G A o j c b) (w_FCS G A o j c4 b)) hP hD hS (fun H locs hP hD hS => ?_)
        refine lv_if_eq (pc := 59) (tgt := 68) hx hb dX1_find_59 (by decide) (fun h1 => ?_) (fun h1 => ?_)
        · have hf := br_y h1 hf
          exact b_68 _ _ _ _ _ _ _ H locs ls hf hP hD hS (lv_sub hl [0, 1, 2, 3, 4, 5, 6] rfl)
        · have hf := br_n h1 hf
          refine lv_aload_n (pc := 62) hx hb dX1_find_62 rfl (lv_at hl 0 rfl) ?_
          refine lv_iload (pc := 63) hx hb dX1_find_63 (lv_at hl 5 rfl) ?_
          obtain ⟨o5, j5, hc5, hf⟩ := ob2_some hf
          refine endv X.2.2.2.2 (runV (pc := 65) (As := [.int x5]) (rest := []) X (c_X1_add G l (fun k => A (0 + k)) H.size o j x5 o5 j5 hc5) gX1_find_X1_add k_X1_add ⟨rfl, rfl⟩ ⟨Nat.le_of_ble_eq_true rfl, Nat.le_of_ble_eq_true rfl⟩ (em_FCS_Fi_0_oj G A o j c4 b o5 j5) hP hD hS (ci := 1) rfl rfl (at_Fi_0 G (fun k => A (0 + k)) o j) rfl hl.1 rfl (Nat.le_of_ble_eq_true rfl) ⟨Nat.zero_le _, Nat.zero_le _⟩ dX1_find_65) (em_FCS_Fi_0_oj G A o j c4 b o5 j5) hP hD hS (fun H locs hP hD hS => ?_)
          exact b_68 _ _ _ _ _ _ _ H locs ls hf hP hD hS (lv_sub hl [0, 1, 2, 3, 4, 5, 6] rfl)
  unfold f_X1_find at hf
  refine lv_aload_n (pc := 0) hx hb dX1_find_0 rfl (lv_at hl 0 rfl) ?_
  refine lv_lconst (pc := 1) (v := (0 : Int64)) hx hb dX1_find_1 (by decide) ?_
  refine wput (pc := 2) X (fun _ h9 => List.mem_cons_of_mem _ (List.mem_append_left _ (List.mem_append_left _ (List.mem_append_right _ h9)))) tyX1 tyX1_ok nmX1 hP hD hS 0 (at_FCS_0 G A o j c b) rfl 0 (by decide) (List.mem_cons_of_mem _ (List.mem_append_left _ (List.mem_append_left _ (List.mem_append_left _ (List.mem_append_left _ (List.mem_of_getElem? (i := 0) rfl)))))) rfl rfl (ty := .long) (v := .long (0 : Int64)) rfl rfl rfl (Nat.le_of_ble_eq_true rfl) (st_FCS_0_0 G A o j c b (0 : Int64)) dX1_find_2 (fun H locs hP hD hS => ?_)
  refine lv_aload_n (pc := 5) hx hb dX1_find_5 rfl (lv_at hl 0 rfl) ?_
  refine lv_bipush (pc := 6) (v := (-9 : Int32)) hx hb dX1_find_6 (by decide) ?_
  refine wput (pc := 8) X (fun _ h9 => List.mem_cons_of_mem _ (List.mem_append_left _ (List.mem_append_left _ (List.mem_append_right _ h9)))) tyX1 tyX1_ok nmX1 hP hD hS 0 (at_FCS_0 G A o (jset j 0 (0 : Int64)) c b) rfl 1 (by decide) (List.mem_cons_of_mem _ (List.mem_append_left _ (List.mem_append_left _ (List.mem_append_left _ (List.mem_append_left _ (List.mem_of_getElem? (i := 1) rfl)))))) rfl rfl (ty := .int) (v := .int (-9 : Int32)) rfl rfl rfl (Nat.le_of_ble_eq_true rfl) (st_FCS_0_1 G A o (jset j 0 (0 : Int64)) c b (-9 : Int32)) dX1_find_8 (fun H locs hP hD hS => ?_)
  refine lv_aload_n (pc := 11) hx hb dX1_find_11 rfl (lv_at hl 0 rfl) ?_
  refine lv_aload_n (pc := 12) hx hb dX1_find_12 rfl (lv_at hl 1 rfl) ?_
  obtain ⟨r1, hc1, hf⟩ := ob1_some hf
  refine endi X.2.2.2.2 (runV (pc := 13) (As := []) (rest := [.ref (A 0)]) X (c_X0_unmended G l (fun k => A (1 + k)) H.size c r1 hc1) gX1_find_X0_unmended k_X0_unmended ⟨rfl, rfl⟩ ⟨Nat.le_of_ble_eq_true rfl, Nat.le_of_ble_eq_true rfl⟩ (em_FCS_Ch_1 G A (cset o 0 0 (-9 : Int32)) (jset j 0 (0 : Int64)) c b ) hP hD hS (ci := 0) rfl rfl (at_Ch_0 G (fun k => A (1 + k)) c) rfl hl.1 rfl (Nat.le_of_ble_eq_true rfl) ⟨Nat.zero_le _, Nat.zero_le _⟩ dX1_find_13) (em_FCS_Ch_1 G A (cset o 0 0 (-9 : Int32)) (jset j 0 (0 : Int64)) c b ) hP hD hS (fun H locs hP hD hS => ?_)
  refine wput (pc := 16) X (fun _ h9 => List.mem_cons_of_mem _ (List.mem_append_left _ (List.mem_append_left _ (List.mem_append_right _ h9)))) tyX1 tyX1_ok nmX1 hP hD hS 0 (at_FCS_0 G A (cset o 0 0 (-9 : Int32)) (jset j 0 (0 : Int64)) c b) rfl 2 (by decide) (List.mem_cons_of_mem _ (List.mem_append_left _ (List.mem_append_left _ (List.mem_append_left _ (List.mem_append_left _ (List.mem_of_getElem? (i := 2) rfl)))))) rfl rfl (ty := .int) (v := .int r1) rfl rfl rfl (Nat.le_of_ble_eq_true rfl) (st_FCS_0_2 G A (cset o 0 0 (-9 : Int32)) (jset j 0 (0 : Int64)) c b r1) dX1_find_16 (fun H locs hP hD hS => ?_)
  refine lv_aload_n (pc := 19) hx hb dX1_find_19 rfl (lv_at hl 0 rfl) ?_
  refine lv_iconst (pc := 20) (v := (0 : Int32)) hx hb dX1_find_20 (by decide) ?_
  refine wput (pc := 21) X (fun _ h9 => List.mem_cons_of_mem _ (List.mem_append_left _ (List.mem_append_left _ (List.mem_append_right _ h9)))) tyX1 tyX1_ok nmX1 hP hD hS 0 (at_FCS_0 G A (cset (cset o 0 0 (-9 : Int32)) 1 0 r1) (jset j 0 (0 : Int64)) c b) rfl 3 (by decide) (List.mem_cons_of_mem _ (List.mem_append_left _ (List.mem_append_left _ (List.mem_append_left _ (List.mem_append_left _ (List.mem_of_getElem? (i := 3) rfl)))))) rfl rfl (ty := .int) (v := .int (0 : Int32)) rfl rfl rfl (Nat.le_of_ble_eq_true rfl) (st_FCS_0_3 G A (cset (cset o 0 0 (-9 : Int32)) 1 0 r1) (jset j 0 (0 : Int64)) c b (0 : Int32)) dX1_find_21 (fun H locs hP hD hS => ?_)
  refine lv_aload_n (pc := 24) hx hb dX1_find_24 rfl (lv_at hl 1 rfl) ?_
  refine lv_aload_n (pc := 25) hx hb dX1_find_25 rfl (lv_at hl 2 rfl) ?_
  refine lv_iload_n (pc := 26) hx hb dX1_find_26 rfl (lv_at hl 3 rfl) ?_
  obtain ⟨r2, hc2, hf⟩ := ob1_some hf
  refine endi X.2.2.2.2 (runS (pc := 27) (As := [.ref (A 1), .ref (A 11), .int x3]) (rest := []) X (c_X1_onTheWays G l (fun k => A (1 + k)) H.size c b x3 r2 hc2) gX1_find_X1_onTheWays k_X1_onTheWays ⟨rfl, rfl⟩ ⟨Nat.le_of_ble_eq_true rfl, Nat.le_of_ble_eq_true rfl⟩ (em_FCS_CS_1_11 G A (cset (cset (cset o 0 0 (-9 : Int32)) 1 0 r1) 2 0 (0 : Int32)) (jset j 0 (0 : Int64)) c b ) hP hD hS rfl hl.1 rfl (Nat.le_of_ble_eq_true rfl) ⟨Nat.zero_le _, Nat.zero_le _⟩ dX1_find_27) (em_FCS_CS_1_11 G A (cset (cset (cset o 0 0 (-9 : Int32)) 1 0 r1) 2 0 (0 : Int32)) (jset j 0 (0 : Int64)) c b ) hP hD hS (fun H locs hP hD hS => ?_)
  refine lv_istore (pc := 30) (lv' := [(4, .int r2), (0, .ref (A 0)), (1, .ref (A 1)), (2, .ref (A 11)), (3, .int x3)]) hx hb dX1_find_30 hl (by decide) rfl (fun ls hl => ?_)
  refine lv_iconst (pc := 32) (v := (0 : Int32)) hx hb dX1_find_32 (by decide) ?_
  refine lv_istore (pc := 33) (lv' := [(5, .int (0 : Int32)), (4, .int r2), (0, .ref (A 0)), (1, .ref (A 1)), (2, .ref (A 11)), (3, .int x3)]) hx hb dX1_find_33 hl (by decide) rfl (fun ls hl => ?_)
  refine lv_iconst (pc := 35) (v := (0 : Int32)) hx hb dX1_find_35 (by decide) ?_
  refine lv_istore (pc := 36) (lv' := [(6, .int (0 : Int32)), (5, .int (0 : Int32)), (4, .int r2), (0, .ref (A 0)), (1, .ref (A 1)), (2, .ref (A 11)), (3, .int x3)]) hx hb dX1_find_36 hl (by decide) rfl (fun ls hl => ?_)
  exact l_38 FU _ _ _ _ _ _ _ H locs ls hf hP hD hS (lv_sub hl [3, 4, 5, 6, 2, 1, 0] rfl)
