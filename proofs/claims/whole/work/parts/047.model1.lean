def r_X6_asked : Room := { frames := 0, cells := 0, slots := 0, locals := 0 }
set_option maxHeartbeats 4000000 in
set_option maxRecDepth 100000 in
theorem c_X6_asked (G : GT) (l : Launch) (A : Nat → Nat) (sz : Nat) (M : CS) (N : JS) (r : Int32) (hf : f_X6_asked M N = some r) : MTi l yX6_asked wsX6_asked r_X6_asked [.ref (A 0)] G (w_Mo G A M N) (w_Mo G A M N) sz r := by
  refine MTi.of (cc := cX6_asked) (maxL := 1) (by decide +kernel) rfl (Nat.le_of_ble_eq_true rfl) (fun p e s m av below meth cd Q B H locs ls X hret hl hP hD hS => ?_)
  have hx := X.1.1
  have hb := X.1.2.1
  have hl : lv_has ls 1 [(0, .ref (A 0))] := hl
  unfold f_X6_asked at hf
  refine lv_aload_n (pc := 0) hx hb dX6_asked_0 rfl (lv_at hl 0 rfl) ?_
  refine wget (pc := 1) X (fun _ h9 => List.mem_cons_of_mem _ (List.mem_append_right _ h9)) hP 0 (at_Mo_0 G A M N) rfl 7 (by decide) (List.mem_cons_of_mem _ (List.mem_append_left _ (List.mem_of_getElem? (i := 0) rfl))) rfl (v := .int (M 7 0)) rfl dX6_asked_1 ?_
  cases hf
  exact hret _ _ _ _ dX6_asked_4 hP hD hS
def r_X6_found : Room := { frames := 0, cells := 0, slots := 0, locals := 0 }
set_option maxHeartbeats 4000000 in
set_option maxRecDepth 100000 in
theorem c_X6_found (G : GT) (l : Launch) (A : Nat → Nat) (sz : Nat) (M : CS) (N : JS) (x1 : Int32) (r : Int32) (M' : CS) (hf : f_X6_found M N x1 = some (r, M')) : MTi l yX6_found wsX6_found r_X6_found [.ref (A 0), .int x1] G (w_Mo G A M N) (w_Mo G A M' N) sz r := by
  refine MTi.of (cc := cX6_found) (maxL := 2) (by decide +kernel) rfl (Nat.le_of_ble_eq_true rfl) (fun p e s m av below meth cd Q B H locs ls X hret hl hP hD hS => ?_)
  have hx := X.1.1
  have hb := X.1.2.1
  have hl : lv_has ls 2 [(0, .ref (A 0)), (1, .int x1)] := hl
  unfold f_X6_found at hf
  refine lv_aload_n (pc := 0) hx hb dX6_found_0 rfl (lv_at hl 0 rfl) ?_
  refine lv_iload_n (pc := 1) hx hb dX6_found_1 rfl (lv_at hl 1 rfl) ?_
  refine wput (pc := 2) X (fun _ h9 => List.mem_cons_of_mem _ (List.mem_append_right _ h9)) tyX6 tyX6_ok nmX6 hP hD hS 0 (at_Mo_0 G A M N) rfl 10 (by decide) (List.mem_cons_of_mem _ (List.mem_append_left _ (List.mem_of_getElem? (i := 0) rfl))) rfl rfl (ty := .int) (v := .int x1) rfl rfl rfl (Nat.le_of_ble_eq_true rfl) (st_Mo_0_10 G A M N x1) dX6_found_2 (fun H locs hP hD hS => ?_)
  refine lv_aload_n (pc := 5) hx hb dX6_found_5 rfl (lv_at hl 0 rfl) ?_
  refine wget (pc := 6) X (fun _ h9 => List.mem_cons_of_mem _ (List.mem_append_right _ h9)) hP 0 (at_Mo_0 G A (cset M 8 0 x1) N) rfl 11 (by decide) (List.mem_cons_of_mem _ (List.mem_append_left _ (List.mem_of_getElem? (i := 1) rfl))) rfl (v := .ref (A 8)) rfl dX6_found_6 ?_
  refine lv_iload_n (pc := 9) hx hb dX6_found_9 rfl (lv_at hl 1 rfl) ?_
  refine lv_dup2_11 (pc := 10) hx hb dX6_found_10 rfl rfl ?_
  obtain ⟨hi, hf⟩ := ck_some hf
  refine wiald (pc := 11) X hP 8 (at_Mo_8 G A (cset M 8 0 x1) N) hi rfl dX6_found_11 ?_
  refine lv_iconst (pc := 12) (v := (1 : Int32)) hx hb dX6_found_12 (by decide) ?_
  refine lv_iadd (pc := 13) hx hb dX6_found_13 ?_
  obtain ⟨hi, hf⟩ := ck_some hf
  refine wiast (pc := 14) X hP hD hS 8 (at_Mo_8 G A (cset M 8 0 x1) N) hi rfl (sa_Mo_8 G A (cset M 8 0 x1) N _) dX6_found_14 (fun H locs hP hD hS => ?_)
  have hP : va_P G.1 vwCl (w_Mo G A (cset (cset M 8 0 x1) 9 x1.toNatClampNeg (((M 9) x1.toNatClampNeg) + (1 : Int32))) N) H := hP
  have hD : va_D B (w_Mo G A (cset (cset M 8 0 x1) 9 x1.toNatClampNeg (((M 9) x1.toNatClampNeg) + (1 : Int32))) N) := hD
  refine lv_bipush (pc := 15) (v := (-3 : Int32)) hx hb dX6_found_15 (by decide) ?_
  cases hf
  exact hret _ _ _ _ dX6_found_17 hP hD hS
def r_X6_isRow : Room := { frames := 1, cells := 0, slots := 0, locals := 25 }
set_option maxHeartbeats 4000000 in
set_option maxRecDepth 100000 in
theorem c_X6_isRow (G : GT) (l : Launch) (sz : Nat) (x0 : Int32) (r : Int32) (hf : f_X6_isRow x0 = some r) : MTi l yX6_isRow wsX6_isRow r_X6_isRow [.int x0] G [] [] sz r := by
  refine MTz.of (cc := cX6_isRow) (maxL := 1) (by decide +kernel) rfl (Nat.le_of_ble_eq_true rfl) (fun p e s m av below meth cd Q B H locs ls X hret hl hP hD hS => ?_)
  have hx := X.1.1
  have hb := X.1.2.1
  have hl : lv_has ls 1 [(0, .int x0)] := hl
  unfold f_X6_isRow at hf
  refine lv_iload_n (pc := 0) hx hb dX6_isRow_0 rfl (lv_at hl 0 rfl) ?_
  refine lv_i2l (pc := 1) (v := (x0).toInt64) hx hb dX6_isRow_1 rfl ?_
  refine lv_lconst (pc := 2) (v := (0 : Int64)) hx hb dX6_isRow_2 (by decide) ?_
  refine lv_ldc2 (pc := 3) (v := 5) hx hb X.1.2.2.2.1 (X.1.2.2.2.2 _ (List.mem_cons_of_mem _ (List.mem_of_getElem? (i := 0) rfl))) dX6_isRow_3 ?_
  obtain ⟨r1, hc1, hf⟩ := ob1_some hf
  refine endi X.2.2.2.2 (runS (pc := 6) (As := [.long ((x0).toInt64), .long (0 : Int64), .long (5 : Int64)]) (rest := []) X (c_X6_in G l  H.size ((x0).toInt64) (0 : Int64) (5 : Int64) r1 hc1) gX6_isRow_X6_in k_X6_in ⟨rfl, rfl⟩ ⟨Nat.le_of_ble_eq_true rfl, Nat.le_of_ble_eq_true rfl⟩ (EM.nil []) hP hD hS rfl hl.1 rfl (Nat.le_of_ble_eq_true rfl) ⟨Nat.zero_le _, Nat.zero_le _⟩ dX6_isRow_6) (EM.nil []) hP hD hS (fun H locs hP hD hS => ?_)
  obtain ⟨hz, hf⟩ := ck_some hf
  cases hf
  exact hret _ _ _ _ (isb_or hz) dX6_isRow_9 hP hD hS
def r_X6_tell : Room := { frames := 0, cells := 0, slots := 0, locals := 0 }
set_option maxHeartbeats 4000000 in
set_option maxRecDepth 100000 in
theorem c_X6_tell (G : GT) (l : Launch) (A : Nat → Nat) (sz : Nat) (M : CS) (N : JS) (x1 : Int32) (r : Int32) (M' : CS) (hf : f_X6_tell M N x1 = some (r, M')) : MTi l yX6_tell wsX6_tell r_X6_tell [.ref (A 0), .int x1] G (w_Mo G A M N) (w_Mo G A M' N) sz r := by
  refine MTi.of (cc := cX6_tell) (maxL := 2) (by decide +kernel) rfl (Nat.le_of_ble_eq_true rfl) (fun p e s m av below meth cd Q B H locs ls X hret hl hP hD hS => ?_)
  have hx := X.1.1
  have hb := X.1.2.1
  have hl : lv_has ls 2 [(0, .ref (A 0)), (1, .int x1)] := hl
  unfold f_X6_tell at hf
  refine lv_aload_n (pc := 0) hx hb dX6_tell_0 rfl (lv_at hl 0 rfl) ?_
  refine lv_iload_n (pc := 1) hx hb dX6_tell_1 rfl (lv_at hl 1 rfl) ?_
  refine wput (pc := 2) X (fun _ h9 => List.mem_cons_of_mem _ (List.mem_append_right _ h9)) tyX6 tyX6_ok nmX6 hP hD hS 0 (at_Mo_0 G A M N) rfl 7 (by decide) (List.mem_cons_of_mem _ (List.mem_append_left _ (List.mem_of_getElem? (i := 0) rfl))) rfl rfl (ty := .int) (v := .int x1) rfl rfl rfl (Nat.le_of_ble_eq_true rfl) (st_Mo_0_7 G A M N x1) dX6_tell_2 (fun H locs hP hD hS => ?_)
  refine lv_iconst (pc := 5) (v := (1 : Int32)) hx hb dX6_tell_5 (by decide) ?_
  cases hf
  exact hret _ _ _ _ dX6_tell_6 hP hD hS
def r_X6_at : Room := { frames := 2, cells := 0, slots := 0, locals := 45 }
set_option maxHeartbeats 4000000 in
set_option maxRecDepth 100000 in
theorem c_X6_at (G : GT) (l : Launch) (A : Nat → Nat) (sz : Nat) (M : CS) (N : JS) (x1 : Int32) (x2 : Int32) (r : Int32) (M' : CS) (hf : f_X6_at M N x1 x2 = some (r, M')) : MTi l yX6_at wsX6_at r_X6_at [.ref (A 0), .int x1, .int x2] G (w_Mo G A M N) (w_Mo G A M' N) sz r := by
  refine MTi.of (cc := cX6_at) (maxL := 3) (by decide +kernel) rfl (Nat.le_of_ble_eq_true rfl) (fun p e s m av below meth cd Q B H locs ls X hret hl hP hD hS => ?_)
  have hx := X.1.1
  have hb := X.1.2.1
  have hl : lv_has ls 3 [(0, .ref (A 0)), (1, .int x1), (2, .int x2)] := hl
  have b_65 : ∀ (t0 : Int32) (M : CS) (H : Heap) (locs : List Loc) (ls : Array Slot), f_X6_at_65 t0 M N = some (r, M') → va_P G.1 vwCl (w_Mo G A M N) H → va_D B (w_Mo G A M N) → va_S B s.heap H locs → lv_has ls 3 [] → W p l e r_X6_at s m av below meth cd H locs 0 0 Q (F0 m 65 ls [.int t0]) := by
    intro t0 M H locs ls hf hP hD hS hl
    unfold f_X6_at_65 at hf
    cases hf
    exact hret _ _ _ _ dX6_at_65 hP hD hS
  unfold f_X6_at at hf
  refine lv_iload_n (pc := 0) hx hb dX6_at_0 rfl (lv_at hl 1 rfl) ?_
  obtain ⟨r1, hc1, hf⟩ := ob1_some hf
  refine endi X.2.2.2.2 (runS (pc := 1) (As := [.int x1]) (rest := []) X (c_X6_isRow G l  H.size x1 r1 hc1) gX6_at_X6_isRow k_X6_isRow ⟨rfl, rfl⟩ ⟨Nat.le_of_ble_eq_true rfl, Nat.le_of_ble_eq_true rfl⟩ (EM.nil (w_Mo G A M N)) hP hD hS rfl hl.1 rfl (Nat.le_of_ble_eq_true rfl) ⟨Nat.zero_le _, Nat.zero_le _⟩ dX6_at_1) (EM.nil (w_Mo G A M N)) hP hD hS (fun H locs hP hD hS => ?_)
  refine lv_if_ne (pc := 4) (tgt := 9) hx hb dX6_at_4 (by decide) (fun h3 => ?_) (fun h3 => ?_)
  · have hf := br_n h3 hf
    refine lv_aload_n (pc := 9) hx hb dX6_at_9 rfl (lv_at hl 0 rfl) ?_
    refine wget (pc := 10) X (fun _ h9 => List.mem_cons_of_mem _ (List.mem_append_right _ h9)) hP 0 (at_Mo_0 G A M N) rfl 0 (by decide) (List.mem_cons_of_mem _ (List.mem_append_left _ (List.mem_of_getElem? (i := 0) rfl))) rfl (v := .ref (A 1)) rfl dX6_at_10 ?_
    refine lv_iload_n (pc := 13) hx hb dX6_at_13 rfl (lv_at hl 1 rfl) ?_
    obtain ⟨hi, hf⟩ := ck_some hf
    refine wiald (pc := 14) X hP 1 (at_Mo_1 G A M N) hi rfl dX6_at_14 ?_
    refine lv_if_ge (pc := 15) (tgt := 24) hx hb dX6_at_15 (by decide) (fun h2 => ?_) (fun h2 => ?_)
    · have hf := br_y h2 hf
      refine lv_iload_n (pc := 24) hx hb dX6_at_24 rfl (lv_at hl 2 rfl) ?_
      refine lv_i2l (pc := 25) (v := (x2).toInt64) hx hb dX6_at_25 rfl ?_
      refine lv_lconst (pc := 26) (v := (0 : Int64)) hx hb dX6_at_26 (by decide) ?_
      refine lv_aload_n (pc := 27) hx hb dX6_at_27 rfl (lv_at hl 0 rfl) ?_
      refine wget (pc := 28) X (fun _ h9 => List.mem_cons_of_mem _ (List.mem_append_right _ h9)) hP 0 (at_Mo_0 G A M N) rfl 0 (by decide) (List.mem_cons_of_mem _ (List.mem_append_left _ (List.mem_of_getElem? (i := 0) rfl))) rfl (v := .ref (A 1)) rfl dX6_at_28 ?_
      refine lv_iload_n (pc := 31) hx hb dX6_at_31 rfl (lv_at hl 1 rfl) ?_
      obtain ⟨hi, hf⟩ := ck_some hf
      refine wiald (pc := 32) X hP 1 (at_Mo_1 G A M N) hi rfl dX6_at_32 ?_
      refine lv_iconst (pc := 33) (v := (1 : Int32)) hx hb dX6_at_33 (by decide) ?_
      refine lv_isub (pc := 34) hx hb dX6_at_34 ?_
      refine lv_i2l (pc := 35) (v := ((((M 0) x1.toNatClampNeg) - (1 : Int32))).toInt64) hx hb dX6_at_35 rfl ?_
      obtain ⟨r2, hc2, hf⟩ := ob1_some hf
      refine endi X.2.2.2.2 (runS (pc := 36) (As := [.long ((x2).toInt64), .long (0 : Int64), .long (((((M 0) x1.toNatClampNeg) - (1 : Int32))).toInt64)]) (rest := []) X (c_X6_in G l  H.size ((x2).toInt64) (0 : Int64) (((((M 0) x1.toNatClampNeg) - (1 : Int32))).toInt64) r2 hc2) gX6_at_X6_in k_X6_in ⟨rfl, rfl⟩ ⟨Nat.le_of_ble_eq_true rfl, Nat.le_of_ble_eq_true rfl⟩ (EM.nil (w_Mo G A M N)) hP hD hS rfl hl.1 rfl (Nat.le_of_ble_eq_true rfl) ⟨Nat.zero_le _, Nat.zero_le _⟩ dX6_at_36) (EM.nil (w_Mo G A M N)) hP hD hS (fun H locs hP hD hS => ?_)
      refine lv_if_eq (pc := 39) (tgt := 60) hx hb dX6_at_39 (by decide) (fun h1 => ?_) (fun h1 => ?_)
      · have hf := br_y h1 hf
        refine lv_aload_n (pc := 60) hx hb dX6_at_60 rfl (lv_at hl 0 rfl) ?_
        refine lv_iconst (pc := 61) (v := (2 : Int32)) hx hb dX6_at_61 (by decide) ?_
        obtain ⟨r3, M3, hc3, hf⟩ := ob2_some hf
        refine endi X.2.2.2.2 (runV (pc := 62) (As := [.int (2 : Int32)]) (rest := []) X (c_X6_found G l A H.size M N (2 : Int32) r3 M3 hc3) gX6_at_X6_found k_X6_found ⟨rfl, rfl⟩ ⟨Nat.le_of_ble_eq_true rfl, Nat.le_of_ble_eq_true rfl⟩ (EM.all (w_Mo G A M N) (w_Mo G A M3 N)) hP hD hS (ci := 6) rfl rfl (at_Mo_0 G A M N) rfl hl.1 rfl (Nat.le_of_ble_eq_true rfl) ⟨Nat.zero_le _, Nat.zero_le _⟩ dX6_at_62) (EM.all (w_Mo G A M N) (w_Mo G A M3 N)) hP hD hS (fun H locs hP hD hS => ?_)
        exact b_65 _ _ H locs ls hf hP hD hS (lv_sub hl [] rfl)
      · have hf := br_n h1 hf
        refine lv_aload_n (pc := 42) hx hb dX6_at_42 rfl (lv_at hl 0 rfl) ?_
        refine lv_aload_n (pc := 43) hx hb dX6_at_43 rfl (lv_at hl 0 rfl) ?_
        refine wget (pc := 44) X (fun _ h9 => List.mem_cons_of_mem _ (List.mem_append_right _ h9)) hP 0 (at_Mo_0 G A M N) rfl 1 (by decide) (List.mem_cons_of_mem _ (List.mem_append_left _ (List.mem_of_getElem? (i := 1) rfl))) rfl (v := .ref (A 2)) rfl dX6_at_44 ?_
        refine lv_bipush (pc := 47) (v := (40 : Int32)) hx hb dX6_at_47 (by decide) ?_
        refine lv_iload_n (pc := 49) hx hb dX6_at_49 rfl (lv_at hl 1 rfl) ?_
        refine lv_imul (pc := 50) hx hb dX6_at_50 ?_
        refine lv_iload_n (pc := 51) hx hb dX6_at_51 rfl (lv_at hl 2 rfl) ?_
        refine lv_iadd (pc := 52) hx hb dX6_at_52 ?_
        obtain ⟨hi, hf⟩ := ck_some hf
        refine wiald (pc := 53) X hP 2 (at_Mo_2 G A M N) hi rfl dX6_at_53 ?_
        obtain ⟨r4, M4, hc4, hf⟩ := ob2_some hf
        refine endi X.2.2.2.2 (runV (pc := 54) (As := [.int ((M 1) (((40 : Int32) * x1) + x2).toNatClampNeg)]) (rest := []) X (c_X6_tell G l A H.size M N ((M 1) (((40 : Int32) * x1) + x2).toNatClampNeg) r4 M4 hc4) gX6_at_X6_tell k_X6_tell ⟨rfl, rfl⟩ ⟨Nat.le_of_ble_eq_true rfl, Nat.le_of_ble_eq_true rfl⟩ (EM.all (w_Mo G A M N) (w_Mo G A M4 N)) hP hD hS (ci := 6) rfl rfl (at_Mo_0 G A M N) rfl hl.1 rfl (Nat.le_of_ble_eq_true rfl) ⟨Nat.zero_le _, Nat.zero_le _⟩ dX6_at_54) (EM.all (w_Mo G A M N) (w_Mo G A M4 N)) hP hD hS (fun H locs hP hD hS => ?_)
        refine lv_goto (pc := 57) (tgt := 65) hx hb dX6_at_57 (by decide) ?_
        exact b_65 _ _ H locs ls hf hP hD hS (lv_sub hl [] rfl)
    · have hf := br_n h2 hf
      refine lv_aload_n (pc := 18) hx hb dX6_at_18 rfl (lv_at hl 0 rfl) ?_
      refine lv_iconst (pc := 19) (v := (1 : Int32)) hx hb dX6_at_19 (by decide) ?_
      obtain ⟨r5, M5, hc5, hf⟩ := ob2_some hf
      refine endi X.2.2.2.2 (runV (pc := 20) (As := [.int (1 : Int32)]) (rest := []) X (c_X6_found G l A H.size M N (1 : Int32) r5 M5 hc5) gX6_at_X6_found k_X6_found ⟨rfl, rfl⟩ ⟨Nat.le_of_ble_eq_true rfl, Nat.le_of_ble_eq_true rfl⟩ (EM.all (w_Mo G A M N) (w_Mo G A M5 N)) hP hD hS (ci := 6) rfl rfl (at_Mo_0 G A M N) rfl hl.1 rfl (Nat.le_of_ble_eq_true rfl) ⟨Nat.zero_le _, Nat.zero_le _⟩ dX6_at_20) (EM.all (w_Mo G A M N) (w_Mo G A M5 N)) hP hD hS (fun H locs hP hD hS => ?_)
      cases hf
      exact hret _ _ _ _ dX6_at_23 hP hD hS
  · have hf := br_y h3 hf
    refine lv_iconst (pc := 7) (v := (-1 : Int32)) hx hb dX6_at_7 (by decide) ?_
    cases hf
    exact hret _ _ _ _ dX6_at_8 hP hD hS
def r_X6_byteAt : Room := { frames := 0, cells := 0, slots := 0, locals := 0 }
set_option maxHeartbeats 4000000 in
set_option maxRecDepth 100000 in
theorem c_X6_byteAt (G : GT) (l : Launch) (A : Nat → Nat) (sz : Nat) (M : CS) (N : JS) (x1 : Int32) (r : Int32) (hf : f_X6_byteAt M N x1 = some r) : MTi l yX6_byteAt wsX6_byteAt r_X6_byteAt [.ref (A 0), .int x1] G (w_Mo G A M N) (w_Mo G A M N) sz r := by
  refine MTi.of (cc := cX6_byteAt) (maxL := 2) (by decide +kernel) rfl (Nat.le_of_ble_eq_true rfl) (fun p e s m av below meth cd Q B H locs ls X hret hl hP hD hS => ?_)
  have hx := X.1.1
  have hb := X.1.2.1
  have hl : lv_has ls 2 [(0, .ref (A 0)), (1, .int x1)] := hl
  have b_33 : ∀ (t0 : Int32) (H : Heap) (locs : List Loc) (ls : Array Slot), f_X6_byteAt_33 t0 M N = some r → va_P G.1 vwCl (w_Mo G A M N) H → va_D B (w_Mo G A M N) → va_S B s.heap H locs → lv_has ls 2 [] → W p l e r_X6_byteAt s m av below meth cd H locs 0 0 Q (F0 m 33 ls [.int t0]) := by
    intro t0 H locs ls hf hP hD hS hl
    unfold f_X6_byteAt_33 at hf
    cases hf
    exact hret _ _ _ _ dX6_byteAt_33 hP hD hS
  unfold f_X6_byteAt at hf
  refine lv_aload_n (pc := 0) hx hb dX6_byteAt_0 rfl (lv_at hl 0 rfl) ?_
  refine wget (pc := 1) X (fun _ h9 => List.mem_cons_of_mem _ (List.mem_append_right _ h9)) hP 0 (at_Mo_0 G A M N) rfl 13 (by decide) (List.mem_cons_of_mem _ (List.mem_append_left _ (List.mem_of_getElem? (i := 0) rfl))) rfl (v := .int (M 11 0)) rfl dX6_byteAt_1 ?_
  refine lv_aload_n (pc := 4) hx hb dX6_byteAt_4 rfl (lv_at hl 0 rfl) ?_
  refine wget (pc := 5) X (fun _ h9 => List.mem_cons_of_mem _ (List.mem_append_right _ h9)) hP 0 (at_Mo_0 G A M N) rfl 2 (by decide) (List.mem_cons_of_mem _ (List.mem_append_left _ (List.mem_of_getElem? (i := 1) rfl))) rfl (v := .ref (A 3)) rfl dX6_byteAt_5 ?_
  refine lv_iload_n (pc := 8) hx hb dX6_byteAt_8 rfl (lv_at hl 1 rfl) ?_
  obtain ⟨hi, hf⟩ := ck_some hf
  refine wiald (pc := 9) X hP 3 (at_Mo_3 G A M N) hi rfl dX6_byteAt_9 ?_
  refine lv_icmp_ge (pc := 10) (tgt := 30) hx hb dX6_byteAt_10 (by decide) (fun h1 => ?_) (fun h1 => ?_)
  · have hf := br_y h1 hf
    refine lv_sipush (pc := 30) (v := (-1000 : Int32)) hx hb dX6_byteAt_30 (by decide) ?_
    exact b_33 _ H locs ls hf hP hD hS (lv_sub hl [] rfl)
  · have hf := br_n h1 hf
    refine lv_aload_n (pc := 13) hx hb dX6_byteAt_13 rfl (lv_at hl 0 rfl) ?_
    refine wget (pc := 14) X (fun _ h9 => List.mem_cons_of_mem _ (List.mem_append_right _ h9)) hP 0 (at_Mo_0 G A M N) rfl 3 (by decide) (List.mem_cons_of_mem _ (List.mem_append_left _ (List.mem_of_getElem? (i := 2) rfl))) rfl (v := .ref (A 4)) rfl dX6_byteAt_14 ?_
    refine lv_bipush (pc := 17) (v := (60 : Int32)) hx hb dX6_byteAt_17 (by decide) ?_
    refine lv_iload_n (pc := 19) hx hb dX6_byteAt_19 rfl (lv_at hl 1 rfl) ?_
    refine lv_imul (pc := 20) hx hb dX6_byteAt_20 ?_
    refine lv_aload_n (pc := 21) hx hb dX6_byteAt_21 rfl (lv_at hl 0 rfl) ?_
    refine wget (pc := 22) X (fun _ h9 => List.mem_cons_of_mem _ (List.mem_append_right _ h9)) hP 0 (at_Mo_0 G A M N) rfl 13 (by decide) (List.mem_cons_of_mem _ (List.mem_append_left _ (List.mem_of_getElem? (i := 0) rfl))) rfl (v := .int (M 11 0)) rfl dX6_byteAt_22 ?_
    refine lv_iadd (pc := 25) hx hb dX6_byteAt_25 ?_
    obtain ⟨hi, hf⟩ := ck_some hf
    refine wiald (pc := 26) X hP 4 (at_Mo_4 G A M N) hi rfl dX6_byteAt_26 ?_
    refine lv_goto (pc := 27) (tgt := 33) hx hb dX6_byteAt_27 (by decide) ?_
    exact b_33 _ H locs ls hf hP hD hS (lv_sub hl [] rfl)
def r_X6_copies_read_now : Room := { frames := 0, cells := 0, slots := 0, locals := 0 }
set_option maxHeartbeats 4000000 in
set_option maxRecDepth 100000 in
theorem c_X6_copies_read_now (G : GT) (l : Launch) (A : Nat → Nat) (sz : Nat) (M : CS) (N : JS) (x1 : Int32) (x3 : Int32) (M' : CS) (hf : f_X6_copies_read_now M N x1 x3 = some M') : MTv l yX6_copies wsX6_copies r_X6_copies_read_now [.ref (A 9), .int x1, .ref (A 5), .int x3] G (w_Mo G A M N) (w_Mo G A M' N) sz := by
  refine MTv.of (cc := cX6_copies) (maxL := 5) (by decide +kernel) rfl (Nat.le_of_ble_eq_true rfl) (fun p e s m av below meth cd Q B H locs ls X hret hl hP hD hS => ?_)
  have hx := X.1.1
  have hb := X.1.2.1
  have hl : lv_has ls 5 [(0, .ref (A 9)), (1, .int x1), (2, .ref (A 5)), (3, .int x3)] := hl
  have l_3 : ∀ (n3 : Nat), ∀ (x1 : Int32) (x3 : Int32) (x4 : Int32) (M : CS) (H : Heap) (locs : List Loc) (ls : Array Slot), f_X6_copies_read_now_3 n3 x1 x3 x4 M N = some M' → va_P G.1 vwCl (w_Mo G A M N) H → va_D B (w_Mo G A M N) → va_S B s.heap H locs → lv_has ls 5 [(0, .ref (A 9)), (1, .int x1), (2, .ref (A 5)), (3, .int x3), (4, .int x4)] → W p l e r_X6_copies_read_now s m av below meth cd H locs 0 0 Q (F0 m 3 ls []) := by
    intro n3
    induction n3 with
    | zero =>
      intro x1 x3 x4 M H locs ls hf hP hD hS hl
      rw [f_X6_copies_read_now_3] at hf
      cases hf
    | succ n3 ih3 =>
      intro x1 x3 x4 M H locs ls hf hP hD hS hl
      rw [f_X6_copies_read_now_3] at hf
      refine lv_iload (pc := 3) hx hb dX6_copies_3 (lv_at hl 4 rfl) ?_
      refine lv_bipush (pc := 5) (v := (119 : Int32)) hx hb dX6_copies_5 (by decide) ?_
      refine lv_icmp_ge (pc := 7) (tgt := 28) hx hb dX6_copies_7 (by decide) (fun h1 => ?_) (fun h1 => ?_)
      · have hf := br_y h1 hf
        cases hf
        exact hret _ _ _ _ dX6_copies_28 hP hD hS
      · have hf := br_n h1 hf
        refine lv_aload_n (pc := 10) hx hb dX6_copies_10 rfl (lv_at hl 2 rfl) ?_
        refine lv_iload_n (pc := 11) hx hb dX6_copies_11 rfl (lv_at hl 3 rfl) ?_
        refine lv_iload (pc := 12) hx hb dX6_copies_12 (lv_at hl 4 rfl) ?_
        refine lv_iadd (pc := 14) hx hb dX6_copies_14 ?_
        refine lv_aload_n (pc := 15) hx hb dX6_copies_15 rfl (lv_at hl 0 rfl) ?_
        refine lv_iload_n (pc := 16) hx hb dX6_copies_16 rfl (lv_at hl 1 rfl) ?_
        refine lv_iload (pc := 17) hx hb dX6_copies_17 (lv_at hl 4 rfl) ?_
        refine lv_iadd (pc := 19) hx hb dX6_copies_19 ?_
        obtain ⟨hi, hf⟩ := ck_some hf
        refine wiald (pc := 20) X hP 9 (at_Mo_9 G A M N) hi rfl dX6_copies_20 ?_
        obtain ⟨hi, hf⟩ := ck_some hf
        refine wiast (pc := 21) X hP hD hS 5 (at_Mo_5 G A M N) hi rfl (sa_Mo_5 G A M N _) dX6_copies_21 (fun H locs hP hD hS => ?_)
        have hP : va_P G.1 vwCl (w_Mo G A (cset M 4 (x3 + x4).toNatClampNeg ((M 10) (x1 + x4).toNatClampNeg)) N) H := hP
        have hD : va_D B (w_Mo G A (cset M 4 (x3 + x4).toNatClampNeg ((M 10) (x1 + x4).toNatClampNeg)) N) := hD
        refine lv_iinc (pc := 22) (v := (x4 + (1 : Int32))) (lv' := [(4, .int (x4 + (1 : Int32))), (0, .ref (A 9)), (1, .int x1), (2, .ref (A 5)), (3, .int x3)]) hx hb dX6_copies_22 hl (k := 4) rfl rfl (by decide) rfl (fun ls hl => ?_)
        refine lv_goto (pc := 25) (tgt := 3) hx hb dX6_copies_25 (by decide) ?_
        exact ih3 _ _ _ _ H locs ls hf hP hD hS (lv_sub hl [1, 2, 3, 4, 0] rfl)
  unfold f_X6_copies_read_now at hf
  refine lv_iconst (pc := 0) (v := (0 : Int32)) hx hb dX6_copies_0 (by decide) ?_
  refine lv_istore (pc := 1) (lv' := [(4, .int (0 : Int32)), (0, .ref (A 9)), (1, .int x1), (2, .ref (A 5)), (3, .int x3)]) hx hb dX6_copies_1 hl (by decide) rfl (fun ls hl => ?_)
  exact l_3 FU _ _ _ _ H locs ls hf hP hD hS (lv_sub hl [1, 2, 3, 4, 0] rfl)
def r_X6_isText : Room := { frames := 1, cells := 0, slots := 0, locals := 25 }
set_option maxHeartbeats 4000000 in
set_option maxRecDepth 100000 in
theorem c_X6_isText (G : GT) (l : Launch) (sz : Nat) (x0 : Int32) (r : Int32) (hf : f_X6_isText x0 = some r) : MTi l yX6_isText wsX6_isText r_X6_isText [.int x0] G [] [] sz r := by
  refine MTz.of (cc := cX6_isText) (maxL := 1) (by decide +kernel) rfl (Nat.le_of_ble_eq_true rfl) (fun p e s m av below meth cd Q B H locs ls X hret hl hP hD hS => ?_)
  have hx := X.1.1
  have hb := X.1.2.1
  have hl : lv_has ls 1 [(0, .int x0)] := hl
  unfold f_X6_isText at hf
  refine lv_iload_n (pc := 0) hx hb dX6_isText_0 rfl (lv_at hl 0 rfl) ?_
  refine lv_i2l (pc := 1) (v := (x0).toInt64) hx hb dX6_isText_1 rfl ?_
  refine lv_lconst (pc := 2) (v := (0 : Int64)) hx hb dX6_isText_2 (by decide) ?_
  refine lv_ldc2 (pc := 3) (v := 3) hx hb X.1.2.2.2.1 (X.1.2.2.2.2 _ (List.mem_cons_of_mem _ (List.mem_of_getElem? (i := 0) rfl))) dX6_isText_3 ?_
  obtain ⟨r1, hc1, hf⟩ := ob1_some hf
  refine endi X.2.2.2.2 (runS (pc := 6) (As := [.long ((x0).toInt64), .long (0 : Int64), .long (3 : Int64)]) (rest := []) X (c_X6_in G l  H.size ((x0).toInt64) (0 : Int64) (3 : Int64) r1 hc1) gX6_isText_X6_in k_X6_in ⟨rfl, rfl⟩ ⟨Nat.le_of_ble_eq_true rfl, Nat.le_of_ble_eq_true rfl⟩ (EM.nil []) hP hD hS rfl hl.1 rfl (Nat.le_of_ble_eq_true rfl) ⟨Nat.zero_le _, Nat.zero_le _⟩ dX6_isText_6) (EM.nil []) hP hD hS (fun H locs hP hD hS => ?_)
  obtain ⟨hz, hf⟩ := ck_some hf
  cases hf
  exact hret _ _ _ _ (isb_or hz) dX6_isText_9 hP hD hS
def r_X6_takes : Room := { frames := 1, cells := 0, slots := 0, locals := 25 }
set_option maxHeartbeats 4000000 in
set_option maxRecDepth 100000 in
theorem c_X6_takes (G : GT) (l : Launch) (A : Nat → Nat) (sz : Nat) (M : CS) (N : JS) (x1 : Int32) (x2 : Int32) (x3 : Int32) (x4 : Int32) (x5 : Int32) (r : Int32) (M' : CS) (hf : f_X6_takes M N x1 x2 x3 x4 x5 = some (r, M')) : MTi l yX6_takes wsX6_takes r_X6_takes [.ref (A 0), .int x1, .int x2, .int x3, .int x4, .int x5] G (w_Mo G A M N) (w_Mo G A M' N) sz r := by
  refine MTz.of (cc := cX6_takes) (maxL := 7) (by decide +kernel) rfl (Nat.le_of_ble_eq_true rfl) (fun p e s m av below meth cd Q B H locs ls X hret hl hP hD hS => ?_)
  have hx := X.1.1
  have hb := X.1.2.1
  have hl : lv_has ls 7 [(0, .ref (A 0)), (1, .int x1), (2, .int x2), (3, .int x3), (4, .int x4), (5, .int x5)] := hl
  unfold f_X6_takes at hf
  refine lv_aload_n (pc := 0) hx hb dX6_takes_0 rfl (lv_at hl 0 rfl) ?_
  refine lv_iload_n (pc := 1) hx hb dX6_takes_1 rfl (lv_at hl 1 rfl) ?_
  obtain ⟨r1, hc1, hf⟩ := ob1_some hf
  refine endi X.2.2.2.2 (runV (pc := 2) (As := [.int x1]) (rest := []) X (c_X6_byteAt G l A H.size M N x1 r1 hc1) gX6_takes_X6_byteAt k_X6_byteAt ⟨rfl, rfl⟩ ⟨Nat.le_of_ble_eq_true rfl, Nat.le_of_ble_eq_true rfl⟩ (EM.all (w_Mo G A M N) (w_Mo G A M N)) hP hD hS (ci := 6) rfl rfl (at_Mo_0 G A M N) rfl hl.1 rfl (Nat.le_of_ble_eq_true rfl) ⟨Nat.zero_le _, Nat.zero_le _⟩ dX6_takes_2) (EM.all (w_Mo G A M N) (w_Mo G A M N)) hP hD hS (fun H locs hP hD hS => ?_)
  refine lv_iload_n (pc := 5) hx hb dX6_takes_5 rfl (lv_at hl 3 rfl) ?_
  refine lv_isub (pc := 6) hx hb dX6_takes_6 ?_
  refine lv_istore (pc := 7) (lv' := [(6, .int (r1 - x3)), (0, .ref (A 0)), (1, .int x1), (2, .int x2), (3, .int x3), (4, .int x4), (5, .int x5)]) hx hb dX6_takes_7 hl (by decide) rfl (fun ls hl => ?_)
  refine lv_iload (pc := 9) hx hb dX6_takes_9 (lv_at hl 0 rfl) ?_
  refine lv_i2l (pc := 11) (v := ((r1 - x3)).toInt64) hx hb dX6_takes_11 rfl ?_
  refine lv_iload (pc := 12) hx hb dX6_takes_12 (lv_at hl 5 rfl) ?_
  refine lv_i2l (pc := 14) (v := (x4).toInt64) hx hb dX6_takes_14 rfl ?_
  refine lv_iload (pc := 15) hx hb dX6_takes_15 (lv_at hl 6 rfl) ?_
  refine lv_i2l (pc := 17) (v := (x5).toInt64) hx hb dX6_takes_17 rfl ?_
  obtain ⟨r2, hc2, hf⟩ := ob1_some hf
  refine endi X.2.2.2.2 (runS (pc := 18) (As := [.long (((r1 - x3)).toInt64), .long ((x4).toInt64), .long ((x5).toInt64)]) (rest := []) X (c_X6_in G l  H.size (((r1 - x3)).toInt64) ((x4).toInt64) ((x5).toInt64) r2 hc2) gX6_takes_X6_in k_X6_in ⟨rfl, rfl⟩ ⟨Nat.le_of_ble_eq_true rfl, Nat.le_of_ble_eq_true rfl⟩ (EM.nil (w_Mo G A M N)) hP hD hS rfl hl.1 rfl (Nat.le_of_ble_eq_true rfl) ⟨Nat.zero_le _, Nat.zero_le _⟩ dX6_takes_18) (EM.nil (w_Mo G A M N)) hP hD hS (fun H locs hP hD hS => ?_)
  refine lv_if_ne (pc := 21) (tgt := 26) hx hb dX6_takes_21 (by decide) (fun h1 => ?_) (fun h1 => ?_)
  · have hf := br_n h1 hf
    refine lv_aload_n (pc := 26) hx hb dX6_takes_26 rfl (lv_at hl 1 rfl) ?_
    refine wget (pc := 27) X (fun _ h9 => List.mem_cons_of_mem _ (List.mem_append_right _ h9)) hP 0 (at_Mo_0 G A M N) rfl 12 (by decide) (List.mem_cons_of_mem _ (List.mem_append_left _ (List.mem_of_getElem? (i := 0) rfl))) rfl (v := .ref (A 9)) rfl dX6_takes_27 ?_
    refine lv_iload_n (pc := 30) hx hb dX6_takes_30 rfl (lv_at hl 3 rfl) ?_
    refine lv_iload (pc := 31) hx hb dX6_takes_31 (lv_at hl 0 rfl) ?_
    obtain ⟨hi, hf⟩ := ck_some hf
    refine wiast (pc := 33) X hP hD hS 9 (at_Mo_9 G A M N) hi rfl (sa_Mo_9 G A M N _) dX6_takes_33 (fun H locs hP hD hS => ?_)
    have hP : va_P G.1 vwCl (w_Mo G A (cset M 10 x2.toNatClampNeg (r1 - x3)) N) H := hP
    have hD : va_D B (w_Mo G A (cset M 10 x2.toNatClampNeg (r1 - x3)) N) := hD
    refine lv_aload_n (pc := 34) hx hb dX6_takes_34 rfl (lv_at hl 1 rfl) ?_
    refine lv_dup (pc := 35) hx hb dX6_takes_35 rfl ?_
    refine wget (pc := 36) X (fun _ h9 => List.mem_cons_of_mem _ (List.mem_append_right _ h9)) hP 0 (at_Mo_0 G A (cset M 10 x2.toNatClampNeg (r1 - x3)) N) rfl 13 (by decide) (List.mem_cons_of_mem _ (List.mem_append_left _ (List.mem_of_getElem? (i := 1) rfl))) rfl (v := .int (M 11 0)) rfl dX6_takes_36 ?_
    refine lv_iconst (pc := 39) (v := (1 : Int32)) hx hb dX6_takes_39 (by decide) ?_
    refine lv_iadd (pc := 40) hx hb dX6_takes_40 ?_
    refine wput (pc := 41) X (fun _ h9 => List.mem_cons_of_mem _ (List.mem_append_right _ h9)) tyX6 tyX6_ok nmX6 hP hD hS 0 (at_Mo_0 G A (cset M 10 x2.toNatClampNeg (r1 - x3)) N) rfl 13 (by decide) (List.mem_cons_of_mem _ (List.mem_append_left _ (List.mem_of_getElem? (i := 1) rfl))) rfl rfl (ty := .int) (v := .int ((M 11 0) + (1 : Int32))) rfl rfl rfl (Nat.le_of_ble_eq_true rfl) (st_Mo_0_13 G A (cset M 10 x2.toNatClampNeg (r1 - x3)) N ((M 11 0) + (1 : Int32))) dX6_takes_41 (fun H locs hP hD hS => ?_)
    refine lv_iconst (pc := 44) (v := (1 : Int32)) hx hb dX6_takes_44 (by decide) ?_
    cases hf
    exact hret _ _ _ _ (by decide) dX6_takes_45 hP hD hS
  · have hf := br_y h1 hf
    refine lv_iconst (pc := 24) (v := (0 : Int32)) hx hb dX6_takes_24 (by decide) ?_
    cases hf
    exact hret _ _ _ _ (by decide) dX6_takes_25 hP hD hS
def r_X6_takesError : Room := { frames := 2, cells := 0, slots := 0, locals := 51 }
set_option maxHeartbeats 4000000 in
set_option maxRecDepth 100000 in
theorem c_X6_takesError (G : GT) (l : Launch) (A : Nat → Nat) (sz : Nat) (M : CS) (N : JS) (x1 : Int32) (r : Int32) (M' : CS) (hf : f_X6_takesError M N x1 = some (r, M')) : MTi l yX6_takesError wsX6_takesError r_X6_takesError [.ref (A 0), .int x1] G (w_Mo G A M N) (w_Mo G A M' N) sz r := by
  refine MTz.of (cc := cX6_takesError) (maxL := 3) (by decide +kernel) rfl (Nat.le_of_ble_eq_true rfl) (fun p e s m av below meth cd Q B H locs ls X hret hl hP hD hS => ?_)
  have hx := X.1.1
  have hb := X.1.2.1
  have hl : lv_has ls 3 [(0, .ref (A 0)), (1, .int x1)] := hl
  have b_32 : ∀ (M : CS) (H : Heap) (locs : List Loc) (ls : Array Slot), f_X6_takesError_32 M N = some (r, M') → va_P G.1 vwCl (w_Mo G A M N) H → va_D B (w_Mo G A M N) → va_S B s.heap H locs → lv_has ls 3 [] → W p l e r_X6_takesError s m av below meth cd H locs 0 0 Q (F0 m 32 ls []) := by
    intro M H locs ls hf hP hD hS hl
    unfold f_X6_takesError_32 at hf
    refine lv_iconst (pc := 32) (v := (0 : Int32)) hx hb dX6_takesError_32 (by decide) ?_
    cases hf
    exact hret _ _ _ _ (by decide) dX6_takesError_33 hP hD hS
  have b_132 : ∀ (t0 : Int32) (M : CS) (H : Heap) (locs : List Loc) (ls : Array Slot), f_X6_takesError_132 t0 M N = some (r, M') → va_P G.1 vwCl (w_Mo G A M N) H → va_D B (w_Mo G A M N) → va_S B s.heap H locs → lv_has ls 3 [] → W p l e r_X6_takesError s m av below meth cd H locs 0 0 Q (F0 m 132 ls [.int t0]) := by
    intro t0 M H locs ls hf hP hD hS hl
    unfold f_X6_takesError_132 at hf
    obtain ⟨hz, hf⟩ := ck_some hf
    cases hf
    exact hret _ _ _ _ (isb_or hz) dX6_takesError_132 hP hD hS
  have b_131 : ∀ (M : CS) (H : Heap) (locs : List Loc) (ls : Array Slot), f_X6_takesError_131 M N = some (r, M') → va_P G.1 vwCl (w_Mo G A M N) H → va_D B (w_Mo G A M N) → va_S B s.heap H locs → lv_has ls 3 [] → W p l e r_X6_takesError s m av below meth cd H locs 0 0 Q (F0 m 131 ls []) := by
    intro M H locs ls hf hP hD hS hl
    unfold f_X6_takesError_131 at hf
    refine lv_iconst (pc := 131) (v := (0 : Int32)) hx hb dX6_takesError_131 (by decide) ?_
    exact b_132 _ _ H locs ls hf hP hD hS (lv_sub hl [] rfl)
  unfold f_X6_takesError at hf
  refine lv_aload_n (pc := 0) hx hb dX6_takesError_0 rfl (lv_at hl 0 rfl) ?_
  refine wget (pc := 1) X (fun _ h9 => List.mem_cons_of_mem _ (List.mem_append_right _ h9)) hP 0 (at_Mo_0 G A M N) rfl 12 (by decide) (List.mem_cons_of_mem _ (List.mem_append_left _ (List.mem_of_getElem? (i := 0) rfl))) rfl (v := .ref (A 9)) rfl dX6_takesError_1 ?_
  refine lv_iconst (pc := 4) (v := (1 : Int32)) hx hb dX6_takesError_4 (by decide) ?_
  refine wiald (pc := 5) X hP 9 (at_Mo_9 G A M N) (by decide) (j := 1) (by decide) dX6_takesError_5 ?_
  refine lv_istore_n (pc := 6) (lv' := [(2, .int ((M 10) 1)), (0, .ref (A 0)), (1, .int x1)]) hx hb dX6_takesError_6 rfl hl (by decide) rfl (fun ls hl => ?_)
  refine lv_aload_n (pc := 7) hx hb dX6_takesError_7 rfl (lv_at hl 1 rfl) ?_
  refine lv_iload_n (pc := 8) hx hb dX6_takesError_8 rfl (lv_at hl 2 rfl) ?_
  obtain ⟨r1, hc1, hf⟩ := ob1_some hf
  refine endi X.2.2.2.2 (runV (pc := 9) (As := [.int x1]) (rest := []) X (c_X6_byteAt G l A H.size M N x1 r1 hc1) gX6_takesError_X6_byteAt k_X6_byteAt ⟨rfl, rfl⟩ ⟨Nat.le_of_ble_eq_true rfl, Nat.le_of_ble_eq_true rfl⟩ (EM.all (w_Mo G A M N) (w_Mo G A M N)) hP hD hS (ci := 6) rfl rfl (at_Mo_0 G A M N) rfl hl.1 rfl (Nat.le_of_ble_eq_true rfl) ⟨Nat.zero_le _, Nat.zero_le _⟩ dX6_takesError_9) (EM.all (w_Mo G A M N) (w_Mo G A M N)) hP hD hS (fun H locs hP hD hS => ?_)
  refine lv_bipush (pc := 12) (v := (120 : Int32)) hx hb dX6_takesError_12 (by decide) ?_
  refine lv_icmp_ne (pc := 14) (tgt := 32) hx hb dX6_takesError_14 (by decide) (fun h7 => ?_) (fun h7 => ?_)
  · have hf := br_n h7 hf
    exact b_32 _ H locs ls hf hP hD hS (lv_sub hl [] rfl)
  · have hf := br_y h7 hf
    refine lv_iload_n (pc := 17) hx hb dX6_takesError_17 rfl (lv_at hl 0 rfl) ?_
    refine lv_bipush (pc := 18) (v := (6 : Int32)) hx hb dX6_takesError_18 (by decide) ?_
    refine lv_icmp_eq (pc := 20) (tgt := 32) hx hb dX6_takesError_20 (by decide) (fun h6 => ?_) (fun h6 => ?_)
    · have hf := br_y h6 hf
      exact b_32 _ H locs ls hf hP hD hS (lv_sub hl [] rfl)
    · have hf := br_n h6 hf
      refine lv_aload_n (pc := 23) hx hb dX6_takesError_23 rfl (lv_at hl 1 rfl) ?_
      refine wget (pc := 24) X (fun _ h9 => List.mem_cons_of_mem _ (List.mem_append_right _ h9)) hP 0 (at_Mo_0 G A M N) rfl 12 (by decide) (List.mem_cons_of_mem _ (List.mem_append_left _ (List.mem_of_getElem? (i := 0) rfl))) rfl (v := .ref (A 9)) rfl dX6_takesError_24 ?_
      refine lv_iconst (pc := 27) (v := (0 : Int32)) hx hb dX6_takesError_27 (by decide) ?_
      refine wiald (pc := 28) X hP 9 (at_Mo_9 G A M N) (by decide) (j := 0) (by decide) dX6_takesError_28 ?_
      refine lv_if_ne (pc := 29) (tgt := 34) hx hb dX6_takesError_29 (by decide) (fun h5 => ?_) (fun h5 => ?_)
      · have hf := br_n h5 hf
        refine lv_aload_n (pc := 34) hx hb dX6_takesError_34 rfl (lv_at hl 1 rfl) ?_
        refine lv_dup (pc := 35) hx hb dX6_takesError_35 rfl ?_
        refine wget (pc := 36) X (fun _ h9 => List.mem_cons_of_mem _ (List.mem_append_right _ h9)) hP 0 (at_Mo_0 G A M N) rfl 13 (by decide) (List.mem_cons_of_mem _ (List.mem_append_left _ (List.mem_of_getElem? (i := 1) rfl))) rfl (v := .int (M 11 0)) rfl dX6_takesError_36 ?_
        refine lv_iconst (pc := 39) (v := (1 : Int32)) hx hb dX6_takesError_39 (by decide) ?_
        refine lv_iadd (pc := 40) hx hb dX6_takesError_40 ?_
        refine wput (pc := 41) X (fun _ h9 => List.mem_cons_of_mem _ (List.mem_append_right _ h9)) tyX6 tyX6_ok nmX6 hP hD hS 0 (at_Mo_0 G A M N) rfl 13 (by decide) (List.mem_cons_of_mem _ (List.mem_append_left _ (List.mem_of_getElem? (i := 1) rfl))) rfl rfl (ty := .int) (v := .int ((M 11 0) + (1 : Int32))) rfl rfl rfl (Nat.le_of_ble_eq_true rfl) (st_Mo_0_13 G A M N ((M 11 0) + (1 : Int32))) dX6_takesError_41 (fun H locs hP hD hS => ?_)
        refine lv_aload_n (pc := 44) hx hb dX6_takesError_44 rfl (lv_at hl 1 rfl) ?_
        refine wget (pc := 45) X (fun _ h9 => List.mem_cons_of_mem _ (List.mem_append_right _ h9)) hP 0 (at_Mo_0 G A (cset M 11 0 ((M 11 0) + (1 : Int32))) N) rfl 12 (by decide) (List.mem_cons_of_mem _ (List.mem_append_left _ (List.mem_of_getElem? (i := 0) rfl))) rfl (v := .ref (A 9)) rfl dX6_takesError_45 ?_
        refine lv_iconst (pc := 48) (v := (1 : Int32)) hx hb dX6_takesError_48 (by decide) ?_
        refine lv_dup2_11 (pc := 49) hx hb dX6_takesError_49 rfl rfl ?_
        refine wiald (pc := 50) X hP 9 (at_Mo_9 G A (cset M 11 0 ((M 11 0) + (1 : Int32))) N) (by decide) (j := 1) (by decide) dX6_takesError_50 ?_
        refine lv_iconst (pc := 51) (v := (1 : Int32)) hx hb dX6_takesError_51 (by decide) ?_
        refine lv_iadd (pc := 52) hx hb dX6_takesError_52 ?_
        refine wiast (pc := 53) X hP hD hS 9 (at_Mo_9 G A (cset M 11 0 ((M 11 0) + (1 : Int32))) N) (by decide) (j := 1) (by decide) (sa_Mo_9 G A (cset M 11 0 ((M 11 0) + (1 : Int32))) N _) dX6_takesError_53 (fun H locs hP hD hS => ?_)
        have hP : va_P G.1 vwCl (w_Mo G A (cset (cset M 11 0 ((M 11 0) + (1 : Int32))) 10 1 (((M 10) 1) + (1 : Int32))) N) H := hP
        have hD : va_D B (w_Mo G A (cset (cset M 11 0 ((M 11 0) + (1 : Int32))) 10 1 (((M 10) 1) + (1 : Int32))) N) := hD
        refine lv_aload_n (pc := 54) hx hb dX6_takesError_54 rfl (lv_at hl 1 rfl) ?_
        refine lv_iload_n (pc := 55) hx hb dX6_takesError_55 rfl (lv_at hl 2 rfl) ?_
        refine lv_bipush (pc := 56) (v := (19 : Int32)) hx hb dX6_takesError_56 (by decide) ?_
        refine lv_iload_n (pc := 58) hx hb dX6_takesError_58 rfl (lv_at hl 0 rfl) ?_
        refine lv_iadd (pc := 59) hx hb dX6_takesError_59 ?_
        refine lv_bipush (pc := 60) (v := (48 : Int32)) hx hb dX6_takesError_60 (by decide) ?_
        refine lv_iconst (pc := 62) (v := (0 : Int32)) hx hb dX6_takesError_62 (by decide) ?_
        refine lv_iconst (pc := 63) (v := (4 : Int32)) hx hb dX6_takesError_63 (by decide) ?_
        obtain ⟨r2, M2, hc2, hf⟩ := ob2_some hf
        refine endi X.2.2.2.2 (runV (pc := 64) (As := [.int x1, .int ((19 : Int32) + ((M 10) 1)), .int (48 : Int32), .int (0 : Int32), .int (4 : Int32)]) (rest := []) X (c_X6_takes G l A H.size (cset (cset M 11 0 ((M 11 0) + (1 : Int32))) 10 1 (((M 10) 1) + (1 : Int32))) N x1 ((19 : Int32) + ((M 10) 1)) (48 : Int32) (0 : Int32) (4 : Int32) r2 M2 hc2) gX6_takesError_X6_takes k_X6_takes ⟨rfl, rfl⟩ ⟨Nat.le_of_ble_eq_true rfl, Nat.le_of_ble_eq_true rfl⟩ (EM.all (w_Mo G A (cset (cset M 11 0 ((M 11 0) + (1 : Int32))) 10 1 (((M 10) 1) + (1 : Int32))) N) (w_Mo G A M2 N)) hP hD hS (ci := 6) rfl rfl (at_Mo_0 G A (cset (cset M 11 0 ((M 11 0) + (1 : Int32))) 10 1 (((M 10) 1) + (1 : Int32))) N) rfl hl.1 rfl (Nat.le_of_ble_eq_true rfl) ⟨Nat.zero_le _, Nat.zero_le _⟩ dX6_takesError_64) (EM.all (w_Mo G A (cset (cset M 11 0 ((M 11 0) + (1 : Int32))) 10 1 (((M 10) 1) + (1 : Int32))) N) (w_Mo G A M2 N)) hP hD hS (fun H locs hP hD hS => ?_)
        refine lv_if_eq (pc := 67) (tgt := 131) hx hb dX6_takesError_67 (by decide) (fun h4 => ?_) (fun h4 => ?_)
        · have hf := br_y h4 hf
          exact b_131 _ H locs ls hf hP hD hS (lv_sub hl [] rfl)
        · have hf := br_n h4 hf
          refine lv_aload_n (pc := 70) hx hb dX6_takesError_70 rfl (lv_at hl 1 rfl) ?_
          refine lv_iload_n (pc := 71) hx hb dX6_takesError_71 rfl (lv_at hl 2 rfl) ?_
          refine lv_bipush (pc := 72) (v := (31 : Int32)) hx hb dX6_takesError_72 (by decide) ?_
          refine lv_iload_n (pc := 74) hx hb dX6_takesError_74 rfl (lv_at hl 0 rfl) ?_
          refine lv_iadd (pc := 75) hx hb dX6_takesError_75 ?_
          refine lv_bipush (pc := 76) (v := (65 : Int32)) hx hb dX6_takesError_76 (by decide) ?_
          refine lv_iconst (pc := 78) (v := (0 : Int32)) hx hb dX6_takesError_78 (by decide) ?_
          refine lv_bipush (pc := 79) (v := (19 : Int32)) hx hb dX6_takesError_79 (by decide) ?_
          obtain ⟨r3, M3, hc3, hf⟩ := ob2_some hf
          refine endi X.2.2.2.2 (runV (pc := 81) (As := [.int x1, .int ((31 : Int32) + ((M 10) 1)), .int (65 : Int32), .int (0 : Int32), .int (19 : Int32)]) (rest := []) X (c_X6_takes G l A H.size M2 N x1 ((31 : Int32) + ((M 10) 1)) (65 : Int32) (0 : Int32) (19 : Int32) r3 M3 hc3) gX6_takesError_X6_takes k_X6_takes ⟨rfl, rfl⟩ ⟨Nat.le_of_ble_eq_true rfl, Nat.le_of_ble_eq_true rfl⟩ (EM.all (w_Mo G A M2 N) (w_Mo G A M3 N)) hP hD hS (ci := 6) rfl rfl (at_Mo_0 G A M2 N) rfl hl.1 rfl (Nat.le_of_ble_eq_true rfl) ⟨Nat.zero_le _, Nat.zero_le _⟩ dX6_takesError_81) (EM.all (w_Mo G A M2 N) (w_Mo G A M3 N)) hP hD hS (fun H locs hP hD hS => ?_)
          refine lv_if_eq (pc := 84) (tgt := 131) hx hb dX6_takesError_84 (by decide) (fun h3 => ?_) (fun h3 => ?_)
          · have hf := br_y h3 hf
            exact b_131 _ H locs ls hf hP hD hS (lv_sub hl [] rfl)
          · have hf := br_n h3 hf
            refine lv_aload_n (pc := 87) hx hb dX6_takesError_87 rfl (lv_at hl 1 rfl) ?_
            refine lv_iload_n (pc := 88) hx hb dX6_takesError_88 rfl (lv_at hl 2 rfl) ?_
            refine lv_bipush (pc := 89) (v := (43 : Int32)) hx hb dX6_takesError_89 (by decide) ?_
            refine lv_iload_n (pc := 91) hx hb dX6_takesError_91 rfl (lv_at hl 0 rfl) ?_
            refine lv_iadd (pc := 92) hx hb dX6_takesError_92 ?_
            refine lv_bipush (pc := 93) (v := (48 : Int32)) hx hb dX6_takesError_93 (by decide) ?_
            refine lv_iconst (pc := 95) (v := (0 : Int32)) hx hb dX6_takesError_95 (by decide) ?_
            refine lv_aload_n (pc := 96) hx hb dX6_takesError_96 rfl (lv_at hl 1 rfl) ?_
            refine wget (pc := 97) X (fun _ h9 => List.mem_cons_of_mem _ (List.mem_append_right _ h9)) hP 0 (at_Mo_0 G A M3 N) rfl 12 (by decide) (List.mem_cons_of_mem _ (List.mem_append_left _ (List.mem_of_getElem? (i := 0) rfl))) rfl (v := .ref (A 9)) rfl dX6_takesError_97 ?_
            refine lv_iconst (pc := 100) (v := (0 : Int32)) hx hb dX6_takesError_100 (by decide) ?_
            refine wiald (pc := 101) X hP 9 (at_Mo_9 G A M3 N) (by decide) (j := 0) (by decide) dX6_takesError_101 ?_
            refine lv_iconst (pc := 102) (v := (1 : Int32)) hx hb dX6_takesError_102 (by decide) ?_
            refine lv_isub (pc := 103) hx hb dX6_takesError_103 ?_
            obtain ⟨r4, M4, hc4, hf⟩ := ob2_some hf
            refine endi X.2.2.2.2 (runV (pc := 104) (As := [.int x1, .int ((43 : Int32) + ((M 10) 1)), .int (48 : Int32), .int (0 : Int32), .int (((M3 10) 0) - (1 : Int32))]) (rest := []) X (c_X6_takes G l A H.size M3 N x1 ((43 : Int32) + ((M 10) 1)) (48 : Int32) (0 : Int32) (((M3 10) 0) - (1 : Int32)) r4 M4 hc4) gX6_takesError_X6_takes k_X6_takes ⟨rfl, rfl⟩ ⟨Nat.le_of_ble_eq_true rfl, Nat.le_of_ble_eq_true rfl⟩ (EM.all (w_Mo G A M3 N) (w_Mo G A M4 N)) hP hD hS (ci := 6) rfl rfl (at_Mo_0 G A M3 N) rfl hl.1 rfl (Nat.le_of_ble_eq_true rfl) ⟨Nat.zero_le _, Nat.zero_le _⟩ dX6_takesError_104) (EM.all (w_Mo G A M3 N) (w_Mo G A M4 N)) hP hD hS (fun H locs hP hD hS => ?_)
            refine lv_if_eq (pc := 107) (tgt := 131) hx hb dX6_takesError_107 (by decide) (fun h2 => ?_) (fun h2 => ?_)
            · have hf := br_y h2 hf
              exact b_131 _ H locs ls hf hP hD hS (lv_sub hl [] rfl)
            · have hf := br_n h2 hf
              refine lv_aload_n (pc := 110) hx hb dX6_takesError_110 rfl (lv_at hl 1 rfl) ?_
              refine lv_iload_n (pc := 111) hx hb dX6_takesError_111 rfl (lv_at hl 2 rfl) ?_
              refine lv_bipush (pc := 112) (v := (55 : Int32)) hx hb dX6_takesError_112 (by decide) ?_
              refine lv_iload_n (pc := 114) hx hb dX6_takesError_114 rfl (lv_at hl 0 rfl) ?_
              refine lv_iadd (pc := 115) hx hb dX6_takesError_115 ?_
              refine lv_bipush (pc := 116) (v := (48 : Int32)) hx hb dX6_takesError_116 (by decide) ?_
              refine lv_iconst (pc := 118) (v := (1 : Int32)) hx hb dX6_takesError_118 (by decide) ?_
              refine lv_bipush (pc := 119) (v := (9 : Int32)) hx hb dX6_takesError_119 (by decide) ?_
              obtain ⟨r5, M5, hc5, hf⟩ := ob2_some hf
              refine endi X.2.2.2.2 (runV (pc := 121) (As := [.int x1, .int ((55 : Int32) + ((M 10) 1)), .int (48 : Int32), .int (1 : Int32), .int (9 : Int32)]) (rest := []) X (c_X6_takes G l A H.size M4 N x1 ((55 : Int32) + ((M 10) 1)) (48 : Int32) (1 : Int32) (9 : Int32) r5 M5 hc5) gX6_takesError_X6_takes k_X6_takes ⟨rfl, rfl⟩ ⟨Nat.le_of_ble_eq_true rfl, Nat.le_of_ble_eq_true rfl⟩ (EM.all (w_Mo G A M4 N) (w_Mo G A M5 N)) hP hD hS (ci := 6) rfl rfl (at_Mo_0 G A M4 N) rfl hl.1 rfl (Nat.le_of_ble_eq_true rfl) ⟨Nat.zero_le _, Nat.zero_le _⟩ dX6_takesError_121) (EM.all (w_Mo G A M4 N) (w_Mo G A M5 N)) hP hD hS (fun H locs hP hD hS => ?_)
              refine lv_if_eq (pc := 124) (tgt := 131) hx hb dX6_takesError_124 (by decide) (fun h1 => ?_) (fun h1 => ?_)
              · have hf := br_y h1 hf
                exact b_131 _ H locs ls hf hP hD hS (lv_sub hl [] rfl)
              · have hf := br_n h1 hf
                refine lv_iconst (pc := 127) (v := (1 : Int32)) hx hb dX6_takesError_127 (by decide) ?_
                refine lv_goto (pc := 128) (tgt := 132) hx hb dX6_takesError_128 (by decide) ?_
                exact b_132 _ _ H locs ls hf hP hD hS (lv_sub hl [] rfl)
      · have hf := br_y h5 hf
        exact b_32 _ H locs ls hf hP hD hS (lv_sub hl [] rfl)
def r_X6_kindOf : Room := { frames := 0, cells := 0, slots := 0, locals := 0 }
set_option maxHeartbeats 4000000 in
set_option maxRecDepth 100000 in
theorem c_X6_kindOf (G : GT) (l : Launch) (sz : Nat) (x0 : Int32) (r : Int32) (hf : f_X6_kindOf x0 = some r) : MTi l yX6_kindOf wsX6_kindOf r_X6_kindOf [.int x0] G [] [] sz r := by
  refine MTi.of (cc := cX6_kindOf) (maxL := 1) (by decide +kernel) rfl (Nat.le_of_ble_eq_true rfl) (fun p e s m av below meth cd Q B H locs ls X hret hl hP hD hS => ?_)
  have hx := X.1.1
  have hb := X.1.2.1
  have hl : lv_has ls 1 [(0, .int x0)] := hl
  have b_61 : ∀ (t0 : Int32) (H : Heap) (locs : List Loc) (ls : Array Slot), f_X6_kindOf_61 t0 = some r → va_P G.1 vwCl [] H → va_D B [] → va_S B s.heap H locs → lv_has ls 1 [] → W p l e r_X6_kindOf s m av below meth cd H locs 0 0 Q (F0 m 61 ls [.int t0]) := by
    intro t0 H locs ls hf hP hD hS hl
    unfold f_X6_kindOf_61 at hf
    cases hf
    exact hret _ _ _ _ dX6_kindOf_61 hP hD hS
  unfold f_X6_kindOf at hf
  refine lv_iload_n (pc := 0) hx hb dX6_kindOf_0 rfl (lv_at hl 0 rfl) ?_
  refine lv_bipush (pc := 1) (v := (112 : Int32)) hx hb dX6_kindOf_1 (by decide) ?_
  refine lv_icmp_ne (pc := 3) (tgt := 10) hx hb dX6_kindOf_3 (by decide) (fun h6 => ?_) (fun h6 => ?_)
  · have hf := br_n h6 hf
    refine lv_iload_n (pc := 10) hx hb dX6_kindOf_10 rfl (lv_at hl 0 rfl) ?_
    refine lv_bipush (pc := 11) (v := (100 : Int32)) hx hb dX6_kindOf_11 (by decide) ?_
    refine lv_icmp_ne (pc := 13) (tgt := 20) hx hb dX6_kindOf_13 (by decide) (fun h5 => ?_) (fun h5 => ?_)
    · have hf := br_n h5 hf
      refine lv_iload_n (pc := 20) hx hb dX6_kindOf_20 rfl (lv_at hl 0 rfl) ?_
      refine lv_bipush (pc := 21) (v := (122 : Int32)) hx hb dX6_kindOf_21 (by decide) ?_
      refine lv_icmp_ne (pc := 23) (tgt := 30) hx hb dX6_kindOf_23 (by decide) (fun h4 => ?_) (fun h4 => ?_)
      · have hf := br_n h4 hf
        refine lv_iload_n (pc := 30) hx hb dX6_kindOf_30 rfl (lv_at hl 0 rfl) ?_
        refine lv_bipush (pc := 31) (v := (108 : Int32)) hx hb dX6_kindOf_31 (by decide) ?_
        refine lv_icmp_ne (pc := 33) (tgt := 40) hx hb dX6_kindOf_33 (by decide) (fun h3 => ?_) (fun h3 => ?_)
        · have hf := br_n h3 hf
          refine lv_iload_n (pc := 40) hx hb dX6_kindOf_40 rfl (lv_at hl 0 rfl) ?_
          refine lv_bipush (pc := 41) (v := (115 : Int32)) hx hb dX6_kindOf_41 (by decide) ?_
          refine lv_icmp_ne (pc := 43) (tgt := 50) hx hb dX6_kindOf_43 (by decide) (fun h2 => ?_) (fun h2 => ?_)
          · have hf := br_n h2 hf
            refine lv_iload_n (pc := 50) hx hb dX6_kindOf_50 rfl (lv_at hl 0 rfl) ?_
            refine lv_bipush (pc := 51) (v := (102 : Int32)) hx hb dX6_kindOf_51 (by decide) ?_
            refine lv_icmp_ne (pc := 53) (tgt := 60) hx hb dX6_kindOf_53 (by decide) (fun h1 => ?_) (fun h1 => ?_)
            · have hf := br_n h1 hf
              refine lv_iconst (pc := 60) (v := (-1 : Int32)) hx hb dX6_kindOf_60 (by decide) ?_
              exact b_61 _ H locs ls hf hP hD hS (lv_sub hl [] rfl)
            · have hf := br_y h1 hf
              refine lv_iconst (pc := 56) (v := (5 : Int32)) hx hb dX6_kindOf_56 (by decide) ?_
              refine lv_goto (pc := 57) (tgt := 61) hx hb dX6_kindOf_57 (by decide) ?_
              exact b_61 _ H locs ls hf hP hD hS (lv_sub hl [] rfl)
          · have hf := br_y h2 hf
            refine lv_iconst (pc := 46) (v := (4 : Int32)) hx hb dX6_kindOf_46 (by decide) ?_
            refine lv_goto (pc := 47) (tgt := 61) hx hb dX6_kindOf_47 (by decide) ?_
            exact b_61 _ H locs ls hf hP hD hS (lv_sub hl [] rfl)
        · have hf := br_y h3 hf
          refine lv_iconst (pc := 36) (v := (3 : Int32)) hx hb dX6_kindOf_36 (by decide) ?_
          refine lv_goto (pc := 37) (tgt := 61) hx hb dX6_kindOf_37 (by decide) ?_
          exact b_61 _ H locs ls hf hP hD hS (lv_sub hl [] rfl)
      · have hf := br_y h4 hf
        refine lv_iconst (pc := 26) (v := (2 : Int32)) hx hb dX6_kindOf_26 (by decide) ?_
        refine lv_goto (pc := 27) (tgt := 61) hx hb dX6_kindOf_27 (by decide) ?_
        exact b_61 _ H locs ls hf hP hD hS (lv_sub hl [] rfl)
    · have hf := br_y h5 hf
      refine lv_iconst (pc := 16) (v := (1 : Int32)) hx hb dX6_kindOf_16 (by decide) ?_
      refine lv_goto (pc := 17) (tgt := 61) hx hb dX6_kindOf_17 (by decide) ?_
      exact b_61 _ H locs ls hf hP hD hS (lv_sub hl [] rfl)
  · have hf := br_y h6 hf
    refine lv_iconst (pc := 6) (v := (0 : Int32)) hx hb dX6_kindOf_6 (by decide) ?_
    refine lv_goto (pc := 7) (tgt := 61) hx hb dX6_kindOf_7 (by decide) ?_
    exact b_61 _ H locs ls hf hP hD hS (lv_sub hl [] rfl)
def r_X6_takesPerson : Room := { frames := 2, cells := 0, slots := 0, locals := 51 }
set_option maxHeartbeats 4000000 in
set_option maxRecDepth 100000 in
theorem c_X6_takesPerson (G : GT) (l : Launch) (A : Nat → Nat) (sz : Nat) (M : CS) (N : JS) (x1 : Int32) (r : Int32) (M' : CS) (hf : f_X6_takesPerson M N x1 = some (r, M')) : MTi l yX6_takesPerson wsX6_takesPerson r_X6_takesPerson [.ref (A 0), .int x1] G (w_Mo G A M N) (w_Mo G A M' N) sz r := by
  refine MTz.of (cc := cX6_takesPerson) (maxL := 4) (by decide +kernel) rfl (Nat.le_of_ble_eq_true rfl) (fun p e s m av below meth cd Q B H locs ls X hret hl hP hD hS => ?_)
  have hx := X.1.1
  have hb := X.1.2.1
  have hl : lv_has ls 4 [(0, .ref (A 0)), (1, .int x1)] := hl
  have b_34 : ∀ (M : CS) (H : Heap) (locs : List Loc) (ls : Array Slot), f_X6_takesPerson_34 M N = some (r, M') → va_P G.1 vwCl (w_Mo G A M N) H → va_D B (w_Mo G A M N) → va_S B s.heap H locs → lv_has ls 4 [] → W p l e r_X6_takesPerson s m av below meth cd H locs 0 0 Q (F0 m 34 ls []) := by
    intro M H locs ls hf hP hD hS hl
    unfold f_X6_takesPerson_34 at hf
    refine lv_iconst (pc := 34) (v := (0 : Int32)) hx hb dX6_takesPerson_34 (by decide) ?_
    cases hf
    exact hret _ _ _ _ (by decide) dX6_takesPerson_35 hP hD hS
  have b_104 : ∀ (t0 : Int32) (M : CS) (H : Heap) (locs : List Loc) (ls : Array Slot), f_X6_takesPerson_104 t0 M N = some (r, M') → va_P G.1 vwCl (w_Mo G A M N) H → va_D B (w_Mo G A M N) → va_S B s.heap H locs → lv_has ls 4 [] → W p l e r_X6_takesPerson s m av below meth cd H locs 0 0 Q (F0 m 104 ls [.int t0]) := by
    intro t0 M H locs ls hf hP hD hS hl
    unfold f_X6_takesPerson_104 at hf
    obtain ⟨hz, hf⟩ := ck_some hf
    cases hf
    exact hret _ _ _ _ (isb_or hz) dX6_takesPerson_104 hP hD hS
  have b_103 : ∀ (M : CS) (H : Heap) (locs : List Loc) (ls : Array Slot), f_X6_takesPerson_103 M N = some (r, M') → va_P G.1 vwCl (w_Mo G A M N) H → va_D B (w_Mo G A M N) → va_S B s.heap H locs → lv_has ls 4 [] → W p l e r_X6_takesPerson s m av below meth cd H locs 0 0 Q (F0 m 103 ls []) := by
    intro M H locs ls hf hP hD hS hl
    unfold f_X6_takesPerson_103 at hf
    refine lv_iconst (pc := 103) (v := (0 : Int32)) hx hb dX6_takesPerson_103 (by decide) ?_
    exact b_104 _ _ H locs ls hf hP hD hS (lv_sub hl [] rfl)
  unfold f_X6_takesPerson at hf
  refine lv_aload_n (pc := 0) hx hb dX6_takesPerson_0 rfl (lv_at hl 0 rfl) ?_
  refine wget (pc := 1) X (fun _ h9 => List.mem_cons_of_mem _ (List.mem_append_right _ h9)) hP 0 (at_Mo_0 G A M N) rfl 12 (by decide) (List.mem_cons_of_mem _ (List.mem_append_left _ (List.mem_of_getElem? (i := 0) rfl))) rfl (v := .ref (A 9)) rfl dX6_takesPerson_1 ?_
  refine lv_iconst (pc := 4) (v := (0 : Int32)) hx hb dX6_takesPerson_4 (by decide) ?_
  refine wiald (pc := 5) X hP 9 (at_Mo_9 G A M N) (by decide) (j := 0) (by decide) dX6_takesPerson_5 ?_
  refine lv_istore_n (pc := 6) (lv' := [(2, .int ((M 10) 0)), (0, .ref (A 0)), (1, .int x1)]) hx hb dX6_takesPerson_6 rfl hl (by decide) rfl (fun ls hl => ?_)
  refine lv_aload_n (pc := 7) hx hb dX6_takesPerson_7 rfl (lv_at hl 1 rfl) ?_
  refine lv_iload_n (pc := 8) hx hb dX6_takesPerson_8 rfl (lv_at hl 2 rfl) ?_
  obtain ⟨r1, hc1, hf⟩ := ob1_some hf
  refine endi X.2.2.2.2 (runV (pc := 9) (As := [.int x1]) (rest := []) X (c_X6_byteAt G l A H.size M N x1 r1 hc1) gX6_takesPerson_X6_byteAt k_X6_byteAt ⟨rfl, rfl⟩ ⟨Nat.le_of_ble_eq_true rfl, Nat.le_of_ble_eq_true rfl⟩ (EM.all (w_Mo G A M N) (w_Mo G A M N)) hP hD hS (ci := 6) rfl rfl (at_Mo_0 G A M N) rfl hl.1 rfl (Nat.le_of_ble_eq_true rfl) ⟨Nat.zero_le _, Nat.zero_le _⟩ dX6_takesPerson_9) (EM.all (w_Mo G A M N) (w_Mo G A M N)) hP hD hS (fun H locs hP hD hS => ?_)
  obtain ⟨r2, hc2, hf⟩ := ob1_some hf
  refine endi X.2.2.2.2 (runS (pc := 12) (As := [.int r1]) (rest := []) X (c_X6_kindOf G l  H.size r1 r2 hc2) gX6_takesPerson_X6_kindOf k_X6_kindOf ⟨rfl, rfl⟩ ⟨Nat.le_of_ble_eq_true rfl, Nat.le_of_ble_eq_true rfl⟩ (EM.nil (w_Mo G A M N)) hP hD hS rfl hl.1 rfl (Nat.le_of_ble_eq_true rfl) ⟨Nat.zero_le _, Nat.zero_le _⟩ dX6_takesPerson_12) (EM.nil (w_Mo G A M N)) hP hD hS (fun H locs hP hD hS => ?_)
  refine lv_istore_n (pc := 15) (lv' := [(3, .int r2), (2, .int ((M 10) 0)), (0, .ref (A 0)), (1, .int x1)]) hx hb dX6_takesPerson_15 rfl hl (by decide) rfl (fun ls hl => ?_)
  refine lv_iload_n (pc := 16) hx hb dX6_takesPerson_16 rfl (lv_at hl 0 rfl) ?_
  refine lv_if_lt (pc := 17) (tgt := 34) hx hb dX6_takesPerson_17 (by decide) (fun h5 => ?_) (fun h5 => ?_)
  · have hf := br_y h5 hf
    exact b_34 _ H locs ls hf hP hD hS (lv_sub hl [] rfl)
  · have hf := br_n h5 hf
    refine lv_iload_n (pc := 20) hx hb dX6_takesPerson_20 rfl (lv_at hl 1 rfl) ?_
    refine lv_iconst (pc := 21) (v := (5 : Int32)) hx hb dX6_takesPerson_21 (by decide) ?_
    refine lv_icmp_eq (pc := 22) (tgt := 34) hx hb dX6_takesPerson_22 (by decide) (fun h4 => ?_) (fun h4 => ?_)
    · have hf := br_y h4 hf
      exact b_34 _ H locs ls hf hP hD hS (lv_sub hl [] rfl)
    · have hf := br_n h4 hf
      refine lv_aload_n (pc := 25) hx hb dX6_takesPerson_25 rfl (lv_at hl 2 rfl) ?_
      refine wget (pc := 26) X (fun _ h9 => List.mem_cons_of_mem _ (List.mem_append_right _ h9)) hP 0 (at_Mo_0 G A M N) rfl 12 (by decide) (List.mem_cons_of_mem _ (List.mem_append_left _ (List.mem_of_getElem? (i := 0) rfl))) rfl (v := .ref (A 9)) rfl dX6_takesPerson_26 ?_
      refine lv_iconst (pc := 29) (v := (1 : Int32)) hx hb dX6_takesPerson_29 (by decide) ?_
      refine wiald (pc := 30) X hP 9 (at_Mo_9 G A M N) (by decide) (j := 1) (by decide) dX6_takesPerson_30 ?_
      refine lv_if_le (pc := 31) (tgt := 36) hx hb dX6_takesPerson_31 (by decide) (fun h3 => ?_) (fun h3 => ?_)
      · have hf := br_y h3 hf
        refine lv_aload_n (pc := 36) hx hb dX6_takesPerson_36 rfl (lv_at hl 2 rfl) ?_
        refine lv_dup (pc := 37) hx hb dX6_takesPerson_37 rfl ?_
        refine wget (pc := 38) X (fun _ h9 => List.mem_cons_of_mem _ (List.mem_append_right _ h9)) hP 0 (at_Mo_0 G A M N) rfl 13 (by decide) (List.mem_cons_of_mem _ (List.mem_append_left _ (List.mem_of_getElem? (i := 1) rfl))) rfl (v := .int (M 11 0)) rfl dX6_takesPerson_38 ?_
        refine lv_iconst (pc := 41) (v := (1 : Int32)) hx hb dX6_takesPerson_41 (by decide) ?_
        refine lv_iadd (pc := 42) hx hb dX6_takesPerson_42 ?_
        refine wput (pc := 43) X (fun _ h9 => List.mem_cons_of_mem _ (List.mem_append_right _ h9)) tyX6 tyX6_ok nmX6 hP hD hS 0 (at_Mo_0 G A M N) rfl 13 (by decide) (List.mem_cons_of_mem _ (List.mem_append_left _ (List.mem_of_getElem? (i := 1) rfl))) rfl rfl (ty := .int) (v := .int ((M 11 0) + (1 : Int32))) rfl rfl rfl (Nat.le_of_ble_eq_true rfl) (st_Mo_0_13 G A M N ((M 11 0) + (1 : Int32))) dX6_takesPerson_43 (fun H locs hP hD hS => ?_)
        refine lv_aload_n (pc := 46) hx hb dX6_takesPerson_46 rfl (lv_at hl 2 rfl) ?_
        refine wget (pc := 47) X (fun _ h9 => List.mem_cons_of_mem _ (List.mem_append_right _ h9)) hP 0 (at_Mo_0 G A (cset M 11 0 ((M 11 0) + (1 : Int32))) N) rfl 12 (by decide) (List.mem_cons_of_mem _ (List.mem_append_left _ (List.mem_of_getElem? (i := 0) rfl))) rfl (v := .ref (A 9)) rfl dX6_takesPerson_47 ?_
        refine lv_iconst (pc := 50) (v := (4 : Int32)) hx hb dX6_takesPerson_50 (by decide) ?_
        refine lv_iload_n (pc := 51) hx hb dX6_takesPerson_51 rfl (lv_at hl 1 rfl) ?_
        refine lv_iadd (pc := 52) hx hb dX6_takesPerson_52 ?_
        refine lv_iload_n (pc := 53) hx hb dX6_takesPerson_53 rfl (lv_at hl 0 rfl) ?_
        obtain ⟨hi, hf⟩ := ck_some hf
        refine wiast (pc := 54) X hP hD hS 9 (at_Mo_9 G A (cset M 11 0 ((M 11 0) + (1 : Int32))) N) hi rfl (sa_Mo_9 G A (cset M 11 0 ((M 11 0) + (1 : Int32))) N _) dX6_takesPerson_54 (fun H locs hP hD hS => ?_)
        have hP : va_P G.1 vwCl (w_Mo G A (cset (cset M 11 0 ((M 11 0) + (1 : Int32))) 10 ((4 : Int32) + ((M 10) 0)).toNatClampNeg r2) N) H := hP
        have hD : va_D B (w_Mo G A (cset (cset M 11 0 ((M 11 0) + (1 : Int32))) 10 ((4 : Int32) + ((M 10) 0)).toNatClampNeg r2) N) := hD
        refine lv_aload_n (pc := 55) hx hb dX6_takesPerson_55 rfl (lv_at hl 2 rfl) ?_
        refine wget (pc := 56) X (fun _ h9 => List.mem_cons_of_mem _ (List.mem_append_right _ h9)) hP 0 (at_Mo_0 G A (cset (cset M 11 0 ((M 11 0) + (1 : Int32))) 10 ((4 : Int32) + ((M 10) 0)).toNatClampNeg r2) N) rfl 12 (by decide) (List.mem_cons_of_mem _ (List.mem_append_left _ (List.mem_of_getElem? (i := 0) rfl))) rfl (v := .ref (A 9)) rfl dX6_takesPerson_56 ?_
        refine lv_iconst (pc := 59) (v := (0 : Int32)) hx hb dX6_takesPerson_59 (by decide) ?_
        refine lv_dup2_11 (pc := 60) hx hb dX6_takesPerson_60 rfl rfl ?_
        refine wiald (pc := 61) X hP 9 (at_Mo_9 G A (cset (cset M 11 0 ((M 11 0) + (1 : Int32))) 10 ((4 : Int32) + ((M 10) 0)).toNatClampNeg r2) N) (by decide) (j := 0) (by decide) dX6_takesPerson_61 ?_
        refine lv_iconst (pc := 62) (v := (1 : Int32)) hx hb dX6_takesPerson_62 (by decide) ?_
        refine lv_iadd (pc := 63) hx hb dX6_takesPerson_63 ?_
        refine wiast (pc := 64) X hP hD hS 9 (at_Mo_9 G A (cset (cset M 11 0 ((M 11 0) + (1 : Int32))) 10 ((4 : Int32) + ((M 10) 0)).toNatClampNeg r2) N) (by decide) (j := 0) (by decide) (sa_Mo_9 G A (cset (cset M 11 0 ((M 11 0) + (1 : Int32))) 10 ((4 : Int32) + ((M 10) 0)).toNatClampNeg r2) N _) dX6_takesPerson_64 (fun H locs hP hD hS => ?_)
        have hP : va_P G.1 vwCl (w_Mo G A (cset (cset (cset M 11 0 ((M 11 0) + (1 : Int32))) 10 ((4 : Int32) + ((M 10) 0)).toNatClampNeg r2) 10 0 ((((cset (cset M 11 0 ((M 11 0) + (1 : Int32))) 10 ((4 : Int32) + ((M 10) 0)).toNatClampNeg r2) 10) 0) + (1 : Int32))) N) H := hP
        have hD : va_D B (w_Mo G A (cset (cset (cset M 11 0 ((M 11 0) + (1 : Int32))) 10 ((4 : Int32) + ((M 10) 0)).toNatClampNeg r2) 10 0 ((((cset (cset M 11 0 ((M 11 0) + (1 : Int32))) 10 ((4 : Int32) + ((M 10) 0)).toNatClampNeg r2) 10) 0) + (1 : Int32))) N) := hD
        refine lv_aload_n (pc := 65) hx hb dX6_takesPerson_65 rfl (lv_at hl 2 rfl) ?_
        refine lv_iload_n (pc := 66) hx hb dX6_takesPerson_66 rfl (lv_at hl 3 rfl) ?_
        refine lv_bipush (pc := 67) (v := (9 : Int32)) hx hb dX6_takesPerson_67 (by decide) ?_
        refine lv_iload_n (pc := 69) hx hb dX6_takesPerson_69 rfl (lv_at hl 1 rfl) ?_
        refine lv_iadd (pc := 70) hx hb dX6_takesPerson_70 ?_
        refine lv_bipush (pc := 71) (v := (48 : Int32)) hx hb dX6_takesPerson_71 (by decide) ?_
        refine lv_iconst (pc := 73) (v := (0 : Int32)) hx hb dX6_takesPerson_73 (by decide) ?_
        refine lv_bipush (pc := 74) (v := (9 : Int32)) hx hb dX6_takesPerson_74 (by decide) ?_
        obtain ⟨r3, M3, hc3, hf⟩ := ob2_some hf
        refine endi X.2.2.2.2 (runV (pc := 76) (As := [.int x1, .int ((9 : Int32) + ((M 10) 0)), .int (48 : Int32), .int (0 : Int32), .int (9 : Int32)]) (rest := []) X (c_X6_takes G l A H.size (cset (cset (cset M 11 0 ((M 11 0) + (1 : Int32))) 10 ((4 : Int32) + ((M 10) 0)).toNatClampNeg r2) 10 0 ((((cset (cset M 11 0 ((M 11 0) + (1 : Int32))) 10 ((4 : Int32) + ((M 10) 0)).toNatClampNeg r2) 10) 0) + (1 : Int32))) N x1 ((9 : Int32) + ((M 10) 0)) (48 : Int32) (0 : Int32) (9 : Int32) r3 M3 hc3) gX6_takesPerson_X6_takes k_X6_takes ⟨rfl, rfl⟩ ⟨Nat.le_of_ble_eq_true rfl, Nat.le_of_ble_eq_true rfl⟩ (EM.all (w_Mo G A (cset (cset (cset M 11 0 ((M 11 0) + (1 : Int32))) 10 ((4 : Int32) + ((M 10) 0)).toNatClampNeg r2) 10 0 ((((cset (cset M 11 0 ((M 11 0) + (1 : Int32))) 10 ((4 : Int32) + ((M 10) 0)).toNatClampNeg r2) 10) 0) + (1 : Int32))) N) (w_Mo G A M3 N)) hP hD hS (ci := 6) rfl rfl (at_Mo_0 G A (cset (cset (cset M 11 0 ((M 11 0) + (1 : Int32))) 10 ((4 : Int32) + ((M 10) 0)).toNatClampNeg r2) 10 0 ((((cset (cset M 11 0 ((M 11 0) + (1 : Int32))) 10 ((4 : Int32) + ((M 10) 0)).toNatClampNeg r2) 10) 0) + (1 : Int32))) N) rfl hl.1 rfl (Nat.le_of_ble_eq_true rfl) ⟨Nat.zero_le _, Nat.zero_le _⟩ dX6_takesPerson_76) (EM.all (w_Mo G A (cset (cset (cset M 11 0 ((M 11 0) + (1 : Int32))) 10 ((4 : Int32) + ((M 10) 0)).toNatClampNeg r2) 10 0 ((((cset (cset M 11 0 ((M 11 0) + (1 : Int32))) 10 ((4 : Int32) + ((M 10) 0)).toNatClampNeg r2) 10) 0) + (1 : Int32))) N) (w_Mo G A M3 N)) hP hD hS (fun H locs hP hD hS => ?_)
        refine lv_if_eq (pc := 79) (tgt := 103) hx hb dX6_takesPerson_79 (by decide) (fun h2 => ?_) (fun h2 => ?_)
        · have hf := br_y h2 hf
          exact b_103 _ H locs ls hf hP hD hS (lv_sub hl [] rfl)
        · have hf := br_n h2 hf
          refine lv_aload_n (pc := 82) hx hb dX6_takesPerson_82 rfl (lv_at hl 2 rfl) ?_
          refine lv_iload_n (pc := 83) hx hb dX6_takesPerson_83 rfl (lv_at hl 3 rfl) ?_
          refine lv_bipush (pc := 84) (v := (14 : Int32)) hx hb dX6_takesPerson_84 (by decide) ?_
          refine lv_iload_n (pc := 86) hx hb dX6_takesPerson_86 rfl (lv_at hl 1 rfl) ?_
          refine lv_iadd (pc := 87) hx hb dX6_takesPerson_87 ?_
          refine lv_bipush (pc := 88) (v := (48 : Int32)) hx hb dX6_takesPerson_88 (by decide) ?_
          refine lv_iconst (pc := 90) (v := (0 : Int32)) hx hb dX6_takesPerson_90 (by decide) ?_
          refine lv_bipush (pc := 91) (v := (9 : Int32)) hx hb dX6_takesPerson_91 (by decide) ?_
          obtain ⟨r4, M4, hc4, hf⟩ := ob2_some hf
          refine endi X.2.2.2.2 (runV (pc := 93) (As := [.int x1, .int ((14 : Int32) + ((M 10) 0)), .int (48 : Int32), .int (0 : Int32), .int (9 : Int32)]) (rest := []) X (c_X6_takes G l A H.size M3 N x1 ((14 : Int32) + ((M 10) 0)) (48 : Int32) (0 : Int32) (9 : Int32) r4 M4 hc4) gX6_takesPerson_X6_takes k_X6_takes ⟨rfl, rfl⟩ ⟨Nat.le_of_ble_eq_true rfl, Nat.le_of_ble_eq_true rfl⟩ (EM.all (w_Mo G A M3 N) (w_Mo G A M4 N)) hP hD hS (ci := 6) rfl rfl (at_Mo_0 G A M3 N) rfl hl.1 rfl (Nat.le_of_ble_eq_true rfl) ⟨Nat.zero_le _, Nat.zero_le _⟩ dX6_takesPerson_93) (EM.all (w_Mo G A M3 N) (w_Mo G A M4 N)) hP hD hS (fun H locs hP hD hS => ?_)
          refine lv_if_eq (pc := 96) (tgt := 103) hx hb dX6_takesPerson_96 (by decide) (fun h1 => ?_) (fun h1 => ?_)
          · have hf := br_y h1 hf
            exact b_103 _ H locs ls hf hP hD hS (lv_sub hl [] rfl)
          · have hf := br_n h1 hf
            refine lv_iconst (pc := 99) (v := (1 : Int32)) hx hb dX6_takesPerson_99 (by decide) ?_
            refine lv_goto (pc := 100) (tgt := 104) hx hb dX6_takesPerson_100 (by decide) ?_
            exact b_104 _ _ H locs ls hf hP hD hS (lv_sub hl [] rfl)
      · have hf := br_n h3 hf
        exact b_34 _ H locs ls hf hP hD hS (lv_sub hl [] rfl)
def r_X6_reads : Room := { frames := 3, cells := 0, slots := 0, locals := 74 }
set_option maxHeartbeats 4000000 in
set_option maxRecDepth 100000 in
theorem c_X6_reads (G : GT) (l : Launch) (A : Nat → Nat) (sz : Nat) (M : CS) (N : JS) (x1 : Int32) (r : Int32) (M' : CS) (hf : f_X6_reads M N x1 = some (r, M')) : MTi l yX6_reads wsX6_reads r_X6_reads [.ref (A 0), .int x1] G (w_Mo G A M N) (w_Mo G A M' N) sz r := by
  refine MTi.of (cc := cX6_reads) (maxL := 3) (by decide +kernel) rfl (Nat.le_of_ble_eq_true rfl) (fun p e s m av below meth cd Q B H locs ls X hret hl hP hD hS => ?_)
  have hx := X.1.1
  have hb := X.1.2.1
  have hl : lv_has ls 3 [(0, .ref (A 0)), (1, .int x1)] := hl
  have b_114 : ∀ (t0 : Int32) (M : CS) (H : Heap) (locs : List Loc) (ls : Array Slot), f_X6_reads_114 t0 M N = some (r, M') → va_P G.1 vwCl (w_Mo G A M N) H → va_D B (w_Mo G A M N) → va_S B s.heap H locs → lv_has ls 3 [] → W p l e r_X6_reads s m av below meth cd H locs 0 0 Q (F0 m 114 ls [.int t0]) := by
    intro t0 M H locs ls hf hP hD hS hl
    unfold f_X6_reads_114 at hf
    cases hf
    exact hret _ _ _ _ dX6_reads_114 hP hD hS
  have b_91 : ∀ (M : CS) (H : Heap) (locs : List Loc) (ls : Array Slot), f_X6_reads_91 M N = some (r, M') → va_P G.1 vwCl (w_Mo G A M N) H → va_D B (w_Mo G A M N) → va_S B s.heap H locs → lv_has ls 3 [(0, .ref (A 0))] → W p l e r_X6_reads s m av below meth cd H locs 0 0 Q (F0 m 91 ls []) := by
    intro M H locs ls hf hP hD hS hl
    unfold f_X6_reads_91 at hf
    refine lv_aload_n (pc := 91) hx hb dX6_reads_91 rfl (lv_at hl 0 rfl) ?_
    refine wget (pc := 92) X (fun _ h9 => List.mem_cons_of_mem _ (List.mem_append_right _ h9)) hP 0 (at_Mo_0 G A M N) rfl 13 (by decide) (List.mem_cons_of_mem _ (List.mem_append_left _ (List.mem_append_left _ (List.mem_of_getElem? (i := 1) rfl)))) rfl (v := .int (M 11 0)) rfl dX6_reads_92 ?_
    cases hf
    exact hret _ _ _ _ dX6_reads_95 hP hD hS
  have l_26 : ∀ (n26 : Nat), ∀ (x1 : Int32) (M : CS) (H : Heap) (locs : List Loc) (ls : Array Slot), f_X6_reads_26 n26 x1 M N = some (r, M') → va_P G.1 vwCl (w_Mo G A M N) H → va_D B (w_Mo G A M N) → va_S B s.heap H locs → lv_has ls 3 [(0, .ref (A 0)), (1, .int x1)] → W p l e r_X6_reads s m av below meth cd H locs 0 0 Q (F0 m 26 ls []) := by
    intro n26
    induction n26 with
    | zero =>
      intro x1 M H locs ls hf hP hD hS hl
      rw [f_X6_reads_26] at hf
      cases hf
    | succ n26 ih26 =>
      intro x1 M H locs ls hf hP hD hS hl
      rw [f_X6_reads_26] at hf
      refine lv_aload_n (pc := 26) hx hb dX6_reads_26 rfl (lv_at hl 0 rfl) ?_
      refine wget (pc := 27) X (fun _ h9 => List.mem_cons_of_mem _ (List.mem_append_right _ h9)) hP 0 (at_Mo_0 G A M N) rfl 13 (by decide) (List.mem_cons_of_mem _ (List.mem_append_left _ (List.mem_append_left _ (List.mem_of_getElem? (i := 1) rfl)))) rfl (v := .int (M 11 0)) rfl dX6_reads_27 ?_
      refine lv_aload_n (pc := 30) hx hb dX6_reads_30 rfl (lv_at hl 0 rfl) ?_
      refine wget (pc := 31) X (fun _ h9 => List.mem_cons_of_mem _ (List.mem_append_right _ h9)) hP 0 (at_Mo_0 G A M N) rfl 2 (by decide) (List.mem_cons_of_mem _ (List.mem_append_left _ (List.mem_append_left _ (List.mem_of_getElem? (i := 2) rfl)))) rfl (v := .ref (A 3)) rfl dX6_reads_31 ?_
      refine lv_iload_n (pc := 34) hx hb dX6_reads_34 rfl (lv_at hl 1 rfl) ?_
      obtain ⟨hi, hf⟩ := ck_some hf
      refine wiald (pc := 35) X hP 3 (at_Mo_3 G A M N) hi rfl dX6_reads_35 ?_
      refine lv_icmp_ge (pc := 36) (tgt := 96) hx hb dX6_reads_36 (by decide) (fun h6 => ?_) (fun h6 => ?_)
      · have hf := br_y h6 hf
        refine lv_aload_n (pc := 96) hx hb dX6_reads_96 rfl (lv_at hl 0 rfl) ?_
        refine wget (pc := 97) X (fun _ h9 => List.mem_cons_of_mem _ (List.mem_append_right _ h9)) hP 0 (at_Mo_0 G A M N) rfl 12 (by decide) (List.mem_cons_of_mem _ (List.mem_append_left _ (List.mem_append_left _ (List.mem_of_getElem? (i := 0) rfl)))) rfl (v := .ref (A 9)) rfl dX6_reads_97 ?_
        refine lv_iconst (pc := 100) (v := (0 : Int32)) hx hb dX6_reads_100 (by decide) ?_
        refine wiald (pc := 101) X hP 9 (at_Mo_9 G A M N) (by decide) (j := 0) (by decide) dX6_reads_101 ?_
        refine lv_if_ne (pc := 102) (tgt := 112) hx hb dX6_reads_102 (by decide) (fun h1 => ?_) (fun h1 => ?_)
        · have hf := br_n h1 hf
          refine lv_bipush (pc := 112) (v := (-9 : Int32)) hx hb dX6_reads_112 (by decide) ?_
          exact b_114 _ _ H locs ls hf hP hD hS (lv_sub hl [] rfl)
        · have hf := br_y h1 hf
          refine lv_aload_n (pc := 105) hx hb dX6_reads_105 rfl (lv_at hl 0 rfl) ?_
          refine wget (pc := 106) X (fun _ h9 => List.mem_cons_of_mem _ (List.mem_append_right _ h9)) hP 0 (at_Mo_0 G A M N) rfl 13 (by decide) (List.mem_cons_of_mem _ (List.mem_append_left _ (List.mem_append_left _ (List.mem_of_getElem? (i := 1) rfl)))) rfl (v := .int (M 11 0)) rfl dX6_reads_106 ?_
          refine lv_goto (pc := 109) (tgt := 114) hx hb dX6_reads_109 (by decide) ?_
          exact b_114 _ _ H locs ls hf hP hD hS (lv_sub hl [] rfl)
      · have hf := br_n h6 hf
        refine lv_aload_n (pc := 39) hx hb dX6_reads_39 rfl (lv_at hl 0 rfl) ?_
        refine lv_iload_n (pc := 40) hx hb dX6_reads_40 rfl (lv_at hl 1 rfl) ?_
        obtain ⟨r1, hc1, hf⟩ := ob1_some hf
        refine endi X.2.2.2.2 (runV (pc := 41) (As := [.int x1]) (rest := []) X (c_X6_byteAt G l A H.size M N x1 r1 hc1) gX6_reads_X6_byteAt k_X6_byteAt ⟨rfl, rfl⟩ ⟨Nat.le_of_ble_eq_true rfl, Nat.le_of_ble_eq_true rfl⟩ (EM.all (w_Mo G A M N) (w_Mo G A M N)) hP hD hS (ci := 6) rfl rfl (at_Mo_0 G A M N) rfl hl.1 rfl (Nat.le_of_ble_eq_true rfl) ⟨Nat.zero_le _, Nat.zero_le _⟩ dX6_reads_41) (EM.all (w_Mo G A M N) (w_Mo G A M N)) hP hD hS (fun H locs hP hD hS => ?_)
        refine lv_bipush (pc := 44) (v := (32 : Int32)) hx hb dX6_reads_44 (by decide) ?_
        refine lv_icmp_ne (pc := 46) (tgt := 62) hx hb dX6_reads_46 (by decide) (fun h5 => ?_) (fun h5 => ?_)
        · have hf := br_n h5 hf
          refine lv_aload_n (pc := 62) hx hb dX6_reads_62 rfl (lv_at hl 0 rfl) ?_
          refine lv_iload_n (pc := 63) hx hb dX6_reads_63 rfl (lv_at hl 1 rfl) ?_
          obtain ⟨r2, hc2, hf⟩ := ob1_some hf
          refine endi X.2.2.2.2 (runV (pc := 64) (As := [.int x1]) (rest := []) X (c_X6_byteAt G l A H.size M N x1 r2 hc2) gX6_reads_X6_byteAt k_X6_byteAt ⟨rfl, rfl⟩ ⟨Nat.le_of_ble_eq_true rfl, Nat.le_of_ble_eq_true rfl⟩ (EM.all (w_Mo G A M N) (w_Mo G A M N)) hP hD hS (ci := 6) rfl rfl (at_Mo_0 G A M N) rfl hl.1 rfl (Nat.le_of_ble_eq_true rfl) ⟨Nat.zero_le _, Nat.zero_le _⟩ dX6_reads_64) (EM.all (w_Mo G A M N) (w_Mo G A M N)) hP hD hS (fun H locs hP hD hS => ?_)
          refine lv_bipush (pc := 67) (v := (120 : Int32)) hx hb dX6_reads_67 (by decide) ?_
          refine lv_icmp_ne (pc := 69) (tgt := 83) hx hb dX6_reads_69 (by decide) (fun h4 => ?_) (fun h4 => ?_)
          · have hf := br_n h4 hf
            refine lv_aload_n (pc := 83) hx hb dX6_reads_83 rfl (lv_at hl 0 rfl) ?_
            refine lv_iload_n (pc := 84) hx hb dX6_reads_84 rfl (lv_at hl 1 rfl) ?_
            obtain ⟨r3, M3, hc3, hf⟩ := ob2_some hf
            refine endi X.2.2.2.2 (runV (pc := 85) (As := [.int x1]) (rest := []) X (c_X6_takesPerson G l A H.size M N x1 r3 M3 hc3) gX6_reads_X6_takesPerson k_X6_takesPerson ⟨rfl, rfl⟩ ⟨Nat.le_of_ble_eq_true rfl, Nat.le_of_ble_eq_true rfl⟩ (EM.all (w_Mo G A M N) (w_Mo G A M3 N)) hP hD hS (ci := 6) rfl rfl (at_Mo_0 G A M N) rfl hl.1 rfl (Nat.le_of_ble_eq_true rfl) ⟨Nat.zero_le _, Nat.zero_le _⟩ dX6_reads_85) (EM.all (w_Mo G A M N) (w_Mo G A M3 N)) hP hD hS (fun H locs hP hD hS => ?_)
            refine lv_if_ne (pc := 88) (tgt := 26) hx hb dX6_reads_88 (by decide) (fun h2 => ?_) (fun h2 => ?_)
            · have hf := br_n h2 hf
              exact ih26 _ _ H locs ls hf hP hD hS (lv_sub hl [0, 1] rfl)
            · have hf := br_y h2 hf
              exact b_91 _ H locs ls hf hP hD hS (lv_sub hl [0] rfl)
          · have hf := br_y h4 hf
            refine lv_aload_n (pc := 72) hx hb dX6_reads_72 rfl (lv_at hl 0 rfl) ?_
            refine lv_iload_n (pc := 73) hx hb dX6_reads_73 rfl (lv_at hl 1 rfl) ?_
            obtain ⟨r4, M4, hc4, hf⟩ := ob2_some hf
            refine endi X.2.2.2.2 (runV (pc := 74) (As := [.int x1]) (rest := []) X (c_X6_takesError G l A H.size M N x1 r4 M4 hc4) gX6_reads_X6_takesError k_X6_takesError ⟨rfl, rfl⟩ ⟨Nat.le_of_ble_eq_true rfl, Nat.le_of_ble_eq_true rfl⟩ (EM.all (w_Mo G A M N) (w_Mo G A M4 N)) hP hD hS (ci := 6) rfl rfl (at_Mo_0 G A M N) rfl hl.1 rfl (Nat.le_of_ble_eq_true rfl) ⟨Nat.zero_le _, Nat.zero_le _⟩ dX6_reads_74) (EM.all (w_Mo G A M N) (w_Mo G A M4 N)) hP hD hS (fun H locs hP hD hS => ?_)
            refine lv_if_eq (pc := 77) (tgt := 91) hx hb dX6_reads_77 (by decide) (fun h3 => ?_) (fun h3 => ?_)
            · have hf := br_y h3 hf
              exact b_91 _ H locs ls hf hP hD hS (lv_sub hl [0] rfl)
            · have hf := br_n h3 hf
              refine lv_goto (pc := 80) (tgt := 26) hx hb dX6_reads_80 (by decide) ?_
              exact ih26 _ _ H locs ls hf hP hD hS (lv_sub hl [0, 1] rfl)
        · have hf := br_y h5 hf
          refine lv_aload_n (pc := 49) hx hb dX6_reads_49 rfl (lv_at hl 0 rfl) ?_
          refine lv_dup (pc := 50) hx hb dX6_reads_50 rfl ?_
          refine wget (pc := 51) X (fun _ h9 => List.mem_cons_of_mem _ (List.mem_append_right _ h9)) hP 0 (at_Mo_0 G A M N) rfl 13 (by decide) (List.mem_cons_of_mem _ (List.mem_append_left _ (List.mem_append_left _ (List.mem_of_getElem? (i := 1) rfl)))) rfl (v := .int (M 11 0)) rfl dX6_reads_51 ?_
          refine lv_iconst (pc := 54) (v := (1 : Int32)) hx hb dX6_reads_54 (by decide) ?_
          refine lv_iadd (pc := 55) hx hb dX6_reads_55 ?_
          refine wput (pc := 56) X (fun _ h9 => List.mem_cons_of_mem _ (List.mem_append_right _ h9)) tyX6 tyX6_ok nmX6 hP hD hS 0 (at_Mo_0 G A M N) rfl 13 (by decide) (List.mem_cons_of_mem _ (List.mem_append_left _ (List.mem_append_left _ (List.mem_of_getElem? (i := 1) rfl)))) rfl rfl (ty := .int) (v := .int ((M 11 0) + (1 : Int32))) rfl rfl rfl (Nat.le_of_ble_eq_true rfl) (st_Mo_0_13 G A M N ((M 11 0) + (1 : Int32))) dX6_reads_56 (fun H locs hP hD hS => ?_)
          refine lv_goto (pc := 59) (tgt := 26) hx hb dX6_reads_59 (by decide) ?_
          exact ih26 _ _ H locs ls hf hP hD hS (lv_sub hl [0, 1] rfl)
  have l_2 : ∀ (n2 : Nat), ∀ (x1 : Int32) (x2 : Int32) (M : CS) (H : Heap) (locs : List Loc) (ls : Array Slot), f_X6_reads_2 n2 x1 x2 M N = some (r, M') → va_P G.1 vwCl (w_Mo G A M N) H → va_D B (w_Mo G A M N) → va_S B s.heap H locs → lv_has ls 3 [(0, .ref (A 0)), (1, .int x1), (2, .int x2)] → W p l e r_X6_reads s m av below meth cd H locs 0 0 Q (F0 m 2 ls []) := by
    intro n2
    induction n2 with
    | zero =>
      intro x1 x2 M H locs ls hf hP hD hS hl
      rw [f_X6_reads_2] at hf
      cases hf
    | succ n2 ih2 =>
      intro x1 x2 M H locs ls hf hP hD hS hl
      rw [f_X6_reads_2] at hf
      refine lv_iload_n (pc := 2) hx hb dX6_reads_2 rfl (lv_at hl 2 rfl) ?_
      refine lv_bipush (pc := 3) (v := (119 : Int32)) hx hb dX6_reads_3 (by decide) ?_
      refine lv_icmp_ge (pc := 5) (tgt := 21) hx hb dX6_reads_5 (by decide) (fun h7 => ?_) (fun h7 => ?_)
      · have hf := br_y h7 hf
        refine lv_aload_n (pc := 21) hx hb dX6_reads_21 rfl (lv_at hl 0 rfl) ?_
        refine lv_iconst (pc := 22) (v := (0 : Int32)) hx hb dX6_reads_22 (by decide) ?_
        refine wput (pc := 23) X (fun _ h9 => List.mem_cons_of_mem _ (List.mem_append_right _ h9)) tyX6 tyX6_ok nmX6 hP hD hS 0 (at_Mo_0 G A M N) rfl 13 (by decide) (List.mem_cons_of_mem _ (List.mem_append_left _ (List.mem_append_left _ (List.mem_of_getElem? (i := 1) rfl)))) rfl rfl (ty := .int) (v := .int (0 : Int32)) rfl rfl rfl (Nat.le_of_ble_eq_true rfl) (st_Mo_0_13 G A M N (0 : Int32)) dX6_reads_23 (fun H locs hP hD hS => ?_)
        exact l_26 FU _ _ H locs ls hf hP hD hS (lv_sub hl [0, 1] rfl)
      · have hf := br_n h7 hf
        refine lv_aload_n (pc := 8) hx hb dX6_reads_8 rfl (lv_at hl 0 rfl) ?_
        refine wget (pc := 9) X (fun _ h9 => List.mem_cons_of_mem _ (List.mem_append_right _ h9)) hP 0 (at_Mo_0 G A M N) rfl 12 (by decide) (List.mem_cons_of_mem _ (List.mem_append_left _ (List.mem_append_left _ (List.mem_of_getElem? (i := 0) rfl)))) rfl (v := .ref (A 9)) rfl dX6_reads_9 ?_
        refine lv_iload_n (pc := 12) hx hb dX6_reads_12 rfl (lv_at hl 2 rfl) ?_
        refine lv_iconst (pc := 13) (v := (0 : Int32)) hx hb dX6_reads_13 (by decide) ?_
        obtain ⟨hi, hf⟩ := ck_some hf
        refine wiast (pc := 14) X hP hD hS 9 (at_Mo_9 G A M N) hi rfl (sa_Mo_9 G A M N _) dX6_reads_14 (fun H locs hP hD hS => ?_)
        have hP : va_P G.1 vwCl (w_Mo G A (cset M 10 x2.toNatClampNeg (0 : Int32)) N) H := hP
        have hD : va_D B (w_Mo G A (cset M 10 x2.toNatClampNeg (0 : Int32)) N) := hD
        refine lv_iinc (pc := 15) (v := (x2 + (1 : Int32))) (lv' := [(2, .int (x2 + (1 : Int32))), (0, .ref (A 0)), (1, .int x1)]) hx hb dX6_reads_15 hl (k := 2) rfl rfl (by decide) rfl (fun ls hl => ?_)
        refine lv_goto (pc := 18) (tgt := 2) hx hb dX6_reads_18 (by decide) ?_
        exact ih2 _ _ _ H locs ls hf hP hD hS (lv_sub hl [1, 2, 0] rfl)
  unfold f_X6_reads at hf
  refine lv_iconst (pc := 0) (v := (0 : Int32)) hx hb dX6_reads_0 (by decide) ?_
  refine lv_istore_n (pc := 1) (lv' := [(2, .int (0 : Int32)), (0, .ref (A 0)), (1, .int x1)]) hx hb dX6_reads_1 rfl hl (by decide) rfl (fun ls hl => ?_)
  exact l_2 FU _ _ _ H locs ls hf hP hD hS (lv_sub hl [1, 2, 0] rfl)
def r_X6_chain : Room := { frames := 4, cells := 0, slots := 0, locals := 96 }
set_option maxHeartbeats 4000000 in
set_option maxRecDepth 100000 in
theorem c_X6_chain (G : GT) (l : Launch) (A : Nat → Nat) (sz : Nat) (M : CS) (N : JS) (x1 : Int32) (r : Int32) (M' : CS) (hf : f_X6_chain M N x1 = some (r, M')) : MTi l yX6_chain wsX6_chain r_X6_chain [.ref (A 0), .int x1] G (w_Mo G A M N) (w_Mo G A M' N) sz r := by
  refine MTi.of (cc := cX6_chain) (maxL := 3) (by decide +kernel) rfl (Nat.le_of_ble_eq_true rfl) (fun p e s m av below meth cd Q B H locs ls X hret hl hP hD hS => ?_)
  have hx := X.1.1
  have hb := X.1.2.1
  have hl : lv_has ls 3 [(0, .ref (A 0)), (1, .int x1)] := hl
  have l_52 : ∀ (n52 : Nat), ∀ (x2 : Int32) (M : CS) (H : Heap) (locs : List Loc) (ls : Array Slot), f_X6_chain_52 n52 x2 M N = some (r, M') → va_P G.1 vwCl (w_Mo G A M N) H → va_D B (w_Mo G A M N) → va_S B s.heap H locs → lv_has ls 3 [(0, .ref (A 0)), (2, .int x2)] → W p l e r_X6_chain s m av below meth cd H locs 0 0 Q (F0 m 52 ls []) := by
    intro n52
    induction n52 with
    | zero =>
      intro x2 M H locs ls hf hP hD hS hl
      rw [f_X6_chain_52] at hf
      cases hf
    | succ n52 ih52 =>
      intro x2 M H locs ls hf hP hD hS hl
      rw [f_X6_chain_52] at hf
      refine lv_iload_n (pc := 52) hx hb dX6_chain_52 rfl (lv_at hl 1 rfl) ?_
      refine lv_iconst (pc := 53) (v := (3 : Int32)) hx hb dX6_chain_53 (by decide) ?_
      refine lv_icmp_ge (pc := 54) (tgt := 70) hx hb dX6_chain_54 (by decide) (fun h1 => ?_) (fun h1 => ?_)
      · have hf := br_y h1 hf
        refine lv_aload_n (pc := 70) hx hb dX6_chain_70 rfl (lv_at hl 0 rfl) ?_
        refine wget (pc := 71) X (fun _ h9 => List.mem_cons_of_mem _ (List.mem_append_right _ h9)) hP 0 (at_Mo_0 G A M N) rfl 4 (by decide) (List.mem_cons_of_mem _ (List.mem_append_left _ (List.mem_append_left _ (List.mem_of_getElem? (i := 2) rfl)))) rfl (v := .ref (A 5)) rfl dX6_chain_71 ?_
        refine lv_iconst (pc := 74) (v := (0 : Int32)) hx hb dX6_chain_74 (by decide) ?_
        refine wiald (pc := 75) X hP 5 (at_Mo_5 G A M N) (by decide) (j := 0) (by decide) dX6_chain_75 ?_
        cases hf
        exact hret _ _ _ _ dX6_chain_76 hP hD hS
      · have hf := br_n h1 hf
        refine lv_aload_n (pc := 57) hx hb dX6_chain_57 rfl (lv_at hl 0 rfl) ?_
        refine wget (pc := 58) X (fun _ h9 => List.mem_cons_of_mem _ (List.mem_append_right _ h9)) hP 0 (at_Mo_0 G A M N) rfl 6 (by decide) (List.mem_cons_of_mem _ (List.mem_append_left _ (List.mem_append_left _ (List.mem_of_getElem? (i := 3) rfl)))) rfl (v := .ref (A 7)) rfl dX6_chain_58 ?_
        refine lv_iload_n (pc := 61) hx hb dX6_chain_61 rfl (lv_at hl 1 rfl) ?_
        refine lv_iconst (pc := 62) (v := (0 : Int32)) hx hb dX6_chain_62 (by decide) ?_
        obtain ⟨hi, hf⟩ := ck_some hf
        refine wzast (pc := 63) X hP hD hS 7 (at_Mo_7 G A M N) hi rfl (sa_Mo_7 G A M N _) dX6_chain_63 (fun H locs hP hD hS => ?_)
        have hP : va_P G.1 vwCl (w_Mo G A (cset M 6 x2.toNatClampNeg (0 : Int32)) N) H := hP
        have hD : va_D B (w_Mo G A (cset M 6 x2.toNatClampNeg (0 : Int32)) N) := hD
        refine lv_iinc (pc := 64) (v := (x2 + (1 : Int32))) (lv' := [(2, .int (x2 + (1 : Int32))), (0, .ref (A 0))]) hx hb dX6_chain_64 hl (k := 1) rfl rfl (by decide) rfl (fun ls hl => ?_)
        refine lv_goto (pc := 67) (tgt := 52) hx hb dX6_chain_67 (by decide) ?_
        exact ih52 _ _ H locs ls hf hP hD hS (lv_sub hl [1, 0] rfl)
  unfold f_X6_chain at hf
  refine lv_iload_n (pc := 0) hx hb dX6_chain_0 rfl (lv_at hl 1 rfl) ?_
  obtain ⟨r1, hc1, hf⟩ := ob1_some hf
  refine endi X.2.2.2.2 (runS (pc := 1) (As := [.int x1]) (rest := []) X (c_X6_isText G l  H.size x1 r1 hc1) gX6_chain_X6_isText k_X6_isText ⟨rfl, rfl⟩ ⟨Nat.le_of_ble_eq_true rfl, Nat.le_of_ble_eq_true rfl⟩ (EM.nil (w_Mo G A M N)) hP hD hS rfl hl.1 rfl (Nat.le_of_ble_eq_true rfl) ⟨Nat.zero_le _, Nat.zero_le _⟩ dX6_chain_1) (EM.nil (w_Mo G A M N)) hP hD hS (fun H locs hP hD hS => ?_)
  refine lv_if_ne (pc := 4) (tgt := 9) hx hb dX6_chain_4 (by decide) (fun h4 => ?_) (fun h4 => ?_)
  · have hf := br_n h4 hf
    refine lv_aload_n (pc := 9) hx hb dX6_chain_9 rfl (lv_at hl 0 rfl) ?_
    refine wget (pc := 10) X (fun _ h9 => List.mem_cons_of_mem _ (List.mem_append_right _ h9)) hP 0 (at_Mo_0 G A M N) rfl 2 (by decide) (List.mem_cons_of_mem _ (List.mem_append_left _ (List.mem_append_left _ (List.mem_of_getElem? (i := 0) rfl)))) rfl (v := .ref (A 3)) rfl dX6_chain_10 ?_
    refine lv_iload_n (pc := 13) hx hb dX6_chain_13 rfl (lv_at hl 1 rfl) ?_
    obtain ⟨hi, hf⟩ := ck_some hf
    refine wiald (pc := 14) X hP 3 (at_Mo_3 G A M N) hi rfl dX6_chain_14 ?_
    refine lv_if_ge (pc := 15) (tgt := 24) hx hb dX6_chain_15 (by decide) (fun h3 => ?_) (fun h3 => ?_)
    · have hf := br_y h3 hf
      refine lv_aload_n (pc := 24) hx hb dX6_chain_24 rfl (lv_at hl 0 rfl) ?_
      refine lv_iload_n (pc := 25) hx hb dX6_chain_25 rfl (lv_at hl 1 rfl) ?_
      obtain ⟨r2, M2, hc2, hf⟩ := ob2_some hf
      refine endi X.2.2.2.2 (runV (pc := 26) (As := [.int x1]) (rest := []) X (c_X6_reads G l A H.size M N x1 r2 M2 hc2) gX6_chain_X6_reads k_X6_reads ⟨rfl, rfl⟩ ⟨Nat.le_of_ble_eq_true rfl, Nat.le_of_ble_eq_true rfl⟩ (EM.all (w_Mo G A M N) (w_Mo G A M2 N)) hP hD hS (ci := 6) rfl rfl (at_Mo_0 G A M N) rfl hl.1 rfl (Nat.le_of_ble_eq_true rfl) ⟨Nat.zero_le _, Nat.zero_le _⟩ dX6_chain_26) (EM.all (w_Mo G A M N) (w_Mo G A M2 N)) hP hD hS (fun H locs hP hD hS => ?_)
      refine lv_bipush (pc := 29) (v := (-9 : Int32)) hx hb dX6_chain_29 (by decide) ?_
      refine lv_icmp_eq (pc := 31) (tgt := 37) hx hb dX6_chain_31 (by decide) (fun h2 => ?_) (fun h2 => ?_)
      · have hf := br_y h2 hf
        refine lv_aload_n (pc := 37) hx hb dX6_chain_37 rfl (lv_at hl 0 rfl) ?_
        refine wget (pc := 38) X (fun _ h9 => List.mem_cons_of_mem _ (List.mem_append_right _ h9)) hP 0 (at_Mo_0 G A M2 N) rfl 12 (by decide) (List.mem_cons_of_mem _ (List.mem_append_left _ (List.mem_append_left _ (List.mem_of_getElem? (i := 1) rfl)))) rfl (v := .ref (A 9)) rfl dX6_chain_38 ?_
        refine lv_iconst (pc := 41) (v := (0 : Int32)) hx hb dX6_chain_41 (by decide) ?_
        refine lv_aload_n (pc := 42) hx hb dX6_chain_42 rfl (lv_at hl 0 rfl) ?_
        refine wget (pc := 43) X (fun _ h9 => List.mem_cons_of_mem _ (List.mem_append_right _ h9)) hP 0 (at_Mo_0 G A M2 N) rfl 4 (by decide) (List.mem_cons_of_mem _ (List.mem_append_left _ (List.mem_append_left _ (List.mem_of_getElem? (i := 2) rfl)))) rfl (v := .ref (A 5)) rfl dX6_chain_43 ?_
        refine lv_iconst (pc := 46) (v := (0 : Int32)) hx hb dX6_chain_46 (by decide) ?_
        obtain ⟨M3, hc3, hf⟩ := ob1_some hf
        refine endv X.2.2.2.2 (runS (pc := 47) (As := [.ref (A 9), .int (0 : Int32), .ref (A 5), .int (0 : Int32)]) (rest := []) X (c_X6_copies_read_now G l A H.size M2 N (0 : Int32) (0 : Int32) M3 hc3) gX6_chain_X6_copies k_X6_copies ⟨rfl, rfl⟩ ⟨Nat.le_of_ble_eq_true rfl, Nat.le_of_ble_eq_true rfl⟩ (EM.all (w_Mo G A M2 N) (w_Mo G A M3 N)) hP hD hS rfl hl.1 rfl (Nat.le_of_ble_eq_true rfl) ⟨Nat.zero_le _, Nat.zero_le _⟩ dX6_chain_47) (EM.all (w_Mo G A M2 N) (w_Mo G A M3 N)) hP hD hS (fun H locs hP hD hS => ?_)
        refine lv_iconst (pc := 50) (v := (0 : Int32)) hx hb dX6_chain_50 (by decide) ?_
        refine lv_istore_n (pc := 51) (lv' := [(2, .int (0 : Int32)), (0, .ref (A 0)), (1, .int x1)]) hx hb dX6_chain_51 rfl hl (by decide) rfl (fun ls hl => ?_)
        exact l_52 FU _ _ H locs ls hf hP hD hS (lv_sub hl [1, 0] rfl)
      · have hf := br_n h2 hf
        refine lv_bipush (pc := 34) (v := (-4 : Int32)) hx hb dX6_chain_34 (by decide) ?_
        cases hf
        exact hret _ _ _ _ dX6_chain_36 hP hD hS
    · have hf := br_n h3 hf
      refine lv_aload_n (pc := 18) hx hb dX6_chain_18 rfl (lv_at hl 0 rfl) ?_
      refine lv_iconst (pc := 19) (v := (1 : Int32)) hx hb dX6_chain_19 (by decide) ?_
      obtain ⟨r4, M4, hc4, hf⟩ := ob2_some hf
      refine endi X.2.2.2.2 (runV (pc := 20) (As := [.int (1 : Int32)]) (rest := []) X (c_X6_found G l A H.size M N (1 : Int32) r4 M4 hc4) gX6_chain_X6_found k_X6_found ⟨rfl, rfl⟩ ⟨Nat.le_of_ble_eq_true rfl, Nat.le_of_ble_eq_true rfl⟩ (EM.all (w_Mo G A M N) (w_Mo G A M4 N)) hP hD hS (ci := 6) rfl rfl (at_Mo_0 G A M N) rfl hl.1 rfl (Nat.le_of_ble_eq_true rfl) ⟨Nat.zero_le _, Nat.zero_le _⟩ dX6_chain_20) (EM.all (w_Mo G A M N) (w_Mo G A M4 N)) hP hD hS (fun H locs hP hD hS => ?_)
      cases hf
      exact hret _ _ _ _ dX6_chain_23 hP hD hS
  · have hf := br_y h4 hf
    refine lv_iconst (pc := 7) (v := (-1 : Int32)) hx hb dX6_chain_7 (by decide) ?_
    cases hf
    exact hret _ _ _ _ dX6_chain_8 hP hD hS
def r_X6_turns : Room := { frames := 0, cells := 0, slots := 0, locals := 0 }
set_option maxHeartbeats 4000000 in
set_option maxRecDepth 100000 in
theorem c_X6_turns (G : GT) (l : Launch) (A : Nat → Nat) (sz : Nat) (M : CS) (N : JS) (x1 : Int32) (M' : CS) (hf : f_X6_turns M N x1 = some M') : MTv l yX6_turns wsX6_turns r_X6_turns [.ref (A 0), .int x1] G (w_Mo G A M N) (w_Mo G A M' N) sz := by
  refine MTv.of (cc := cX6_turns) (maxL := 2) (by decide +kernel) rfl (Nat.le_of_ble_eq_true rfl) (fun p e s m av below meth cd Q B H locs ls X hret hl hP hD hS => ?_)
  have hx := X.1.1
  have hb := X.1.2.1
  have hl : lv_has ls 2 [(0, .ref (A 0)), (1, .int x1)] := hl
  unfold f_X6_turns at hf
  refine lv_aload_n (pc := 0) hx hb dX6_turns_0 rfl (lv_at hl 0 rfl) ?_
  refine wget (pc := 1) X (fun _ h9 => List.mem_cons_of_mem _ (List.mem_append_right _ h9)) hP 0 (at_Mo_0 G A M N) rfl 4 (by decide) (List.mem_cons_of_mem _ (List.mem_append_left _ (List.mem_of_getElem? (i := 0) rfl))) rfl (v := .ref (A 5)) rfl dX6_turns_1 ?_
  refine lv_bipush (pc := 4) (v := (79 : Int32)) hx hb dX6_turns_4 (by decide) ?_
  refine lv_aload_n (pc := 6) hx hb dX6_turns_6 rfl (lv_at hl 0 rfl) ?_
  refine wget (pc := 7) X (fun _ h9 => List.mem_cons_of_mem _ (List.mem_append_right _ h9)) hP 0 (at_Mo_0 G A M N) rfl 4 (by decide) (List.mem_cons_of_mem _ (List.mem_append_left _ (List.mem_of_getElem? (i := 0) rfl))) rfl (v := .ref (A 5)) rfl dX6_turns_7 ?_
  refine lv_iconst (pc := 10) (v := (3 : Int32)) hx hb dX6_turns_10 (by decide) ?_
  refine wiald (pc := 11) X hP 5 (at_Mo_5 G A M N) (by decide) (j := 3) (by decide) dX6_turns_11 ?_
  refine lv_iadd (pc := 12) hx hb dX6_turns_12 ?_
  refine lv_iload_n (pc := 13) hx hb dX6_turns_13 rfl (lv_at hl 1 rfl) ?_
  obtain ⟨hi, hf⟩ := ck_some hf
  refine wiast (pc := 14) X hP hD hS 5 (at_Mo_5 G A M N) hi rfl (sa_Mo_5 G A M N _) dX6_turns_14 (fun H locs hP hD hS => ?_)
  have hP : va_P G.1 vwCl (w_Mo G A (cset M 4 ((79 : Int32) + ((M 4) 3)).toNatClampNeg x1) N) H := hP
  have hD : va_D B (w_Mo G A (cset M 4 ((79 : Int32) + ((M 4) 3)).toNatClampNeg x1) N) := hD
  refine lv_aload_n (pc := 15) hx hb dX6_turns_15 rfl (lv_at hl 0 rfl) ?_
  refine wget (pc := 16) X (fun _ h9 => List.mem_cons_of_mem _ (List.mem_append_right _ h9)) hP 0 (at_Mo_0 G A (cset M 4 ((79 : Int32) + ((M 4) 3)).toNatClampNeg x1) N) rfl 4 (by decide) (List.mem_cons_of_mem _ (List.mem_append_left _ (List.mem_of_getElem? (i := 0) rfl))) rfl (v := .ref (A 5)) rfl dX6_turns_16 ?_
  refine lv_iconst (pc := 19) (v := (3 : Int32)) hx hb dX6_turns_19 (by decide) ?_
  refine lv_dup2_11 (pc := 20) hx hb dX6_turns_20 rfl rfl ?_
  refine wiald (pc := 21) X hP 5 (at_Mo_5 G A (cset M 4 ((79 : Int32) + ((M 4) 3)).toNatClampNeg x1) N) (by decide) (j := 3) (by decide) dX6_turns_21 ?_
  refine lv_iconst (pc := 22) (v := (1 : Int32)) hx hb dX6_turns_22 (by decide) ?_
  refine lv_iadd (pc := 23) hx hb dX6_turns_23 ?_
  refine wiast (pc := 24) X hP hD hS 5 (at_Mo_5 G A (cset M 4 ((79 : Int32) + ((M 4) 3)).toNatClampNeg x1) N) (by decide) (j := 3) (by decide) (sa_Mo_5 G A (cset M 4 ((79 : Int32) + ((M 4) 3)).toNatClampNeg x1) N _) dX6_turns_24 (fun H locs hP hD hS => ?_)
  have hP : va_P G.1 vwCl (w_Mo G A (cset (cset M 4 ((79 : Int32) + ((M 4) 3)).toNatClampNeg x1) 4 3 ((((cset M 4 ((79 : Int32) + ((M 4) 3)).toNatClampNeg x1) 4) 3) + (1 : Int32))) N) H := hP
  have hD : va_D B (w_Mo G A (cset (cset M 4 ((79 : Int32) + ((M 4) 3)).toNatClampNeg x1) 4 3 ((((cset M 4 ((79 : Int32) + ((M 4) 3)).toNatClampNeg x1) 4) 3) + (1 : Int32))) N) := hD
  cases hf
  exact hret _ _ _ _ dX6_turns_25 hP hD hS
def r_X6_comes : Room := { frames := 1, cells := 0, slots := 0, locals := 21 }
set_option maxHeartbeats 4000000 in
set_option maxRecDepth 100000 in
theorem c_X6_comes (G : GT) (l : Launch) (A : Nat → Nat) (sz : Nat) (M : CS) (N : JS) (x1 : Int32) (x2 : Int32) (x3 : Int32) (x4 : Int32) (r : Int32) (M' : CS) (hf : f_X6_comes M N x1 x2 x3 x4 = some (r, M')) : MTi l yX6_comes wsX6_comes r_X6_comes [.ref (A 0), .int x1, .int x2, .int x3, .int x4] G (w_Mo G A M N) (w_Mo G A M' N) sz r := by
  refine MTi.of (cc := cX6_comes) (maxL := 6) (by decide +kernel) rfl (Nat.le_of_ble_eq_true rfl) (fun p e s m av below meth cd Q B H locs ls X hret hl hP hD hS => ?_)
  have hx := X.1.1
  have hb := X.1.2.1
  have hl : lv_has ls 6 [(0, .ref (A 0)), (1, .int x1), (2, .int x2), (3, .int x3), (4, .int x4)] := hl
  unfold f_X6_comes at hf
  refine lv_aload_n (pc := 0) hx hb dX6_comes_0 rfl (lv_at hl 0 rfl) ?_
  refine wget (pc := 1) X (fun _ h9 => List.mem_cons_of_mem _ (List.mem_append_right _ h9)) hP 0 (at_Mo_0 G A M N) rfl 4 (by decide) (List.mem_cons_of_mem _ (List.mem_append_left _ (List.mem_of_getElem? (i := 0) rfl))) rfl (v := .ref (A 5)) rfl dX6_comes_1 ?_
  refine lv_iconst (pc := 4) (v := (1 : Int32)) hx hb dX6_comes_4 (by decide) ?_
  refine wiald (pc := 5) X hP 5 (at_Mo_5 G A M N) (by decide) (j := 1) (by decide) dX6_comes_5 ?_
  refine lv_istore (pc := 6) (lv' := [(5, .int ((M 4) 1)), (0, .ref (A 0)), (1, .int x1), (2, .int x2), (3, .int x3), (4, .int x4)]) hx hb dX6_comes_6 hl (by decide) rfl (fun ls hl => ?_)
  refine lv_aload_n (pc := 8) hx hb dX6_comes_8 rfl (lv_at hl 1 rfl) ?_
  refine wget (pc := 9) X (fun _ h9 => List.mem_cons_of_mem _ (List.mem_append_right _ h9)) hP 0 (at_Mo_0 G A M N) rfl 4 (by decide) (List.mem_cons_of_mem _ (List.mem_append_left _ (List.mem_of_getElem? (i := 0) rfl))) rfl (v := .ref (A 5)) rfl dX6_comes_9 ?_
  refine lv_bipush (pc := 12) (v := (19 : Int32)) hx hb dX6_comes_12 (by decide) ?_
  refine lv_iload (pc := 14) hx hb dX6_comes_14 (lv_at hl 0 rfl) ?_
  refine lv_iadd (pc := 16) hx hb dX6_comes_16 ?_
  refine lv_iload_n (pc := 17) hx hb dX6_comes_17 rfl (lv_at hl 2 rfl) ?_
  obtain ⟨hi, hf⟩ := ck_some hf
  refine wiast (pc := 18) X hP hD hS 5 (at_Mo_5 G A M N) hi rfl (sa_Mo_5 G A M N _) dX6_comes_18 (fun H locs hP hD hS => ?_)
  have hP : va_P G.1 vwCl (w_Mo G A (cset M 4 ((19 : Int32) + ((M 4) 1)).toNatClampNeg x1) N) H := hP
  have hD : va_D B (w_Mo G A (cset M 4 ((19 : Int32) + ((M 4) 1)).toNatClampNeg x1) N) := hD
  refine lv_aload_n (pc := 19) hx hb dX6_comes_19 rfl (lv_at hl 1 rfl) ?_
  refine wget (pc := 20) X (fun _ h9 => List.mem_cons_of_mem _ (List.mem_append_right _ h9)) hP 0 (at_Mo_0 G A (cset M 4 ((19 : Int32) + ((M 4) 1)).toNatClampNeg x1) N) rfl 4 (by decide) (List.mem_cons_of_mem _ (List.mem_append_left _ (List.mem_of_getElem? (i := 0) rfl))) rfl (v := .ref (A 5)) rfl dX6_comes_20 ?_
  refine lv_bipush (pc := 23) (v := (31 : Int32)) hx hb dX6_comes_23 (by decide) ?_
  refine lv_iload (pc := 25) hx hb dX6_comes_25 (lv_at hl 0 rfl) ?_
  refine lv_iadd (pc := 27) hx hb dX6_comes_27 ?_
  refine lv_iload_n (pc := 28) hx hb dX6_comes_28 rfl (lv_at hl 3 rfl) ?_
  obtain ⟨hi, hf⟩ := ck_some hf
  refine wiast (pc := 29) X hP hD hS 5 (at_Mo_5 G A (cset M 4 ((19 : Int32) + ((M 4) 1)).toNatClampNeg x1) N) hi rfl (sa_Mo_5 G A (cset M 4 ((19 : Int32) + ((M 4) 1)).toNatClampNeg x1) N _) dX6_comes_29 (fun H locs hP hD hS => ?_)
  have hP : va_P G.1 vwCl (w_Mo G A (cset (cset M 4 ((19 : Int32) + ((M 4) 1)).toNatClampNeg x1) 4 ((31 : Int32) + ((M 4) 1)).toNatClampNeg x2) N) H := hP
  have hD : va_D B (w_Mo G A (cset (cset M 4 ((19 : Int32) + ((M 4) 1)).toNatClampNeg x1) 4 ((31 : Int32) + ((M 4) 1)).toNatClampNeg x2) N) := hD
  refine lv_aload_n (pc := 30) hx hb dX6_comes_30 rfl (lv_at hl 1 rfl) ?_
  refine wget (pc := 31) X (fun _ h9 => List.mem_cons_of_mem _ (List.mem_append_right _ h9)) hP 0 (at_Mo_0 G A (cset (cset M 4 ((19 : Int32) + ((M 4) 1)).toNatClampNeg x1) 4 ((31 : Int32) + ((M 4) 1)).toNatClampNeg x2) N) rfl 4 (by decide) (List.mem_cons_of_mem _ (List.mem_append_left _ (List.mem_of_getElem? (i := 0) rfl))) rfl (v := .ref (A 5)) rfl dX6_comes_31 ?_
  refine lv_bipush (pc := 34) (v := (43 : Int32)) hx hb dX6_comes_34 (by decide) ?_
  refine lv_iload (pc := 36) hx hb dX6_comes_36 (lv_at hl 0 rfl) ?_
  refine lv_iadd (pc := 38) hx hb dX6_comes_38 ?_
  refine lv_iload_n (pc := 39) hx hb dX6_comes_39 rfl (lv_at hl 4 rfl) ?_
  obtain ⟨hi, hf⟩ := ck_some hf
  refine wiast (pc := 40) X hP hD hS 5 (at_Mo_5 G A (cset (cset M 4 ((19 : Int32) + ((M 4) 1)).toNatClampNeg x1) 4 ((31 : Int32) + ((M 4) 1)).toNatClampNeg x2) N) hi rfl (sa_Mo_5 G A (cset (cset M 4 ((19 : Int32) + ((M 4) 1)).toNatClampNeg x1) 4 ((31 : Int32) + ((M 4) 1)).toNatClampNeg x2) N _) dX6_comes_40 (fun H locs hP hD hS => ?_)
  have hP : va_P G.1 vwCl (w_Mo G A (cset (cset (cset M 4 ((19 : Int32) + ((M 4) 1)).toNatClampNeg x1) 4 ((31 : Int32) + ((M 4) 1)).toNatClampNeg x2) 4 ((43 : Int32) + ((M 4) 1)).toNatClampNeg x3) N) H := hP
  have hD : va_D B (w_Mo G A (cset (cset (cset M 4 ((19 : Int32) + ((M 4) 1)).toNatClampNeg x1) 4 ((31 : Int32) + ((M 4) 1)).toNatClampNeg x2) 4 ((43 : Int32) + ((M 4) 1)).toNatClampNeg x3) N) := hD
  refine lv_aload_n (pc := 41) hx hb dX6_comes_41 rfl (lv_at hl 1 rfl) ?_
  refine wget (pc := 42) X (fun _ h9 => List.mem_cons_of_mem _ (List.mem_append_right _ h9)) hP 0 (at_Mo_0 G A (cset (cset (cset M 4 ((19 : Int32) + ((M 4) 1)).toNatClampNeg x1) 4 ((31 : Int32) + ((M 4) 1)).toNatClampNeg x2) 4 ((43 : Int32) + ((M 4) 1)).toNatClampNeg x3) N) rfl 4 (by decide) (List.mem_cons_of_mem _ (List.mem_append_left _ (List.mem_of_getElem? (i := 0) rfl))) rfl (v := .ref (A 5)) rfl dX6_comes_42 ?_
  refine lv_bipush (pc := 45) (v := (55 : Int32)) hx hb dX6_comes_45 (by decide) ?_
  refine lv_iload (pc := 47) hx hb dX6_comes_47 (lv_at hl 0 rfl) ?_
  refine lv_iadd (pc := 49) hx hb dX6_comes_49 ?_
  refine lv_iload (pc := 50) hx hb dX6_comes_50 (lv_at hl 5 rfl) ?_
  obtain ⟨hi, hf⟩ := ck_some hf
  refine wiast (pc := 52) X hP hD hS 5 (at_Mo_5 G A (cset (cset (cset M 4 ((19 : Int32) + ((M 4) 1)).toNatClampNeg x1) 4 ((31 : Int32) + ((M 4) 1)).toNatClampNeg x2) 4 ((43 : Int32) + ((M 4) 1)).toNatClampNeg x3) N) hi rfl (sa_Mo_5 G A (cset (cset (cset M 4 ((19 : Int32) + ((M 4) 1)).toNatClampNeg x1) 4 ((31 : Int32) + ((M 4) 1)).toNatClampNeg x2) 4 ((43 : Int32) + ((M 4) 1)).toNatClampNeg x3) N _) dX6_comes_52 (fun H locs hP hD hS => ?_)
  have hP : va_P G.1 vwCl (w_Mo G A (cset (cset (cset (cset M 4 ((19 : Int32) + ((M 4) 1)).toNatClampNeg x1) 4 ((31 : Int32) + ((M 4) 1)).toNatClampNeg x2) 4 ((43 : Int32) + ((M 4) 1)).toNatClampNeg x3) 4 ((55 : Int32) + ((M 4) 1)).toNatClampNeg x4) N) H := hP
  have hD : va_D B (w_Mo G A (cset (cset (cset (cset M 4 ((19 : Int32) + ((M 4) 1)).toNatClampNeg x1) 4 ((31 : Int32) + ((M 4) 1)).toNatClampNeg x2) 4 ((43 : Int32) + ((M 4) 1)).toNatClampNeg x3) 4 ((55 : Int32) + ((M 4) 1)).toNatClampNeg x4) N) := hD
  refine lv_aload_n (pc := 53) hx hb dX6_comes_53 rfl (lv_at hl 1 rfl) ?_
  refine wget (pc := 54) X (fun _ h9 => List.mem_cons_of_mem _ (List.mem_append_right _ h9)) hP 0 (at_Mo_0 G A (cset (cset (cset (cset M 4 ((19 : Int32) + ((M 4) 1)).toNatClampNeg x1) 4 ((31 : Int32) + ((M 4) 1)).toNatClampNeg x2) 4 ((43 : Int32) + ((M 4) 1)).toNatClampNeg x3) 4 ((55 : Int32) + ((M 4) 1)).toNatClampNeg x4) N) rfl 4 (by decide) (List.mem_cons_of_mem _ (List.mem_append_left _ (List.mem_of_getElem? (i := 0) rfl))) rfl (v := .ref (A 5)) rfl dX6_comes_54 ?_
  refine lv_bipush (pc := 57) (v := (67 : Int32)) hx hb dX6_comes_57 (by decide) ?_
  refine lv_iload (pc := 59) hx hb dX6_comes_59 (lv_at hl 0 rfl) ?_
  refine lv_iadd (pc := 61) hx hb dX6_comes_61 ?_
  refine lv_iconst (pc := 62) (v := (0 : Int32)) hx hb dX6_comes_62 (by decide) ?_
  obtain ⟨hi, hf⟩ := ck_some hf
  refine wiast (pc := 63) X hP hD hS 5 (at_Mo_5 G A (cset (cset (cset (cset M 4 ((19 : Int32) + ((M 4) 1)).toNatClampNeg x1) 4 ((31 : Int32) + ((M 4) 1)).toNatClampNeg x2) 4 ((43 : Int32) + ((M 4) 1)).toNatClampNeg x3) 4 ((55 : Int32) + ((M 4) 1)).toNatClampNeg x4) N) hi rfl (sa_Mo_5 G A (cset (cset (cset (cset M 4 ((19 : Int32) + ((M 4) 1)).toNatClampNeg x1) 4 ((31 : Int32) + ((M 4) 1)).toNatClampNeg x2) 4 ((43 : Int32) + ((M 4) 1)).toNatClampNeg x3) 4 ((55 : Int32) + ((M 4) 1)).toNatClampNeg x4) N _) dX6_comes_63 (fun H locs hP hD hS => ?_)
  have hP : va_P G.1 vwCl (w_Mo G A (cset (cset (cset (cset (cset M 4 ((19 : Int32) + ((M 4) 1)).toNatClampNeg x1) 4 ((31 : Int32) + ((M 4) 1)).toNatClampNeg x2) 4 ((43 : Int32) + ((M 4) 1)).toNatClampNeg x3) 4 ((55 : Int32) + ((M 4) 1)).toNatClampNeg x4) 4 ((67 : Int32) + ((M 4) 1)).toNatClampNeg (0 : Int32)) N) H := hP
  have hD : va_D B (w_Mo G A (cset (cset (cset (cset (cset M 4 ((19 : Int32) + ((M 4) 1)).toNatClampNeg x1) 4 ((31 : Int32) + ((M 4) 1)).toNatClampNeg x2) 4 ((43 : Int32) + ((M 4) 1)).toNatClampNeg x3) 4 ((55 : Int32) + ((M 4) 1)).toNatClampNeg x4) 4 ((67 : Int32) + ((M 4) 1)).toNatClampNeg (0 : Int32)) N) := hD
  refine lv_aload_n (pc := 64) hx hb dX6_comes_64 rfl (lv_at hl 1 rfl) ?_
  refine wget (pc := 65) X (fun _ h9 => List.mem_cons_of_mem _ (List.mem_append_right _ h9)) hP 0 (at_Mo_0 G A (cset (cset (cset (cset (cset M 4 ((19 : Int32) + ((M 4) 1)).toNatClampNeg x1) 4 ((31 : Int32) + ((M 4) 1)).toNatClampNeg x2) 4 ((43 : Int32) + ((M 4) 1)).toNatClampNeg x3) 4 ((55 : Int32) + ((M 4) 1)).toNatClampNeg x4) 4 ((67 : Int32) + ((M 4) 1)).toNatClampNeg (0 : Int32)) N) rfl 4 (by decide) (List.mem_cons_of_mem _ (List.mem_append_left _ (List.mem_of_getElem? (i := 0) rfl))) rfl (v := .ref (A 5)) rfl dX6_comes_65 ?_
  refine lv_iconst (pc := 68) (v := (1 : Int32)) hx hb dX6_comes_68 (by decide) ?_
  refine lv_dup2_11 (pc := 69) hx hb dX6_comes_69 rfl rfl ?_
  refine wiald (pc := 70) X hP 5 (at_Mo_5 G A (cset (cset (cset (cset (cset M 4 ((19 : Int32) + ((M 4) 1)).toNatClampNeg x1) 4 ((31 : Int32) + ((M 4) 1)).toNatClampNeg x2) 4 ((43 : Int32) + ((M 4) 1)).toNatClampNeg x3) 4 ((55 : Int32) + ((M 4) 1)).toNatClampNeg x4) 4 ((67 : Int32) + ((M 4) 1)).toNatClampNeg (0 : Int32)) N) (by decide) (j := 1) (by decide) dX6_comes_70 ?_
  refine lv_iconst (pc := 71) (v := (1 : Int32)) hx hb dX6_comes_71 (by decide) ?_
  refine lv_iadd (pc := 72) hx hb dX6_comes_72 ?_
  refine wiast (pc := 73) X hP hD hS 5 (at_Mo_5 G A (cset (cset (cset (cset (cset M 4 ((19 : Int32) + ((M 4) 1)).toNatClampNeg x1) 4 ((31 : Int32) + ((M 4) 1)).toNatClampNeg x2) 4 ((43 : Int32) + ((M 4) 1)).toNatClampNeg x3) 4 ((55 : Int32) + ((M 4) 1)).toNatClampNeg x4) 4 ((67 : Int32) + ((M 4) 1)).toNatClampNeg (0 : Int32)) N) (by decide) (j := 1) (by decide) (sa_Mo_5 G A (cset (cset (cset (cset (cset M 4 ((19 : Int32) + ((M 4) 1)).toNatClampNeg x1) 4 ((31 : Int32) + ((M 4) 1)).toNatClampNeg x2) 4 ((43 : Int32) + ((M 4) 1)).toNatClampNeg x3) 4 ((55 : Int32) + ((M 4) 1)).toNatClampNeg x4) 4 ((67 : Int32) + ((M 4) 1)).toNatClampNeg (0 : Int32)) N _) dX6_comes_73 (fun H locs hP hD hS => ?_)
  have hP : va_P G.1 vwCl (w_Mo G A (cset (cset (cset (cset (cset (cset M 4 ((19 : Int32) + ((M 4) 1)).toNatClampNeg x1) 4 ((31 : Int32) + ((M 4) 1)).toNatClampNeg x2) 4 ((43 : Int32) + ((M 4) 1)).toNatClampNeg x3) 4 ((55 : Int32) + ((M 4) 1)).toNatClampNeg x4) 4 ((67 : Int32) + ((M 4) 1)).toNatClampNeg (0 : Int32)) 4 1 ((((cset (cset (cset (cset (cset M 4 ((19 : Int32) + ((M 4) 1)).toNatClampNeg x1) 4 ((31 : Int32) + ((M 4) 1)).toNatClampNeg x2) 4 ((43 : Int32) + ((M 4) 1)).toNatClampNeg x3) 4 ((55 : Int32) + ((M 4) 1)).toNatClampNeg x4) 4 ((67 : Int32) + ((M 4) 1)).toNatClampNeg (0 : Int32)) 4) 1) + (1 : Int32))) N) H := hP
  have hD : va_D B (w_Mo G A (cset (cset (cset (cset (cset (cset M 4 ((19 : Int32) + ((M 4) 1)).toNatClampNeg x1) 4 ((31 : Int32) + ((M 4) 1)).toNatClampNeg x2) 4 ((43 : Int32) + ((M 4) 1)).toNatClampNeg x3) 4 ((55 : Int32) + ((M 4) 1)).toNatClampNeg x4) 4 ((67 : Int32) + ((M 4) 1)).toNatClampNeg (0 : Int32)) 4 1 ((((cset (cset (cset (cset (cset M 4 ((19 : Int32) + ((M 4) 1)).toNatClampNeg x1) 4 ((31 : Int32) + ((M 4) 1)).toNatClampNeg x2) 4 ((43 : Int32) + ((M 4) 1)).toNatClampNeg x3) 4 ((55 : Int32) + ((M 4) 1)).toNatClampNeg x4) 4 ((67 : Int32) + ((M 4) 1)).toNatClampNeg (0 : Int32)) 4) 1) + (1 : Int32))) N) := hD
  refine lv_aload_n (pc := 74) hx hb dX6_comes_74 rfl (lv_at hl 1 rfl) ?_
  refine lv_iconst (pc := 75) (v := (0 : Int32)) hx hb dX6_comes_75 (by decide) ?_
  obtain ⟨M1, hc1, hf⟩ := ob1_some hf
  refine endv X.2.2.2.2 (runV (pc := 76) (As := [.int (0 : Int32)]) (rest := []) X (c_X6_turns G l A H.size (cset (cset (cset (cset (cset (cset M 4 ((19 : Int32) + ((M 4) 1)).toNatClampNeg x1) 4 ((31 : Int32) + ((M 4) 1)).toNatClampNeg x2) 4 ((43 : Int32) + ((M 4) 1)).toNatClampNeg x3) 4 ((55 : Int32) + ((M 4) 1)).toNatClampNeg x4) 4 ((67 : Int32) + ((M 4) 1)).toNatClampNeg (0 : Int32)) 4 1 ((((cset (cset (cset (cset (cset M 4 ((19 : Int32) + ((M 4) 1)).toNatClampNeg x1) 4 ((31 : Int32) + ((M 4) 1)).toNatClampNeg x2) 4 ((43 : Int32) + ((M 4) 1)).toNatClampNeg x3) 4 ((55 : Int32) + ((M 4) 1)).toNatClampNeg x4) 4 ((67 : Int32) + ((M 4) 1)).toNatClampNeg (0 : Int32)) 4) 1) + (1 : Int32))) N (0 : Int32) M1 hc1) gX6_comes_X6_turns k_X6_turns ⟨rfl, rfl⟩ ⟨Nat.le_of_ble_eq_true rfl, Nat.le_of_ble_eq_true rfl⟩ (EM.all (w_Mo G A (cset (cset (cset (cset (cset (cset M 4 ((19 : Int32) + ((M 4) 1)).toNatClampNeg x1) 4 ((31 : Int32) + ((M 4) 1)).toNatClampNeg x2) 4 ((43 : Int32) + ((M 4) 1)).toNatClampNeg x3) 4 ((55 : Int32) + ((M 4) 1)).toNatClampNeg x4) 4 ((67 : Int32) + ((M 4) 1)).toNatClampNeg (0 : Int32)) 4 1 ((((cset (cset (cset (cset (cset M 4 ((19 : Int32) + ((M 4) 1)).toNatClampNeg x1) 4 ((31 : Int32) + ((M 4) 1)).toNatClampNeg x2) 4 ((43 : Int32) + ((M 4) 1)).toNatClampNeg x3) 4 ((55 : Int32) + ((M 4) 1)).toNatClampNeg x4) 4 ((67 : Int32) + ((M 4) 1)).toNatClampNeg (0 : Int32)) 4) 1) + (1 : Int32))) N) (w_Mo G A M1 N)) hP hD hS (ci := 6) rfl rfl (at_Mo_0 G A (cset (cset (cset (cset (cset (cset M 4 ((19 : Int32) + ((M 4) 1)).toNatClampNeg x1) 4 ((31 : Int32) + ((M 4) 1)).toNatClampNeg x2) 4 ((43 : Int32) + ((M 4) 1)).toNatClampNeg x3) 4 ((55 : Int32) + ((M 4) 1)).toNatClampNeg x4) 4 ((67 : Int32) + ((M 4) 1)).toNatClampNeg (0 : Int32)) 4 1 ((((cset (cset (cset (cset (cset M 4 ((19 : Int32) + ((M 4) 1)).toNatClampNeg x1) 4 ((31 : Int32) + ((M 4) 1)).toNatClampNeg x2) 4 ((43 : Int32) + ((M 4) 1)).toNatClampNeg x3) 4 ((55 : Int32) + ((M 4) 1)).toNatClampNeg x4) 4 ((67 : Int32) + ((M 4) 1)).toNatClampNeg (0 : Int32)) 4) 1) + (1 : Int32))) N) rfl hl.1 rfl (Nat.le_of_ble_eq_true rfl) ⟨Nat.zero_le _, Nat.zero_le _⟩ dX6_comes_76) (EM.all (w_Mo G A (cset (cset (cset (cset (cset (cset M 4 ((19 : Int32) + ((M 4) 1)).toNatClampNeg x1) 4 ((31 : Int32) + ((M 4) 1)).toNatClampNeg x2) 4 ((43 : Int32) + ((M 4) 1)).toNatClampNeg x3) 4 ((55 : Int32) + ((M 4) 1)).toNatClampNeg x4) 4 ((67 : Int32) + ((M 4) 1)).toNatClampNeg (0 : Int32)) 4 1 ((((cset (cset (cset (cset (cset M 4 ((19 : Int32) + ((M 4) 1)).toNatClampNeg x1) 4 ((31 : Int32) + ((M 4) 1)).toNatClampNeg x2) 4 ((43 : Int32) + ((M 4) 1)).toNatClampNeg x3) 4 ((55 : Int32) + ((M 4) 1)).toNatClampNeg x4) 4 ((67 : Int32) + ((M 4) 1)).toNatClampNeg (0 : Int32)) 4) 1) + (1 : Int32))) N) (w_Mo G A M1 N)) hP hD hS (fun H locs hP hD hS => ?_)
  refine lv_iload (pc := 79) hx hb dX6_comes_79 (lv_at hl 0 rfl) ?_
  cases hf
  exact hret _ _ _ _ dX6_comes_81 hP hD hS
