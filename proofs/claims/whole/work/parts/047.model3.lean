def r_X6_isDay : Room := { frames := 1, cells := 0, slots := 0, locals := 25 }
set_option maxHeartbeats 4000000 in
set_option maxRecDepth 100000 in
theorem c_X6_isDay (G : GT) (l : Launch) (sz : Nat) (x0 : Int32) (r : Int32) (hf : f_X6_isDay x0 = some r) : MTi l yX6_isDay wsX6_isDay r_X6_isDay [.int x0] G [] [] sz r := by
  refine MTz.of (cc := cX6_isDay) (maxL := 1) (by decide +kernel) rfl (Nat.le_of_ble_eq_true rfl) (fun p e s m av below meth cd Q B H locs ls X hret hl hP hD hS => ?_)
  have hx := X.1.1
  have hb := X.1.2.1
  have hl : lv_has ls 1 [(0, .int x0)] := hl
  unfold f_X6_isDay at hf
  refine lv_iload_n (pc := 0) hx hb dX6_isDay_0 rfl (lv_at hl 0 rfl) ?_
  refine lv_i2l (pc := 1) (v := (x0).toInt64) hx hb dX6_isDay_1 rfl ?_
  refine lv_lconst (pc := 2) (v := (0 : Int64)) hx hb dX6_isDay_2 (by decide) ?_
  refine lv_ldc2 (pc := 3) (v := 19) hx hb X.1.2.2.2.1 (X.1.2.2.2.2 _ (List.mem_cons_of_mem _ (List.mem_of_getElem? (i := 0) rfl))) dX6_isDay_3 ?_
  obtain ⟨r1, hc1, hf⟩ := ob1_some hf
  refine endi X.2.2.2.2 (runS (pc := 6) (As := [.long ((x0).toInt64), .long (0 : Int64), .long (19 : Int64)]) (rest := []) X (c_X6_in G l  H.size ((x0).toInt64) (0 : Int64) (19 : Int64) r1 hc1) gX6_isDay_X6_in k_X6_in ⟨rfl, rfl⟩ ⟨Nat.le_of_ble_eq_true rfl, Nat.le_of_ble_eq_true rfl⟩ (EM.nil []) hP hD hS rfl hl.1 rfl (Nat.le_of_ble_eq_true rfl) ⟨Nat.zero_le _, Nat.zero_le _⟩ dX6_isDay_6) (EM.nil []) hP hD hS (fun H locs hP hD hS => ?_)
  obtain ⟨hz, hf⟩ := ck_some hf
  cases hf
  exact hret _ _ _ _ (isb_or hz) dX6_isDay_9 hP hD hS
def r_X6_isPerson : Room := { frames := 1, cells := 0, slots := 0, locals := 25 }
set_option maxHeartbeats 4000000 in
set_option maxRecDepth 100000 in
theorem c_X6_isPerson (G : GT) (l : Launch) (A : Nat → Nat) (sz : Nat) (M : CS) (N : JS) (x1 : Int32) (r : Int32) (hf : f_X6_isPerson M N x1 = some r) : MTi l yX6_isPerson wsX6_isPerson r_X6_isPerson [.ref (A 0), .int x1] G (w_Mo G A M N) (w_Mo G A M N) sz r := by
  refine MTz.of (cc := cX6_isPerson) (maxL := 2) (by decide +kernel) rfl (Nat.le_of_ble_eq_true rfl) (fun p e s m av below meth cd Q B H locs ls X hret hl hP hD hS => ?_)
  have hx := X.1.1
  have hb := X.1.2.1
  have hl : lv_has ls 2 [(0, .ref (A 0)), (1, .int x1)] := hl
  unfold f_X6_isPerson at hf
  refine lv_iload_n (pc := 0) hx hb dX6_isPerson_0 rfl (lv_at hl 1 rfl) ?_
  refine lv_i2l (pc := 1) (v := (x1).toInt64) hx hb dX6_isPerson_1 rfl ?_
  refine lv_lconst (pc := 2) (v := (0 : Int64)) hx hb dX6_isPerson_2 (by decide) ?_
  refine lv_aload_n (pc := 3) hx hb dX6_isPerson_3 rfl (lv_at hl 0 rfl) ?_
  refine wget (pc := 4) X (fun _ h9 => List.mem_cons_of_mem _ (List.mem_append_right _ h9)) hP 0 (at_Mo_0 G A M N) rfl 4 (by decide) (List.mem_cons_of_mem _ (List.mem_append_left _ (List.mem_of_getElem? (i := 0) rfl))) rfl (v := .ref (A 5)) rfl dX6_isPerson_4 ?_
  refine lv_iconst (pc := 7) (v := (0 : Int32)) hx hb dX6_isPerson_7 (by decide) ?_
  refine wiald (pc := 8) X hP 5 (at_Mo_5 G A M N) (by decide) (j := 0) (by decide) dX6_isPerson_8 ?_
  refine lv_iconst (pc := 9) (v := (1 : Int32)) hx hb dX6_isPerson_9 (by decide) ?_
  refine lv_isub (pc := 10) hx hb dX6_isPerson_10 ?_
  refine lv_i2l (pc := 11) (v := ((((M 4) 0) - (1 : Int32))).toInt64) hx hb dX6_isPerson_11 rfl ?_
  obtain ⟨r1, hc1, hf⟩ := ob1_some hf
  refine endi X.2.2.2.2 (runS (pc := 12) (As := [.long ((x1).toInt64), .long (0 : Int64), .long (((((M 4) 0) - (1 : Int32))).toInt64)]) (rest := []) X (c_X6_in G l  H.size ((x1).toInt64) (0 : Int64) (((((M 4) 0) - (1 : Int32))).toInt64) r1 hc1) gX6_isPerson_X6_in k_X6_in ⟨rfl, rfl⟩ ⟨Nat.le_of_ble_eq_true rfl, Nat.le_of_ble_eq_true rfl⟩ (EM.nil (w_Mo G A M N)) hP hD hS rfl hl.1 rfl (Nat.le_of_ble_eq_true rfl) ⟨Nat.zero_le _, Nat.zero_le _⟩ dX6_isPerson_12) (EM.nil (w_Mo G A M N)) hP hD hS (fun H locs hP hD hS => ?_)
  obtain ⟨hz, hf⟩ := ck_some hf
  cases hf
  exact hret _ _ _ _ (isb_or hz) dX6_isPerson_15 hP hD hS
def r_X6_isTown : Room := { frames := 1, cells := 0, slots := 0, locals := 25 }
set_option maxHeartbeats 4000000 in
set_option maxRecDepth 100000 in
theorem c_X6_isTown (G : GT) (l : Launch) (sz : Nat) (x0 : Int32) (r : Int32) (hf : f_X6_isTown x0 = some r) : MTi l yX6_isTown wsX6_isTown r_X6_isTown [.int x0] G [] [] sz r := by
  refine MTz.of (cc := cX6_isTown) (maxL := 1) (by decide +kernel) rfl (Nat.le_of_ble_eq_true rfl) (fun p e s m av below meth cd Q B H locs ls X hret hl hP hD hS => ?_)
  have hx := X.1.1
  have hb := X.1.2.1
  have hl : lv_has ls 1 [(0, .int x0)] := hl
  unfold f_X6_isTown at hf
  refine lv_iload_n (pc := 0) hx hb dX6_isTown_0 rfl (lv_at hl 0 rfl) ?_
  refine lv_i2l (pc := 1) (v := (x0).toInt64) hx hb dX6_isTown_1 rfl ?_
  refine lv_lconst (pc := 2) (v := (0 : Int64)) hx hb dX6_isTown_2 (by decide) ?_
  refine lv_ldc2 (pc := 3) (v := 4) hx hb X.1.2.2.2.1 (X.1.2.2.2.2 _ (List.mem_cons_of_mem _ (List.mem_of_getElem? (i := 0) rfl))) dX6_isTown_3 ?_
  obtain ⟨r1, hc1, hf⟩ := ob1_some hf
  refine endi X.2.2.2.2 (runS (pc := 6) (As := [.long ((x0).toInt64), .long (0 : Int64), .long (4 : Int64)]) (rest := []) X (c_X6_in G l  H.size ((x0).toInt64) (0 : Int64) (4 : Int64) r1 hc1) gX6_isTown_X6_in k_X6_in ⟨rfl, rfl⟩ ⟨Nat.le_of_ble_eq_true rfl, Nat.le_of_ble_eq_true rfl⟩ (EM.nil []) hP hD hS rfl hl.1 rfl (Nat.le_of_ble_eq_true rfl) ⟨Nat.zero_le _, Nat.zero_le _⟩ dX6_isTown_6) (EM.nil []) hP hD hS (fun H locs hP hD hS => ?_)
  obtain ⟨hz, hf⟩ := ck_some hf
  cases hf
  exact hret _ _ _ _ (isb_or hz) dX6_isTown_9 hP hD hS
def r_X6_does : Room := { frames := 4, cells := 0, slots := 0, locals := 93 }
set_option maxHeartbeats 4000000 in
set_option maxRecDepth 100000 in
theorem c_X6_does (G : GT) (l : Launch) (A : Nat → Nat) (sz : Nat) (M : CS) (N : JS) (x1 : Int32) (x2 : Int32) (x3 : Int32) (r : Int32) (M' : CS) (hf : f_X6_does M N x1 x2 x3 = some (r, M')) : MTi l yX6_does wsX6_does r_X6_does [.ref (A 0), .int x1, .int x2, .int x3] G (w_Mo G A M N) (w_Mo G A M' N) sz r := by
  refine MTi.of (cc := cX6_does) (maxL := 4) (by decide +kernel) rfl (Nat.le_of_ble_eq_true rfl) (fun p e s m av below meth cd Q B H locs ls X hret hl hP hD hS => ?_)
  have hx := X.1.1
  have hb := X.1.2.1
  have hl : lv_has ls 4 [(0, .ref (A 0)), (1, .int x1), (2, .int x2), (3, .int x3)] := hl
  have b_33 : ∀ (t0 : Int32) (M : CS) (H : Heap) (locs : List Loc) (ls : Array Slot), f_X6_does_33 t0 M N = some (r, M') → va_P G.1 vwCl (w_Mo G A M N) H → va_D B (w_Mo G A M N) → va_S B s.heap H locs → lv_has ls 4 [] → W p l e r_X6_does s m av below meth cd H locs 0 0 Q (F0 m 33 ls [.int t0]) := by
    intro t0 M H locs ls hf hP hD hS hl
    unfold f_X6_does_33 at hf
    cases hf
    exact hret _ _ _ _ dX6_does_33 hP hD hS
  have b_32 : ∀ (M : CS) (H : Heap) (locs : List Loc) (ls : Array Slot), f_X6_does_32 M N = some (r, M') → va_P G.1 vwCl (w_Mo G A M N) H → va_D B (w_Mo G A M N) → va_S B s.heap H locs → lv_has ls 4 [] → W p l e r_X6_does s m av below meth cd H locs 0 0 Q (F0 m 32 ls []) := by
    intro M H locs ls hf hP hD hS hl
    unfold f_X6_does_32 at hf
    refine lv_iconst (pc := 32) (v := (-1 : Int32)) hx hb dX6_does_32 (by decide) ?_
    exact b_33 _ _ H locs ls hf hP hD hS (lv_sub hl [] rfl)
  unfold f_X6_does at hf
  refine lv_iload_n (pc := 0) hx hb dX6_does_0 rfl (lv_at hl 1 rfl) ?_
  obtain ⟨r1, hc1, hf⟩ := ob1_some hf
  refine endi X.2.2.2.2 (runS (pc := 1) (As := [.int x1]) (rest := []) X (c_X6_isTown G l  H.size x1 r1 hc1) gX6_does_X6_isTown k_X6_isTown ⟨rfl, rfl⟩ ⟨Nat.le_of_ble_eq_true rfl, Nat.le_of_ble_eq_true rfl⟩ (EM.nil (w_Mo G A M N)) hP hD hS rfl hl.1 rfl (Nat.le_of_ble_eq_true rfl) ⟨Nat.zero_le _, Nat.zero_le _⟩ dX6_does_1) (EM.nil (w_Mo G A M N)) hP hD hS (fun H locs hP hD hS => ?_)
  refine lv_if_eq (pc := 4) (tgt := 32) hx hb dX6_does_4 (by decide) (fun h3 => ?_) (fun h3 => ?_)
  · have hf := br_y h3 hf
    exact b_32 _ H locs ls hf hP hD hS (lv_sub hl [] rfl)
  · have hf := br_n h3 hf
    refine lv_iload_n (pc := 7) hx hb dX6_does_7 rfl (lv_at hl 2 rfl) ?_
    obtain ⟨r2, hc2, hf⟩ := ob1_some hf
    refine endi X.2.2.2.2 (runS (pc := 8) (As := [.int x2]) (rest := []) X (c_X6_isDay G l  H.size x2 r2 hc2) gX6_does_X6_isDay k_X6_isDay ⟨rfl, rfl⟩ ⟨Nat.le_of_ble_eq_true rfl, Nat.le_of_ble_eq_true rfl⟩ (EM.nil (w_Mo G A M N)) hP hD hS rfl hl.1 rfl (Nat.le_of_ble_eq_true rfl) ⟨Nat.zero_le _, Nat.zero_le _⟩ dX6_does_8) (EM.nil (w_Mo G A M N)) hP hD hS (fun H locs hP hD hS => ?_)
    refine lv_if_eq (pc := 11) (tgt := 32) hx hb dX6_does_11 (by decide) (fun h2 => ?_) (fun h2 => ?_)
    · have hf := br_y h2 hf
      exact b_32 _ H locs ls hf hP hD hS (lv_sub hl [] rfl)
    · have hf := br_n h2 hf
      refine lv_aload_n (pc := 14) hx hb dX6_does_14 rfl (lv_at hl 0 rfl) ?_
      refine lv_iload_n (pc := 15) hx hb dX6_does_15 rfl (lv_at hl 3 rfl) ?_
      obtain ⟨r3, hc3, hf⟩ := ob1_some hf
      refine endi X.2.2.2.2 (runV (pc := 16) (As := [.int x3]) (rest := []) X (c_X6_isPerson G l A H.size M N x3 r3 hc3) gX6_does_X6_isPerson k_X6_isPerson ⟨rfl, rfl⟩ ⟨Nat.le_of_ble_eq_true rfl, Nat.le_of_ble_eq_true rfl⟩ (EM.all (w_Mo G A M N) (w_Mo G A M N)) hP hD hS (ci := 6) rfl rfl (at_Mo_0 G A M N) rfl hl.1 rfl (Nat.le_of_ble_eq_true rfl) ⟨Nat.zero_le _, Nat.zero_le _⟩ dX6_does_16) (EM.all (w_Mo G A M N) (w_Mo G A M N)) hP hD hS (fun H locs hP hD hS => ?_)
      refine lv_if_eq (pc := 19) (tgt := 32) hx hb dX6_does_19 (by decide) (fun h1 => ?_) (fun h1 => ?_)
      · have hf := br_y h1 hf
        exact b_32 _ H locs ls hf hP hD hS (lv_sub hl [] rfl)
      · have hf := br_n h1 hf
        refine lv_aload_n (pc := 22) hx hb dX6_does_22 rfl (lv_at hl 0 rfl) ?_
        refine lv_iload_n (pc := 23) hx hb dX6_does_23 rfl (lv_at hl 3 rfl) ?_
        refine lv_iload_n (pc := 24) hx hb dX6_does_24 rfl (lv_at hl 1 rfl) ?_
        refine lv_iload_n (pc := 25) hx hb dX6_does_25 rfl (lv_at hl 2 rfl) ?_
        obtain ⟨r4, M4, hc4, hf⟩ := ob2_some hf
        refine endi X.2.2.2.2 (runV (pc := 26) (As := [.int x3, .int x1, .int x2]) (rest := []) X (c_X6_doing G l A H.size M N x3 x1 x2 r4 M4 hc4) gX6_does_X6_doing k_X6_doing ⟨rfl, rfl⟩ ⟨Nat.le_of_ble_eq_true rfl, Nat.le_of_ble_eq_true rfl⟩ (EM.all (w_Mo G A M N) (w_Mo G A M4 N)) hP hD hS (ci := 6) rfl rfl (at_Mo_0 G A M N) rfl hl.1 rfl (Nat.le_of_ble_eq_true rfl) ⟨Nat.zero_le _, Nat.zero_le _⟩ dX6_does_26) (EM.all (w_Mo G A M N) (w_Mo G A M4 N)) hP hD hS (fun H locs hP hD hS => ?_)
        refine lv_goto (pc := 29) (tgt := 33) hx hb dX6_does_29 (by decide) ?_
        exact b_33 _ _ H locs ls hf hP hD hS (lv_sub hl [] rfl)
def r_X6_err : Room := { frames := 2, cells := 0, slots := 0, locals := 46 }
set_option maxHeartbeats 4000000 in
set_option maxRecDepth 100000 in
theorem c_X6_err (G : GT) (l : Launch) (A : Nat → Nat) (sz : Nat) (M : CS) (N : JS) (x1 : Int32) (x2 : Int32) (r : Int32) (M' : CS) (hf : f_X6_err M N x1 x2 = some (r, M')) : MTi l yX6_err wsX6_err r_X6_err [.ref (A 0), .int x1, .int x2] G (w_Mo G A M N) (w_Mo G A M' N) sz r := by
  refine MTi.of (cc := cX6_err) (maxL := 4) (by decide +kernel) rfl (Nat.le_of_ble_eq_true rfl) (fun p e s m av below meth cd Q B H locs ls X hret hl hP hD hS => ?_)
  have hx := X.1.1
  have hb := X.1.2.1
  have hl : lv_has ls 4 [(0, .ref (A 0)), (1, .int x1), (2, .int x2)] := hl
  have b_50 : ∀ (M : CS) (H : Heap) (locs : List Loc) (ls : Array Slot), f_X6_err_50 M N = some (r, M') → va_P G.1 vwCl (w_Mo G A M N) H → va_D B (w_Mo G A M N) → va_S B s.heap H locs → lv_has ls 4 [] → W p l e r_X6_err s m av below meth cd H locs 0 0 Q (F0 m 50 ls []) := by
    intro M H locs ls hf hP hD hS hl
    unfold f_X6_err_50 at hf
    refine lv_iconst (pc := 50) (v := (-1 : Int32)) hx hb dX6_err_50 (by decide) ?_
    cases hf
    exact hret _ _ _ _ dX6_err_51 hP hD hS
  have b_74 : ∀ (M : CS) (H : Heap) (locs : List Loc) (ls : Array Slot), f_X6_err_74 M N = some (r, M') → va_P G.1 vwCl (w_Mo G A M N) H → va_D B (w_Mo G A M N) → va_S B s.heap H locs → lv_has ls 4 [] → W p l e r_X6_err s m av below meth cd H locs 0 0 Q (F0 m 74 ls []) := by
    intro M H locs ls hf hP hD hS hl
    unfold f_X6_err_74 at hf
    refine lv_bipush (pc := 74) (v := (-2 : Int32)) hx hb dX6_err_74 (by decide) ?_
    cases hf
    exact hret _ _ _ _ dX6_err_76 hP hD hS
  unfold f_X6_err at hf
  refine lv_iload_n (pc := 0) hx hb dX6_err_0 rfl (lv_at hl 1 rfl) ?_
  refine lv_bipush (pc := 1) (v := (10 : Int32)) hx hb dX6_err_1 (by decide) ?_
  refine lv_idiv (pc := 3) hx hb dX6_err_3 (by decide) ?_
  refine lv_bipush (pc := 4) (v := (100 : Int32)) hx hb dX6_err_4 (by decide) ?_
  refine wirem (pc := 6) hx hb dX6_err_6 (by decide) ?_
  refine lv_istore_n (pc := 7) (lv' := [(3, .int (jrem (x1 / (10 : Int32)) (100 : Int32))), (0, .ref (A 0)), (1, .int x1), (2, .int x2)]) hx hb dX6_err_7 rfl hl (by decide) rfl (fun ls hl => ?_)
  refine lv_iload_n (pc := 8) hx hb dX6_err_8 rfl (lv_at hl 2 rfl) ?_
  refine lv_i2l (pc := 9) (v := (x1).toInt64) hx hb dX6_err_9 rfl ?_
  refine lv_lconst (pc := 10) (v := (0 : Int64)) hx hb dX6_err_10 (by decide) ?_
  refine lv_ldc2 (pc := 11) (v := 4999) hx hb X.1.2.2.2.1 (X.1.2.2.2.2 _ (List.mem_cons_of_mem _ (List.mem_append_left _ (List.mem_of_getElem? (i := 0) rfl)))) dX6_err_11 ?_
  obtain ⟨r1, hc1, hf⟩ := ob1_some hf
  refine endi X.2.2.2.2 (runS (pc := 14) (As := [.long ((x1).toInt64), .long (0 : Int64), .long (4999 : Int64)]) (rest := []) X (c_X6_in G l  H.size ((x1).toInt64) (0 : Int64) (4999 : Int64) r1 hc1) gX6_err_X6_in k_X6_in ⟨rfl, rfl⟩ ⟨Nat.le_of_ble_eq_true rfl, Nat.le_of_ble_eq_true rfl⟩ (EM.nil (w_Mo G A M N)) hP hD hS rfl hl.1 rfl (Nat.le_of_ble_eq_true rfl) ⟨Nat.zero_le _, Nat.zero_le _⟩ dX6_err_14) (EM.nil (w_Mo G A M N)) hP hD hS (fun H locs hP hD hS => ?_)
  refine lv_if_eq (pc := 17) (tgt := 50) hx hb dX6_err_17 (by decide) (fun h6 => ?_) (fun h6 => ?_)
  · have hf := br_y h6 hf
    exact b_50 _ H locs ls hf hP hD hS (lv_sub hl [] rfl)
  · have hf := br_n h6 hf
    refine lv_iload_n (pc := 20) hx hb dX6_err_20 rfl (lv_at hl 0 rfl) ?_
    obtain ⟨r2, hc2, hf⟩ := ob1_some hf
    refine endi X.2.2.2.2 (runS (pc := 21) (As := [.int (jrem (x1 / (10 : Int32)) (100 : Int32))]) (rest := []) X (c_X6_isDay G l  H.size (jrem (x1 / (10 : Int32)) (100 : Int32)) r2 hc2) gX6_err_X6_isDay k_X6_isDay ⟨rfl, rfl⟩ ⟨Nat.le_of_ble_eq_true rfl, Nat.le_of_ble_eq_true rfl⟩ (EM.nil (w_Mo G A M N)) hP hD hS rfl hl.1 rfl (Nat.le_of_ble_eq_true rfl) ⟨Nat.zero_le _, Nat.zero_le _⟩ dX6_err_21) (EM.nil (w_Mo G A M N)) hP hD hS (fun H locs hP hD hS => ?_)
    refine lv_if_eq (pc := 24) (tgt := 50) hx hb dX6_err_24 (by decide) (fun h5 => ?_) (fun h5 => ?_)
    · have hf := br_y h5 hf
      exact b_50 _ H locs ls hf hP hD hS (lv_sub hl [] rfl)
    · have hf := br_n h5 hf
      refine lv_aload_n (pc := 27) hx hb dX6_err_27 rfl (lv_at hl 1 rfl) ?_
      refine lv_iload_n (pc := 28) hx hb dX6_err_28 rfl (lv_at hl 2 rfl) ?_
      refine lv_bipush (pc := 29) (v := (10 : Int32)) hx hb dX6_err_29 (by decide) ?_
      refine wirem (pc := 31) hx hb dX6_err_31 (by decide) ?_
      obtain ⟨r3, hc3, hf⟩ := ob1_some hf
      refine endi X.2.2.2.2 (runV (pc := 32) (As := [.int (jrem x1 (10 : Int32))]) (rest := []) X (c_X6_isPerson G l A H.size M N (jrem x1 (10 : Int32)) r3 hc3) gX6_err_X6_isPerson k_X6_isPerson ⟨rfl, rfl⟩ ⟨Nat.le_of_ble_eq_true rfl, Nat.le_of_ble_eq_true rfl⟩ (EM.all (w_Mo G A M N) (w_Mo G A M N)) hP hD hS (ci := 6) rfl rfl (at_Mo_0 G A M N) rfl hl.1 rfl (Nat.le_of_ble_eq_true rfl) ⟨Nat.zero_le _, Nat.zero_le _⟩ dX6_err_32) (EM.all (w_Mo G A M N) (w_Mo G A M N)) hP hD hS (fun H locs hP hD hS => ?_)
      refine lv_if_eq (pc := 35) (tgt := 50) hx hb dX6_err_35 (by decide) (fun h4 => ?_) (fun h4 => ?_)
      · have hf := br_y h4 hf
        exact b_50 _ H locs ls hf hP hD hS (lv_sub hl [] rfl)
      · have hf := br_n h4 hf
        refine lv_iload_n (pc := 38) hx hb dX6_err_38 rfl (lv_at hl 3 rfl) ?_
        refine lv_i2l (pc := 39) (v := (x2).toInt64) hx hb dX6_err_39 rfl ?_
        refine lv_lconst (pc := 40) (v := (1 : Int64)) hx hb dX6_err_40 (by decide) ?_
        refine lv_ldc2 (pc := 41) (v := 9) hx hb X.1.2.2.2.1 (X.1.2.2.2.2 _ (List.mem_cons_of_mem _ (List.mem_append_left _ (List.mem_of_getElem? (i := 1) rfl)))) dX6_err_41 ?_
        obtain ⟨r4, hc4, hf⟩ := ob1_some hf
        refine endi X.2.2.2.2 (runS (pc := 44) (As := [.long ((x2).toInt64), .long (1 : Int64), .long (9 : Int64)]) (rest := []) X (c_X6_in G l  H.size ((x2).toInt64) (1 : Int64) (9 : Int64) r4 hc4) gX6_err_X6_in k_X6_in ⟨rfl, rfl⟩ ⟨Nat.le_of_ble_eq_true rfl, Nat.le_of_ble_eq_true rfl⟩ (EM.nil (w_Mo G A M N)) hP hD hS rfl hl.1 rfl (Nat.le_of_ble_eq_true rfl) ⟨Nat.zero_le _, Nat.zero_le _⟩ dX6_err_44) (EM.nil (w_Mo G A M N)) hP hD hS (fun H locs hP hD hS => ?_)
        refine lv_if_ne (pc := 47) (tgt := 52) hx hb dX6_err_47 (by decide) (fun h3 => ?_) (fun h3 => ?_)
        · have hf := br_n h3 hf
          refine lv_aload_n (pc := 52) hx hb dX6_err_52 rfl (lv_at hl 1 rfl) ?_
          refine wget (pc := 53) X (fun _ h9 => List.mem_cons_of_mem _ (List.mem_append_right _ h9)) hP 0 (at_Mo_0 G A M N) rfl 4 (by decide) (List.mem_cons_of_mem _ (List.mem_append_left _ (List.mem_of_getElem? (i := 2) rfl))) rfl (v := .ref (A 5)) rfl dX6_err_53 ?_
          refine lv_iconst (pc := 56) (v := (1 : Int32)) hx hb dX6_err_56 (by decide) ?_
          refine wiald (pc := 57) X hP 5 (at_Mo_5 G A M N) (by decide) (j := 1) (by decide) dX6_err_57 ?_
          refine lv_bipush (pc := 58) (v := (12 : Int32)) hx hb dX6_err_58 (by decide) ?_
          refine lv_icmp_eq (pc := 60) (tgt := 74) hx hb dX6_err_60 (by decide) (fun h2 => ?_) (fun h2 => ?_)
          · have hf := br_y h2 hf
            exact b_74 _ H locs ls hf hP hD hS (lv_sub hl [] rfl)
          · have hf := br_n h2 hf
            refine lv_aload_n (pc := 63) hx hb dX6_err_63 rfl (lv_at hl 1 rfl) ?_
            refine wget (pc := 64) X (fun _ h9 => List.mem_cons_of_mem _ (List.mem_append_right _ h9)) hP 0 (at_Mo_0 G A M N) rfl 4 (by decide) (List.mem_cons_of_mem _ (List.mem_append_left _ (List.mem_of_getElem? (i := 2) rfl))) rfl (v := .ref (A 5)) rfl dX6_err_64 ?_
            refine lv_iconst (pc := 67) (v := (3 : Int32)) hx hb dX6_err_67 (by decide) ?_
            refine wiald (pc := 68) X hP 5 (at_Mo_5 G A M N) (by decide) (j := 3) (by decide) dX6_err_68 ?_
            refine lv_bipush (pc := 69) (v := (40 : Int32)) hx hb dX6_err_69 (by decide) ?_
            refine lv_icmp_ne (pc := 71) (tgt := 77) hx hb dX6_err_71 (by decide) (fun h1 => ?_) (fun h1 => ?_)
            · have hf := br_n h1 hf
              refine lv_aload_n (pc := 77) hx hb dX6_err_77 rfl (lv_at hl 1 rfl) ?_
              refine lv_iload_n (pc := 78) hx hb dX6_err_78 rfl (lv_at hl 2 rfl) ?_
              refine lv_sipush (pc := 79) (v := (1000 : Int32)) hx hb dX6_err_79 (by decide) ?_
              refine lv_idiv (pc := 82) hx hb dX6_err_82 (by decide) ?_
              refine lv_iload_n (pc := 83) hx hb dX6_err_83 rfl (lv_at hl 0 rfl) ?_
              refine lv_iload_n (pc := 84) hx hb dX6_err_84 rfl (lv_at hl 2 rfl) ?_
              refine lv_bipush (pc := 85) (v := (10 : Int32)) hx hb dX6_err_85 (by decide) ?_
              refine wirem (pc := 87) hx hb dX6_err_87 (by decide) ?_
              refine lv_iload_n (pc := 88) hx hb dX6_err_88 rfl (lv_at hl 3 rfl) ?_
              obtain ⟨r5, M5, hc5, hf⟩ := ob2_some hf
              refine endi X.2.2.2.2 (runV (pc := 89) (As := [.int (x1 / (1000 : Int32)), .int (jrem (x1 / (10 : Int32)) (100 : Int32)), .int (jrem x1 (10 : Int32)), .int x2]) (rest := []) X (c_X6_comes G l A H.size M N (x1 / (1000 : Int32)) (jrem (x1 / (10 : Int32)) (100 : Int32)) (jrem x1 (10 : Int32)) x2 r5 M5 hc5) gX6_err_X6_comes k_X6_comes ⟨rfl, rfl⟩ ⟨Nat.le_of_ble_eq_true rfl, Nat.le_of_ble_eq_true rfl⟩ (EM.all (w_Mo G A M N) (w_Mo G A M5 N)) hP hD hS (ci := 6) rfl rfl (at_Mo_0 G A M N) rfl hl.1 rfl (Nat.le_of_ble_eq_true rfl) ⟨Nat.zero_le _, Nat.zero_le _⟩ dX6_err_89) (EM.all (w_Mo G A M N) (w_Mo G A M5 N)) hP hD hS (fun H locs hP hD hS => ?_)
              cases hf
              exact hret _ _ _ _ dX6_err_92 hP hD hS
            · have hf := br_y h1 hf
              exact b_74 _ H locs ls hf hP hD hS (lv_sub hl [] rfl)
        · have hf := br_y h3 hf
          exact b_50 _ H locs ls hf hP hD hS (lv_sub hl [] rfl)
def r_X6_isError : Room := { frames := 1, cells := 0, slots := 0, locals := 25 }
set_option maxHeartbeats 4000000 in
set_option maxRecDepth 100000 in
theorem c_X6_isError (G : GT) (l : Launch) (A : Nat → Nat) (sz : Nat) (M : CS) (N : JS) (x1 : Int32) (r : Int32) (hf : f_X6_isError M N x1 = some r) : MTi l yX6_isError wsX6_isError r_X6_isError [.ref (A 0), .int x1] G (w_Mo G A M N) (w_Mo G A M N) sz r := by
  refine MTz.of (cc := cX6_isError) (maxL := 2) (by decide +kernel) rfl (Nat.le_of_ble_eq_true rfl) (fun p e s m av below meth cd Q B H locs ls X hret hl hP hD hS => ?_)
  have hx := X.1.1
  have hb := X.1.2.1
  have hl : lv_has ls 2 [(0, .ref (A 0)), (1, .int x1)] := hl
  unfold f_X6_isError at hf
  refine lv_iload_n (pc := 0) hx hb dX6_isError_0 rfl (lv_at hl 1 rfl) ?_
  refine lv_i2l (pc := 1) (v := (x1).toInt64) hx hb dX6_isError_1 rfl ?_
  refine lv_lconst (pc := 2) (v := (0 : Int64)) hx hb dX6_isError_2 (by decide) ?_
  refine lv_aload_n (pc := 3) hx hb dX6_isError_3 rfl (lv_at hl 0 rfl) ?_
  refine wget (pc := 4) X (fun _ h9 => List.mem_cons_of_mem _ (List.mem_append_right _ h9)) hP 0 (at_Mo_0 G A M N) rfl 4 (by decide) (List.mem_cons_of_mem _ (List.mem_append_left _ (List.mem_of_getElem? (i := 0) rfl))) rfl (v := .ref (A 5)) rfl dX6_isError_4 ?_
  refine lv_iconst (pc := 7) (v := (1 : Int32)) hx hb dX6_isError_7 (by decide) ?_
  refine wiald (pc := 8) X hP 5 (at_Mo_5 G A M N) (by decide) (j := 1) (by decide) dX6_isError_8 ?_
  refine lv_iconst (pc := 9) (v := (1 : Int32)) hx hb dX6_isError_9 (by decide) ?_
  refine lv_isub (pc := 10) hx hb dX6_isError_10 ?_
  refine lv_i2l (pc := 11) (v := ((((M 4) 1) - (1 : Int32))).toInt64) hx hb dX6_isError_11 rfl ?_
  obtain ⟨r1, hc1, hf⟩ := ob1_some hf
  refine endi X.2.2.2.2 (runS (pc := 12) (As := [.long ((x1).toInt64), .long (0 : Int64), .long (((((M 4) 1) - (1 : Int32))).toInt64)]) (rest := []) X (c_X6_in G l  H.size ((x1).toInt64) (0 : Int64) (((((M 4) 1) - (1 : Int32))).toInt64) r1 hc1) gX6_isError_X6_in k_X6_in ⟨rfl, rfl⟩ ⟨Nat.le_of_ble_eq_true rfl, Nat.le_of_ble_eq_true rfl⟩ (EM.nil (w_Mo G A M N)) hP hD hS rfl hl.1 rfl (Nat.le_of_ble_eq_true rfl) ⟨Nat.zero_le _, Nat.zero_le _⟩ dX6_isError_12) (EM.nil (w_Mo G A M N)) hP hD hS (fun H locs hP hD hS => ?_)
  obtain ⟨hz, hf⟩ := ck_some hf
  cases hf
  exact hret _ _ _ _ (isb_or hz) dX6_isError_15 hP hD hS
def r_X6_error : Room := { frames := 2, cells := 0, slots := 0, locals := 46 }
set_option maxHeartbeats 4000000 in
set_option maxRecDepth 100000 in
theorem c_X6_error (G : GT) (l : Launch) (A : Nat → Nat) (sz : Nat) (M : CS) (N : JS) (x1 : Int32) (x2 : Int32) (r : Int32) (M' : CS) (hf : f_X6_error M N x1 x2 = some (r, M')) : MTi l yX6_error wsX6_error r_X6_error [.ref (A 0), .int x1, .int x2] G (w_Mo G A M N) (w_Mo G A M' N) sz r := by
  refine MTi.of (cc := cX6_error) (maxL := 3) (by decide +kernel) rfl (Nat.le_of_ble_eq_true rfl) (fun p e s m av below meth cd Q B H locs ls X hret hl hP hD hS => ?_)
  have hx := X.1.1
  have hb := X.1.2.1
  have hl : lv_has ls 3 [(0, .ref (A 0)), (1, .int x1), (2, .int x2)] := hl
  have b_42 : ∀ (t0 : Int32) (M : CS) (H : Heap) (locs : List Loc) (ls : Array Slot), f_X6_error_42 t0 M N = some (r, M') → va_P G.1 vwCl (w_Mo G A M N) H → va_D B (w_Mo G A M N) → va_S B s.heap H locs → lv_has ls 3 [] → W p l e r_X6_error s m av below meth cd H locs 0 0 Q (F0 m 42 ls [.int t0]) := by
    intro t0 M H locs ls hf hP hD hS hl
    unfold f_X6_error_42 at hf
    cases hf
    exact hret _ _ _ _ dX6_error_42 hP hD hS
  have b_41 : ∀ (M : CS) (H : Heap) (locs : List Loc) (ls : Array Slot), f_X6_error_41 M N = some (r, M') → va_P G.1 vwCl (w_Mo G A M N) H → va_D B (w_Mo G A M N) → va_S B s.heap H locs → lv_has ls 3 [] → W p l e r_X6_error s m av below meth cd H locs 0 0 Q (F0 m 41 ls []) := by
    intro M H locs ls hf hP hD hS hl
    unfold f_X6_error_41 at hf
    refine lv_iconst (pc := 41) (v := (-1 : Int32)) hx hb dX6_error_41 (by decide) ?_
    exact b_42 _ _ H locs ls hf hP hD hS (lv_sub hl [] rfl)
  unfold f_X6_error at hf
  refine lv_aload_n (pc := 0) hx hb dX6_error_0 rfl (lv_at hl 0 rfl) ?_
  refine lv_iload_n (pc := 1) hx hb dX6_error_1 rfl (lv_at hl 1 rfl) ?_
  obtain ⟨r1, hc1, hf⟩ := ob1_some hf
  refine endi X.2.2.2.2 (runV (pc := 2) (As := [.int x1]) (rest := []) X (c_X6_isError G l A H.size M N x1 r1 hc1) gX6_error_X6_isError k_X6_isError ⟨rfl, rfl⟩ ⟨Nat.le_of_ble_eq_true rfl, Nat.le_of_ble_eq_true rfl⟩ (EM.all (w_Mo G A M N) (w_Mo G A M N)) hP hD hS (ci := 6) rfl rfl (at_Mo_0 G A M N) rfl hl.1 rfl (Nat.le_of_ble_eq_true rfl) ⟨Nat.zero_le _, Nat.zero_le _⟩ dX6_error_2) (EM.all (w_Mo G A M N) (w_Mo G A M N)) hP hD hS (fun H locs hP hD hS => ?_)
  refine lv_if_eq (pc := 5) (tgt := 41) hx hb dX6_error_5 (by decide) (fun h2 => ?_) (fun h2 => ?_)
  · have hf := br_y h2 hf
    exact b_41 _ H locs ls hf hP hD hS (lv_sub hl [] rfl)
  · have hf := br_n h2 hf
    refine lv_iload_n (pc := 8) hx hb dX6_error_8 rfl (lv_at hl 2 rfl) ?_
    refine lv_i2l (pc := 9) (v := (x2).toInt64) hx hb dX6_error_9 rfl ?_
    refine lv_lconst (pc := 10) (v := (0 : Int64)) hx hb dX6_error_10 (by decide) ?_
    refine lv_ldc2 (pc := 11) (v := 4) hx hb X.1.2.2.2.1 (X.1.2.2.2.2 _ (List.mem_cons_of_mem _ (List.mem_append_left _ (List.mem_of_getElem? (i := 0) rfl)))) dX6_error_11 ?_
    obtain ⟨r2, hc2, hf⟩ := ob1_some hf
    refine endi X.2.2.2.2 (runS (pc := 14) (As := [.long ((x2).toInt64), .long (0 : Int64), .long (4 : Int64)]) (rest := []) X (c_X6_in G l  H.size ((x2).toInt64) (0 : Int64) (4 : Int64) r2 hc2) gX6_error_X6_in k_X6_in ⟨rfl, rfl⟩ ⟨Nat.le_of_ble_eq_true rfl, Nat.le_of_ble_eq_true rfl⟩ (EM.nil (w_Mo G A M N)) hP hD hS rfl hl.1 rfl (Nat.le_of_ble_eq_true rfl) ⟨Nat.zero_le _, Nat.zero_le _⟩ dX6_error_14) (EM.nil (w_Mo G A M N)) hP hD hS (fun H locs hP hD hS => ?_)
    refine lv_if_eq (pc := 17) (tgt := 41) hx hb dX6_error_17 (by decide) (fun h1 => ?_) (fun h1 => ?_)
    · have hf := br_y h1 hf
      exact b_41 _ H locs ls hf hP hD hS (lv_sub hl [] rfl)
    · have hf := br_n h1 hf
      refine lv_aload_n (pc := 20) hx hb dX6_error_20 rfl (lv_at hl 0 rfl) ?_
      refine lv_aload_n (pc := 21) hx hb dX6_error_21 rfl (lv_at hl 0 rfl) ?_
      refine wget (pc := 22) X (fun _ h9 => List.mem_cons_of_mem _ (List.mem_append_right _ h9)) hP 0 (at_Mo_0 G A M N) rfl 4 (by decide) (List.mem_cons_of_mem _ (List.mem_append_left _ (List.mem_of_getElem? (i := 1) rfl))) rfl (v := .ref (A 5)) rfl dX6_error_22 ?_
      refine lv_bipush (pc := 25) (v := (19 : Int32)) hx hb dX6_error_25 (by decide) ?_
      refine lv_bipush (pc := 27) (v := (12 : Int32)) hx hb dX6_error_27 (by decide) ?_
      refine lv_iload_n (pc := 29) hx hb dX6_error_29 rfl (lv_at hl 2 rfl) ?_
      refine lv_imul (pc := 30) hx hb dX6_error_30 ?_
      refine lv_iadd (pc := 31) hx hb dX6_error_31 ?_
      refine lv_iload_n (pc := 32) hx hb dX6_error_32 rfl (lv_at hl 1 rfl) ?_
      refine lv_iadd (pc := 33) hx hb dX6_error_33 ?_
      obtain ⟨hi, hf⟩ := ck_some hf
      refine wiald (pc := 34) X hP 5 (at_Mo_5 G A M N) hi rfl dX6_error_34 ?_
      obtain ⟨r3, M3, hc3, hf⟩ := ob2_some hf
      refine endi X.2.2.2.2 (runV (pc := 35) (As := [.int ((M 4) (((19 : Int32) + ((12 : Int32) * x2)) + x1).toNatClampNeg)]) (rest := []) X (c_X6_tell G l A H.size M N ((M 4) (((19 : Int32) + ((12 : Int32) * x2)) + x1).toNatClampNeg) r3 M3 hc3) gX6_error_X6_tell k_X6_tell ⟨rfl, rfl⟩ ⟨Nat.le_of_ble_eq_true rfl, Nat.le_of_ble_eq_true rfl⟩ (EM.all (w_Mo G A M N) (w_Mo G A M3 N)) hP hD hS (ci := 6) rfl rfl (at_Mo_0 G A M N) rfl hl.1 rfl (Nat.le_of_ble_eq_true rfl) ⟨Nat.zero_le _, Nat.zero_le _⟩ dX6_error_35) (EM.all (w_Mo G A M N) (w_Mo G A M3 N)) hP hD hS (fun H locs hP hD hS => ?_)
      refine lv_goto (pc := 38) (tgt := 42) hx hb dX6_error_38 (by decide) ?_
      exact b_42 _ _ H locs ls hf hP hD hS (lv_sub hl [] rfl)
def r_X6_fault : Room := { frames := 4, cells := 0, slots := 0, locals := 96 }
set_option maxHeartbeats 4000000 in
set_option maxRecDepth 100000 in
theorem c_X6_fault (G : GT) (l : Launch) (A : Nat → Nat) (sz : Nat) (M : CS) (N : JS) (x1 : Int32) (r : Int32) (M' : CS) (hf : f_X6_fault M N x1 = some (r, M')) : MTi l yX6_fault wsX6_fault r_X6_fault [.ref (A 0), .int x1] G (w_Mo G A M N) (w_Mo G A M' N) sz r := by
  refine MTi.of (cc := cX6_fault) (maxL := 2) (by decide +kernel) rfl (Nat.le_of_ble_eq_true rfl) (fun p e s m av below meth cd Q B H locs ls X hret hl hP hD hS => ?_)
  have hx := X.1.1
  have hb := X.1.2.1
  have hl : lv_has ls 2 [(0, .ref (A 0)), (1, .int x1)] := hl
  have b_31 : ∀ (t0 : Int32) (M : CS) (H : Heap) (locs : List Loc) (ls : Array Slot), f_X6_fault_31 t0 M N = some (r, M') → va_P G.1 vwCl (w_Mo G A M N) H → va_D B (w_Mo G A M N) → va_S B s.heap H locs → lv_has ls 2 [] → W p l e r_X6_fault s m av below meth cd H locs 0 0 Q (F0 m 31 ls [.int t0]) := by
    intro t0 M H locs ls hf hP hD hS hl
    unfold f_X6_fault_31 at hf
    cases hf
    exact hret _ _ _ _ dX6_fault_31 hP hD hS
  unfold f_X6_fault at hf
  refine lv_iload_n (pc := 0) hx hb dX6_fault_0 rfl (lv_at hl 1 rfl) ?_
  obtain ⟨r1, hc1, hf⟩ := ob1_some hf
  refine endi X.2.2.2.2 (runS (pc := 1) (As := [.int x1]) (rest := []) X (c_X6_isText G l  H.size x1 r1 hc1) gX6_fault_X6_isText k_X6_isText ⟨rfl, rfl⟩ ⟨Nat.le_of_ble_eq_true rfl, Nat.le_of_ble_eq_true rfl⟩ (EM.nil (w_Mo G A M N)) hP hD hS rfl hl.1 rfl (Nat.le_of_ble_eq_true rfl) ⟨Nat.zero_le _, Nat.zero_le _⟩ dX6_fault_1) (EM.nil (w_Mo G A M N)) hP hD hS (fun H locs hP hD hS => ?_)
  refine lv_if_ne (pc := 4) (tgt := 9) hx hb dX6_fault_4 (by decide) (fun h2 => ?_) (fun h2 => ?_)
  · have hf := br_n h2 hf
    refine lv_aload_n (pc := 9) hx hb dX6_fault_9 rfl (lv_at hl 0 rfl) ?_
    refine wget (pc := 10) X (fun _ h9 => List.mem_cons_of_mem _ (List.mem_append_right _ h9)) hP 0 (at_Mo_0 G A M N) rfl 2 (by decide) (List.mem_cons_of_mem _ (List.mem_append_left _ (List.mem_append_left _ (List.mem_of_getElem? (i := 0) rfl)))) rfl (v := .ref (A 3)) rfl dX6_fault_10 ?_
    refine lv_iload_n (pc := 13) hx hb dX6_fault_13 rfl (lv_at hl 1 rfl) ?_
    obtain ⟨hi, hf⟩ := ck_some hf
    refine wiald (pc := 14) X hP 3 (at_Mo_3 G A M N) hi rfl dX6_fault_14 ?_
    refine lv_if_ge (pc := 15) (tgt := 26) hx hb dX6_fault_15 (by decide) (fun h1 => ?_) (fun h1 => ?_)
    · have hf := br_y h1 hf
      refine lv_aload_n (pc := 26) hx hb dX6_fault_26 rfl (lv_at hl 0 rfl) ?_
      refine lv_iload_n (pc := 27) hx hb dX6_fault_27 rfl (lv_at hl 1 rfl) ?_
      obtain ⟨r2, M2, hc2, hf⟩ := ob2_some hf
      refine endi X.2.2.2.2 (runV (pc := 28) (As := [.int x1]) (rest := []) X (c_X6_reads G l A H.size M N x1 r2 M2 hc2) gX6_fault_X6_reads k_X6_reads ⟨rfl, rfl⟩ ⟨Nat.le_of_ble_eq_true rfl, Nat.le_of_ble_eq_true rfl⟩ (EM.all (w_Mo G A M N) (w_Mo G A M2 N)) hP hD hS (ci := 6) rfl rfl (at_Mo_0 G A M N) rfl hl.1 rfl (Nat.le_of_ble_eq_true rfl) ⟨Nat.zero_le _, Nat.zero_le _⟩ dX6_fault_28) (EM.all (w_Mo G A M N) (w_Mo G A M2 N)) hP hD hS (fun H locs hP hD hS => ?_)
      exact b_31 _ _ H locs ls hf hP hD hS (lv_sub hl [] rfl)
    · have hf := br_n h1 hf
      refine lv_aload_n (pc := 18) hx hb dX6_fault_18 rfl (lv_at hl 0 rfl) ?_
      refine lv_iconst (pc := 19) (v := (1 : Int32)) hx hb dX6_fault_19 (by decide) ?_
      obtain ⟨r3, M3, hc3, hf⟩ := ob2_some hf
      refine endi X.2.2.2.2 (runV (pc := 20) (As := [.int (1 : Int32)]) (rest := []) X (c_X6_found G l A H.size M N (1 : Int32) r3 M3 hc3) gX6_fault_X6_found k_X6_found ⟨rfl, rfl⟩ ⟨Nat.le_of_ble_eq_true rfl, Nat.le_of_ble_eq_true rfl⟩ (EM.all (w_Mo G A M N) (w_Mo G A M3 N)) hP hD hS (ci := 6) rfl rfl (at_Mo_0 G A M N) rfl hl.1 rfl (Nat.le_of_ble_eq_true rfl) ⟨Nat.zero_le _, Nat.zero_le _⟩ dX6_fault_20) (EM.all (w_Mo G A M N) (w_Mo G A M3 N)) hP hD hS (fun H locs hP hD hS => ?_)
      refine lv_goto (pc := 23) (tgt := 31) hx hb dX6_fault_23 (by decide) ?_
      exact b_31 _ _ H locs ls hf hP hD hS (lv_sub hl [] rfl)
  · have hf := br_y h2 hf
    refine lv_iconst (pc := 7) (v := (-1 : Int32)) hx hb dX6_fault_7 (by decide) ?_
    cases hf
    exact hret _ _ _ _ dX6_fault_8 hP hD hS
def r_X6_finding : Room := { frames := 0, cells := 0, slots := 0, locals := 0 }
set_option maxHeartbeats 4000000 in
set_option maxRecDepth 100000 in
theorem c_X6_finding (G : GT) (l : Launch) (A : Nat → Nat) (sz : Nat) (M : CS) (N : JS) (r : Int32) (hf : f_X6_finding M N = some r) : MTi l yX6_finding wsX6_finding r_X6_finding [.ref (A 0)] G (w_Mo G A M N) (w_Mo G A M N) sz r := by
  refine MTi.of (cc := cX6_finding) (maxL := 1) (by decide +kernel) rfl (Nat.le_of_ble_eq_true rfl) (fun p e s m av below meth cd Q B H locs ls X hret hl hP hD hS => ?_)
  have hx := X.1.1
  have hb := X.1.2.1
  have hl : lv_has ls 1 [(0, .ref (A 0))] := hl
  unfold f_X6_finding at hf
  refine lv_aload_n (pc := 0) hx hb dX6_finding_0 rfl (lv_at hl 0 rfl) ?_
  refine wget (pc := 1) X (fun _ h9 => List.mem_cons_of_mem _ (List.mem_append_right _ h9)) hP 0 (at_Mo_0 G A M N) rfl 10 (by decide) (List.mem_cons_of_mem _ (List.mem_append_left _ (List.mem_of_getElem? (i := 0) rfl))) rfl (v := .int (M 8 0)) rfl dX6_finding_1 ?_
  cases hf
  exact hret _ _ _ _ dX6_finding_4 hP hD hS
def r_X6_findings : Room := { frames := 1, cells := 0, slots := 0, locals := 25 }
set_option maxHeartbeats 4000000 in
set_option maxRecDepth 100000 in
theorem c_X6_findings (G : GT) (l : Launch) (A : Nat → Nat) (sz : Nat) (M : CS) (N : JS) (x1 : Int32) (r : Int32) (hf : f_X6_findings M N x1 = some r) : MTi l yX6_findings wsX6_findings r_X6_findings [.ref (A 0), .int x1] G (w_Mo G A M N) (w_Mo G A M N) sz r := by
  refine MTi.of (cc := cX6_findings) (maxL := 2) (by decide +kernel) rfl (Nat.le_of_ble_eq_true rfl) (fun p e s m av below meth cd Q B H locs ls X hret hl hP hD hS => ?_)
  have hx := X.1.1
  have hb := X.1.2.1
  have hl : lv_has ls 2 [(0, .ref (A 0)), (1, .int x1)] := hl
  have b_22 : ∀ (t0 : Int32) (H : Heap) (locs : List Loc) (ls : Array Slot), f_X6_findings_22 t0 M N = some r → va_P G.1 vwCl (w_Mo G A M N) H → va_D B (w_Mo G A M N) → va_S B s.heap H locs → lv_has ls 2 [] → W p l e r_X6_findings s m av below meth cd H locs 0 0 Q (F0 m 22 ls [.int t0]) := by
    intro t0 H locs ls hf hP hD hS hl
    unfold f_X6_findings_22 at hf
    cases hf
    exact hret _ _ _ _ dX6_findings_22 hP hD hS
  unfold f_X6_findings at hf
  refine lv_iload_n (pc := 0) hx hb dX6_findings_0 rfl (lv_at hl 1 rfl) ?_
  refine lv_i2l (pc := 1) (v := (x1).toInt64) hx hb dX6_findings_1 rfl ?_
  refine lv_lconst (pc := 2) (v := (1 : Int64)) hx hb dX6_findings_2 (by decide) ?_
  refine lv_ldc2 (pc := 3) (v := 5) hx hb X.1.2.2.2.1 (X.1.2.2.2.2 _ (List.mem_cons_of_mem _ (List.mem_append_left _ (List.mem_of_getElem? (i := 0) rfl)))) dX6_findings_3 ?_
  obtain ⟨r1, hc1, hf⟩ := ob1_some hf
  refine endi X.2.2.2.2 (runS (pc := 6) (As := [.long ((x1).toInt64), .long (1 : Int64), .long (5 : Int64)]) (rest := []) X (c_X6_in G l  H.size ((x1).toInt64) (1 : Int64) (5 : Int64) r1 hc1) gX6_findings_X6_in k_X6_in ⟨rfl, rfl⟩ ⟨Nat.le_of_ble_eq_true rfl, Nat.le_of_ble_eq_true rfl⟩ (EM.nil (w_Mo G A M N)) hP hD hS rfl hl.1 rfl (Nat.le_of_ble_eq_true rfl) ⟨Nat.zero_le _, Nat.zero_le _⟩ dX6_findings_6) (EM.nil (w_Mo G A M N)) hP hD hS (fun H locs hP hD hS => ?_)
  refine lv_if_eq (pc := 9) (tgt := 21) hx hb dX6_findings_9 (by decide) (fun h1 => ?_) (fun h1 => ?_)
  · have hf := br_y h1 hf
    refine lv_iconst (pc := 21) (v := (-1 : Int32)) hx hb dX6_findings_21 (by decide) ?_
    exact b_22 _ H locs ls hf hP hD hS (lv_sub hl [] rfl)
  · have hf := br_n h1 hf
    refine lv_aload_n (pc := 12) hx hb dX6_findings_12 rfl (lv_at hl 0 rfl) ?_
    refine wget (pc := 13) X (fun _ h9 => List.mem_cons_of_mem _ (List.mem_append_right _ h9)) hP 0 (at_Mo_0 G A M N) rfl 11 (by decide) (List.mem_cons_of_mem _ (List.mem_append_left _ (List.mem_of_getElem? (i := 1) rfl))) rfl (v := .ref (A 8)) rfl dX6_findings_13 ?_
    refine lv_iload_n (pc := 16) hx hb dX6_findings_16 rfl (lv_at hl 1 rfl) ?_
    obtain ⟨hi, hf⟩ := ck_some hf
    refine wiald (pc := 17) X hP 8 (at_Mo_8 G A M N) hi rfl dX6_findings_17 ?_
    refine lv_goto (pc := 18) (tgt := 22) hx hb dX6_findings_18 (by decide) ?_
    exact b_22 _ H locs ls hf hP hD hS (lv_sub hl [] rfl)
def r_X6_fitsBy : Room := { frames := 2, cells := 0, slots := 0, locals := 49 }
set_option maxHeartbeats 4000000 in
set_option maxRecDepth 100000 in
theorem c_X6_fitsBy (G : GT) (l : Launch) (A : Nat → Nat) (sz : Nat) (M : CS) (N : JS) (x1 : Int32) (x2 : Int32) (r : Int32) (M' : CS) (hf : f_X6_fitsBy M N x1 x2 = some (r, M')) : MTi l yX6_fitsBy wsX6_fitsBy r_X6_fitsBy [.ref (A 0), .int x1, .int x2] G (w_Mo G A M N) (w_Mo G A M' N) sz r := by
  refine MTz.of (cc := cX6_fitsBy) (maxL := 7) (by decide +kernel) rfl (Nat.le_of_ble_eq_true rfl) (fun p e s m av below meth cd Q B H locs ls X hret hl hP hD hS => ?_)
  have hx := X.1.1
  have hb := X.1.2.1
  have hl : lv_has ls 7 [(0, .ref (A 0)), (1, .int x1), (2, .int x2)] := hl
  have b_124 : ∀ (x3 : Int32) (M : CS) (H : Heap) (locs : List Loc) (ls : Array Slot), f_X6_fitsBy_124 x3 M N = some (r, M') → va_P G.1 vwCl (w_Mo G A M N) H → va_D B (w_Mo G A M N) → va_S B s.heap H locs → lv_has ls 7 [(3, .int x3)] → W p l e r_X6_fitsBy s m av below meth cd H locs 0 0 Q (F0 m 124 ls []) := by
    intro x3 M H locs ls hf hP hD hS hl
    unfold f_X6_fitsBy_124 at hf
    refine lv_iload_n (pc := 124) hx hb dX6_fitsBy_124 rfl (lv_at hl 0 rfl) ?_
    obtain ⟨hz, hf⟩ := ck_some hf
    cases hf
    exact hret _ _ _ _ (isb_or hz) dX6_fitsBy_125 hP hD hS
  have l_5 : ∀ (n5 : Nat), ∀ (x1 : Int32) (x2 : Int32) (x3 : Int32) (x4 : Int32) (M : CS) (H : Heap) (locs : List Loc) (ls : Array Slot), f_X6_fitsBy_5 n5 x1 x2 x3 x4 M N = some (r, M') → va_P G.1 vwCl (w_Mo G A M N) H → va_D B (w_Mo G A M N) → va_S B s.heap H locs → lv_has ls 7 [(0, .ref (A 0)), (1, .int x1), (2, .int x2), (3, .int x3), (4, .int x4)] → W p l e r_X6_fitsBy s m av below meth cd H locs 0 0 Q (F0 m 5 ls []) := by
    intro n5
    induction n5 with
    | zero =>
      intro x1 x2 x3 x4 M H locs ls hf hP hD hS hl
      rw [f_X6_fitsBy_5] at hf
      cases hf
    | succ n5 ih5 =>
      have l_31 : ∀ (n31 : Nat), ∀ (x1 : Int32) (x2 : Int32) (x3 : Int32) (x4 : Int32) (x5 : Int32) (M : CS) (H : Heap) (locs : List Loc) (ls : Array Slot), f_X6_fitsBy_31 (f_X6_fitsBy_5 n5) n31 x1 x2 x3 x4 x5 M N = some (r, M') → va_P G.1 vwCl (w_Mo G A M N) H → va_D B (w_Mo G A M N) → va_S B s.heap H locs → lv_has ls 7 [(0, .ref (A 0)), (1, .int x1), (2, .int x2), (3, .int x3), (4, .int x4), (5, .int x5)] → W p l e r_X6_fitsBy s m av below meth cd H locs 0 0 Q (F0 m 31 ls []) := by
        intro n31
        induction n31 with
        | zero =>
          intro x1 x2 x3 x4 x5 M H locs ls hf hP hD hS hl
          rw [f_X6_fitsBy_31] at hf
          cases hf
        | succ n31 ih31 =>
          have b_111 : ∀ (x1 : Int32) (x2 : Int32) (x4 : Int32) (x5 : Int32) (t0 : Int32) (M : CS) (H : Heap) (locs : List Loc) (ls : Array Slot), f_X6_fitsBy_111 (f_X6_fitsBy_5 n5) (f_X6_fitsBy_31 (f_X6_fitsBy_5 n5) n31) x1 x2 x4 x5 t0 M N = some (r, M') → va_P G.1 vwCl (w_Mo G A M N) H → va_D B (w_Mo G A M N) → va_S B s.heap H locs → lv_has ls 7 [(0, .ref (A 0)), (1, .int x1), (2, .int x2), (4, .int x4), (5, .int x5)] → W p l e r_X6_fitsBy s m av below meth cd H locs 0 0 Q (F0 m 111 ls [.int t0]) := by
            intro x1 x2 x4 x5 t0 M H locs ls hf hP hD hS hl
            unfold f_X6_fitsBy_111 at hf
            refine lv_istore_n (pc := 111) (lv' := [(3, .int t0), (0, .ref (A 0)), (1, .int x1), (2, .int x2), (4, .int x4), (5, .int x5)]) hx hb dX6_fitsBy_111 rfl hl (by decide) rfl (fun ls hl => ?_)
            refine lv_iinc (pc := 112) (v := (x5 + (4 : Int32))) (lv' := [(5, .int (x5 + (4 : Int32))), (3, .int t0), (0, .ref (A 0)), (1, .int x1), (2, .int x2), (4, .int x4)]) hx hb dX6_fitsBy_112 hl (k := 5) rfl rfl (by decide) rfl (fun ls hl => ?_)
            refine lv_goto (pc := 115) (tgt := 31) hx hb dX6_fitsBy_115 (by decide) ?_
            exact ih31 _ _ _ _ _ _ H locs ls hf hP hD hS (lv_sub hl [2, 3, 4, 1, 5, 0] rfl)
          have b_110 : ∀ (x1 : Int32) (x2 : Int32) (x4 : Int32) (x5 : Int32) (M : CS) (H : Heap) (locs : List Loc) (ls : Array Slot), f_X6_fitsBy_110 (f_X6_fitsBy_5 n5) (f_X6_fitsBy_31 (f_X6_fitsBy_5 n5) n31) x1 x2 x4 x5 M N = some (r, M') → va_P G.1 vwCl (w_Mo G A M N) H → va_D B (w_Mo G A M N) → va_S B s.heap H locs → lv_has ls 7 [(0, .ref (A 0)), (1, .int x1), (2, .int x2), (4, .int x4), (5, .int x5)] → W p l e r_X6_fitsBy s m av below meth cd H locs 0 0 Q (F0 m 110 ls []) := by
            intro x1 x2 x4 x5 M H locs ls hf hP hD hS hl
            unfold f_X6_fitsBy_110 at hf
            refine lv_iconst (pc := 110) (v := (0 : Int32)) hx hb dX6_fitsBy_110 (by decide) ?_
            exact b_111 _ _ _ _ _ _ H locs ls hf hP hD hS (lv_sub hl [0, 1, 2, 3, 4] rfl)
          have b_106 : ∀ (x1 : Int32) (x2 : Int32) (x4 : Int32) (x5 : Int32) (M : CS) (H : Heap) (locs : List Loc) (ls : Array Slot), f_X6_fitsBy_106 (f_X6_fitsBy_5 n5) (f_X6_fitsBy_31 (f_X6_fitsBy_5 n5) n31) x1 x2 x4 x5 M N = some (r, M') → va_P G.1 vwCl (w_Mo G A M N) H → va_D B (w_Mo G A M N) → va_S B s.heap H locs → lv_has ls 7 [(0, .ref (A 0)), (1, .int x1), (2, .int x2), (4, .int x4), (5, .int x5)] → W p l e r_X6_fitsBy s m av below meth cd H locs 0 0 Q (F0 m 106 ls []) := by
            intro x1 x2 x4 x5 M H locs ls hf hP hD hS hl
            unfold f_X6_fitsBy_106 at hf
            refine lv_iconst (pc := 106) (v := (1 : Int32)) hx hb dX6_fitsBy_106 (by decide) ?_
            refine lv_goto (pc := 107) (tgt := 111) hx hb dX6_fitsBy_107 (by decide) ?_
            exact b_111 _ _ _ _ _ _ H locs ls hf hP hD hS (lv_sub hl [0, 1, 2, 3, 4] rfl)
          intro x1 x2 x3 x4 x5 M H locs ls hf hP hD hS hl
          rw [f_X6_fitsBy_31] at hf
          refine lv_iload (pc := 31) hx hb dX6_fitsBy_31 (lv_at hl 5 rfl) ?_
          refine lv_aload_n (pc := 33) hx hb dX6_fitsBy_33 rfl (lv_at hl 0 rfl) ?_
          refine wget (pc := 34) X (fun _ h9 => List.mem_cons_of_mem _ (List.mem_append_right _ h9)) hP 0 (at_Mo_0 G A M N) rfl 0 (by decide) (List.mem_cons_of_mem _ (List.mem_append_left _ (List.mem_of_getElem? (i := 1) rfl))) rfl (v := .ref (A 1)) rfl dX6_fitsBy_34 ?_
          refine lv_iload_n (pc := 37) hx hb dX6_fitsBy_37 rfl (lv_at hl 1 rfl) ?_
          obtain ⟨hi, hf⟩ := ck_some hf
          refine wiald (pc := 38) X hP 1 (at_Mo_1 G A M N) hi rfl dX6_fitsBy_38 ?_
          refine lv_icmp_ge (pc := 39) (tgt := 118) hx hb dX6_fitsBy_39 (by decide) (fun h4 => ?_) (fun h4 => ?_)
          · have hf := br_y h4 hf
            refine lv_iinc (pc := 118) (v := (x4 + (1 : Int32))) (lv' := [(4, .int (x4 + (1 : Int32))), (0, .ref (A 0)), (1, .int x1), (2, .int x2), (3, .int x3), (5, .int x5)]) hx hb dX6_fitsBy_118 hl (k := 4) rfl rfl (by decide) rfl (fun ls hl => ?_)
            refine lv_goto (pc := 121) (tgt := 5) hx hb dX6_fitsBy_121 (by decide) ?_
            exact ih5 _ _ _ _ _ H locs ls hf hP hD hS (lv_sub hl [1, 2, 3, 4, 0] rfl)
          · have hf := br_n h4 hf
            refine lv_bipush (pc := 42) (v := (40 : Int32)) hx hb dX6_fitsBy_42 (by decide) ?_
            refine lv_iload_n (pc := 44) hx hb dX6_fitsBy_44 rfl (lv_at hl 1 rfl) ?_
            refine lv_imul (pc := 45) hx hb dX6_fitsBy_45 ?_
            refine lv_iload (pc := 46) hx hb dX6_fitsBy_46 (lv_at hl 5 rfl) ?_
            refine lv_iadd (pc := 48) hx hb dX6_fitsBy_48 ?_
            refine lv_istore (pc := 49) (lv' := [(6, .int (((40 : Int32) * x1) + x5)), (0, .ref (A 0)), (1, .int x1), (2, .int x2), (3, .int x3), (4, .int x4), (5, .int x5)]) hx hb dX6_fitsBy_49 hl (by decide) rfl (fun ls hl => ?_)
            refine lv_iload_n (pc := 51) hx hb dX6_fitsBy_51 rfl (lv_at hl 4 rfl) ?_
            refine lv_if_eq (pc := 52) (tgt := 110) hx hb dX6_fitsBy_52 (by decide) (fun h3 => ?_) (fun h3 => ?_)
            · have hf := br_y h3 hf
              exact b_110 _ _ _ _ _ H locs ls hf hP hD hS (lv_sub hl [1, 2, 3, 5, 6] rfl)
            · have hf := br_n h3 hf
              refine lv_aload_n (pc := 55) hx hb dX6_fitsBy_55 rfl (lv_at hl 1 rfl) ?_
              refine wget (pc := 56) X (fun _ h9 => List.mem_cons_of_mem _ (List.mem_append_right _ h9)) hP 0 (at_Mo_0 G A M N) rfl 1 (by decide) (List.mem_cons_of_mem _ (List.mem_append_left _ (List.mem_of_getElem? (i := 2) rfl))) rfl (v := .ref (A 2)) rfl dX6_fitsBy_56 ?_
              refine lv_iload (pc := 59) hx hb dX6_fitsBy_59 (lv_at hl 0 rfl) ?_
              refine lv_iconst (pc := 61) (v := (2 : Int32)) hx hb dX6_fitsBy_61 (by decide) ?_
              refine lv_iadd (pc := 62) hx hb dX6_fitsBy_62 ?_
              obtain ⟨hi, hf⟩ := ck_some hf
              refine wiald (pc := 63) X hP 2 (at_Mo_2 G A M N) hi rfl dX6_fitsBy_63 ?_
              refine lv_iload (pc := 64) hx hb dX6_fitsBy_64 (lv_at hl 5 rfl) ?_
              refine lv_icmp_ne (pc := 66) (tgt := 106) hx hb dX6_fitsBy_66 (by decide) (fun h2 => ?_) (fun h2 => ?_)
              · have hf := br_n h2 hf
                exact b_106 _ _ _ _ _ H locs ls hf hP hD hS (lv_sub hl [1, 2, 3, 5, 6] rfl)
              · have hf := br_y h2 hf
                refine lv_aload_n (pc := 69) hx hb dX6_fitsBy_69 rfl (lv_at hl 1 rfl) ?_
                refine wget (pc := 70) X (fun _ h9 => List.mem_cons_of_mem _ (List.mem_append_right _ h9)) hP 0 (at_Mo_0 G A M N) rfl 15 (by decide) (List.mem_cons_of_mem _ (List.mem_append_left _ (List.mem_of_getElem? (i := 3) rfl))) rfl (v := .ref (A 11)) rfl dX6_fitsBy_70 ?_
                refine lv_bipush (pc := 73) (v := (20 : Int32)) hx hb dX6_fitsBy_73 (by decide) ?_
                refine lv_aload_n (pc := 75) hx hb dX6_fitsBy_75 rfl (lv_at hl 1 rfl) ?_
                refine wget (pc := 76) X (fun _ h9 => List.mem_cons_of_mem _ (List.mem_append_right _ h9)) hP 0 (at_Mo_0 G A M N) rfl 1 (by decide) (List.mem_cons_of_mem _ (List.mem_append_left _ (List.mem_of_getElem? (i := 2) rfl))) rfl (v := .ref (A 2)) rfl dX6_fitsBy_76 ?_
                refine lv_iload (pc := 79) hx hb dX6_fitsBy_79 (lv_at hl 0 rfl) ?_
                obtain ⟨hi, hf⟩ := ck_some hf
                refine wiald (pc := 81) X hP 2 (at_Mo_2 G A M N) hi rfl dX6_fitsBy_81 ?_
                refine lv_imul (pc := 82) hx hb dX6_fitsBy_82 ?_
                refine lv_aload_n (pc := 83) hx hb dX6_fitsBy_83 rfl (lv_at hl 1 rfl) ?_
                refine wget (pc := 84) X (fun _ h9 => List.mem_cons_of_mem _ (List.mem_append_right _ h9)) hP 0 (at_Mo_0 G A M N) rfl 1 (by decide) (List.mem_cons_of_mem _ (List.mem_append_left _ (List.mem_of_getElem? (i := 2) rfl))) rfl (v := .ref (A 2)) rfl dX6_fitsBy_84 ?_
                refine lv_iload (pc := 87) hx hb dX6_fitsBy_87 (lv_at hl 0 rfl) ?_
                refine lv_iconst (pc := 89) (v := (1 : Int32)) hx hb dX6_fitsBy_89 (by decide) ?_
                refine lv_iadd (pc := 90) hx hb dX6_fitsBy_90 ?_
                obtain ⟨hi, hf⟩ := ck_some hf
                refine wiald (pc := 91) X hP 2 (at_Mo_2 G A M N) hi rfl dX6_fitsBy_91 ?_
                refine lv_iadd (pc := 92) hx hb dX6_fitsBy_92 ?_
                obtain ⟨hi, hf⟩ := ck_some hf
                refine wiald (pc := 93) X hP 11 (at_Mo_11 G A M N) hi rfl dX6_fitsBy_93 ?_
                refine lv_aload_n (pc := 94) hx hb dX6_fitsBy_94 rfl (lv_at hl 1 rfl) ?_
                refine wget (pc := 95) X (fun _ h9 => List.mem_cons_of_mem _ (List.mem_append_right _ h9)) hP 0 (at_Mo_0 G A M N) rfl 1 (by decide) (List.mem_cons_of_mem _ (List.mem_append_left _ (List.mem_of_getElem? (i := 2) rfl))) rfl (v := .ref (A 2)) rfl dX6_fitsBy_95 ?_
                refine lv_iload (pc := 98) hx hb dX6_fitsBy_98 (lv_at hl 0 rfl) ?_
                refine lv_iconst (pc := 100) (v := (3 : Int32)) hx hb dX6_fitsBy_100 (by decide) ?_
                refine lv_iadd (pc := 101) hx hb dX6_fitsBy_101 ?_
                obtain ⟨hi, hf⟩ := ck_some hf
                refine wiald (pc := 102) X hP 2 (at_Mo_2 G A M N) hi rfl dX6_fitsBy_102 ?_
                refine lv_icmp_ne (pc := 103) (tgt := 110) hx hb dX6_fitsBy_103 (by decide) (fun h1 => ?_) (fun h1 => ?_)
                · have hf := br_n h1 hf
                  exact b_110 _ _ _ _ _ H locs ls hf hP hD hS (lv_sub hl [1, 2, 3, 5, 6] rfl)
                · have hf := br_y h1 hf
                  exact b_106 _ _ _ _ _ H locs ls hf hP hD hS (lv_sub hl [1, 2, 3, 5, 6] rfl)
      intro x1 x2 x3 x4 M H locs ls hf hP hD hS hl
      rw [f_X6_fitsBy_5] at hf
      refine lv_iload (pc := 5) hx hb dX6_fitsBy_5 (lv_at hl 4 rfl) ?_
      refine lv_aload_n (pc := 7) hx hb dX6_fitsBy_7 rfl (lv_at hl 0 rfl) ?_
      refine wget (pc := 8) X (fun _ h9 => List.mem_cons_of_mem _ (List.mem_append_right _ h9)) hP 0 (at_Mo_0 G A M N) rfl 4 (by decide) (List.mem_cons_of_mem _ (List.mem_append_left _ (List.mem_of_getElem? (i := 0) rfl))) rfl (v := .ref (A 5)) rfl dX6_fitsBy_8 ?_
      refine lv_iconst (pc := 11) (v := (0 : Int32)) hx hb dX6_fitsBy_11 (by decide) ?_
      refine wiald (pc := 12) X hP 5 (at_Mo_5 G A M N) (by decide) (j := 0) (by decide) dX6_fitsBy_12 ?_
      refine lv_icmp_ge (pc := 13) (tgt := 124) hx hb dX6_fitsBy_13 (by decide) (fun h6 => ?_) (fun h6 => ?_)
      · have hf := br_y h6 hf
        exact b_124 _ _ H locs ls hf hP hD hS (lv_sub hl [3] rfl)
      · have hf := br_n h6 hf
        refine lv_iload_n (pc := 16) hx hb dX6_fitsBy_16 rfl (lv_at hl 3 rfl) ?_
        refine lv_if_eq (pc := 17) (tgt := 124) hx hb dX6_fitsBy_17 (by decide) (fun h5 => ?_) (fun h5 => ?_)
        · have hf := br_y h5 hf
          exact b_124 _ _ H locs ls hf hP hD hS (lv_sub hl [3] rfl)
        · have hf := br_n h5 hf
          refine lv_aload_n (pc := 20) hx hb dX6_fitsBy_20 rfl (lv_at hl 0 rfl) ?_
          refine lv_iload (pc := 21) hx hb dX6_fitsBy_21 (lv_at hl 4 rfl) ?_
          refine lv_iload_n (pc := 23) hx hb dX6_fitsBy_23 rfl (lv_at hl 2 rfl) ?_
          refine lv_iconst (pc := 24) (v := (-1 : Int32)) hx hb dX6_fitsBy_24 (by decide) ?_
          obtain ⟨M1, hc1, hf⟩ := ob1_some hf
          refine endv X.2.2.2.2 (runV (pc := 25) (As := [.int x4, .int x2, .int (-1 : Int32)]) (rest := []) X (c_X6_lays G l A H.size M N x4 x2 (-1 : Int32) M1 hc1) gX6_fitsBy_X6_lays k_X6_lays ⟨rfl, rfl⟩ ⟨Nat.le_of_ble_eq_true rfl, Nat.le_of_ble_eq_true rfl⟩ (EM.all (w_Mo G A M N) (w_Mo G A M1 N)) hP hD hS (ci := 6) rfl rfl (at_Mo_0 G A M N) rfl hl.1 rfl (Nat.le_of_ble_eq_true rfl) ⟨Nat.zero_le _, Nat.zero_le _⟩ dX6_fitsBy_25) (EM.all (w_Mo G A M N) (w_Mo G A M1 N)) hP hD hS (fun H locs hP hD hS => ?_)
          refine lv_iconst (pc := 28) (v := (0 : Int32)) hx hb dX6_fitsBy_28 (by decide) ?_
          refine lv_istore (pc := 29) (lv' := [(5, .int (0 : Int32)), (0, .ref (A 0)), (1, .int x1), (2, .int x2), (3, .int x3), (4, .int x4)]) hx hb dX6_fitsBy_29 hl (by decide) rfl (fun ls hl => ?_)
          exact l_31 FU _ _ _ _ _ _ H locs ls hf hP hD hS (lv_sub hl [1, 2, 3, 4, 5, 0] rfl)
  unfold f_X6_fitsBy at hf
  refine lv_iconst (pc := 0) (v := (1 : Int32)) hx hb dX6_fitsBy_0 (by decide) ?_
  refine lv_istore_n (pc := 1) (lv' := [(3, .int (1 : Int32)), (0, .ref (A 0)), (1, .int x1), (2, .int x2)]) hx hb dX6_fitsBy_1 rfl hl (by decide) rfl (fun ls hl => ?_)
  refine lv_iconst (pc := 2) (v := (0 : Int32)) hx hb dX6_fitsBy_2 (by decide) ?_
  refine lv_istore (pc := 3) (lv' := [(4, .int (0 : Int32)), (3, .int (1 : Int32)), (0, .ref (A 0)), (1, .int x1), (2, .int x2)]) hx hb dX6_fitsBy_3 hl (by decide) rfl (fun ls hl => ?_)
  exact l_5 FU _ _ _ _ _ H locs ls hf hP hD hS (lv_sub hl [2, 3, 4, 1, 0] rfl)
def r_X6_isDeed : Room := { frames := 1, cells := 0, slots := 0, locals := 25 }
set_option maxHeartbeats 4000000 in
set_option maxRecDepth 100000 in
theorem c_X6_isDeed (G : GT) (l : Launch) (sz : Nat) (x0 : Int32) (r : Int32) (hf : f_X6_isDeed x0 = some r) : MTi l yX6_isDeed wsX6_isDeed r_X6_isDeed [.int x0] G [] [] sz r := by
  refine MTz.of (cc := cX6_isDeed) (maxL := 1) (by decide +kernel) rfl (Nat.le_of_ble_eq_true rfl) (fun p e s m av below meth cd Q B H locs ls X hret hl hP hD hS => ?_)
  have hx := X.1.1
  have hb := X.1.2.1
  have hl : lv_has ls 1 [(0, .int x0)] := hl
  unfold f_X6_isDeed at hf
  refine lv_iload_n (pc := 0) hx hb dX6_isDeed_0 rfl (lv_at hl 0 rfl) ?_
  refine lv_i2l (pc := 1) (v := (x0).toInt64) hx hb dX6_isDeed_1 rfl ?_
  refine lv_lconst (pc := 2) (v := (0 : Int64)) hx hb dX6_isDeed_2 (by decide) ?_
  refine lv_ldc2 (pc := 3) (v := 9) hx hb X.1.2.2.2.1 (X.1.2.2.2.2 _ (List.mem_cons_of_mem _ (List.mem_of_getElem? (i := 0) rfl))) dX6_isDeed_3 ?_
  obtain ⟨r1, hc1, hf⟩ := ob1_some hf
  refine endi X.2.2.2.2 (runS (pc := 6) (As := [.long ((x0).toInt64), .long (0 : Int64), .long (9 : Int64)]) (rest := []) X (c_X6_in G l  H.size ((x0).toInt64) (0 : Int64) (9 : Int64) r1 hc1) gX6_isDeed_X6_in k_X6_in ⟨rfl, rfl⟩ ⟨Nat.le_of_ble_eq_true rfl, Nat.le_of_ble_eq_true rfl⟩ (EM.nil []) hP hD hS rfl hl.1 rfl (Nat.le_of_ble_eq_true rfl) ⟨Nat.zero_le _, Nat.zero_le _⟩ dX6_isDeed_6) (EM.nil []) hP hD hS (fun H locs hP hD hS => ?_)
  obtain ⟨hz, hf⟩ := ck_some hf
  cases hf
  exact hret _ _ _ _ (isb_or hz) dX6_isDeed_9 hP hD hS
def r_X6_fours : Room := { frames := 2, cells := 0, slots := 0, locals := 46 }
set_option maxHeartbeats 4000000 in
set_option maxRecDepth 100000 in
theorem c_X6_fours (G : GT) (l : Launch) (A : Nat → Nat) (sz : Nat) (M : CS) (N : JS) (x1 : Int32) (r : Int32) (M' : CS) (hf : f_X6_fours M N x1 = some (r, M')) : MTi l yX6_fours wsX6_fours r_X6_fours [.ref (A 0), .int x1] G (w_Mo G A M N) (w_Mo G A M' N) sz r := by
  refine MTi.of (cc := cX6_fours) (maxL := 5) (by decide +kernel) rfl (Nat.le_of_ble_eq_true rfl) (fun p e s m av below meth cd Q B H locs ls X hret hl hP hD hS => ?_)
  have hx := X.1.1
  have hb := X.1.2.1
  have hl : lv_has ls 5 [(0, .ref (A 0)), (1, .int x1)] := hl
  have b_163 : ∀ (t0 : Int32) (M : CS) (H : Heap) (locs : List Loc) (ls : Array Slot), f_X6_fours_163 t0 M N = some (r, M') → va_P G.1 vwCl (w_Mo G A M N) H → va_D B (w_Mo G A M N) → va_S B s.heap H locs → lv_has ls 5 [] → W p l e r_X6_fours s m av below meth cd H locs 0 0 Q (F0 m 163 ls [.int t0]) := by
    intro t0 M H locs ls hf hP hD hS hl
    unfold f_X6_fours_163 at hf
    cases hf
    exact hret _ _ _ _ dX6_fours_163 hP hD hS
  have l_57 : ∀ (n57 : Nat), ∀ (x1 : Int32) (x2 : Int32) (x3 : Int32) (M : CS) (H : Heap) (locs : List Loc) (ls : Array Slot), f_X6_fours_57 n57 x1 x2 x3 M N = some (r, M') → va_P G.1 vwCl (w_Mo G A M N) H → va_D B (w_Mo G A M N) → va_S B s.heap H locs → lv_has ls 5 [(0, .ref (A 0)), (1, .int x1), (2, .int x2), (3, .int x3)] → W p l e r_X6_fours s m av below meth cd H locs 0 0 Q (F0 m 57 ls []) := by
    intro n57
    induction n57 with
    | zero =>
      intro x1 x2 x3 M H locs ls hf hP hD hS hl
      rw [f_X6_fours_57] at hf
      cases hf
    | succ n57 ih57 =>
      have b_143 : ∀ (x1 : Int32) (x3 : Int32) (t0 : Int32) (M : CS) (H : Heap) (locs : List Loc) (ls : Array Slot), f_X6_fours_143 (f_X6_fours_57 n57) x1 x3 t0 M N = some (r, M') → va_P G.1 vwCl (w_Mo G A M N) H → va_D B (w_Mo G A M N) → va_S B s.heap H locs → lv_has ls 5 [(0, .ref (A 0)), (1, .int x1), (3, .int x3)] → W p l e r_X6_fours s m av below meth cd H locs 0 0 Q (F0 m 143 ls [.int t0]) := by
        intro x1 x3 t0 M H locs ls hf hP hD hS hl
        unfold f_X6_fours_143 at hf
        refine lv_istore_n (pc := 143) (lv' := [(2, .int t0), (0, .ref (A 0)), (1, .int x1), (3, .int x3)]) hx hb dX6_fours_143 rfl hl (by decide) rfl (fun ls hl => ?_)
        refine lv_iinc (pc := 144) (v := (x3 + (4 : Int32))) (lv' := [(3, .int (x3 + (4 : Int32))), (2, .int t0), (0, .ref (A 0)), (1, .int x1)]) hx hb dX6_fours_144 hl (k := 3) rfl rfl (by decide) rfl (fun ls hl => ?_)
        refine lv_goto (pc := 147) (tgt := 57) hx hb dX6_fours_147 (by decide) ?_
        exact ih57 _ _ _ _ H locs ls hf hP hD hS (lv_sub hl [2, 3, 1, 0] rfl)
      have b_142 : ∀ (x1 : Int32) (x3 : Int32) (M : CS) (H : Heap) (locs : List Loc) (ls : Array Slot), f_X6_fours_142 (f_X6_fours_57 n57) x1 x3 M N = some (r, M') → va_P G.1 vwCl (w_Mo G A M N) H → va_D B (w_Mo G A M N) → va_S B s.heap H locs → lv_has ls 5 [(0, .ref (A 0)), (1, .int x1), (3, .int x3)] → W p l e r_X6_fours s m av below meth cd H locs 0 0 Q (F0 m 142 ls []) := by
        intro x1 x3 M H locs ls hf hP hD hS hl
        unfold f_X6_fours_142 at hf
        refine lv_iconst (pc := 142) (v := (0 : Int32)) hx hb dX6_fours_142 (by decide) ?_
        exact b_143 _ _ _ _ H locs ls hf hP hD hS (lv_sub hl [0, 1, 2] rfl)
      intro x1 x2 x3 M H locs ls hf hP hD hS hl
      rw [f_X6_fours_57] at hf
      refine lv_iload_n (pc := 57) hx hb dX6_fours_57 rfl (lv_at hl 3 rfl) ?_
      refine lv_aload_n (pc := 58) hx hb dX6_fours_58 rfl (lv_at hl 0 rfl) ?_
      refine wget (pc := 59) X (fun _ h9 => List.mem_cons_of_mem _ (List.mem_append_right _ h9)) hP 0 (at_Mo_0 G A M N) rfl 0 (by decide) (List.mem_cons_of_mem _ (List.mem_append_left _ (List.mem_append_left _ (List.mem_of_getElem? (i := 1) rfl)))) rfl (v := .ref (A 1)) rfl dX6_fours_59 ?_
      refine lv_iload_n (pc := 62) hx hb dX6_fours_62 rfl (lv_at hl 1 rfl) ?_
      obtain ⟨hi, hf⟩ := ck_some hf
      refine wiald (pc := 63) X hP 1 (at_Mo_1 G A M N) hi rfl dX6_fours_63 ?_
      refine lv_icmp_ge (pc := 64) (tgt := 150) hx hb dX6_fours_64 (by decide) (fun h7 => ?_) (fun h7 => ?_)
      · have hf := br_y h7 hf
        refine lv_iload_n (pc := 150) hx hb dX6_fours_150 rfl (lv_at hl 2 rfl) ?_
        refine lv_if_eq (pc := 151) (tgt := 158) hx hb dX6_fours_151 (by decide) (fun h1 => ?_) (fun h1 => ?_)
        · have hf := br_y h1 hf
          refine lv_aload_n (pc := 158) hx hb dX6_fours_158 rfl (lv_at hl 0 rfl) ?_
          refine lv_iconst (pc := 159) (v := (3 : Int32)) hx hb dX6_fours_159 (by decide) ?_
          obtain ⟨r1, M1, hc1, hf⟩ := ob2_some hf
          refine endi X.2.2.2.2 (runV (pc := 160) (As := [.int (3 : Int32)]) (rest := []) X (c_X6_found G l A H.size M N (3 : Int32) r1 M1 hc1) gX6_fours_X6_found k_X6_found ⟨rfl, rfl⟩ ⟨Nat.le_of_ble_eq_true rfl, Nat.le_of_ble_eq_true rfl⟩ (EM.all (w_Mo G A M N) (w_Mo G A M1 N)) hP hD hS (ci := 6) rfl rfl (at_Mo_0 G A M N) rfl hl.1 rfl (Nat.le_of_ble_eq_true rfl) ⟨Nat.zero_le _, Nat.zero_le _⟩ dX6_fours_160) (EM.all (w_Mo G A M N) (w_Mo G A M1 N)) hP hD hS (fun H locs hP hD hS => ?_)
          exact b_163 _ _ H locs ls hf hP hD hS (lv_sub hl [] rfl)
        · have hf := br_n h1 hf
          refine lv_iconst (pc := 154) (v := (0 : Int32)) hx hb dX6_fours_154 (by decide) ?_
          refine lv_goto (pc := 155) (tgt := 163) hx hb dX6_fours_155 (by decide) ?_
          exact b_163 _ _ H locs ls hf hP hD hS (lv_sub hl [] rfl)
      · have hf := br_n h7 hf
        refine lv_bipush (pc := 67) (v := (40 : Int32)) hx hb dX6_fours_67 (by decide) ?_
        refine lv_iload_n (pc := 69) hx hb dX6_fours_69 rfl (lv_at hl 1 rfl) ?_
        refine lv_imul (pc := 70) hx hb dX6_fours_70 ?_
        refine lv_iload_n (pc := 71) hx hb dX6_fours_71 rfl (lv_at hl 3 rfl) ?_
        refine lv_iadd (pc := 72) hx hb dX6_fours_72 ?_
        refine lv_istore (pc := 73) (lv' := [(4, .int (((40 : Int32) * x1) + x3)), (0, .ref (A 0)), (1, .int x1), (2, .int x2), (3, .int x3)]) hx hb dX6_fours_73 hl (by decide) rfl (fun ls hl => ?_)
        refine lv_iload_n (pc := 75) hx hb dX6_fours_75 rfl (lv_at hl 3 rfl) ?_
        refine lv_if_eq (pc := 76) (tgt := 142) hx hb dX6_fours_76 (by decide) (fun h6 => ?_) (fun h6 => ?_)
        · have hf := br_y h6 hf
          exact b_142 _ _ _ H locs ls hf hP hD hS (lv_sub hl [1, 2, 4] rfl)
        · have hf := br_n h6 hf
          refine lv_aload_n (pc := 79) hx hb dX6_fours_79 rfl (lv_at hl 1 rfl) ?_
          refine wget (pc := 80) X (fun _ h9 => List.mem_cons_of_mem _ (List.mem_append_right _ h9)) hP 0 (at_Mo_0 G A M N) rfl 1 (by decide) (List.mem_cons_of_mem _ (List.mem_append_left _ (List.mem_append_left _ (List.mem_of_getElem? (i := 2) rfl)))) rfl (v := .ref (A 2)) rfl dX6_fours_80 ?_
          refine lv_iload (pc := 83) hx hb dX6_fours_83 (lv_at hl 0 rfl) ?_
          obtain ⟨hi, hf⟩ := ck_some hf
          refine wiald (pc := 85) X hP 2 (at_Mo_2 G A M N) hi rfl dX6_fours_85 ?_
          obtain ⟨r2, hc2, hf⟩ := ob1_some hf
          refine endi X.2.2.2.2 (runS (pc := 86) (As := [.int ((M 1) (((40 : Int32) * x1) + x3).toNatClampNeg)]) (rest := []) X (c_X6_isTown G l  H.size ((M 1) (((40 : Int32) * x1) + x3).toNatClampNeg) r2 hc2) gX6_fours_X6_isTown k_X6_isTown ⟨rfl, rfl⟩ ⟨Nat.le_of_ble_eq_true rfl, Nat.le_of_ble_eq_true rfl⟩ (EM.nil (w_Mo G A M N)) hP hD hS rfl hl.1 rfl (Nat.le_of_ble_eq_true rfl) ⟨Nat.zero_le _, Nat.zero_le _⟩ dX6_fours_86) (EM.nil (w_Mo G A M N)) hP hD hS (fun H locs hP hD hS => ?_)
          refine lv_if_eq (pc := 89) (tgt := 142) hx hb dX6_fours_89 (by decide) (fun h5 => ?_) (fun h5 => ?_)
          · have hf := br_y h5 hf
            exact b_142 _ _ _ H locs ls hf hP hD hS (lv_sub hl [1, 2, 4] rfl)
          · have hf := br_n h5 hf
            refine lv_aload_n (pc := 92) hx hb dX6_fours_92 rfl (lv_at hl 1 rfl) ?_
            refine wget (pc := 93) X (fun _ h9 => List.mem_cons_of_mem _ (List.mem_append_right _ h9)) hP 0 (at_Mo_0 G A M N) rfl 1 (by decide) (List.mem_cons_of_mem _ (List.mem_append_left _ (List.mem_append_left _ (List.mem_of_getElem? (i := 2) rfl)))) rfl (v := .ref (A 2)) rfl dX6_fours_93 ?_
            refine lv_iload (pc := 96) hx hb dX6_fours_96 (lv_at hl 0 rfl) ?_
            refine lv_iconst (pc := 98) (v := (1 : Int32)) hx hb dX6_fours_98 (by decide) ?_
            refine lv_iadd (pc := 99) hx hb dX6_fours_99 ?_
            obtain ⟨hi, hf⟩ := ck_some hf
            refine wiald (pc := 100) X hP 2 (at_Mo_2 G A M N) hi rfl dX6_fours_100 ?_
            obtain ⟨r3, hc3, hf⟩ := ob1_some hf
            refine endi X.2.2.2.2 (runS (pc := 101) (As := [.int ((M 1) ((((40 : Int32) * x1) + x3) + (1 : Int32)).toNatClampNeg)]) (rest := []) X (c_X6_isDay G l  H.size ((M 1) ((((40 : Int32) * x1) + x3) + (1 : Int32)).toNatClampNeg) r3 hc3) gX6_fours_X6_isDay k_X6_isDay ⟨rfl, rfl⟩ ⟨Nat.le_of_ble_eq_true rfl, Nat.le_of_ble_eq_true rfl⟩ (EM.nil (w_Mo G A M N)) hP hD hS rfl hl.1 rfl (Nat.le_of_ble_eq_true rfl) ⟨Nat.zero_le _, Nat.zero_le _⟩ dX6_fours_101) (EM.nil (w_Mo G A M N)) hP hD hS (fun H locs hP hD hS => ?_)
            refine lv_if_eq (pc := 104) (tgt := 142) hx hb dX6_fours_104 (by decide) (fun h4 => ?_) (fun h4 => ?_)
            · have hf := br_y h4 hf
              exact b_142 _ _ _ H locs ls hf hP hD hS (lv_sub hl [1, 2, 4] rfl)
            · have hf := br_n h4 hf
              refine lv_aload_n (pc := 107) hx hb dX6_fours_107 rfl (lv_at hl 1 rfl) ?_
              refine lv_aload_n (pc := 108) hx hb dX6_fours_108 rfl (lv_at hl 1 rfl) ?_
              refine wget (pc := 109) X (fun _ h9 => List.mem_cons_of_mem _ (List.mem_append_right _ h9)) hP 0 (at_Mo_0 G A M N) rfl 1 (by decide) (List.mem_cons_of_mem _ (List.mem_append_left _ (List.mem_append_left _ (List.mem_of_getElem? (i := 2) rfl)))) rfl (v := .ref (A 2)) rfl dX6_fours_109 ?_
              refine lv_iload (pc := 112) hx hb dX6_fours_112 (lv_at hl 0 rfl) ?_
              refine lv_iconst (pc := 114) (v := (2 : Int32)) hx hb dX6_fours_114 (by decide) ?_
              refine lv_iadd (pc := 115) hx hb dX6_fours_115 ?_
              obtain ⟨hi, hf⟩ := ck_some hf
              refine wiald (pc := 116) X hP 2 (at_Mo_2 G A M N) hi rfl dX6_fours_116 ?_
              obtain ⟨r4, hc4, hf⟩ := ob1_some hf
              refine endi X.2.2.2.2 (runV (pc := 117) (As := [.int ((M 1) ((((40 : Int32) * x1) + x3) + (2 : Int32)).toNatClampNeg)]) (rest := []) X (c_X6_isPerson G l A H.size M N ((M 1) ((((40 : Int32) * x1) + x3) + (2 : Int32)).toNatClampNeg) r4 hc4) gX6_fours_X6_isPerson k_X6_isPerson ⟨rfl, rfl⟩ ⟨Nat.le_of_ble_eq_true rfl, Nat.le_of_ble_eq_true rfl⟩ (EM.all (w_Mo G A M N) (w_Mo G A M N)) hP hD hS (ci := 6) rfl rfl (at_Mo_0 G A M N) rfl hl.1 rfl (Nat.le_of_ble_eq_true rfl) ⟨Nat.zero_le _, Nat.zero_le _⟩ dX6_fours_117) (EM.all (w_Mo G A M N) (w_Mo G A M N)) hP hD hS (fun H locs hP hD hS => ?_)
              refine lv_if_eq (pc := 120) (tgt := 142) hx hb dX6_fours_120 (by decide) (fun h3 => ?_) (fun h3 => ?_)
              · have hf := br_y h3 hf
                exact b_142 _ _ _ H locs ls hf hP hD hS (lv_sub hl [1, 2, 4] rfl)
              · have hf := br_n h3 hf
                refine lv_aload_n (pc := 123) hx hb dX6_fours_123 rfl (lv_at hl 1 rfl) ?_
                refine wget (pc := 124) X (fun _ h9 => List.mem_cons_of_mem _ (List.mem_append_right _ h9)) hP 0 (at_Mo_0 G A M N) rfl 1 (by decide) (List.mem_cons_of_mem _ (List.mem_append_left _ (List.mem_append_left _ (List.mem_of_getElem? (i := 2) rfl)))) rfl (v := .ref (A 2)) rfl dX6_fours_124 ?_
                refine lv_iload (pc := 127) hx hb dX6_fours_127 (lv_at hl 0 rfl) ?_
                refine lv_iconst (pc := 129) (v := (3 : Int32)) hx hb dX6_fours_129 (by decide) ?_
                refine lv_iadd (pc := 130) hx hb dX6_fours_130 ?_
                obtain ⟨hi, hf⟩ := ck_some hf
                refine wiald (pc := 131) X hP 2 (at_Mo_2 G A M N) hi rfl dX6_fours_131 ?_
                obtain ⟨r5, hc5, hf⟩ := ob1_some hf
                refine endi X.2.2.2.2 (runS (pc := 132) (As := [.int ((M 1) ((((40 : Int32) * x1) + x3) + (3 : Int32)).toNatClampNeg)]) (rest := []) X (c_X6_isDeed G l  H.size ((M 1) ((((40 : Int32) * x1) + x3) + (3 : Int32)).toNatClampNeg) r5 hc5) gX6_fours_X6_isDeed k_X6_isDeed ⟨rfl, rfl⟩ ⟨Nat.le_of_ble_eq_true rfl, Nat.le_of_ble_eq_true rfl⟩ (EM.nil (w_Mo G A M N)) hP hD hS rfl hl.1 rfl (Nat.le_of_ble_eq_true rfl) ⟨Nat.zero_le _, Nat.zero_le _⟩ dX6_fours_132) (EM.nil (w_Mo G A M N)) hP hD hS (fun H locs hP hD hS => ?_)
                refine lv_if_eq (pc := 135) (tgt := 142) hx hb dX6_fours_135 (by decide) (fun h2 => ?_) (fun h2 => ?_)
                · have hf := br_y h2 hf
                  exact b_142 _ _ _ H locs ls hf hP hD hS (lv_sub hl [1, 2, 4] rfl)
                · have hf := br_n h2 hf
                  refine lv_iconst (pc := 138) (v := (1 : Int32)) hx hb dX6_fours_138 (by decide) ?_
                  refine lv_goto (pc := 139) (tgt := 143) hx hb dX6_fours_139 (by decide) ?_
                  exact b_143 _ _ _ _ H locs ls hf hP hD hS (lv_sub hl [1, 2, 4] rfl)
  unfold f_X6_fours at hf
  refine lv_iload_n (pc := 0) hx hb dX6_fours_0 rfl (lv_at hl 1 rfl) ?_
  obtain ⟨r1, hc1, hf⟩ := ob1_some hf
  refine endi X.2.2.2.2 (runS (pc := 1) (As := [.int x1]) (rest := []) X (c_X6_isRow G l  H.size x1 r1 hc1) gX6_fours_X6_isRow k_X6_isRow ⟨rfl, rfl⟩ ⟨Nat.le_of_ble_eq_true rfl, Nat.le_of_ble_eq_true rfl⟩ (EM.nil (w_Mo G A M N)) hP hD hS rfl hl.1 rfl (Nat.le_of_ble_eq_true rfl) ⟨Nat.zero_le _, Nat.zero_le _⟩ dX6_fours_1) (EM.nil (w_Mo G A M N)) hP hD hS (fun H locs hP hD hS => ?_)
  refine lv_if_ne (pc := 4) (tgt := 9) hx hb dX6_fours_4 (by decide) (fun h11 => ?_) (fun h11 => ?_)
  · have hf := br_n h11 hf
    refine lv_aload_n (pc := 9) hx hb dX6_fours_9 rfl (lv_at hl 0 rfl) ?_
    refine wget (pc := 10) X (fun _ h9 => List.mem_cons_of_mem _ (List.mem_append_right _ h9)) hP 0 (at_Mo_0 G A M N) rfl 4 (by decide) (List.mem_cons_of_mem _ (List.mem_append_left _ (List.mem_append_left _ (List.mem_of_getElem? (i := 0) rfl)))) rfl (v := .ref (A 5)) rfl dX6_fours_10 ?_
    refine lv_iconst (pc := 13) (v := (0 : Int32)) hx hb dX6_fours_13 (by decide) ?_
    refine wiald (pc := 14) X hP 5 (at_Mo_5 G A M N) (by decide) (j := 0) (by decide) dX6_fours_14 ?_
    refine lv_if_ne (pc := 15) (tgt := 21) hx hb dX6_fours_15 (by decide) (fun h10 => ?_) (fun h10 => ?_)
    · have hf := br_n h10 hf
      refine lv_aload_n (pc := 21) hx hb dX6_fours_21 rfl (lv_at hl 0 rfl) ?_
      refine wget (pc := 22) X (fun _ h9 => List.mem_cons_of_mem _ (List.mem_append_right _ h9)) hP 0 (at_Mo_0 G A M N) rfl 0 (by decide) (List.mem_cons_of_mem _ (List.mem_append_left _ (List.mem_append_left _ (List.mem_of_getElem? (i := 1) rfl)))) rfl (v := .ref (A 1)) rfl dX6_fours_22 ?_
      refine lv_iload_n (pc := 25) hx hb dX6_fours_25 rfl (lv_at hl 1 rfl) ?_
      obtain ⟨hi, hf⟩ := ck_some hf
      refine wiald (pc := 26) X hP 1 (at_Mo_1 G A M N) hi rfl dX6_fours_26 ?_
      refine lv_if_ge (pc := 27) (tgt := 36) hx hb dX6_fours_27 (by decide) (fun h9 => ?_) (fun h9 => ?_)
      · have hf := br_y h9 hf
        refine lv_aload_n (pc := 36) hx hb dX6_fours_36 rfl (lv_at hl 0 rfl) ?_
        refine wget (pc := 37) X (fun _ h9 => List.mem_cons_of_mem _ (List.mem_append_right _ h9)) hP 0 (at_Mo_0 G A M N) rfl 0 (by decide) (List.mem_cons_of_mem _ (List.mem_append_left _ (List.mem_append_left _ (List.mem_of_getElem? (i := 1) rfl)))) rfl (v := .ref (A 1)) rfl dX6_fours_37 ?_
        refine lv_iload_n (pc := 40) hx hb dX6_fours_40 rfl (lv_at hl 1 rfl) ?_
        obtain ⟨hi, hf⟩ := ck_some hf
        refine wiald (pc := 41) X hP 1 (at_Mo_1 G A M N) hi rfl dX6_fours_41 ?_
        refine lv_iconst (pc := 42) (v := (4 : Int32)) hx hb dX6_fours_42 (by decide) ?_
        refine wirem (pc := 43) hx hb dX6_fours_43 (by decide) ?_
        refine lv_if_eq (pc := 44) (tgt := 53) hx hb dX6_fours_44 (by decide) (fun h8 => ?_) (fun h8 => ?_)
        · have hf := br_y h8 hf
          refine lv_iconst (pc := 53) (v := (1 : Int32)) hx hb dX6_fours_53 (by decide) ?_
          refine lv_istore_n (pc := 54) (lv' := [(2, .int (1 : Int32)), (0, .ref (A 0)), (1, .int x1)]) hx hb dX6_fours_54 rfl hl (by decide) rfl (fun ls hl => ?_)
          refine lv_iconst (pc := 55) (v := (0 : Int32)) hx hb dX6_fours_55 (by decide) ?_
          refine lv_istore_n (pc := 56) (lv' := [(3, .int (0 : Int32)), (2, .int (1 : Int32)), (0, .ref (A 0)), (1, .int x1)]) hx hb dX6_fours_56 rfl hl (by decide) rfl (fun ls hl => ?_)
          exact l_57 FU _ _ _ _ H locs ls hf hP hD hS (lv_sub hl [2, 3, 1, 0] rfl)
        · have hf := br_n h8 hf
          refine lv_aload_n (pc := 47) hx hb dX6_fours_47 rfl (lv_at hl 0 rfl) ?_
          refine lv_iconst (pc := 48) (v := (5 : Int32)) hx hb dX6_fours_48 (by decide) ?_
          obtain ⟨r2, M2, hc2, hf⟩ := ob2_some hf
          refine endi X.2.2.2.2 (runV (pc := 49) (As := [.int (5 : Int32)]) (rest := []) X (c_X6_found G l A H.size M N (5 : Int32) r2 M2 hc2) gX6_fours_X6_found k_X6_found ⟨rfl, rfl⟩ ⟨Nat.le_of_ble_eq_true rfl, Nat.le_of_ble_eq_true rfl⟩ (EM.all (w_Mo G A M N) (w_Mo G A M2 N)) hP hD hS (ci := 6) rfl rfl (at_Mo_0 G A M N) rfl hl.1 rfl (Nat.le_of_ble_eq_true rfl) ⟨Nat.zero_le _, Nat.zero_le _⟩ dX6_fours_49) (EM.all (w_Mo G A M N) (w_Mo G A M2 N)) hP hD hS (fun H locs hP hD hS => ?_)
          cases hf
          exact hret _ _ _ _ dX6_fours_52 hP hD hS
      · have hf := br_n h9 hf
        refine lv_aload_n (pc := 30) hx hb dX6_fours_30 rfl (lv_at hl 0 rfl) ?_
        refine lv_iconst (pc := 31) (v := (1 : Int32)) hx hb dX6_fours_31 (by decide) ?_
        obtain ⟨r3, M3, hc3, hf⟩ := ob2_some hf
        refine endi X.2.2.2.2 (runV (pc := 32) (As := [.int (1 : Int32)]) (rest := []) X (c_X6_found G l A H.size M N (1 : Int32) r3 M3 hc3) gX6_fours_X6_found k_X6_found ⟨rfl, rfl⟩ ⟨Nat.le_of_ble_eq_true rfl, Nat.le_of_ble_eq_true rfl⟩ (EM.all (w_Mo G A M N) (w_Mo G A M3 N)) hP hD hS (ci := 6) rfl rfl (at_Mo_0 G A M N) rfl hl.1 rfl (Nat.le_of_ble_eq_true rfl) ⟨Nat.zero_le _, Nat.zero_le _⟩ dX6_fours_32) (EM.all (w_Mo G A M N) (w_Mo G A M3 N)) hP hD hS (fun H locs hP hD hS => ?_)
        cases hf
        exact hret _ _ _ _ dX6_fours_35 hP hD hS
    · have hf := br_y h10 hf
      refine lv_bipush (pc := 18) (v := (-4 : Int32)) hx hb dX6_fours_18 (by decide) ?_
      cases hf
      exact hret _ _ _ _ dX6_fours_20 hP hD hS
  · have hf := br_y h11 hf
    refine lv_iconst (pc := 7) (v := (-1 : Int32)) hx hb dX6_fours_7 (by decide) ?_
    cases hf
    exact hret _ _ _ _ dX6_fours_8 hP hD hS
def r_X6_fits : Room := { frames := 3, cells := 0, slots := 0, locals := 75 }
set_option maxHeartbeats 4000000 in
set_option maxRecDepth 100000 in
theorem c_X6_fits (G : GT) (l : Launch) (A : Nat → Nat) (sz : Nat) (M : CS) (N : JS) (x1 : Int32) (r : Int32) (M' : CS) (N' : JS) (hf : f_X6_fits M N x1 = some (r, M', N')) : MTi l yX6_fits wsX6_fits r_X6_fits [.ref (A 0), .int x1] G (w_Mo G A M N) (w_Mo G A M' N') sz r := by
  refine MTi.of (cc := cX6_fits) (maxL := 8) (by decide +kernel) rfl (Nat.le_of_ble_eq_true rfl) (fun p e s m av below meth cd Q B H locs ls X hret hl hP hD hS => ?_)
  have hx := X.1.1
  have hb := X.1.2.1
  have hl : lv_has ls 8 [(0, .ref (A 0)), (1, .int x1)] := hl
  have l_27 : ∀ (n27 : Nat), ∀ (x1 : Int32) (x3 : Int32) (x4 : Int32) (x5 : Int32) (x6 : Int32) (M : CS) (N : JS) (H : Heap) (locs : List Loc) (ls : Array Slot), f_X6_fits_27 n27 x1 x3 x4 x5 x6 M N = some (r, M', N') → va_P G.1 vwCl (w_Mo G A M N) H → va_D B (w_Mo G A M N) → va_S B s.heap H locs → lv_has ls 8 [(0, .ref (A 0)), (1, .int x1), (3, .int x3), (4, .int x4), (5, .int x5), (6, .int x6)] → W p l e r_X6_fits s m av below meth cd H locs 0 0 Q (F0 m 27 ls []) := by
    intro n27
    induction n27 with
    | zero =>
      intro x1 x3 x4 x5 x6 M N H locs ls hf hP hD hS hl
      rw [f_X6_fits_27] at hf
      cases hf
    | succ n27 ih27 =>
      have b_93 : ∀ (x1 : Int32) (x3 : Int32) (x5 : Int32) (x6 : Int32) (t0 : Int32) (M : CS) (N : JS) (H : Heap) (locs : List Loc) (ls : Array Slot), f_X6_fits_93 (f_X6_fits_27 n27) x1 x3 x5 x6 t0 M N = some (r, M', N') → va_P G.1 vwCl (w_Mo G A M N) H → va_D B (w_Mo G A M N) → va_S B s.heap H locs → lv_has ls 8 [(0, .ref (A 0)), (1, .int x1), (3, .int x3), (5, .int x5), (6, .int x6)] → W p l e r_X6_fits s m av below meth cd H locs 0 0 Q (F0 m 93 ls [.int t0]) := by
        intro x1 x3 x5 x6 t0 M N H locs ls hf hP hD hS hl
        unfold f_X6_fits_93 at hf
        refine lv_istore (pc := 93) (lv' := [(4, .int t0), (0, .ref (A 0)), (1, .int x1), (3, .int x3), (5, .int x5), (6, .int x6)]) hx hb dX6_fits_93 hl (by decide) rfl (fun ls hl => ?_)
        refine lv_iinc (pc := 95) (v := (x6 + (1 : Int32))) (lv' := [(6, .int (x6 + (1 : Int32))), (4, .int t0), (0, .ref (A 0)), (1, .int x1), (3, .int x3), (5, .int x5)]) hx hb dX6_fits_95 hl (k := 5) rfl rfl (by decide) rfl (fun ls hl => ?_)
        refine lv_goto (pc := 98) (tgt := 27) hx hb dX6_fits_98 (by decide) ?_
        exact ih27 _ _ _ _ _ _ _ H locs ls hf hP hD hS (lv_sub hl [2, 3, 4, 1, 5, 0] rfl)
      have b_91 : ∀ (x1 : Int32) (x3 : Int32) (x4 : Int32) (x5 : Int32) (x6 : Int32) (M : CS) (N : JS) (H : Heap) (locs : List Loc) (ls : Array Slot), f_X6_fits_91 (f_X6_fits_27 n27) x1 x3 x4 x5 x6 M N = some (r, M', N') → va_P G.1 vwCl (w_Mo G A M N) H → va_D B (w_Mo G A M N) → va_S B s.heap H locs → lv_has ls 8 [(0, .ref (A 0)), (1, .int x1), (3, .int x3), (4, .int x4), (5, .int x5), (6, .int x6)] → W p l e r_X6_fits s m av below meth cd H locs 0 0 Q (F0 m 91 ls []) := by
        intro x1 x3 x4 x5 x6 M N H locs ls hf hP hD hS hl
        unfold f_X6_fits_91 at hf
        refine lv_iload (pc := 91) hx hb dX6_fits_91 (lv_at hl 3 rfl) ?_
        exact b_93 _ _ _ _ _ _ _ H locs ls hf hP hD hS (lv_sub hl [0, 1, 2, 4, 5] rfl)
      have b_72 : ∀ (x1 : Int32) (x4 : Int32) (x5 : Int32) (x6 : Int32) (x7 : Int32) (t0 : Int32) (t1 : Int32) (M : CS) (N : JS) (H : Heap) (locs : List Loc) (ls : Array Slot), f_X6_fits_72 (f_X6_fits_27 n27) x1 x4 x5 x6 x7 t0 t1 M N = some (r, M', N') → va_P G.1 vwCl (w_Mo G A M N) H → va_D B (w_Mo G A M N) → va_S B s.heap H locs → lv_has ls 8 [(0, .ref (A 0)), (1, .int x1), (4, .int x4), (5, .int x5), (6, .int x6), (7, .int x7)] → W p l e r_X6_fits s m av below meth cd H locs 0 0 Q (F0 m 72 ls [.int t1, .int t0]) := by
        intro x1 x4 x5 x6 x7 t0 t1 M N H locs ls hf hP hD hS hl
        unfold f_X6_fits_72 at hf
        refine lv_iadd (pc := 72) hx hb dX6_fits_72 ?_
        refine lv_istore_n (pc := 73) (lv' := [(3, .int (t0 + t1)), (0, .ref (A 0)), (1, .int x1), (4, .int x4), (5, .int x5), (6, .int x6), (7, .int x7)]) hx hb dX6_fits_73 rfl hl (by decide) rfl (fun ls hl => ?_)
        refine lv_iload (pc := 74) hx hb dX6_fits_74 (lv_at hl 6 rfl) ?_
        refine lv_if_eq (pc := 76) (tgt := 91) hx hb dX6_fits_76 (by decide) (fun h2 => ?_) (fun h2 => ?_)
        · have hf := br_y h2 hf
          exact b_91 _ _ _ _ _ _ _ H locs ls hf hP hD hS (lv_sub hl [1, 2, 0, 3, 4, 5] rfl)
        · have hf := br_n h2 hf
          refine lv_iload (pc := 79) hx hb dX6_fits_79 (lv_at hl 3 rfl) ?_
          refine lv_bipush (pc := 81) (v := (-9 : Int32)) hx hb dX6_fits_81 (by decide) ?_
          refine lv_icmp_ne (pc := 83) (tgt := 91) hx hb dX6_fits_83 (by decide) (fun h1 => ?_) (fun h1 => ?_)
          · have hf := br_n h1 hf
            exact b_91 _ _ _ _ _ _ _ H locs ls hf hP hD hS (lv_sub hl [1, 2, 0, 3, 4, 5] rfl)
          · have hf := br_y h1 hf
            refine lv_iload (pc := 86) hx hb dX6_fits_86 (lv_at hl 5 rfl) ?_
            refine lv_goto (pc := 88) (tgt := 93) hx hb dX6_fits_88 (by decide) ?_
            exact b_93 _ _ _ _ _ _ _ H locs ls hf hP hD hS (lv_sub hl [1, 2, 0, 4, 5] rfl)
      have b_59 : ∀ (x1 : Int32) (x3 : Int32) (x4 : Int32) (x5 : Int32) (x6 : Int32) (t0 : Int32) (M : CS) (N : JS) (H : Heap) (locs : List Loc) (ls : Array Slot), f_X6_fits_59 (f_X6_fits_27 n27) x1 x3 x4 x5 x6 t0 M N = some (r, M', N') → va_P G.1 vwCl (w_Mo G A M N) H → va_D B (w_Mo G A M N) → va_S B s.heap H locs → lv_has ls 8 [(0, .ref (A 0)), (1, .int x1), (3, .int x3), (4, .int x4), (5, .int x5), (6, .int x6)] → W p l e r_X6_fits s m av below meth cd H locs 0 0 Q (F0 m 59 ls [.int t0]) := by
        intro x1 x3 x4 x5 x6 t0 M N H locs ls hf hP hD hS hl
        unfold f_X6_fits_59 at hf
        refine lv_istore (pc := 59) (lv' := [(7, .int t0), (0, .ref (A 0)), (1, .int x1), (3, .int x3), (4, .int x4), (5, .int x5), (6, .int x6)]) hx hb dX6_fits_59 hl (by decide) rfl (fun ls hl => ?_)
        refine lv_iload_n (pc := 61) hx hb dX6_fits_61 rfl (lv_at hl 3 rfl) ?_
        refine lv_iload (pc := 62) hx hb dX6_fits_62 (lv_at hl 0 rfl) ?_
        refine lv_if_eq (pc := 64) (tgt := 71) hx hb dX6_fits_64 (by decide) (fun h3 => ?_) (fun h3 => ?_)
        · have hf := br_y h3 hf
          refine lv_iconst (pc := 71) (v := (0 : Int32)) hx hb dX6_fits_71 (by decide) ?_
          exact b_72 _ _ _ _ _ _ _ _ _ H locs ls hf hP hD hS (lv_sub hl [1, 2, 4, 5, 6, 0] rfl)
        · have hf := br_n h3 hf
          refine lv_iconst (pc := 67) (v := (1 : Int32)) hx hb dX6_fits_67 (by decide) ?_
          refine lv_goto (pc := 68) (tgt := 72) hx hb dX6_fits_68 (by decide) ?_
          exact b_72 _ _ _ _ _ _ _ _ _ H locs ls hf hP hD hS (lv_sub hl [1, 2, 4, 5, 6, 0] rfl)
      have b_58 : ∀ (x1 : Int32) (x3 : Int32) (x4 : Int32) (x5 : Int32) (x6 : Int32) (M : CS) (N : JS) (H : Heap) (locs : List Loc) (ls : Array Slot), f_X6_fits_58 (f_X6_fits_27 n27) x1 x3 x4 x5 x6 M N = some (r, M', N') → va_P G.1 vwCl (w_Mo G A M N) H → va_D B (w_Mo G A M N) → va_S B s.heap H locs → lv_has ls 8 [(0, .ref (A 0)), (1, .int x1), (3, .int x3), (4, .int x4), (5, .int x5), (6, .int x6)] → W p l e r_X6_fits s m av below meth cd H locs 0 0 Q (F0 m 58 ls []) := by
        intro x1 x3 x4 x5 x6 M N H locs ls hf hP hD hS hl
        unfold f_X6_fits_58 at hf
        refine lv_iconst (pc := 58) (v := (0 : Int32)) hx hb dX6_fits_58 (by decide) ?_
        exact b_59 _ _ _ _ _ _ _ _ H locs ls hf hP hD hS (lv_sub hl [0, 1, 2, 3, 4, 5] rfl)
      intro x1 x3 x4 x5 x6 M N H locs ls hf hP hD hS hl
      rw [f_X6_fits_27] at hf
      refine lv_iload (pc := 27) hx hb dX6_fits_27 (lv_at hl 5 rfl) ?_
      refine lv_iload (pc := 29) hx hb dX6_fits_29 (lv_at hl 4 rfl) ?_
      refine lv_icmp_gt (pc := 31) (tgt := 101) hx hb dX6_fits_31 (by decide) (fun h6 => ?_) (fun h6 => ?_)
      · have hf := br_y h6 hf
        refine lv_aload_n (pc := 101) hx hb dX6_fits_101 rfl (lv_at hl 0 rfl) ?_
        refine lv_iload_n (pc := 102) hx hb dX6_fits_102 rfl (lv_at hl 2 rfl) ?_
        refine lv_i2l (pc := 103) (v := (x3).toInt64) hx hb dX6_fits_103 rfl ?_
        refine wput (pc := 104) X (fun _ h9 => List.mem_cons_of_mem _ (List.mem_append_right _ h9)) tyX6 tyX6_ok nmX6 hP hD hS 0 (at_Mo_0 G A M N) rfl 8 (by decide) (List.mem_cons_of_mem _ (List.mem_append_left _ (List.mem_append_left _ (List.mem_of_getElem? (i := 0) rfl)))) rfl rfl (ty := .long) (v := .long ((x3).toInt64)) rfl rfl rfl (Nat.le_of_ble_eq_true rfl) (st_Mo_0_8 G A M N ((x3).toInt64)) dX6_fits_104 (fun H locs hP hD hS => ?_)
        refine lv_aload_n (pc := 107) hx hb dX6_fits_107 rfl (lv_at hl 0 rfl) ?_
        refine lv_lconst (pc := 108) (v := (1 : Int64)) hx hb dX6_fits_108 (by decide) ?_
        refine wput (pc := 109) X (fun _ h9 => List.mem_cons_of_mem _ (List.mem_append_right _ h9)) tyX6 tyX6_ok nmX6 hP hD hS 0 (at_Mo_0 G A M (jset N 0 ((x3).toInt64))) rfl 9 (by decide) (List.mem_cons_of_mem _ (List.mem_append_left _ (List.mem_append_left _ (List.mem_of_getElem? (i := 1) rfl)))) rfl rfl (ty := .long) (v := .long (1 : Int64)) rfl rfl rfl (Nat.le_of_ble_eq_true rfl) (st_Mo_0_9 G A M (jset N 0 ((x3).toInt64)) (1 : Int64)) dX6_fits_109 (fun H locs hP hD hS => ?_)
        refine lv_aload_n (pc := 112) hx hb dX6_fits_112 rfl (lv_at hl 0 rfl) ?_
        refine lv_iconst (pc := 113) (v := (1 : Int32)) hx hb dX6_fits_113 (by decide) ?_
        refine lv_iload (pc := 114) hx hb dX6_fits_114 (lv_at hl 3 rfl) ?_
        obtain ⟨r1, M1, hc1, hf⟩ := ob2_some hf
        refine endi X.2.2.2.2 (runV (pc := 116) (As := [.int (1 : Int32), .int x4]) (rest := []) X (c_X6_answer G l A H.size M (jset (jset N 0 ((x3).toInt64)) 1 (1 : Int64)) (1 : Int32) x4 r1 M1 hc1) gX6_fits_X6_answer k_X6_answer ⟨rfl, rfl⟩ ⟨Nat.le_of_ble_eq_true rfl, Nat.le_of_ble_eq_true rfl⟩ (EM.all (w_Mo G A M (jset (jset N 0 ((x3).toInt64)) 1 (1 : Int64))) (w_Mo G A M1 (jset (jset N 0 ((x3).toInt64)) 1 (1 : Int64)))) hP hD hS (ci := 6) rfl rfl (at_Mo_0 G A M (jset (jset N 0 ((x3).toInt64)) 1 (1 : Int64))) rfl hl.1 rfl (Nat.le_of_ble_eq_true rfl) ⟨Nat.zero_le _, Nat.zero_le _⟩ dX6_fits_116) (EM.all (w_Mo G A M (jset (jset N 0 ((x3).toInt64)) 1 (1 : Int64))) (w_Mo G A M1 (jset (jset N 0 ((x3).toInt64)) 1 (1 : Int64)))) hP hD hS (fun H locs hP hD hS => ?_)
        cases hf
        exact hret _ _ _ _ dX6_fits_119 hP hD hS
      · have hf := br_n h6 hf
        refine lv_iload (pc := 34) hx hb dX6_fits_34 (lv_at hl 5 rfl) ?_
        refine lv_iload (pc := 36) hx hb dX6_fits_36 (lv_at hl 4 rfl) ?_
        refine lv_iconst (pc := 38) (v := (-1 : Int32)) hx hb dX6_fits_38 (by decide) ?_
        refine lv_ixor (pc := 39) hx hb dX6_fits_39 ?_
        refine lv_iand (pc := 40) hx hb dX6_fits_40 ?_
        refine lv_if_ne (pc := 41) (tgt := 58) hx hb dX6_fits_41 (by decide) (fun h5 => ?_) (fun h5 => ?_)
        · have hf := br_n h5 hf
          exact b_58 _ _ _ _ _ _ _ H locs ls hf hP hD hS (lv_sub hl [0, 1, 2, 3, 4, 5] rfl)
        · have hf := br_y h5 hf
          refine lv_aload_n (pc := 44) hx hb dX6_fits_44 rfl (lv_at hl 0 rfl) ?_
          refine lv_iload_n (pc := 45) hx hb dX6_fits_45 rfl (lv_at hl 1 rfl) ?_
          refine lv_iload (pc := 46) hx hb dX6_fits_46 (lv_at hl 5 rfl) ?_
          obtain ⟨r2, M2, hc2, hf⟩ := ob2_some hf
          refine endi X.2.2.2.2 (runV (pc := 48) (As := [.int x1, .int x6]) (rest := []) X (c_X6_fitsBy G l A H.size M N x1 x6 r2 M2 hc2) gX6_fits_X6_fitsBy k_X6_fitsBy ⟨rfl, rfl⟩ ⟨Nat.le_of_ble_eq_true rfl, Nat.le_of_ble_eq_true rfl⟩ (EM.all (w_Mo G A M N) (w_Mo G A M2 N)) hP hD hS (ci := 6) rfl rfl (at_Mo_0 G A M N) rfl hl.1 rfl (Nat.le_of_ble_eq_true rfl) ⟨Nat.zero_le _, Nat.zero_le _⟩ dX6_fits_48) (EM.all (w_Mo G A M N) (w_Mo G A M2 N)) hP hD hS (fun H locs hP hD hS => ?_)
          refine lv_if_eq (pc := 51) (tgt := 58) hx hb dX6_fits_51 (by decide) (fun h4 => ?_) (fun h4 => ?_)
          · have hf := br_y h4 hf
            exact b_58 _ _ _ _ _ _ _ H locs ls hf hP hD hS (lv_sub hl [0, 1, 2, 3, 4, 5] rfl)
          · have hf := br_n h4 hf
            refine lv_iconst (pc := 54) (v := (1 : Int32)) hx hb dX6_fits_54 (by decide) ?_
            refine lv_goto (pc := 55) (tgt := 59) hx hb dX6_fits_55 (by decide) ?_
            exact b_59 _ _ _ _ _ _ _ _ H locs ls hf hP hD hS (lv_sub hl [0, 1, 2, 3, 4, 5] rfl)
  unfold f_X6_fits at hf
  refine lv_aload_n (pc := 0) hx hb dX6_fits_0 rfl (lv_at hl 0 rfl) ?_
  refine lv_iload_n (pc := 1) hx hb dX6_fits_1 rfl (lv_at hl 1 rfl) ?_
  obtain ⟨r1, M1, hc1, hf⟩ := ob2_some hf
  refine endi X.2.2.2.2 (runV (pc := 2) (As := [.int x1]) (rest := []) X (c_X6_fours G l A H.size M N x1 r1 M1 hc1) gX6_fits_X6_fours k_X6_fours ⟨rfl, rfl⟩ ⟨Nat.le_of_ble_eq_true rfl, Nat.le_of_ble_eq_true rfl⟩ (EM.all (w_Mo G A M N) (w_Mo G A M1 N)) hP hD hS (ci := 6) rfl rfl (at_Mo_0 G A M N) rfl hl.1 rfl (Nat.le_of_ble_eq_true rfl) ⟨Nat.zero_le _, Nat.zero_le _⟩ dX6_fits_2) (EM.all (w_Mo G A M N) (w_Mo G A M1 N)) hP hD hS (fun H locs hP hD hS => ?_)
  refine lv_istore_n (pc := 5) (lv' := [(2, .int r1), (0, .ref (A 0)), (1, .int x1)]) hx hb dX6_fits_5 rfl hl (by decide) rfl (fun ls hl => ?_)
  refine lv_iload_n (pc := 6) hx hb dX6_fits_6 rfl (lv_at hl 0 rfl) ?_
  refine lv_if_eq (pc := 7) (tgt := 12) hx hb dX6_fits_7 (by decide) (fun h7 => ?_) (fun h7 => ?_)
  · have hf := br_y h7 hf
    refine lv_iconst (pc := 12) (v := (0 : Int32)) hx hb dX6_fits_12 (by decide) ?_
    refine lv_istore_n (pc := 13) (lv' := [(3, .int (0 : Int32)), (2, .int r1), (0, .ref (A 0)), (1, .int x1)]) hx hb dX6_fits_13 rfl hl (by decide) rfl (fun ls hl => ?_)
    refine lv_bipush (pc := 14) (v := (-9 : Int32)) hx hb dX6_fits_14 (by decide) ?_
    refine lv_istore (pc := 16) (lv' := [(4, .int (-9 : Int32)), (3, .int (0 : Int32)), (2, .int r1), (0, .ref (A 0)), (1, .int x1)]) hx hb dX6_fits_16 hl (by decide) rfl (fun ls hl => ?_)
    refine lv_aload_n (pc := 18) hx hb dX6_fits_18 rfl (lv_at hl 3 rfl) ?_
    obtain ⟨r2, hc2, hf⟩ := ob1_some hf
    refine endi X.2.2.2.2 (runV (pc := 19) (As := []) (rest := []) X (c_X6_live G l A H.size M1 N r2 hc2) gX6_fits_X6_live k_X6_live ⟨rfl, rfl⟩ ⟨Nat.le_of_ble_eq_true rfl, Nat.le_of_ble_eq_true rfl⟩ (EM.all (w_Mo G A M1 N) (w_Mo G A M1 N)) hP hD hS (ci := 6) rfl rfl (at_Mo_0 G A M1 N) rfl hl.1 rfl (Nat.le_of_ble_eq_true rfl) ⟨Nat.zero_le _, Nat.zero_le _⟩ dX6_fits_19) (EM.all (w_Mo G A M1 N) (w_Mo G A M1 N)) hP hD hS (fun H locs hP hD hS => ?_)
    refine lv_istore (pc := 22) (lv' := [(5, .int r2), (4, .int (-9 : Int32)), (3, .int (0 : Int32)), (2, .int r1), (0, .ref (A 0)), (1, .int x1)]) hx hb dX6_fits_22 hl (by decide) rfl (fun ls hl => ?_)
    refine lv_iconst (pc := 24) (v := (0 : Int32)) hx hb dX6_fits_24 (by decide) ?_
    refine lv_istore (pc := 25) (lv' := [(6, .int (0 : Int32)), (5, .int r2), (4, .int (-9 : Int32)), (3, .int (0 : Int32)), (2, .int r1), (0, .ref (A 0)), (1, .int x1)]) hx hb dX6_fits_25 hl (by decide) rfl (fun ls hl => ?_)
    exact l_27 FU _ _ _ _ _ _ _ H locs ls hf hP hD hS (lv_sub hl [5, 6, 3, 2, 1, 0] rfl)
  · have hf := br_n h7 hf
    refine lv_iload_n (pc := 10) hx hb dX6_fits_10 rfl (lv_at hl 0 rfl) ?_
    cases hf
    exact hret _ _ _ _ dX6_fits_11 hP hD hS
def r_X6_fraction : Room := { frames := 0, cells := 0, slots := 0, locals := 0 }
set_option maxHeartbeats 4000000 in
set_option maxRecDepth 100000 in
theorem c_X6_fraction (G : GT) (l : Launch) (A : Nat → Nat) (sz : Nat) (M : CS) (N : JS) (x1 : Int64) (x3 : Int64) (r : Int32) (N' : JS) (hf : f_X6_fraction M N x1 x3 = some (r, N')) : MTi l yX6_fraction wsX6_fraction r_X6_fraction [.ref (A 0), .long x1, .long x3] G (w_Mo G A M N) (w_Mo G A M N') sz r := by
  refine MTi.of (cc := cX6_fraction) (maxL := 11) (by decide +kernel) rfl (Nat.le_of_ble_eq_true rfl) (fun p e s m av below meth cd Q B H locs ls X hret hl hP hD hS => ?_)
  have hx := X.1.1
  have hb := X.1.2.1
  have hl : lv_has ls 11 [(0, .ref (A 0)), (1, .long x1), (3, .long x3)] := hl
  have l_6 : ∀ (n6 : Nat), ∀ (x1 : Int64) (x3 : Int64) (x5 : Int64) (x7 : Int64) (N : JS) (H : Heap) (locs : List Loc) (ls : Array Slot), f_X6_fraction_6 n6 x1 x3 x5 x7 M N = some (r, N') → va_P G.1 vwCl (w_Mo G A M N) H → va_D B (w_Mo G A M N) → va_S B s.heap H locs → lv_has ls 11 [(0, .ref (A 0)), (1, .long x1), (3, .long x3), (5, .long x5), (7, .long x7)] → W p l e r_X6_fraction s m av below meth cd H locs 0 0 Q (F0 m 6 ls []) := by
    intro n6
    induction n6 with
    | zero =>
      intro x1 x3 x5 x7 N H locs ls hf hP hD hS hl
      rw [f_X6_fraction_6] at hf
      cases hf
    | succ n6 ih6 =>
      intro x1 x3 x5 x7 N H locs ls hf hP hD hS hl
      rw [f_X6_fraction_6] at hf
      refine lv_lload (pc := 6) hx hb dX6_fraction_6 (lv_at hl 4 rfl) ?_
      refine lv_lconst (pc := 8) (v := (0 : Int64)) hx hb dX6_fraction_8 (by decide) ?_
      refine W.lcmp (pc := 9) hx hb dX6_fraction_9 ?_
      refine lv_if_eq (pc := 10) (tgt := 31) hx hb dX6_fraction_10 (by decide) (fun h1 => ?_) (fun h1 => ?_)
      · have hf := br_y h1 hf
        refine lv_aload_n (pc := 31) hx hb dX6_fraction_31 rfl (lv_at hl 0 rfl) ?_
        refine lv_lload_n (pc := 32) hx hb dX6_fraction_32 rfl (lv_at hl 1 rfl) ?_
        refine lv_lload (pc := 33) hx hb dX6_fraction_33 (lv_at hl 3 rfl) ?_
        obtain ⟨hz, hf⟩ := ck_some hf
        refine lv_ldiv (pc := 35) hx hb dX6_fraction_35 (nzL_ne hz) ?_
        refine wput (pc := 36) X (fun _ h9 => List.mem_cons_of_mem _ (List.mem_append_right _ h9)) tyX6 tyX6_ok nmX6 hP hD hS 0 (at_Mo_0 G A M N) rfl 8 (by decide) (List.mem_cons_of_mem _ (List.mem_append_left _ (List.mem_of_getElem? (i := 0) rfl))) rfl rfl (ty := .long) (v := .long (x1 / x5)) rfl rfl rfl (Nat.le_of_ble_eq_true rfl) (st_Mo_0_8 G A M N (x1 / x5)) dX6_fraction_36 (fun H locs hP hD hS => ?_)
        refine lv_aload_n (pc := 39) hx hb dX6_fraction_39 rfl (lv_at hl 0 rfl) ?_
        refine lv_lload_n (pc := 40) hx hb dX6_fraction_40 rfl (lv_at hl 2 rfl) ?_
        refine lv_lload (pc := 41) hx hb dX6_fraction_41 (lv_at hl 3 rfl) ?_
        obtain ⟨hz, hf⟩ := ck_some hf
        refine lv_ldiv (pc := 43) hx hb dX6_fraction_43 (nzL_ne hz) ?_
        refine wput (pc := 44) X (fun _ h9 => List.mem_cons_of_mem _ (List.mem_append_right _ h9)) tyX6 tyX6_ok nmX6 hP hD hS 0 (at_Mo_0 G A M (jset N 0 (x1 / x5))) rfl 9 (by decide) (List.mem_cons_of_mem _ (List.mem_append_left _ (List.mem_of_getElem? (i := 1) rfl))) rfl rfl (ty := .long) (v := .long (x3 / x5)) rfl rfl rfl (Nat.le_of_ble_eq_true rfl) (st_Mo_0_9 G A M (jset N 0 (x1 / x5)) (x3 / x5)) dX6_fraction_44 (fun H locs hP hD hS => ?_)
        refine lv_iconst (pc := 47) (v := (1 : Int32)) hx hb dX6_fraction_47 (by decide) ?_
        cases hf
        exact hret _ _ _ _ dX6_fraction_48 hP hD hS
      · have hf := br_n h1 hf
        refine lv_lload (pc := 13) hx hb dX6_fraction_13 (lv_at hl 3 rfl) ?_
        refine lv_lload (pc := 15) hx hb dX6_fraction_15 (lv_at hl 4 rfl) ?_
        obtain ⟨hz, hf⟩ := ck_some hf
        refine wlrem (pc := 17) hx hb dX6_fraction_17 (nzL_ne hz) ?_
        refine lv_lstore (pc := 18) (lv' := [(9, .long (jremL x5 x7)), (0, .ref (A 0)), (1, .long x1), (3, .long x3), (5, .long x5), (7, .long x7)]) hx hb dX6_fraction_18 hl (by decide) rfl (fun ls hl => ?_)
        refine lv_lload (pc := 20) hx hb dX6_fraction_20 (lv_at hl 5 rfl) ?_
        refine lv_lstore (pc := 22) (lv' := [(5, .long x7), (9, .long (jremL x5 x7)), (0, .ref (A 0)), (1, .long x1), (3, .long x3), (7, .long x7)]) hx hb dX6_fraction_22 hl (by decide) rfl (fun ls hl => ?_)
        refine lv_lload (pc := 24) hx hb dX6_fraction_24 (lv_at hl 1 rfl) ?_
        refine lv_lstore (pc := 26) (lv' := [(7, .long (jremL x5 x7)), (5, .long x7), (9, .long (jremL x5 x7)), (0, .ref (A 0)), (1, .long x1), (3, .long x3)]) hx hb dX6_fraction_26 hl (by decide) rfl (fun ls hl => ?_)
        refine lv_goto (pc := 28) (tgt := 6) hx hb dX6_fraction_28 (by decide) ?_
        exact ih6 _ _ _ _ _ H locs ls hf hP hD hS (lv_sub hl [3, 4, 5, 1, 0] rfl)
  unfold f_X6_fraction at hf
  refine lv_lload_n (pc := 0) hx hb dX6_fraction_0 rfl (lv_at hl 1 rfl) ?_
  refine lv_lstore (pc := 1) (lv' := [(5, .long x1), (0, .ref (A 0)), (1, .long x1), (3, .long x3)]) hx hb dX6_fraction_1 hl (by decide) rfl (fun ls hl => ?_)
  refine lv_lload_n (pc := 3) hx hb dX6_fraction_3 rfl (lv_at hl 3 rfl) ?_
  refine lv_lstore (pc := 4) (lv' := [(7, .long x3), (5, .long x1), (0, .ref (A 0)), (1, .long x1), (3, .long x3)]) hx hb dX6_fraction_4 hl (by decide) rfl (fun ls hl => ?_)
  exact l_6 FU _ _ _ _ _ H locs ls hf hP hD hS (lv_sub hl [2, 3, 4, 1, 0] rfl)
def r_X6_keep : Room := { frames := 1, cells := 0, slots := 0, locals := 25 }
set_option maxHeartbeats 4000000 in
set_option maxRecDepth 100000 in
theorem c_X6_keep (G : GT) (l : Launch) (A : Nat → Nat) (sz : Nat) (M : CS) (N : JS) (x1 : Int32) (r : Int32) (M' : CS) (hf : f_X6_keep M N x1 = some (r, M')) : MTi l yX6_keep wsX6_keep r_X6_keep [.ref (A 0), .int x1] G (w_Mo G A M N) (w_Mo G A M' N) sz r := by
  refine MTi.of (cc := cX6_keep) (maxL := 2) (by decide +kernel) rfl (Nat.le_of_ble_eq_true rfl) (fun p e s m av below meth cd Q B H locs ls X hret hl hP hD hS => ?_)
  have hx := X.1.1
  have hb := X.1.2.1
  have hl : lv_has ls 2 [(0, .ref (A 0)), (1, .int x1)] := hl
  unfold f_X6_keep at hf
  refine lv_iload_n (pc := 0) hx hb dX6_keep_0 rfl (lv_at hl 1 rfl) ?_
  refine lv_i2l (pc := 1) (v := (x1).toInt64) hx hb dX6_keep_1 rfl ?_
  refine lv_lconst (pc := 2) (v := (0 : Int64)) hx hb dX6_keep_2 (by decide) ?_
  refine lv_ldc2 (pc := 3) (v := 2) hx hb X.1.2.2.2.1 (X.1.2.2.2.2 _ (List.mem_cons_of_mem _ (List.mem_append_left _ (List.mem_of_getElem? (i := 0) rfl)))) dX6_keep_3 ?_
  obtain ⟨r1, hc1, hf⟩ := ob1_some hf
  refine endi X.2.2.2.2 (runS (pc := 6) (As := [.long ((x1).toInt64), .long (0 : Int64), .long (2 : Int64)]) (rest := []) X (c_X6_in G l  H.size ((x1).toInt64) (0 : Int64) (2 : Int64) r1 hc1) gX6_keep_X6_in k_X6_in ⟨rfl, rfl⟩ ⟨Nat.le_of_ble_eq_true rfl, Nat.le_of_ble_eq_true rfl⟩ (EM.nil (w_Mo G A M N)) hP hD hS rfl hl.1 rfl (Nat.le_of_ble_eq_true rfl) ⟨Nat.zero_le _, Nat.zero_le _⟩ dX6_keep_6) (EM.nil (w_Mo G A M N)) hP hD hS (fun H locs hP hD hS => ?_)
  refine lv_if_ne (pc := 9) (tgt := 14) hx hb dX6_keep_9 (by decide) (fun h2 => ?_) (fun h2 => ?_)
  · have hf := br_n h2 hf
    refine lv_aload_n (pc := 14) hx hb dX6_keep_14 rfl (lv_at hl 0 rfl) ?_
    refine wget (pc := 15) X (fun _ h9 => List.mem_cons_of_mem _ (List.mem_append_right _ h9)) hP 0 (at_Mo_0 G A M N) rfl 4 (by decide) (List.mem_cons_of_mem _ (List.mem_append_left _ (List.mem_of_getElem? (i := 1) rfl))) rfl (v := .ref (A 5)) rfl dX6_keep_15 ?_
    refine lv_iconst (pc := 18) (v := (0 : Int32)) hx hb dX6_keep_18 (by decide) ?_
    refine wiald (pc := 19) X hP 5 (at_Mo_5 G A M N) (by decide) (j := 0) (by decide) dX6_keep_19 ?_
    refine lv_if_ne (pc := 20) (tgt := 26) hx hb dX6_keep_20 (by decide) (fun h1 => ?_) (fun h1 => ?_)
    · have hf := br_n h1 hf
      refine lv_aload_n (pc := 26) hx hb dX6_keep_26 rfl (lv_at hl 0 rfl) ?_
      refine wget (pc := 27) X (fun _ h9 => List.mem_cons_of_mem _ (List.mem_append_right _ h9)) hP 0 (at_Mo_0 G A M N) rfl 4 (by decide) (List.mem_cons_of_mem _ (List.mem_append_left _ (List.mem_of_getElem? (i := 1) rfl))) rfl (v := .ref (A 5)) rfl dX6_keep_27 ?_
      refine lv_iconst (pc := 30) (v := (0 : Int32)) hx hb dX6_keep_30 (by decide) ?_
      refine lv_aload_n (pc := 31) hx hb dX6_keep_31 rfl (lv_at hl 0 rfl) ?_
      refine wget (pc := 32) X (fun _ h9 => List.mem_cons_of_mem _ (List.mem_append_right _ h9)) hP 0 (at_Mo_0 G A M N) rfl 5 (by decide) (List.mem_cons_of_mem _ (List.mem_append_left _ (List.mem_of_getElem? (i := 2) rfl))) rfl (v := .ref (A 6)) rfl dX6_keep_32 ?_
      refine lv_bipush (pc := 35) (v := (119 : Int32)) hx hb dX6_keep_35 (by decide) ?_
      refine lv_iload_n (pc := 37) hx hb dX6_keep_37 rfl (lv_at hl 1 rfl) ?_
      refine lv_imul (pc := 38) hx hb dX6_keep_38 ?_
      obtain ⟨M2, hc2, hf⟩ := ob1_some hf
      refine endv X.2.2.2.2 (runS (pc := 39) (As := [.ref (A 5), .int (0 : Int32), .ref (A 6), .int ((119 : Int32) * x1)]) (rest := []) X (c_X6_copies_now_keeps G l A H.size M N (0 : Int32) ((119 : Int32) * x1) M2 hc2) gX6_keep_X6_copies k_X6_copies ⟨rfl, rfl⟩ ⟨Nat.le_of_ble_eq_true rfl, Nat.le_of_ble_eq_true rfl⟩ (EM.all (w_Mo G A M N) (w_Mo G A M2 N)) hP hD hS rfl hl.1 rfl (Nat.le_of_ble_eq_true rfl) ⟨Nat.zero_le _, Nat.zero_le _⟩ dX6_keep_39) (EM.all (w_Mo G A M N) (w_Mo G A M2 N)) hP hD hS (fun H locs hP hD hS => ?_)
      refine lv_aload_n (pc := 42) hx hb dX6_keep_42 rfl (lv_at hl 0 rfl) ?_
      refine wget (pc := 43) X (fun _ h9 => List.mem_cons_of_mem _ (List.mem_append_right _ h9)) hP 0 (at_Mo_0 G A M2 N) rfl 6 (by decide) (List.mem_cons_of_mem _ (List.mem_append_left _ (List.mem_of_getElem? (i := 3) rfl))) rfl (v := .ref (A 7)) rfl dX6_keep_43 ?_
      refine lv_iload_n (pc := 46) hx hb dX6_keep_46 rfl (lv_at hl 1 rfl) ?_
      refine lv_iconst (pc := 47) (v := (1 : Int32)) hx hb dX6_keep_47 (by decide) ?_
      obtain ⟨hi, hf⟩ := ck_some hf
      refine wzast (pc := 48) X hP hD hS 7 (at_Mo_7 G A M2 N) hi rfl (sa_Mo_7 G A M2 N _) dX6_keep_48 (fun H locs hP hD hS => ?_)
      have hP : va_P G.1 vwCl (w_Mo G A (cset M2 6 x1.toNatClampNeg (1 : Int32)) N) H := hP
      have hD : va_D B (w_Mo G A (cset M2 6 x1.toNatClampNeg (1 : Int32)) N) := hD
      refine lv_aload_n (pc := 49) hx hb dX6_keep_49 rfl (lv_at hl 0 rfl) ?_
      refine wget (pc := 50) X (fun _ h9 => List.mem_cons_of_mem _ (List.mem_append_right _ h9)) hP 0 (at_Mo_0 G A (cset M2 6 x1.toNatClampNeg (1 : Int32)) N) rfl 4 (by decide) (List.mem_cons_of_mem _ (List.mem_append_left _ (List.mem_of_getElem? (i := 1) rfl))) rfl (v := .ref (A 5)) rfl dX6_keep_50 ?_
      refine lv_iconst (pc := 53) (v := (3 : Int32)) hx hb dX6_keep_53 (by decide) ?_
      refine wiald (pc := 54) X hP 5 (at_Mo_5 G A (cset M2 6 x1.toNatClampNeg (1 : Int32)) N) (by decide) (j := 3) (by decide) dX6_keep_54 ?_
      cases hf
      exact hret _ _ _ _ dX6_keep_55 hP hD hS
    · have hf := br_y h1 hf
      refine lv_bipush (pc := 23) (v := (-4 : Int32)) hx hb dX6_keep_23 (by decide) ?_
      cases hf
      exact hret _ _ _ _ dX6_keep_25 hP hD hS
  · have hf := br_y h2 hf
    refine lv_iconst (pc := 12) (v := (-1 : Int32)) hx hb dX6_keep_12 (by decide) ?_
    cases hf
    exact hret _ _ _ _ dX6_keep_13 hP hD hS
