def r_X6_mend : Room := { frames := 2, cells := 0, slots := 0, locals := 46 }
set_option maxHeartbeats 4000000 in
set_option maxRecDepth 100000 in
theorem c_X6_mend (G : GT) (l : Launch) (A : Nat → Nat) (sz : Nat) (M : CS) (N : JS) (x1 : Int32) (x2 : Int32) (r : Int32) (M' : CS) (hf : f_X6_mend M N x1 x2 = some (r, M')) : MTi l yX6_mend wsX6_mend r_X6_mend [.ref (A 0), .int x1, .int x2] G (w_Mo G A M N) (w_Mo G A M' N) sz r := by
  refine MTi.of (cc := cX6_mend) (maxL := 3) (by decide +kernel) rfl (Nat.le_of_ble_eq_true rfl) (fun p e s m av below meth cd Q B H locs ls X hret hl hP hD hS => ?_)
  have hx := X.1.1
  have hb := X.1.2.1
  have hl : lv_has ls 3 [(0, .ref (A 0)), (1, .int x1), (2, .int x2)] := hl
  have b_18 : ∀ (M : CS) (H : Heap) (locs : List Loc) (ls : Array Slot), f_X6_mend_18 M N = some (r, M') → va_P G.1 vwCl (w_Mo G A M N) H → va_D B (w_Mo G A M N) → va_S B s.heap H locs → lv_has ls 3 [] → W p l e r_X6_mend s m av below meth cd H locs 0 0 Q (F0 m 18 ls []) := by
    intro M H locs ls hf hP hD hS hl
    unfold f_X6_mend_18 at hf
    refine lv_iconst (pc := 18) (v := (-1 : Int32)) hx hb dX6_mend_18 (by decide) ?_
    cases hf
    exact hret _ _ _ _ dX6_mend_19 hP hD hS
  unfold f_X6_mend at hf
  refine lv_aload_n (pc := 0) hx hb dX6_mend_0 rfl (lv_at hl 0 rfl) ?_
  refine lv_iload_n (pc := 1) hx hb dX6_mend_1 rfl (lv_at hl 1 rfl) ?_
  obtain ⟨r1, hc1, hf⟩ := ob1_some hf
  refine endi X.2.2.2.2 (runV (pc := 2) (As := [.int x1]) (rest := []) X (c_X6_isError G l A H.size M N x1 r1 hc1) gX6_mend_X6_isError k_X6_isError ⟨rfl, rfl⟩ ⟨Nat.le_of_ble_eq_true rfl, Nat.le_of_ble_eq_true rfl⟩ (EM.all (w_Mo G A M N) (w_Mo G A M N)) hP hD hS (ci := 6) rfl rfl (at_Mo_0 G A M N) rfl hl.1 rfl (Nat.le_of_ble_eq_true rfl) ⟨Nat.zero_le _, Nat.zero_le _⟩ dX6_mend_2) (EM.all (w_Mo G A M N) (w_Mo G A M N)) hP hD hS (fun H locs hP hD hS => ?_)
  refine lv_if_eq (pc := 5) (tgt := 18) hx hb dX6_mend_5 (by decide) (fun h4 => ?_) (fun h4 => ?_)
  · have hf := br_y h4 hf
    exact b_18 _ H locs ls hf hP hD hS (lv_sub hl [] rfl)
  · have hf := br_n h4 hf
    refine lv_iload_n (pc := 8) hx hb dX6_mend_8 rfl (lv_at hl 2 rfl) ?_
    refine lv_i2l (pc := 9) (v := (x2).toInt64) hx hb dX6_mend_9 rfl ?_
    refine lv_lconst (pc := 10) (v := (0 : Int64)) hx hb dX6_mend_10 (by decide) ?_
    refine lv_lconst (pc := 11) (v := (1 : Int64)) hx hb dX6_mend_11 (by decide) ?_
    obtain ⟨r2, hc2, hf⟩ := ob1_some hf
    refine endi X.2.2.2.2 (runS (pc := 12) (As := [.long ((x2).toInt64), .long (0 : Int64), .long (1 : Int64)]) (rest := []) X (c_X6_in G l  H.size ((x2).toInt64) (0 : Int64) (1 : Int64) r2 hc2) gX6_mend_X6_in k_X6_in ⟨rfl, rfl⟩ ⟨Nat.le_of_ble_eq_true rfl, Nat.le_of_ble_eq_true rfl⟩ (EM.nil (w_Mo G A M N)) hP hD hS rfl hl.1 rfl (Nat.le_of_ble_eq_true rfl) ⟨Nat.zero_le _, Nat.zero_le _⟩ dX6_mend_12) (EM.nil (w_Mo G A M N)) hP hD hS (fun H locs hP hD hS => ?_)
    refine lv_if_ne (pc := 15) (tgt := 20) hx hb dX6_mend_15 (by decide) (fun h3 => ?_) (fun h3 => ?_)
    · have hf := br_n h3 hf
      refine lv_aload_n (pc := 20) hx hb dX6_mend_20 rfl (lv_at hl 0 rfl) ?_
      refine wget (pc := 21) X (fun _ h9 => List.mem_cons_of_mem _ (List.mem_append_right _ h9)) hP 0 (at_Mo_0 G A M N) rfl 4 (by decide) (List.mem_cons_of_mem _ (List.mem_append_left _ (List.mem_of_getElem? (i := 0) rfl))) rfl (v := .ref (A 5)) rfl dX6_mend_21 ?_
      refine lv_bipush (pc := 24) (v := (67 : Int32)) hx hb dX6_mend_24 (by decide) ?_
      refine lv_iload_n (pc := 26) hx hb dX6_mend_26 rfl (lv_at hl 1 rfl) ?_
      refine lv_iadd (pc := 27) hx hb dX6_mend_27 ?_
      obtain ⟨hi, hf⟩ := ck_some hf
      refine wiald (pc := 28) X hP 5 (at_Mo_5 G A M N) hi rfl dX6_mend_28 ?_
      refine lv_iload_n (pc := 29) hx hb dX6_mend_29 rfl (lv_at hl 2 rfl) ?_
      refine lv_icmp_ne (pc := 30) (tgt := 36) hx hb dX6_mend_30 (by decide) (fun h2 => ?_) (fun h2 => ?_)
      · have hf := br_n h2 hf
        refine lv_aload_n (pc := 36) hx hb dX6_mend_36 rfl (lv_at hl 0 rfl) ?_
        refine wget (pc := 37) X (fun _ h9 => List.mem_cons_of_mem _ (List.mem_append_right _ h9)) hP 0 (at_Mo_0 G A M N) rfl 4 (by decide) (List.mem_cons_of_mem _ (List.mem_append_left _ (List.mem_of_getElem? (i := 0) rfl))) rfl (v := .ref (A 5)) rfl dX6_mend_37 ?_
        refine lv_iconst (pc := 40) (v := (3 : Int32)) hx hb dX6_mend_40 (by decide) ?_
        refine wiald (pc := 41) X hP 5 (at_Mo_5 G A M N) (by decide) (j := 3) (by decide) dX6_mend_41 ?_
        refine lv_bipush (pc := 42) (v := (40 : Int32)) hx hb dX6_mend_42 (by decide) ?_
        refine lv_icmp_ne (pc := 44) (tgt := 50) hx hb dX6_mend_44 (by decide) (fun h1 => ?_) (fun h1 => ?_)
        · have hf := br_n h1 hf
          refine lv_aload_n (pc := 50) hx hb dX6_mend_50 rfl (lv_at hl 0 rfl) ?_
          refine wget (pc := 51) X (fun _ h9 => List.mem_cons_of_mem _ (List.mem_append_right _ h9)) hP 0 (at_Mo_0 G A M N) rfl 4 (by decide) (List.mem_cons_of_mem _ (List.mem_append_left _ (List.mem_of_getElem? (i := 0) rfl))) rfl (v := .ref (A 5)) rfl dX6_mend_51 ?_
          refine lv_bipush (pc := 54) (v := (67 : Int32)) hx hb dX6_mend_54 (by decide) ?_
          refine lv_iload_n (pc := 56) hx hb dX6_mend_56 rfl (lv_at hl 1 rfl) ?_
          refine lv_iadd (pc := 57) hx hb dX6_mend_57 ?_
          refine lv_iload_n (pc := 58) hx hb dX6_mend_58 rfl (lv_at hl 2 rfl) ?_
          obtain ⟨hi, hf⟩ := ck_some hf
          refine wiast (pc := 59) X hP hD hS 5 (at_Mo_5 G A M N) hi rfl (sa_Mo_5 G A M N _) dX6_mend_59 (fun H locs hP hD hS => ?_)
          have hP : va_P G.1 vwCl (w_Mo G A (cset M 4 ((67 : Int32) + x1).toNatClampNeg x2) N) H := hP
          have hD : va_D B (w_Mo G A (cset M 4 ((67 : Int32) + x1).toNatClampNeg x2) N) := hD
          refine lv_aload_n (pc := 60) hx hb dX6_mend_60 rfl (lv_at hl 0 rfl) ?_
          refine lv_iconst (pc := 61) (v := (2 : Int32)) hx hb dX6_mend_61 (by decide) ?_
          refine lv_iload_n (pc := 62) hx hb dX6_mend_62 rfl (lv_at hl 1 rfl) ?_
          refine lv_iadd (pc := 63) hx hb dX6_mend_63 ?_
          obtain ⟨M3, hc3, hf⟩ := ob1_some hf
          refine endv X.2.2.2.2 (runV (pc := 64) (As := [.int ((2 : Int32) + x1)]) (rest := []) X (c_X6_turns G l A H.size (cset M 4 ((67 : Int32) + x1).toNatClampNeg x2) N ((2 : Int32) + x1) M3 hc3) gX6_mend_X6_turns k_X6_turns ⟨rfl, rfl⟩ ⟨Nat.le_of_ble_eq_true rfl, Nat.le_of_ble_eq_true rfl⟩ (EM.all (w_Mo G A (cset M 4 ((67 : Int32) + x1).toNatClampNeg x2) N) (w_Mo G A M3 N)) hP hD hS (ci := 6) rfl rfl (at_Mo_0 G A (cset M 4 ((67 : Int32) + x1).toNatClampNeg x2) N) rfl hl.1 rfl (Nat.le_of_ble_eq_true rfl) ⟨Nat.zero_le _, Nat.zero_le _⟩ dX6_mend_64) (EM.all (w_Mo G A (cset M 4 ((67 : Int32) + x1).toNatClampNeg x2) N) (w_Mo G A M3 N)) hP hD hS (fun H locs hP hD hS => ?_)
          refine lv_aload_n (pc := 67) hx hb dX6_mend_67 rfl (lv_at hl 0 rfl) ?_
          obtain ⟨r4, hc4, hf⟩ := ob1_some hf
          refine endi X.2.2.2.2 (runV (pc := 68) (As := []) (rest := []) X (c_X6_mended G l A H.size M3 N r4 hc4) gX6_mend_X6_mended k_X6_mended ⟨rfl, rfl⟩ ⟨Nat.le_of_ble_eq_true rfl, Nat.le_of_ble_eq_true rfl⟩ (EM.all (w_Mo G A M3 N) (w_Mo G A M3 N)) hP hD hS (ci := 6) rfl rfl (at_Mo_0 G A M3 N) rfl hl.1 rfl (Nat.le_of_ble_eq_true rfl) ⟨Nat.zero_le _, Nat.zero_le _⟩ dX6_mend_68) (EM.all (w_Mo G A M3 N) (w_Mo G A M3 N)) hP hD hS (fun H locs hP hD hS => ?_)
          cases hf
          exact hret _ _ _ _ dX6_mend_71 hP hD hS
        · have hf := br_y h1 hf
          refine lv_bipush (pc := 47) (v := (-2 : Int32)) hx hb dX6_mend_47 (by decide) ?_
          cases hf
          exact hret _ _ _ _ dX6_mend_49 hP hD hS
      · have hf := br_y h2 hf
        refine lv_bipush (pc := 33) (v := (-4 : Int32)) hx hb dX6_mend_33 (by decide) ?_
        cases hf
        exact hret _ _ _ _ dX6_mend_35 hP hD hS
    · have hf := br_y h3 hf
      exact b_18 _ H locs ls hf hP hD hS (lv_sub hl [] rfl)
def r_X6_next : Room := { frames := 3, cells := 0, slots := 0, locals := 70 }
set_option maxHeartbeats 4000000 in
set_option maxRecDepth 100000 in
theorem c_X6_next (G : GT) (l : Launch) (A : Nat → Nat) (sz : Nat) (M : CS) (N : JS) (x1 : Int32) (x2 : Int32) (x3 : Int32) (x4 : Int32) (r : Int32) (M' : CS) (hf : f_X6_next M N x1 x2 x3 x4 = some (r, M')) : MTi l yX6_next wsX6_next r_X6_next [.ref (A 0), .int x1, .int x2, .int x3, .int x4] G (w_Mo G A M N) (w_Mo G A M' N) sz r := by
  refine MTi.of (cc := cX6_next) (maxL := 6) (by decide +kernel) rfl (Nat.le_of_ble_eq_true rfl) (fun p e s m av below meth cd Q B H locs ls X hret hl hP hD hS => ?_)
  have hx := X.1.1
  have hb := X.1.2.1
  have hl : lv_has ls 6 [(0, .ref (A 0)), (1, .int x1), (2, .int x2), (3, .int x3), (4, .int x4)] := hl
  have b_30 : ∀ (M : CS) (H : Heap) (locs : List Loc) (ls : Array Slot), f_X6_next_30 M N = some (r, M') → va_P G.1 vwCl (w_Mo G A M N) H → va_D B (w_Mo G A M N) → va_S B s.heap H locs → lv_has ls 6 [] → W p l e r_X6_next s m av below meth cd H locs 0 0 Q (F0 m 30 ls []) := by
    intro M H locs ls hf hP hD hS hl
    unfold f_X6_next_30 at hf
    refine lv_iconst (pc := 30) (v := (-1 : Int32)) hx hb dX6_next_30 (by decide) ?_
    cases hf
    exact hret _ _ _ _ dX6_next_31 hP hD hS
  have l_40 : ∀ (n40 : Nat), ∀ (x1 : Int32) (x4 : Int32) (x5 : Int32) (M : CS) (H : Heap) (locs : List Loc) (ls : Array Slot), f_X6_next_40 n40 x1 x4 x5 M N = some (r, M') → va_P G.1 vwCl (w_Mo G A M N) H → va_D B (w_Mo G A M N) → va_S B s.heap H locs → lv_has ls 6 [(0, .ref (A 0)), (1, .int x1), (4, .int x4), (5, .int x5)] → W p l e r_X6_next s m av below meth cd H locs 0 0 Q (F0 m 40 ls []) := by
    intro n40
    induction n40 with
    | zero =>
      intro x1 x4 x5 M H locs ls hf hP hD hS hl
      rw [f_X6_next_40] at hf
      cases hf
    | succ n40 ih40 =>
      intro x1 x4 x5 M H locs ls hf hP hD hS hl
      rw [f_X6_next_40] at hf
      refine lv_iload (pc := 40) hx hb dX6_next_40 (lv_at hl 3 rfl) ?_
      refine lv_bipush (pc := 42) (v := (20 : Int32)) hx hb dX6_next_42 (by decide) ?_
      refine lv_icmp_ge (pc := 44) (tgt := 73) hx hb dX6_next_44 (by decide) (fun h2 => ?_) (fun h2 => ?_)
      · have hf := br_y h2 hf
        refine lv_bipush (pc := 73) (v := (-9 : Int32)) hx hb dX6_next_73 (by decide) ?_
        cases hf
        exact hret _ _ _ _ dX6_next_75 hP hD hS
      · have hf := br_n h2 hf
        refine lv_aload_n (pc := 47) hx hb dX6_next_47 rfl (lv_at hl 0 rfl) ?_
        refine wget (pc := 48) X (fun _ h9 => List.mem_cons_of_mem _ (List.mem_append_right _ h9)) hP 0 (at_Mo_0 G A M N) rfl 15 (by decide) (List.mem_cons_of_mem _ (List.mem_append_left _ (List.mem_append_left _ (List.mem_of_getElem? (i := 0) rfl)))) rfl (v := .ref (A 11)) rfl dX6_next_48 ?_
        refine lv_bipush (pc := 51) (v := (20 : Int32)) hx hb dX6_next_51 (by decide) ?_
        refine lv_iload_n (pc := 53) hx hb dX6_next_53 rfl (lv_at hl 1 rfl) ?_
        refine lv_imul (pc := 54) hx hb dX6_next_54 ?_
        refine lv_iload (pc := 55) hx hb dX6_next_55 (lv_at hl 3 rfl) ?_
        refine lv_iadd (pc := 57) hx hb dX6_next_57 ?_
        obtain ⟨hi, hf⟩ := ck_some hf
        refine wiald (pc := 58) X hP 11 (at_Mo_11 G A M N) hi rfl dX6_next_58 ?_
        refine lv_iload (pc := 59) hx hb dX6_next_59 (lv_at hl 2 rfl) ?_
        refine lv_icmp_ne (pc := 61) (tgt := 67) hx hb dX6_next_61 (by decide) (fun h1 => ?_) (fun h1 => ?_)
        · have hf := br_n h1 hf
          refine lv_iinc (pc := 67) (v := (x5 + (1 : Int32))) (lv' := [(5, .int (x5 + (1 : Int32))), (0, .ref (A 0)), (1, .int x1), (4, .int x4)]) hx hb dX6_next_67 hl (k := 3) rfl rfl (by decide) rfl (fun ls hl => ?_)
          refine lv_goto (pc := 70) (tgt := 40) hx hb dX6_next_70 (by decide) ?_
          exact ih40 _ _ _ _ H locs ls hf hP hD hS (lv_sub hl [1, 2, 3, 0] rfl)
        · have hf := br_y h1 hf
          refine lv_iload (pc := 64) hx hb dX6_next_64 (lv_at hl 3 rfl) ?_
          cases hf
          exact hret _ _ _ _ dX6_next_66 hP hD hS
  unfold f_X6_next at hf
  refine lv_iload_n (pc := 0) hx hb dX6_next_0 rfl (lv_at hl 1 rfl) ?_
  obtain ⟨r1, hc1, hf⟩ := ob1_some hf
  refine endi X.2.2.2.2 (runS (pc := 1) (As := [.int x1]) (rest := []) X (c_X6_isTown G l  H.size x1 r1 hc1) gX6_next_X6_isTown k_X6_isTown ⟨rfl, rfl⟩ ⟨Nat.le_of_ble_eq_true rfl, Nat.le_of_ble_eq_true rfl⟩ (EM.nil (w_Mo G A M N)) hP hD hS rfl hl.1 rfl (Nat.le_of_ble_eq_true rfl) ⟨Nat.zero_le _, Nat.zero_le _⟩ dX6_next_1) (EM.nil (w_Mo G A M N)) hP hD hS (fun H locs hP hD hS => ?_)
  refine lv_if_eq (pc := 4) (tgt := 30) hx hb dX6_next_4 (by decide) (fun h6 => ?_) (fun h6 => ?_)
  · have hf := br_y h6 hf
    exact b_30 _ H locs ls hf hP hD hS (lv_sub hl [] rfl)
  · have hf := br_n h6 hf
    refine lv_iload_n (pc := 7) hx hb dX6_next_7 rfl (lv_at hl 2 rfl) ?_
    obtain ⟨r2, hc2, hf⟩ := ob1_some hf
    refine endi X.2.2.2.2 (runS (pc := 8) (As := [.int x2]) (rest := []) X (c_X6_isDay G l  H.size x2 r2 hc2) gX6_next_X6_isDay k_X6_isDay ⟨rfl, rfl⟩ ⟨Nat.le_of_ble_eq_true rfl, Nat.le_of_ble_eq_true rfl⟩ (EM.nil (w_Mo G A M N)) hP hD hS rfl hl.1 rfl (Nat.le_of_ble_eq_true rfl) ⟨Nat.zero_le _, Nat.zero_le _⟩ dX6_next_8) (EM.nil (w_Mo G A M N)) hP hD hS (fun H locs hP hD hS => ?_)
    refine lv_if_eq (pc := 11) (tgt := 30) hx hb dX6_next_11 (by decide) (fun h5 => ?_) (fun h5 => ?_)
    · have hf := br_y h5 hf
      exact b_30 _ H locs ls hf hP hD hS (lv_sub hl [] rfl)
    · have hf := br_n h5 hf
      refine lv_aload_n (pc := 14) hx hb dX6_next_14 rfl (lv_at hl 0 rfl) ?_
      refine lv_iload_n (pc := 15) hx hb dX6_next_15 rfl (lv_at hl 3 rfl) ?_
      obtain ⟨r3, hc3, hf⟩ := ob1_some hf
      refine endi X.2.2.2.2 (runV (pc := 16) (As := [.int x3]) (rest := []) X (c_X6_isPerson G l A H.size M N x3 r3 hc3) gX6_next_X6_isPerson k_X6_isPerson ⟨rfl, rfl⟩ ⟨Nat.le_of_ble_eq_true rfl, Nat.le_of_ble_eq_true rfl⟩ (EM.all (w_Mo G A M N) (w_Mo G A M N)) hP hD hS (ci := 6) rfl rfl (at_Mo_0 G A M N) rfl hl.1 rfl (Nat.le_of_ble_eq_true rfl) ⟨Nat.zero_le _, Nat.zero_le _⟩ dX6_next_16) (EM.all (w_Mo G A M N) (w_Mo G A M N)) hP hD hS (fun H locs hP hD hS => ?_)
      refine lv_if_eq (pc := 19) (tgt := 30) hx hb dX6_next_19 (by decide) (fun h4 => ?_) (fun h4 => ?_)
      · have hf := br_y h4 hf
        exact b_30 _ H locs ls hf hP hD hS (lv_sub hl [] rfl)
      · have hf := br_n h4 hf
        refine lv_iload (pc := 22) hx hb dX6_next_22 (lv_at hl 4 rfl) ?_
        obtain ⟨r4, hc4, hf⟩ := ob1_some hf
        refine endi X.2.2.2.2 (runS (pc := 24) (As := [.int x4]) (rest := []) X (c_X6_isDeed G l  H.size x4 r4 hc4) gX6_next_X6_isDeed k_X6_isDeed ⟨rfl, rfl⟩ ⟨Nat.le_of_ble_eq_true rfl, Nat.le_of_ble_eq_true rfl⟩ (EM.nil (w_Mo G A M N)) hP hD hS rfl hl.1 rfl (Nat.le_of_ble_eq_true rfl) ⟨Nat.zero_le _, Nat.zero_le _⟩ dX6_next_24) (EM.nil (w_Mo G A M N)) hP hD hS (fun H locs hP hD hS => ?_)
        refine lv_if_ne (pc := 27) (tgt := 32) hx hb dX6_next_27 (by decide) (fun h3 => ?_) (fun h3 => ?_)
        · have hf := br_n h3 hf
          refine lv_aload_n (pc := 32) hx hb dX6_next_32 rfl (lv_at hl 0 rfl) ?_
          refine lv_iload_n (pc := 33) hx hb dX6_next_33 rfl (lv_at hl 3 rfl) ?_
          obtain ⟨M5, hc5, hf⟩ := ob1_some hf
          refine endv X.2.2.2.2 (runV (pc := 34) (As := [.int x3]) (rest := []) X (c_X6_layNow G l A H.size M N x3 M5 hc5) gX6_next_X6_layNow k_X6_layNow ⟨rfl, rfl⟩ ⟨Nat.le_of_ble_eq_true rfl, Nat.le_of_ble_eq_true rfl⟩ (EM.all (w_Mo G A M N) (w_Mo G A M5 N)) hP hD hS (ci := 6) rfl rfl (at_Mo_0 G A M N) rfl hl.1 rfl (Nat.le_of_ble_eq_true rfl) ⟨Nat.zero_le _, Nat.zero_le _⟩ dX6_next_34) (EM.all (w_Mo G A M N) (w_Mo G A M5 N)) hP hD hS (fun H locs hP hD hS => ?_)
          refine lv_iload_n (pc := 37) hx hb dX6_next_37 rfl (lv_at hl 2 rfl) ?_
          refine lv_istore (pc := 38) (lv' := [(5, .int x2), (0, .ref (A 0)), (1, .int x1), (2, .int x2), (3, .int x3), (4, .int x4)]) hx hb dX6_next_38 hl (by decide) rfl (fun ls hl => ?_)
          exact l_40 FU _ _ _ _ H locs ls hf hP hD hS (lv_sub hl [1, 2, 5, 0] rfl)
        · have hf := br_y h3 hf
          exact b_30 _ H locs ls hf hP hD hS (lv_sub hl [] rfl)
def r_X6_odds : Room := { frames := 2, cells := 0, slots := 0, locals := 49 }
set_option maxHeartbeats 4000000 in
set_option maxRecDepth 100000 in
theorem c_X6_odds (G : GT) (l : Launch) (A : Nat → Nat) (sz : Nat) (M : CS) (N : JS) (x1 : Int32) (x2 : Int32) (x3 : Int32) (x4 : Int32) (x5 : Int32) (r : Int32) (M' : CS) (N' : JS) (hf : f_X6_odds M N x1 x2 x3 x4 x5 = some (r, M', N')) : MTi l yX6_odds wsX6_odds r_X6_odds [.ref (A 0), .int x1, .int x2, .int x3, .int x4, .int x5] G (w_Mo G A M N) (w_Mo G A M' N') sz r := by
  refine MTi.of (cc := cX6_odds) (maxL := 15) (by decide +kernel) rfl (Nat.le_of_ble_eq_true rfl) (fun p e s m av below meth cd Q B H locs ls X hret hl hP hD hS => ?_)
  have hx := X.1.1
  have hb := X.1.2.1
  have hl : lv_has ls 15 [(0, .ref (A 0)), (1, .int x1), (2, .int x2), (3, .int x3), (4, .int x4), (5, .int x5)] := hl
  have b_43 : ∀ (M : CS) (N : JS) (H : Heap) (locs : List Loc) (ls : Array Slot), f_X6_odds_43 M N = some (r, M', N') → va_P G.1 vwCl (w_Mo G A M N) H → va_D B (w_Mo G A M N) → va_S B s.heap H locs → lv_has ls 15 [] → W p l e r_X6_odds s m av below meth cd H locs 0 0 Q (F0 m 43 ls []) := by
    intro M N H locs ls hf hP hD hS hl
    unfold f_X6_odds_43 at hf
    refine lv_iconst (pc := 43) (v := (-1 : Int32)) hx hb dX6_odds_43 (by decide) ?_
    cases hf
    exact hret _ _ _ _ dX6_odds_44 hP hD hS
  have l_87 : ∀ (n87 : Nat), ∀ (x1 : Int32) (x2 : Int32) (x3 : Int32) (x4 : Int32) (x5 : Int32) (x6 : Int32) (x7 : Int64) (x9 : Int64) (x11 : Int32) (M : CS) (N : JS) (H : Heap) (locs : List Loc) (ls : Array Slot), f_X6_odds_87 n87 x1 x2 x3 x4 x5 x6 x7 x9 x11 M N = some (r, M', N') → va_P G.1 vwCl (w_Mo G A M N) H → va_D B (w_Mo G A M N) → va_S B s.heap H locs → lv_has ls 15 [(0, .ref (A 0)), (1, .int x1), (2, .int x2), (3, .int x3), (4, .int x4), (5, .int x5), (6, .int x6), (7, .long x7), (9, .long x9), (11, .int x11)] → W p l e r_X6_odds s m av below meth cd H locs 0 0 Q (F0 m 87 ls []) := by
    intro n87
    induction n87 with
    | zero =>
      intro x1 x2 x3 x4 x5 x6 x7 x9 x11 M N H locs ls hf hP hD hS hl
      rw [f_X6_odds_87] at hf
      cases hf
    | succ n87 ih87 =>
      have b_203 : ∀ (x1 : Int32) (x2 : Int32) (x3 : Int32) (x4 : Int32) (x5 : Int32) (x6 : Int32) (x7 : Int64) (x9 : Int64) (x11 : Int32) (M : CS) (N : JS) (H : Heap) (locs : List Loc) (ls : Array Slot), f_X6_odds_203 (f_X6_odds_87 n87) x1 x2 x3 x4 x5 x6 x7 x9 x11 M N = some (r, M', N') → va_P G.1 vwCl (w_Mo G A M N) H → va_D B (w_Mo G A M N) → va_S B s.heap H locs → lv_has ls 15 [(0, .ref (A 0)), (1, .int x1), (2, .int x2), (3, .int x3), (4, .int x4), (5, .int x5), (6, .int x6), (7, .long x7), (9, .long x9), (11, .int x11)] → W p l e r_X6_odds s m av below meth cd H locs 0 0 Q (F0 m 203 ls []) := by
        intro x1 x2 x3 x4 x5 x6 x7 x9 x11 M N H locs ls hf hP hD hS hl
        unfold f_X6_odds_203 at hf
        refine lv_iinc (pc := 203) (v := (x11 + (1 : Int32))) (lv' := [(11, .int (x11 + (1 : Int32))), (0, .ref (A 0)), (1, .int x1), (2, .int x2), (3, .int x3), (4, .int x4), (5, .int x5), (6, .int x6), (7, .long x7), (9, .long x9)]) hx hb dX6_odds_203 hl (k := 9) rfl rfl (by decide) rfl (fun ls hl => ?_)
        refine lv_goto (pc := 206) (tgt := 87) hx hb dX6_odds_206 (by decide) ?_
        exact ih87 _ _ _ _ _ _ _ _ _ _ _ H locs ls hf hP hD hS (lv_sub hl [1, 2, 3, 4, 5, 6, 7, 8, 9, 0] rfl)
      have b_200 : ∀ (x1 : Int32) (x2 : Int32) (x3 : Int32) (x4 : Int32) (x5 : Int32) (x6 : Int32) (x9 : Int64) (x11 : Int32) (t0 : Int64) (t1 : Int64) (M : CS) (N : JS) (H : Heap) (locs : List Loc) (ls : Array Slot), f_X6_odds_200 (f_X6_odds_87 n87) x1 x2 x3 x4 x5 x6 x9 x11 t0 t1 M N = some (r, M', N') → va_P G.1 vwCl (w_Mo G A M N) H → va_D B (w_Mo G A M N) → va_S B s.heap H locs → lv_has ls 15 [(0, .ref (A 0)), (1, .int x1), (2, .int x2), (3, .int x3), (4, .int x4), (5, .int x5), (6, .int x6), (9, .long x9), (11, .int x11)] → W p l e r_X6_odds s m av below meth cd H locs 0 0 Q (F0 m 200 ls [.long t1, .long t0]) := by
        intro x1 x2 x3 x4 x5 x6 x9 x11 t0 t1 M N H locs ls hf hP hD hS hl
        unfold f_X6_odds_200 at hf
        refine lv_ladd (pc := 200) hx hb dX6_odds_200 ?_
        refine lv_lstore (pc := 201) (lv' := [(7, .long (t0 + t1)), (0, .ref (A 0)), (1, .int x1), (2, .int x2), (3, .int x3), (4, .int x4), (5, .int x5), (6, .int x6), (9, .long x9), (11, .int x11)]) hx hb dX6_odds_201 hl (by decide) rfl (fun ls hl => ?_)
        exact b_203 _ _ _ _ _ _ _ _ _ _ _ H locs ls hf hP hD hS (lv_sub hl [1, 2, 3, 4, 5, 6, 7, 0, 8, 9] rfl)
      have l_110 : ∀ (n110 : Nat), ∀ (x1 : Int32) (x2 : Int32) (x3 : Int32) (x4 : Int32) (x5 : Int32) (x6 : Int32) (x7 : Int64) (x9 : Int64) (x11 : Int32) (x12 : Int64) (x14 : Int32) (M : CS) (N : JS) (H : Heap) (locs : List Loc) (ls : Array Slot), f_X6_odds_110 (f_X6_odds_87 n87) n110 x1 x2 x3 x4 x5 x6 x7 x9 x11 x12 x14 M N = some (r, M', N') → va_P G.1 vwCl (w_Mo G A M N) H → va_D B (w_Mo G A M N) → va_S B s.heap H locs → lv_has ls 15 [(0, .ref (A 0)), (1, .int x1), (2, .int x2), (3, .int x3), (4, .int x4), (5, .int x5), (6, .int x6), (7, .long x7), (9, .long x9), (11, .int x11), (12, .long x12), (14, .int x14)] → W p l e r_X6_odds s m av below meth cd H locs 0 0 Q (F0 m 110 ls []) := by
        intro n110
        induction n110 with
        | zero =>
          intro x1 x2 x3 x4 x5 x6 x7 x9 x11 x12 x14 M N H locs ls hf hP hD hS hl
          rw [f_X6_odds_110] at hf
          cases hf
        | succ n110 ih110 =>
          have b_159 : ∀ (x1 : Int32) (x2 : Int32) (x3 : Int32) (x4 : Int32) (x5 : Int32) (x6 : Int32) (x7 : Int64) (x9 : Int64) (x11 : Int32) (x14 : Int32) (t0 : Int64) (t1 : Int64) (M : CS) (N : JS) (H : Heap) (locs : List Loc) (ls : Array Slot), f_X6_odds_159 (f_X6_odds_87 n87) (f_X6_odds_110 (f_X6_odds_87 n87) n110) x1 x2 x3 x4 x5 x6 x7 x9 x11 x14 t0 t1 M N = some (r, M', N') → va_P G.1 vwCl (w_Mo G A M N) H → va_D B (w_Mo G A M N) → va_S B s.heap H locs → lv_has ls 15 [(0, .ref (A 0)), (1, .int x1), (2, .int x2), (3, .int x3), (4, .int x4), (5, .int x5), (6, .int x6), (7, .long x7), (9, .long x9), (11, .int x11), (14, .int x14)] → W p l e r_X6_odds s m av below meth cd H locs 0 0 Q (F0 m 159 ls [.long t1, .long t0]) := by
            intro x1 x2 x3 x4 x5 x6 x7 x9 x11 x14 t0 t1 M N H locs ls hf hP hD hS hl
            unfold f_X6_odds_159 at hf
            refine lv_lmul (pc := 159) hx hb dX6_odds_159 ?_
            refine lv_lstore (pc := 160) (lv' := [(12, .long (t0 * t1)), (0, .ref (A 0)), (1, .int x1), (2, .int x2), (3, .int x3), (4, .int x4), (5, .int x5), (6, .int x6), (7, .long x7), (9, .long x9), (11, .int x11), (14, .int x14)]) hx hb dX6_odds_160 hl (by decide) rfl (fun ls hl => ?_)
            refine lv_iinc (pc := 162) (v := (x14 + (1 : Int32))) (lv' := [(14, .int (x14 + (1 : Int32))), (12, .long (t0 * t1)), (0, .ref (A 0)), (1, .int x1), (2, .int x2), (3, .int x3), (4, .int x4), (5, .int x5), (6, .int x6), (7, .long x7), (9, .long x9), (11, .int x11)]) hx hb dX6_odds_162 hl (k := 11) rfl rfl (by decide) rfl (fun ls hl => ?_)
            refine lv_goto (pc := 165) (tgt := 110) hx hb dX6_odds_165 (by decide) ?_
            exact ih110 _ _ _ _ _ _ _ _ _ _ _ _ _ H locs ls hf hP hD hS (lv_sub hl [2, 3, 4, 5, 6, 7, 8, 9, 10, 11, 1, 0] rfl)
          intro x1 x2 x3 x4 x5 x6 x7 x9 x11 x12 x14 M N H locs ls hf hP hD hS hl
          rw [f_X6_odds_110] at hf
          refine lv_iload (pc := 110) hx hb dX6_odds_110 (lv_at hl 11 rfl) ?_
          refine lv_aload_n (pc := 112) hx hb dX6_odds_112 rfl (lv_at hl 0 rfl) ?_
          refine wget (pc := 113) X (fun _ h9 => List.mem_cons_of_mem _ (List.mem_append_right _ h9)) hP 0 (at_Mo_0 G A M N) rfl 4 (by decide) (List.mem_cons_of_mem _ (List.mem_append_left _ (List.mem_append_left _ (List.mem_of_getElem? (i := 1) rfl)))) rfl (v := .ref (A 5)) rfl dX6_odds_113 ?_
          refine lv_iconst (pc := 116) (v := (1 : Int32)) hx hb dX6_odds_116 (by decide) ?_
          refine wiald (pc := 117) X hP 5 (at_Mo_5 G A M N) (by decide) (j := 1) (by decide) dX6_odds_117 ?_
          refine lv_icmp_ge (pc := 118) (tgt := 168) hx hb dX6_odds_118 (by decide) (fun h4 => ?_) (fun h4 => ?_)
          · have hf := br_y h4 hf
            refine lv_aload_n (pc := 168) hx hb dX6_odds_168 rfl (lv_at hl 0 rfl) ?_
            refine lv_iload_n (pc := 169) hx hb dX6_odds_169 rfl (lv_at hl 3 rfl) ?_
            refine lv_iload (pc := 170) hx hb dX6_odds_170 (lv_at hl 9 rfl) ?_
            refine lv_iconst (pc := 172) (v := (-1 : Int32)) hx hb dX6_odds_172 (by decide) ?_
            obtain ⟨M1, hc1, hf⟩ := ob1_some hf
            refine endv X.2.2.2.2 (runV (pc := 173) (As := [.int x3, .int x11, .int (-1 : Int32)]) (rest := []) X (c_X6_lays G l A H.size M N x3 x11 (-1 : Int32) M1 hc1) gX6_odds_X6_lays k_X6_lays ⟨rfl, rfl⟩ ⟨Nat.le_of_ble_eq_true rfl, Nat.le_of_ble_eq_true rfl⟩ (EM.all (w_Mo G A M N) (w_Mo G A M1 N)) hP hD hS (ci := 6) rfl rfl (at_Mo_0 G A M N) rfl hl.1 rfl (Nat.le_of_ble_eq_true rfl) ⟨Nat.zero_le _, Nat.zero_le _⟩ dX6_odds_173) (EM.all (w_Mo G A M N) (w_Mo G A M1 N)) hP hD hS (fun H locs hP hD hS => ?_)
            refine lv_lload (pc := 176) hx hb dX6_odds_176 (lv_at hl 7 rfl) ?_
            refine lv_aload_n (pc := 178) hx hb dX6_odds_178 rfl (lv_at hl 0 rfl) ?_
            refine wget (pc := 179) X (fun _ h9 => List.mem_cons_of_mem _ (List.mem_append_right _ h9)) hP 0 (at_Mo_0 G A M1 N) rfl 15 (by decide) (List.mem_cons_of_mem _ (List.mem_append_left _ (List.mem_append_left _ (List.mem_of_getElem? (i := 2) rfl)))) rfl (v := .ref (A 11)) rfl dX6_odds_179 ?_
            refine lv_bipush (pc := 182) (v := (20 : Int32)) hx hb dX6_odds_182 (by decide) ?_
            refine lv_iload_n (pc := 184) hx hb dX6_odds_184 rfl (lv_at hl 1 rfl) ?_
            refine lv_imul (pc := 185) hx hb dX6_odds_185 ?_
            refine lv_iload_n (pc := 186) hx hb dX6_odds_186 rfl (lv_at hl 2 rfl) ?_
            refine lv_iadd (pc := 187) hx hb dX6_odds_187 ?_
            obtain ⟨hi, hf⟩ := ck_some hf
            refine wiald (pc := 188) X hP 11 (at_Mo_11 G A M1 N) hi rfl dX6_odds_188 ?_
            refine lv_iload (pc := 189) hx hb dX6_odds_189 (lv_at hl 4 rfl) ?_
            refine lv_icmp_ne (pc := 191) (tgt := 199) hx hb dX6_odds_191 (by decide) (fun h1 => ?_) (fun h1 => ?_)
            · have hf := br_n h1 hf
              refine lv_lconst (pc := 199) (v := (0 : Int64)) hx hb dX6_odds_199 (by decide) ?_
              exact b_200 _ _ _ _ _ _ _ _ _ _ _ _ H locs ls hf hP hD hS (lv_sub hl [0, 1, 2, 3, 4, 5, 6, 8, 9] rfl)
            · have hf := br_y h1 hf
              refine lv_lload (pc := 194) hx hb dX6_odds_194 (lv_at hl 10 rfl) ?_
              refine lv_goto (pc := 196) (tgt := 200) hx hb dX6_odds_196 (by decide) ?_
              exact b_200 _ _ _ _ _ _ _ _ _ _ _ _ H locs ls hf hP hD hS (lv_sub hl [0, 1, 2, 3, 4, 5, 6, 8, 9] rfl)
          · have hf := br_n h4 hf
            refine lv_lload (pc := 121) hx hb dX6_odds_121 (lv_at hl 10 rfl) ?_
            refine lv_iload (pc := 123) hx hb dX6_odds_123 (lv_at hl 6 rfl) ?_
            refine lv_iload (pc := 125) hx hb dX6_odds_125 (lv_at hl 11 rfl) ?_
            obtain ⟨r2, hc2, hf⟩ := ob1_some hf
            refine endi X.2.2.2.2 (runS (pc := 127) (As := [.int x6, .int x14]) (rest := [.long x12]) X (c_X6_has G l  H.size x6 x14 r2 hc2) gX6_odds_X6_has k_X6_has ⟨rfl, rfl⟩ ⟨Nat.le_of_ble_eq_true rfl, Nat.le_of_ble_eq_true rfl⟩ (EM.nil (w_Mo G A M N)) hP hD hS rfl hl.1 rfl (Nat.le_of_ble_eq_true rfl) ⟨Nat.zero_le _, Nat.zero_le _⟩ dX6_odds_127) (EM.nil (w_Mo G A M N)) hP hD hS (fun H locs hP hD hS => ?_)
            refine lv_if_ne (pc := 130) (tgt := 137) hx hb dX6_odds_130 (by decide) (fun h3 => ?_) (fun h3 => ?_)
            · have hf := br_n h3 hf
              refine lv_iload (pc := 137) hx hb dX6_odds_137 (lv_at hl 9 rfl) ?_
              refine lv_iload (pc := 139) hx hb dX6_odds_139 (lv_at hl 11 rfl) ?_
              obtain ⟨r3, hc3, hf⟩ := ob1_some hf
              refine endi X.2.2.2.2 (runS (pc := 141) (As := [.int x11, .int x14]) (rest := [.long x12]) X (c_X6_has G l  H.size x11 x14 r3 hc3) gX6_odds_X6_has k_X6_has ⟨rfl, rfl⟩ ⟨Nat.le_of_ble_eq_true rfl, Nat.le_of_ble_eq_true rfl⟩ (EM.nil (w_Mo G A M N)) hP hD hS rfl hl.1 rfl (Nat.le_of_ble_eq_true rfl) ⟨Nat.zero_le _, Nat.zero_le _⟩ dX6_odds_141) (EM.nil (w_Mo G A M N)) hP hD hS (fun H locs hP hD hS => ?_)
              refine lv_if_eq (pc := 144) (tgt := 153) hx hb dX6_odds_144 (by decide) (fun h2 => ?_) (fun h2 => ?_)
              · have hf := br_y h2 hf
                refine lv_bipush (pc := 153) (v := (12 : Int32)) hx hb dX6_odds_153 (by decide) ?_
                refine lv_iload (pc := 155) hx hb dX6_odds_155 (lv_at hl 5 rfl) ?_
                refine lv_isub (pc := 157) hx hb dX6_odds_157 ?_
                refine lv_i2l (pc := 158) (v := (((12 : Int32) - x5)).toInt64) hx hb dX6_odds_158 rfl ?_
                exact b_159 _ _ _ _ _ _ _ _ _ _ _ _ _ _ H locs ls hf hP hD hS (lv_sub hl [0, 1, 2, 3, 4, 5, 6, 7, 8, 9, 11] rfl)
              · have hf := br_n h2 hf
                refine lv_iload (pc := 147) hx hb dX6_odds_147 (lv_at hl 5 rfl) ?_
                refine lv_i2l (pc := 149) (v := (x5).toInt64) hx hb dX6_odds_149 rfl ?_
                refine lv_goto (pc := 150) (tgt := 159) hx hb dX6_odds_150 (by decide) ?_
                exact b_159 _ _ _ _ _ _ _ _ _ _ _ _ _ _ H locs ls hf hP hD hS (lv_sub hl [0, 1, 2, 3, 4, 5, 6, 7, 8, 9, 11] rfl)
            · have hf := br_y h3 hf
              refine lv_lconst (pc := 133) (v := (1 : Int64)) hx hb dX6_odds_133 (by decide) ?_
              refine lv_goto (pc := 134) (tgt := 159) hx hb dX6_odds_134 (by decide) ?_
              exact b_159 _ _ _ _ _ _ _ _ _ _ _ _ _ _ H locs ls hf hP hD hS (lv_sub hl [0, 1, 2, 3, 4, 5, 6, 7, 8, 9, 11] rfl)
      intro x1 x2 x3 x4 x5 x6 x7 x9 x11 M N H locs ls hf hP hD hS hl
      rw [f_X6_odds_87] at hf
      refine lv_iload (pc := 87) hx hb dX6_odds_87 (lv_at hl 9 rfl) ?_
      refine lv_iload (pc := 89) hx hb dX6_odds_89 (lv_at hl 6 rfl) ?_
      refine lv_icmp_gt (pc := 91) (tgt := 209) hx hb dX6_odds_91 (by decide) (fun h6 => ?_) (fun h6 => ?_)
      · have hf := br_y h6 hf
        refine lv_aload_n (pc := 209) hx hb dX6_odds_209 rfl (lv_at hl 0 rfl) ?_
        refine lv_lload (pc := 210) hx hb dX6_odds_210 (lv_at hl 7 rfl) ?_
        refine lv_lload (pc := 212) hx hb dX6_odds_212 (lv_at hl 8 rfl) ?_
        obtain ⟨r1, N1, hc1, hf⟩ := ob2_some hf
        refine endi X.2.2.2.2 (runV (pc := 214) (As := [.long x7, .long x9]) (rest := []) X (c_X6_fraction G l A H.size M N x7 x9 r1 N1 hc1) gX6_odds_X6_fraction k_X6_fraction ⟨rfl, rfl⟩ ⟨Nat.le_of_ble_eq_true rfl, Nat.le_of_ble_eq_true rfl⟩ (EM.all (w_Mo G A M N) (w_Mo G A M N1)) hP hD hS (ci := 6) rfl rfl (at_Mo_0 G A M N) rfl hl.1 rfl (Nat.le_of_ble_eq_true rfl) ⟨Nat.zero_le _, Nat.zero_le _⟩ dX6_odds_214) (EM.all (w_Mo G A M N) (w_Mo G A M N1)) hP hD hS (fun H locs hP hD hS => ?_)
        cases hf
        exact hret _ _ _ _ dX6_odds_217 hP hD hS
      · have hf := br_n h6 hf
        refine lv_iload (pc := 94) hx hb dX6_odds_94 (lv_at hl 9 rfl) ?_
        refine lv_iload (pc := 96) hx hb dX6_odds_96 (lv_at hl 6 rfl) ?_
        refine lv_iconst (pc := 98) (v := (-1 : Int32)) hx hb dX6_odds_98 (by decide) ?_
        refine lv_ixor (pc := 99) hx hb dX6_odds_99 ?_
        refine lv_iand (pc := 100) hx hb dX6_odds_100 ?_
        refine lv_if_ne (pc := 101) (tgt := 203) hx hb dX6_odds_101 (by decide) (fun h5 => ?_) (fun h5 => ?_)
        · have hf := br_n h5 hf
          exact b_203 _ _ _ _ _ _ _ _ _ _ _ H locs ls hf hP hD hS (lv_sub hl [0, 1, 2, 3, 4, 5, 6, 7, 8, 9] rfl)
        · have hf := br_y h5 hf
          refine lv_lconst (pc := 104) (v := (1 : Int64)) hx hb dX6_odds_104 (by decide) ?_
          refine lv_lstore (pc := 105) (lv' := [(12, .long (1 : Int64)), (0, .ref (A 0)), (1, .int x1), (2, .int x2), (3, .int x3), (4, .int x4), (5, .int x5), (6, .int x6), (7, .long x7), (9, .long x9), (11, .int x11)]) hx hb dX6_odds_105 hl (by decide) rfl (fun ls hl => ?_)
          refine lv_iconst (pc := 107) (v := (0 : Int32)) hx hb dX6_odds_107 (by decide) ?_
          refine lv_istore (pc := 108) (lv' := [(14, .int (0 : Int32)), (12, .long (1 : Int64)), (0, .ref (A 0)), (1, .int x1), (2, .int x2), (3, .int x3), (4, .int x4), (5, .int x5), (6, .int x6), (7, .long x7), (9, .long x9), (11, .int x11)]) hx hb dX6_odds_108 hl (by decide) rfl (fun ls hl => ?_)
          exact l_110 FU _ _ _ _ _ _ _ _ _ _ _ _ _ H locs ls hf hP hD hS (lv_sub hl [2, 3, 4, 5, 6, 7, 8, 9, 10, 11, 1, 0] rfl)
  have l_60 : ∀ (n60 : Nat), ∀ (x1 : Int32) (x2 : Int32) (x3 : Int32) (x4 : Int32) (x5 : Int32) (x6 : Int32) (x7 : Int64) (x9 : Int64) (x11 : Int32) (M : CS) (N : JS) (H : Heap) (locs : List Loc) (ls : Array Slot), f_X6_odds_60 n60 x1 x2 x3 x4 x5 x6 x7 x9 x11 M N = some (r, M', N') → va_P G.1 vwCl (w_Mo G A M N) H → va_D B (w_Mo G A M N) → va_S B s.heap H locs → lv_has ls 15 [(0, .ref (A 0)), (1, .int x1), (2, .int x2), (3, .int x3), (4, .int x4), (5, .int x5), (6, .int x6), (7, .long x7), (9, .long x9), (11, .int x11)] → W p l e r_X6_odds s m av below meth cd H locs 0 0 Q (F0 m 60 ls []) := by
    intro n60
    induction n60 with
    | zero =>
      intro x1 x2 x3 x4 x5 x6 x7 x9 x11 M N H locs ls hf hP hD hS hl
      rw [f_X6_odds_60] at hf
      cases hf
    | succ n60 ih60 =>
      intro x1 x2 x3 x4 x5 x6 x7 x9 x11 M N H locs ls hf hP hD hS hl
      rw [f_X6_odds_60] at hf
      refine lv_iload (pc := 60) hx hb dX6_odds_60 (lv_at hl 9 rfl) ?_
      refine lv_iload (pc := 62) hx hb dX6_odds_62 (lv_at hl 6 rfl) ?_
      obtain ⟨r1, hc1, hf⟩ := ob1_some hf
      refine endi X.2.2.2.2 (runS (pc := 64) (As := [.int x6]) (rest := [.int x11]) X (c_X6_bits G l  H.size x6 r1 hc1) gX6_odds_X6_bits k_X6_bits ⟨rfl, rfl⟩ ⟨Nat.le_of_ble_eq_true rfl, Nat.le_of_ble_eq_true rfl⟩ (EM.nil (w_Mo G A M N)) hP hD hS rfl hl.1 rfl (Nat.le_of_ble_eq_true rfl) ⟨Nat.zero_le _, Nat.zero_le _⟩ dX6_odds_64) (EM.nil (w_Mo G A M N)) hP hD hS (fun H locs hP hD hS => ?_)
      refine lv_icmp_ge (pc := 67) (tgt := 84) hx hb dX6_odds_67 (by decide) (fun h7 => ?_) (fun h7 => ?_)
      · have hf := br_y h7 hf
        refine lv_iconst (pc := 84) (v := (0 : Int32)) hx hb dX6_odds_84 (by decide) ?_
        refine lv_istore (pc := 85) (lv' := [(11, .int (0 : Int32)), (0, .ref (A 0)), (1, .int x1), (2, .int x2), (3, .int x3), (4, .int x4), (5, .int x5), (6, .int x6), (7, .long x7), (9, .long x9)]) hx hb dX6_odds_85 hl (by decide) rfl (fun ls hl => ?_)
        exact l_87 FU _ _ _ _ _ _ _ _ _ _ _ H locs ls hf hP hD hS (lv_sub hl [1, 2, 3, 4, 5, 6, 7, 8, 9, 0] rfl)
      · have hf := br_n h7 hf
        refine lv_lload (pc := 70) hx hb dX6_odds_70 (lv_at hl 8 rfl) ?_
        refine lv_ldc2 (pc := 72) (v := 12) hx hb X.1.2.2.2.1 (X.1.2.2.2.2 _ (List.mem_cons_of_mem _ (List.mem_append_left _ (List.mem_append_left _ (List.mem_of_getElem? (i := 0) rfl))))) dX6_odds_72 ?_
        refine lv_lmul (pc := 75) hx hb dX6_odds_75 ?_
        refine lv_lstore (pc := 76) (lv' := [(9, .long (x9 * (12 : Int64))), (0, .ref (A 0)), (1, .int x1), (2, .int x2), (3, .int x3), (4, .int x4), (5, .int x5), (6, .int x6), (7, .long x7), (11, .int x11)]) hx hb dX6_odds_76 hl (by decide) rfl (fun ls hl => ?_)
        refine lv_iinc (pc := 78) (v := (x11 + (1 : Int32))) (lv' := [(11, .int (x11 + (1 : Int32))), (9, .long (x9 * (12 : Int64))), (0, .ref (A 0)), (1, .int x1), (2, .int x2), (3, .int x3), (4, .int x4), (5, .int x5), (6, .int x6), (7, .long x7)]) hx hb dX6_odds_78 hl (k := 9) rfl rfl (by decide) rfl (fun ls hl => ?_)
        refine lv_goto (pc := 81) (tgt := 60) hx hb dX6_odds_81 (by decide) ?_
        exact ih60 _ _ _ _ _ _ _ _ _ _ _ H locs ls hf hP hD hS (lv_sub hl [2, 3, 4, 5, 6, 7, 8, 9, 1, 0] rfl)
  unfold f_X6_odds at hf
  refine lv_iload_n (pc := 0) hx hb dX6_odds_0 rfl (lv_at hl 1 rfl) ?_
  obtain ⟨r1, hc1, hf⟩ := ob1_some hf
  refine endi X.2.2.2.2 (runS (pc := 1) (As := [.int x1]) (rest := []) X (c_X6_isTown G l  H.size x1 r1 hc1) gX6_odds_X6_isTown k_X6_isTown ⟨rfl, rfl⟩ ⟨Nat.le_of_ble_eq_true rfl, Nat.le_of_ble_eq_true rfl⟩ (EM.nil (w_Mo G A M N)) hP hD hS rfl hl.1 rfl (Nat.le_of_ble_eq_true rfl) ⟨Nat.zero_le _, Nat.zero_le _⟩ dX6_odds_1) (EM.nil (w_Mo G A M N)) hP hD hS (fun H locs hP hD hS => ?_)
  refine lv_if_eq (pc := 4) (tgt := 43) hx hb dX6_odds_4 (by decide) (fun h12 => ?_) (fun h12 => ?_)
  · have hf := br_y h12 hf
    exact b_43 _ _ H locs ls hf hP hD hS (lv_sub hl [] rfl)
  · have hf := br_n h12 hf
    refine lv_iload_n (pc := 7) hx hb dX6_odds_7 rfl (lv_at hl 2 rfl) ?_
    obtain ⟨r2, hc2, hf⟩ := ob1_some hf
    refine endi X.2.2.2.2 (runS (pc := 8) (As := [.int x2]) (rest := []) X (c_X6_isDay G l  H.size x2 r2 hc2) gX6_odds_X6_isDay k_X6_isDay ⟨rfl, rfl⟩ ⟨Nat.le_of_ble_eq_true rfl, Nat.le_of_ble_eq_true rfl⟩ (EM.nil (w_Mo G A M N)) hP hD hS rfl hl.1 rfl (Nat.le_of_ble_eq_true rfl) ⟨Nat.zero_le _, Nat.zero_le _⟩ dX6_odds_8) (EM.nil (w_Mo G A M N)) hP hD hS (fun H locs hP hD hS => ?_)
    refine lv_if_eq (pc := 11) (tgt := 43) hx hb dX6_odds_11 (by decide) (fun h11 => ?_) (fun h11 => ?_)
    · have hf := br_y h11 hf
      exact b_43 _ _ H locs ls hf hP hD hS (lv_sub hl [] rfl)
    · have hf := br_n h11 hf
      refine lv_aload_n (pc := 14) hx hb dX6_odds_14 rfl (lv_at hl 0 rfl) ?_
      refine lv_iload_n (pc := 15) hx hb dX6_odds_15 rfl (lv_at hl 3 rfl) ?_
      obtain ⟨r3, hc3, hf⟩ := ob1_some hf
      refine endi X.2.2.2.2 (runV (pc := 16) (As := [.int x3]) (rest := []) X (c_X6_isPerson G l A H.size M N x3 r3 hc3) gX6_odds_X6_isPerson k_X6_isPerson ⟨rfl, rfl⟩ ⟨Nat.le_of_ble_eq_true rfl, Nat.le_of_ble_eq_true rfl⟩ (EM.all (w_Mo G A M N) (w_Mo G A M N)) hP hD hS (ci := 6) rfl rfl (at_Mo_0 G A M N) rfl hl.1 rfl (Nat.le_of_ble_eq_true rfl) ⟨Nat.zero_le _, Nat.zero_le _⟩ dX6_odds_16) (EM.all (w_Mo G A M N) (w_Mo G A M N)) hP hD hS (fun H locs hP hD hS => ?_)
      refine lv_if_eq (pc := 19) (tgt := 43) hx hb dX6_odds_19 (by decide) (fun h10 => ?_) (fun h10 => ?_)
      · have hf := br_y h10 hf
        exact b_43 _ _ H locs ls hf hP hD hS (lv_sub hl [] rfl)
      · have hf := br_n h10 hf
        refine lv_iload (pc := 22) hx hb dX6_odds_22 (lv_at hl 4 rfl) ?_
        obtain ⟨r4, hc4, hf⟩ := ob1_some hf
        refine endi X.2.2.2.2 (runS (pc := 24) (As := [.int x4]) (rest := []) X (c_X6_isDeed G l  H.size x4 r4 hc4) gX6_odds_X6_isDeed k_X6_isDeed ⟨rfl, rfl⟩ ⟨Nat.le_of_ble_eq_true rfl, Nat.le_of_ble_eq_true rfl⟩ (EM.nil (w_Mo G A M N)) hP hD hS rfl hl.1 rfl (Nat.le_of_ble_eq_true rfl) ⟨Nat.zero_le _, Nat.zero_le _⟩ dX6_odds_24) (EM.nil (w_Mo G A M N)) hP hD hS (fun H locs hP hD hS => ?_)
        refine lv_if_eq (pc := 27) (tgt := 43) hx hb dX6_odds_27 (by decide) (fun h9 => ?_) (fun h9 => ?_)
        · have hf := br_y h9 hf
          exact b_43 _ _ H locs ls hf hP hD hS (lv_sub hl [] rfl)
        · have hf := br_n h9 hf
          refine lv_iload (pc := 30) hx hb dX6_odds_30 (lv_at hl 5 rfl) ?_
          refine lv_i2l (pc := 32) (v := (x5).toInt64) hx hb dX6_odds_32 rfl ?_
          refine lv_lconst (pc := 33) (v := (0 : Int64)) hx hb dX6_odds_33 (by decide) ?_
          refine lv_ldc2 (pc := 34) (v := 12) hx hb X.1.2.2.2.1 (X.1.2.2.2.2 _ (List.mem_cons_of_mem _ (List.mem_append_left _ (List.mem_append_left _ (List.mem_of_getElem? (i := 0) rfl))))) dX6_odds_34 ?_
          obtain ⟨r5, hc5, hf⟩ := ob1_some hf
          refine endi X.2.2.2.2 (runS (pc := 37) (As := [.long ((x5).toInt64), .long (0 : Int64), .long (12 : Int64)]) (rest := []) X (c_X6_in G l  H.size ((x5).toInt64) (0 : Int64) (12 : Int64) r5 hc5) gX6_odds_X6_in k_X6_in ⟨rfl, rfl⟩ ⟨Nat.le_of_ble_eq_true rfl, Nat.le_of_ble_eq_true rfl⟩ (EM.nil (w_Mo G A M N)) hP hD hS rfl hl.1 rfl (Nat.le_of_ble_eq_true rfl) ⟨Nat.zero_le _, Nat.zero_le _⟩ dX6_odds_37) (EM.nil (w_Mo G A M N)) hP hD hS (fun H locs hP hD hS => ?_)
          refine lv_if_ne (pc := 40) (tgt := 45) hx hb dX6_odds_40 (by decide) (fun h8 => ?_) (fun h8 => ?_)
          · have hf := br_n h8 hf
            refine lv_aload_n (pc := 45) hx hb dX6_odds_45 rfl (lv_at hl 0 rfl) ?_
            obtain ⟨r6, hc6, hf⟩ := ob1_some hf
            refine endi X.2.2.2.2 (runV (pc := 46) (As := []) (rest := []) X (c_X6_live G l A H.size M N r6 hc6) gX6_odds_X6_live k_X6_live ⟨rfl, rfl⟩ ⟨Nat.le_of_ble_eq_true rfl, Nat.le_of_ble_eq_true rfl⟩ (EM.all (w_Mo G A M N) (w_Mo G A M N)) hP hD hS (ci := 6) rfl rfl (at_Mo_0 G A M N) rfl hl.1 rfl (Nat.le_of_ble_eq_true rfl) ⟨Nat.zero_le _, Nat.zero_le _⟩ dX6_odds_46) (EM.all (w_Mo G A M N) (w_Mo G A M N)) hP hD hS (fun H locs hP hD hS => ?_)
            refine lv_istore (pc := 49) (lv' := [(6, .int r6), (0, .ref (A 0)), (1, .int x1), (2, .int x2), (3, .int x3), (4, .int x4), (5, .int x5)]) hx hb dX6_odds_49 hl (by decide) rfl (fun ls hl => ?_)
            refine lv_lconst (pc := 51) (v := (0 : Int64)) hx hb dX6_odds_51 (by decide) ?_
            refine lv_lstore (pc := 52) (lv' := [(7, .long (0 : Int64)), (6, .int r6), (0, .ref (A 0)), (1, .int x1), (2, .int x2), (3, .int x3), (4, .int x4), (5, .int x5)]) hx hb dX6_odds_52 hl (by decide) rfl (fun ls hl => ?_)
            refine lv_lconst (pc := 54) (v := (1 : Int64)) hx hb dX6_odds_54 (by decide) ?_
            refine lv_lstore (pc := 55) (lv' := [(9, .long (1 : Int64)), (7, .long (0 : Int64)), (6, .int r6), (0, .ref (A 0)), (1, .int x1), (2, .int x2), (3, .int x3), (4, .int x4), (5, .int x5)]) hx hb dX6_odds_55 hl (by decide) rfl (fun ls hl => ?_)
            refine lv_iconst (pc := 57) (v := (0 : Int32)) hx hb dX6_odds_57 (by decide) ?_
            refine lv_istore (pc := 58) (lv' := [(11, .int (0 : Int32)), (9, .long (1 : Int64)), (7, .long (0 : Int64)), (6, .int r6), (0, .ref (A 0)), (1, .int x1), (2, .int x2), (3, .int x3), (4, .int x4), (5, .int x5)]) hx hb dX6_odds_58 hl (by decide) rfl (fun ls hl => ?_)
            exact l_60 FU _ _ _ _ _ _ _ _ _ _ _ H locs ls hf hP hD hS (lv_sub hl [4, 5, 6, 7, 8, 9, 3, 2, 1, 0] rfl)
          · have hf := br_y h8 hf
            exact b_43 _ _ H locs ls hf hP hD hS (lv_sub hl [] rfl)
def r_X6_on : Room := { frames := 1, cells := 0, slots := 0, locals := 25 }
set_option maxHeartbeats 4000000 in
set_option maxRecDepth 100000 in
theorem c_X6_on (G : GT) (l : Launch) (A : Nat → Nat) (sz : Nat) (M : CS) (N : JS) (x1 : Int32) (r : Int32) (M' : CS) (hf : f_X6_on M N x1 = some (r, M')) : MTi l yX6_on wsX6_on r_X6_on [.ref (A 0), .int x1] G (w_Mo G A M N) (w_Mo G A M' N) sz r := by
  refine MTi.of (cc := cX6_on) (maxL := 2) (by decide +kernel) rfl (Nat.le_of_ble_eq_true rfl) (fun p e s m av below meth cd Q B H locs ls X hret hl hP hD hS => ?_)
  have hx := X.1.1
  have hb := X.1.2.1
  have hl : lv_has ls 2 [(0, .ref (A 0)), (1, .int x1)] := hl
  unfold f_X6_on at hf
  refine lv_iload_n (pc := 0) hx hb dX6_on_0 rfl (lv_at hl 1 rfl) ?_
  refine lv_i2l (pc := 1) (v := (x1).toInt64) hx hb dX6_on_1 rfl ?_
  refine lv_lconst (pc := 2) (v := (0 : Int64)) hx hb dX6_on_2 (by decide) ?_
  refine lv_ldc2 (pc := 3) (v := 2) hx hb X.1.2.2.2.1 (X.1.2.2.2.2 _ (List.mem_cons_of_mem _ (List.mem_append_left _ (List.mem_of_getElem? (i := 0) rfl)))) dX6_on_3 ?_
  obtain ⟨r1, hc1, hf⟩ := ob1_some hf
  refine endi X.2.2.2.2 (runS (pc := 6) (As := [.long ((x1).toInt64), .long (0 : Int64), .long (2 : Int64)]) (rest := []) X (c_X6_in G l  H.size ((x1).toInt64) (0 : Int64) (2 : Int64) r1 hc1) gX6_on_X6_in k_X6_in ⟨rfl, rfl⟩ ⟨Nat.le_of_ble_eq_true rfl, Nat.le_of_ble_eq_true rfl⟩ (EM.nil (w_Mo G A M N)) hP hD hS rfl hl.1 rfl (Nat.le_of_ble_eq_true rfl) ⟨Nat.zero_le _, Nat.zero_le _⟩ dX6_on_6) (EM.nil (w_Mo G A M N)) hP hD hS (fun H locs hP hD hS => ?_)
  refine lv_if_ne (pc := 9) (tgt := 14) hx hb dX6_on_9 (by decide) (fun h2 => ?_) (fun h2 => ?_)
  · have hf := br_n h2 hf
    refine lv_aload_n (pc := 14) hx hb dX6_on_14 rfl (lv_at hl 0 rfl) ?_
    refine wget (pc := 15) X (fun _ h9 => List.mem_cons_of_mem _ (List.mem_append_right _ h9)) hP 0 (at_Mo_0 G A M N) rfl 6 (by decide) (List.mem_cons_of_mem _ (List.mem_append_left _ (List.mem_of_getElem? (i := 1) rfl))) rfl (v := .ref (A 7)) rfl dX6_on_15 ?_
    refine lv_iload_n (pc := 18) hx hb dX6_on_18 rfl (lv_at hl 1 rfl) ?_
    obtain ⟨hi, hf⟩ := ck_some hf
    refine wzald (pc := 19) X hP 7 (at_Mo_7 G A M N) hi rfl dX6_on_19 ?_
    refine lv_if_ne (pc := 20) (tgt := 29) hx hb dX6_on_20 (by decide) (fun h1 => ?_) (fun h1 => ?_)
    · have hf := br_n h1 hf
      refine lv_aload_n (pc := 29) hx hb dX6_on_29 rfl (lv_at hl 0 rfl) ?_
      refine wget (pc := 30) X (fun _ h9 => List.mem_cons_of_mem _ (List.mem_append_right _ h9)) hP 0 (at_Mo_0 G A M N) rfl 5 (by decide) (List.mem_cons_of_mem _ (List.mem_append_left _ (List.mem_of_getElem? (i := 2) rfl))) rfl (v := .ref (A 6)) rfl dX6_on_30 ?_
      refine lv_bipush (pc := 33) (v := (119 : Int32)) hx hb dX6_on_33 (by decide) ?_
      refine lv_iload_n (pc := 35) hx hb dX6_on_35 rfl (lv_at hl 1 rfl) ?_
      refine lv_imul (pc := 36) hx hb dX6_on_36 ?_
      refine lv_aload_n (pc := 37) hx hb dX6_on_37 rfl (lv_at hl 0 rfl) ?_
      refine wget (pc := 38) X (fun _ h9 => List.mem_cons_of_mem _ (List.mem_append_right _ h9)) hP 0 (at_Mo_0 G A M N) rfl 4 (by decide) (List.mem_cons_of_mem _ (List.mem_append_left _ (List.mem_of_getElem? (i := 3) rfl))) rfl (v := .ref (A 5)) rfl dX6_on_38 ?_
      refine lv_iconst (pc := 41) (v := (0 : Int32)) hx hb dX6_on_41 (by decide) ?_
      obtain ⟨M2, hc2, hf⟩ := ob1_some hf
      refine endv X.2.2.2.2 (runS (pc := 42) (As := [.ref (A 6), .int ((119 : Int32) * x1), .ref (A 5), .int (0 : Int32)]) (rest := []) X (c_X6_copies_keeps_now G l A H.size M N ((119 : Int32) * x1) (0 : Int32) M2 hc2) gX6_on_X6_copies k_X6_copies ⟨rfl, rfl⟩ ⟨Nat.le_of_ble_eq_true rfl, Nat.le_of_ble_eq_true rfl⟩ (EM.all (w_Mo G A M N) (w_Mo G A M2 N)) hP hD hS rfl hl.1 rfl (Nat.le_of_ble_eq_true rfl) ⟨Nat.zero_le _, Nat.zero_le _⟩ dX6_on_42) (EM.all (w_Mo G A M N) (w_Mo G A M2 N)) hP hD hS (fun H locs hP hD hS => ?_)
      refine lv_aload_n (pc := 45) hx hb dX6_on_45 rfl (lv_at hl 0 rfl) ?_
      refine wget (pc := 46) X (fun _ h9 => List.mem_cons_of_mem _ (List.mem_append_right _ h9)) hP 0 (at_Mo_0 G A M2 N) rfl 4 (by decide) (List.mem_cons_of_mem _ (List.mem_append_left _ (List.mem_of_getElem? (i := 3) rfl))) rfl (v := .ref (A 5)) rfl dX6_on_46 ?_
      refine lv_iconst (pc := 49) (v := (3 : Int32)) hx hb dX6_on_49 (by decide) ?_
      refine wiald (pc := 50) X hP 5 (at_Mo_5 G A M2 N) (by decide) (j := 3) (by decide) dX6_on_50 ?_
      cases hf
      exact hret _ _ _ _ dX6_on_51 hP hD hS
    · have hf := br_y h1 hf
      refine lv_aload_n (pc := 23) hx hb dX6_on_23 rfl (lv_at hl 0 rfl) ?_
      refine lv_iconst (pc := 24) (v := (1 : Int32)) hx hb dX6_on_24 (by decide) ?_
      obtain ⟨r3, M3, hc3, hf⟩ := ob2_some hf
      refine endi X.2.2.2.2 (runV (pc := 25) (As := [.int (1 : Int32)]) (rest := []) X (c_X6_found G l A H.size M N (1 : Int32) r3 M3 hc3) gX6_on_X6_found k_X6_found ⟨rfl, rfl⟩ ⟨Nat.le_of_ble_eq_true rfl, Nat.le_of_ble_eq_true rfl⟩ (EM.all (w_Mo G A M N) (w_Mo G A M3 N)) hP hD hS (ci := 6) rfl rfl (at_Mo_0 G A M N) rfl hl.1 rfl (Nat.le_of_ble_eq_true rfl) ⟨Nat.zero_le _, Nat.zero_le _⟩ dX6_on_25) (EM.all (w_Mo G A M N) (w_Mo G A M3 N)) hP hD hS (fun H locs hP hD hS => ?_)
      cases hf
      exact hret _ _ _ _ dX6_on_28 hP hD hS
  · have hf := br_y h2 hf
    refine lv_iconst (pc := 12) (v := (-1 : Int32)) hx hb dX6_on_12 (by decide) ?_
    cases hf
    exact hret _ _ _ _ dX6_on_13 hP hD hS
def r_X6_person : Room := { frames := 5, cells := 0, slots := 0, locals := 115 }
set_option maxHeartbeats 4000000 in
set_option maxRecDepth 100000 in
theorem c_X6_person (G : GT) (l : Launch) (A : Nat → Nat) (sz : Nat) (M : CS) (N : JS) (x1 : Int32) (x2 : Int32) (r : Int32) (M' : CS) (hf : f_X6_person M N x1 x2 = some (r, M')) : MTi l yX6_person wsX6_person r_X6_person [.ref (A 0), .int x1, .int x2] G (w_Mo G A M N) (w_Mo G A M' N) sz r := by
  refine MTi.of (cc := cX6_person) (maxL := 3) (by decide +kernel) rfl (Nat.le_of_ble_eq_true rfl) (fun p e s m av below meth cd Q B H locs ls X hret hl hP hD hS => ?_)
  have hx := X.1.1
  have hb := X.1.2.1
  have hl : lv_has ls 3 [(0, .ref (A 0)), (1, .int x1), (2, .int x2)] := hl
  have b_34 : ∀ (t0 : Int32) (M : CS) (H : Heap) (locs : List Loc) (ls : Array Slot), f_X6_person_34 t0 M N = some (r, M') → va_P G.1 vwCl (w_Mo G A M N) H → va_D B (w_Mo G A M N) → va_S B s.heap H locs → lv_has ls 3 [] → W p l e r_X6_person s m av below meth cd H locs 0 0 Q (F0 m 34 ls [.int t0]) := by
    intro t0 M H locs ls hf hP hD hS hl
    unfold f_X6_person_34 at hf
    cases hf
    exact hret _ _ _ _ dX6_person_34 hP hD hS
  have b_33 : ∀ (M : CS) (H : Heap) (locs : List Loc) (ls : Array Slot), f_X6_person_33 M N = some (r, M') → va_P G.1 vwCl (w_Mo G A M N) H → va_D B (w_Mo G A M N) → va_S B s.heap H locs → lv_has ls 3 [] → W p l e r_X6_person s m av below meth cd H locs 0 0 Q (F0 m 33 ls []) := by
    intro M H locs ls hf hP hD hS hl
    unfold f_X6_person_33 at hf
    refine lv_iconst (pc := 33) (v := (-1 : Int32)) hx hb dX6_person_33 (by decide) ?_
    exact b_34 _ _ H locs ls hf hP hD hS (lv_sub hl [] rfl)
  unfold f_X6_person at hf
  refine lv_aload_n (pc := 0) hx hb dX6_person_0 rfl (lv_at hl 0 rfl) ?_
  refine lv_iload_n (pc := 1) hx hb dX6_person_1 rfl (lv_at hl 1 rfl) ?_
  obtain ⟨r1, hc1, hf⟩ := ob1_some hf
  refine endi X.2.2.2.2 (runV (pc := 2) (As := [.int x1]) (rest := []) X (c_X6_isPerson G l A H.size M N x1 r1 hc1) gX6_person_X6_isPerson k_X6_isPerson ⟨rfl, rfl⟩ ⟨Nat.le_of_ble_eq_true rfl, Nat.le_of_ble_eq_true rfl⟩ (EM.all (w_Mo G A M N) (w_Mo G A M N)) hP hD hS (ci := 6) rfl rfl (at_Mo_0 G A M N) rfl hl.1 rfl (Nat.le_of_ble_eq_true rfl) ⟨Nat.zero_le _, Nat.zero_le _⟩ dX6_person_2) (EM.all (w_Mo G A M N) (w_Mo G A M N)) hP hD hS (fun H locs hP hD hS => ?_)
  refine lv_if_eq (pc := 5) (tgt := 33) hx hb dX6_person_5 (by decide) (fun h2 => ?_) (fun h2 => ?_)
  · have hf := br_y h2 hf
    exact b_33 _ H locs ls hf hP hD hS (lv_sub hl [] rfl)
  · have hf := br_n h2 hf
    refine lv_iload_n (pc := 8) hx hb dX6_person_8 rfl (lv_at hl 2 rfl) ?_
    refine lv_i2l (pc := 9) (v := (x2).toInt64) hx hb dX6_person_9 rfl ?_
    refine lv_lconst (pc := 10) (v := (0 : Int64)) hx hb dX6_person_10 (by decide) ?_
    refine lv_ldc2 (pc := 11) (v := 4) hx hb X.1.2.2.2.1 (X.1.2.2.2.2 _ (List.mem_cons_of_mem _ (List.mem_append_left _ (List.mem_append_left _ (List.mem_of_getElem? (i := 0) rfl))))) dX6_person_11 ?_
    obtain ⟨r2, hc2, hf⟩ := ob1_some hf
    refine endi X.2.2.2.2 (runS (pc := 14) (As := [.long ((x2).toInt64), .long (0 : Int64), .long (4 : Int64)]) (rest := []) X (c_X6_in G l  H.size ((x2).toInt64) (0 : Int64) (4 : Int64) r2 hc2) gX6_person_X6_in k_X6_in ⟨rfl, rfl⟩ ⟨Nat.le_of_ble_eq_true rfl, Nat.le_of_ble_eq_true rfl⟩ (EM.nil (w_Mo G A M N)) hP hD hS rfl hl.1 rfl (Nat.le_of_ble_eq_true rfl) ⟨Nat.zero_le _, Nat.zero_le _⟩ dX6_person_14) (EM.nil (w_Mo G A M N)) hP hD hS (fun H locs hP hD hS => ?_)
    refine lv_if_eq (pc := 17) (tgt := 33) hx hb dX6_person_17 (by decide) (fun h1 => ?_) (fun h1 => ?_)
    · have hf := br_y h1 hf
      exact b_33 _ H locs ls hf hP hD hS (lv_sub hl [] rfl)
    · have hf := br_n h1 hf
      refine lv_aload_n (pc := 20) hx hb dX6_person_20 rfl (lv_at hl 0 rfl) ?_
      refine lv_aload_n (pc := 21) hx hb dX6_person_21 rfl (lv_at hl 0 rfl) ?_
      refine lv_iload_n (pc := 22) hx hb dX6_person_22 rfl (lv_at hl 1 rfl) ?_
      refine lv_iload_n (pc := 23) hx hb dX6_person_23 rfl (lv_at hl 2 rfl) ?_
      obtain ⟨r3, M3, hc3, hf⟩ := ob2_some hf
      refine endi X.2.2.2.2 (runV (pc := 24) (As := [.int x1, .int x2]) (rest := [.ref (A 0)]) X (c_X6_told G l A H.size M N x1 x2 r3 M3 hc3) gX6_person_X6_told k_X6_told ⟨rfl, rfl⟩ ⟨Nat.le_of_ble_eq_true rfl, Nat.le_of_ble_eq_true rfl⟩ (EM.all (w_Mo G A M N) (w_Mo G A M3 N)) hP hD hS (ci := 6) rfl rfl (at_Mo_0 G A M N) rfl hl.1 rfl (Nat.le_of_ble_eq_true rfl) ⟨Nat.zero_le _, Nat.zero_le _⟩ dX6_person_24) (EM.all (w_Mo G A M N) (w_Mo G A M3 N)) hP hD hS (fun H locs hP hD hS => ?_)
      obtain ⟨r4, M4, hc4, hf⟩ := ob2_some hf
      refine endi X.2.2.2.2 (runV (pc := 27) (As := [.int r3]) (rest := []) X (c_X6_tell G l A H.size M3 N r3 r4 M4 hc4) gX6_person_X6_tell k_X6_tell ⟨rfl, rfl⟩ ⟨Nat.le_of_ble_eq_true rfl, Nat.le_of_ble_eq_true rfl⟩ (EM.all (w_Mo G A M3 N) (w_Mo G A M4 N)) hP hD hS (ci := 6) rfl rfl (at_Mo_0 G A M3 N) rfl hl.1 rfl (Nat.le_of_ble_eq_true rfl) ⟨Nat.zero_le _, Nat.zero_le _⟩ dX6_person_27) (EM.all (w_Mo G A M3 N) (w_Mo G A M4 N)) hP hD hS (fun H locs hP hD hS => ?_)
      refine lv_goto (pc := 30) (tgt := 34) hx hb dX6_person_30 (by decide) ?_
      exact b_34 _ _ H locs ls hf hP hD hS (lv_sub hl [] rfl)
def r_X6_put : Room := { frames := 2, cells := 0, slots := 0, locals := 45 }
set_option maxHeartbeats 4000000 in
set_option maxRecDepth 100000 in
theorem c_X6_put (G : GT) (l : Launch) (A : Nat → Nat) (sz : Nat) (M : CS) (N : JS) (x1 : Int32) (x2 : Int32) (x3 : Int32) (r : Int32) (M' : CS) (hf : f_X6_put M N x1 x2 x3 = some (r, M')) : MTi l yX6_put wsX6_put r_X6_put [.ref (A 0), .int x1, .int x2, .int x3] G (w_Mo G A M N) (w_Mo G A M' N) sz r := by
  refine MTi.of (cc := cX6_put) (maxL := 5) (by decide +kernel) rfl (Nat.le_of_ble_eq_true rfl) (fun p e s m av below meth cd Q B H locs ls X hret hl hP hD hS => ?_)
  have hx := X.1.1
  have hb := X.1.2.1
  have hl : lv_has ls 5 [(0, .ref (A 0)), (1, .int x1), (2, .int x2), (3, .int x3)] := hl
  unfold f_X6_put at hf
  refine lv_iload_n (pc := 0) hx hb dX6_put_0 rfl (lv_at hl 1 rfl) ?_
  obtain ⟨r1, hc1, hf⟩ := ob1_some hf
  refine endi X.2.2.2.2 (runS (pc := 1) (As := [.int x1]) (rest := []) X (c_X6_isText G l  H.size x1 r1 hc1) gX6_put_X6_isText k_X6_isText ⟨rfl, rfl⟩ ⟨Nat.le_of_ble_eq_true rfl, Nat.le_of_ble_eq_true rfl⟩ (EM.nil (w_Mo G A M N)) hP hD hS rfl hl.1 rfl (Nat.le_of_ble_eq_true rfl) ⟨Nat.zero_le _, Nat.zero_le _⟩ dX6_put_1) (EM.nil (w_Mo G A M N)) hP hD hS (fun H locs hP hD hS => ?_)
  refine lv_if_ne (pc := 4) (tgt := 9) hx hb dX6_put_4 (by decide) (fun h3 => ?_) (fun h3 => ?_)
  · have hf := br_n h3 hf
    refine lv_aload_n (pc := 9) hx hb dX6_put_9 rfl (lv_at hl 0 rfl) ?_
    refine wget (pc := 10) X (fun _ h9 => List.mem_cons_of_mem _ (List.mem_append_right _ h9)) hP 0 (at_Mo_0 G A M N) rfl 2 (by decide) (List.mem_cons_of_mem _ (List.mem_append_left _ (List.mem_of_getElem? (i := 0) rfl))) rfl (v := .ref (A 3)) rfl dX6_put_10 ?_
    refine lv_iload_n (pc := 13) hx hb dX6_put_13 rfl (lv_at hl 1 rfl) ?_
    obtain ⟨hi, hf⟩ := ck_some hf
    refine wiald (pc := 14) X hP 3 (at_Mo_3 G A M N) hi rfl dX6_put_14 ?_
    refine lv_if_ge (pc := 15) (tgt := 24) hx hb dX6_put_15 (by decide) (fun h2 => ?_) (fun h2 => ?_)
    · have hf := br_y h2 hf
      refine lv_iload_n (pc := 24) hx hb dX6_put_24 rfl (lv_at hl 2 rfl) ?_
      refine lv_i2l (pc := 25) (v := (x2).toInt64) hx hb dX6_put_25 rfl ?_
      refine lv_lconst (pc := 26) (v := (0 : Int64)) hx hb dX6_put_26 (by decide) ?_
      refine lv_aload_n (pc := 27) hx hb dX6_put_27 rfl (lv_at hl 0 rfl) ?_
      refine wget (pc := 28) X (fun _ h9 => List.mem_cons_of_mem _ (List.mem_append_right _ h9)) hP 0 (at_Mo_0 G A M N) rfl 2 (by decide) (List.mem_cons_of_mem _ (List.mem_append_left _ (List.mem_of_getElem? (i := 0) rfl))) rfl (v := .ref (A 3)) rfl dX6_put_28 ?_
      refine lv_iload_n (pc := 31) hx hb dX6_put_31 rfl (lv_at hl 1 rfl) ?_
      obtain ⟨hi, hf⟩ := ck_some hf
      refine wiald (pc := 32) X hP 3 (at_Mo_3 G A M N) hi rfl dX6_put_32 ?_
      refine lv_iconst (pc := 33) (v := (1 : Int32)) hx hb dX6_put_33 (by decide) ?_
      refine lv_isub (pc := 34) hx hb dX6_put_34 ?_
      refine lv_i2l (pc := 35) (v := ((((M 2) x1.toNatClampNeg) - (1 : Int32))).toInt64) hx hb dX6_put_35 rfl ?_
      obtain ⟨r2, hc2, hf⟩ := ob1_some hf
      refine endi X.2.2.2.2 (runS (pc := 36) (As := [.long ((x2).toInt64), .long (0 : Int64), .long (((((M 2) x1.toNatClampNeg) - (1 : Int32))).toInt64)]) (rest := []) X (c_X6_in G l  H.size ((x2).toInt64) (0 : Int64) (((((M 2) x1.toNatClampNeg) - (1 : Int32))).toInt64) r2 hc2) gX6_put_X6_in k_X6_in ⟨rfl, rfl⟩ ⟨Nat.le_of_ble_eq_true rfl, Nat.le_of_ble_eq_true rfl⟩ (EM.nil (w_Mo G A M N)) hP hD hS rfl hl.1 rfl (Nat.le_of_ble_eq_true rfl) ⟨Nat.zero_le _, Nat.zero_le _⟩ dX6_put_36) (EM.nil (w_Mo G A M N)) hP hD hS (fun H locs hP hD hS => ?_)
      refine lv_if_ne (pc := 39) (tgt := 48) hx hb dX6_put_39 (by decide) (fun h1 => ?_) (fun h1 => ?_)
      · have hf := br_n h1 hf
        refine lv_aload_n (pc := 48) hx hb dX6_put_48 rfl (lv_at hl 0 rfl) ?_
        refine wget (pc := 49) X (fun _ h9 => List.mem_cons_of_mem _ (List.mem_append_right _ h9)) hP 0 (at_Mo_0 G A M N) rfl 3 (by decide) (List.mem_cons_of_mem _ (List.mem_append_left _ (List.mem_of_getElem? (i := 1) rfl))) rfl (v := .ref (A 4)) rfl dX6_put_49 ?_
        refine lv_bipush (pc := 52) (v := (60 : Int32)) hx hb dX6_put_52 (by decide) ?_
        refine lv_iload_n (pc := 54) hx hb dX6_put_54 rfl (lv_at hl 1 rfl) ?_
        refine lv_imul (pc := 55) hx hb dX6_put_55 ?_
        refine lv_iload_n (pc := 56) hx hb dX6_put_56 rfl (lv_at hl 2 rfl) ?_
        refine lv_iadd (pc := 57) hx hb dX6_put_57 ?_
        obtain ⟨hi, hf⟩ := ck_some hf
        refine wiald (pc := 58) X hP 4 (at_Mo_4 G A M N) hi rfl dX6_put_58 ?_
        refine lv_istore (pc := 59) (lv' := [(4, .int ((M 3) (((60 : Int32) * x1) + x2).toNatClampNeg)), (0, .ref (A 0)), (1, .int x1), (2, .int x2), (3, .int x3)]) hx hb dX6_put_59 hl (by decide) rfl (fun ls hl => ?_)
        refine lv_aload_n (pc := 61) hx hb dX6_put_61 rfl (lv_at hl 1 rfl) ?_
        refine wget (pc := 62) X (fun _ h9 => List.mem_cons_of_mem _ (List.mem_append_right _ h9)) hP 0 (at_Mo_0 G A M N) rfl 3 (by decide) (List.mem_cons_of_mem _ (List.mem_append_left _ (List.mem_of_getElem? (i := 1) rfl))) rfl (v := .ref (A 4)) rfl dX6_put_62 ?_
        refine lv_bipush (pc := 65) (v := (60 : Int32)) hx hb dX6_put_65 (by decide) ?_
        refine lv_iload_n (pc := 67) hx hb dX6_put_67 rfl (lv_at hl 2 rfl) ?_
        refine lv_imul (pc := 68) hx hb dX6_put_68 ?_
        refine lv_iload_n (pc := 69) hx hb dX6_put_69 rfl (lv_at hl 3 rfl) ?_
        refine lv_iadd (pc := 70) hx hb dX6_put_70 ?_
        refine lv_iload_n (pc := 71) hx hb dX6_put_71 rfl (lv_at hl 4 rfl) ?_
        refine lv_i2b (pc := 72) (v := (x3).toInt8.toInt32) hx hb dX6_put_72 rfl ?_
        obtain ⟨hi, hf⟩ := ck_some hf
        refine wiast (pc := 73) X hP hD hS 4 (at_Mo_4 G A M N) hi rfl (sa_Mo_4 G A M N _) dX6_put_73 (fun H locs hP hD hS => ?_)
        have hP : va_P G.1 vwCl (w_Mo G A (cset M 3 (((60 : Int32) * x1) + x2).toNatClampNeg ((x3).toInt8.toInt32)) N) H := hP
        have hD : va_D B (w_Mo G A (cset M 3 (((60 : Int32) * x1) + x2).toNatClampNeg ((x3).toInt8.toInt32)) N) := hD
        refine lv_iload (pc := 74) hx hb dX6_put_74 (lv_at hl 0 rfl) ?_
        refine lv_sipush (pc := 76) (v := (1000 : Int32)) hx hb dX6_put_76 (by decide) ?_
        refine lv_iadd (pc := 79) hx hb dX6_put_79 ?_
        cases hf
        exact hret _ _ _ _ dX6_put_80 hP hD hS
      · have hf := br_y h1 hf
        refine lv_aload_n (pc := 42) hx hb dX6_put_42 rfl (lv_at hl 0 rfl) ?_
        refine lv_iconst (pc := 43) (v := (2 : Int32)) hx hb dX6_put_43 (by decide) ?_
        obtain ⟨r3, M3, hc3, hf⟩ := ob2_some hf
        refine endi X.2.2.2.2 (runV (pc := 44) (As := [.int (2 : Int32)]) (rest := []) X (c_X6_found G l A H.size M N (2 : Int32) r3 M3 hc3) gX6_put_X6_found k_X6_found ⟨rfl, rfl⟩ ⟨Nat.le_of_ble_eq_true rfl, Nat.le_of_ble_eq_true rfl⟩ (EM.all (w_Mo G A M N) (w_Mo G A M3 N)) hP hD hS (ci := 6) rfl rfl (at_Mo_0 G A M N) rfl hl.1 rfl (Nat.le_of_ble_eq_true rfl) ⟨Nat.zero_le _, Nat.zero_le _⟩ dX6_put_44) (EM.all (w_Mo G A M N) (w_Mo G A M3 N)) hP hD hS (fun H locs hP hD hS => ?_)
        cases hf
        exact hret _ _ _ _ dX6_put_47 hP hD hS
    · have hf := br_n h2 hf
      refine lv_aload_n (pc := 18) hx hb dX6_put_18 rfl (lv_at hl 0 rfl) ?_
      refine lv_iconst (pc := 19) (v := (1 : Int32)) hx hb dX6_put_19 (by decide) ?_
      obtain ⟨r4, M4, hc4, hf⟩ := ob2_some hf
      refine endi X.2.2.2.2 (runV (pc := 20) (As := [.int (1 : Int32)]) (rest := []) X (c_X6_found G l A H.size M N (1 : Int32) r4 M4 hc4) gX6_put_X6_found k_X6_found ⟨rfl, rfl⟩ ⟨Nat.le_of_ble_eq_true rfl, Nat.le_of_ble_eq_true rfl⟩ (EM.all (w_Mo G A M N) (w_Mo G A M4 N)) hP hD hS (ci := 6) rfl rfl (at_Mo_0 G A M N) rfl hl.1 rfl (Nat.le_of_ble_eq_true rfl) ⟨Nat.zero_le _, Nat.zero_le _⟩ dX6_put_20) (EM.all (w_Mo G A M N) (w_Mo G A M4 N)) hP hD hS (fun H locs hP hD hS => ?_)
      cases hf
      exact hret _ _ _ _ dX6_put_23 hP hD hS
  · have hf := br_y h3 hf
    refine lv_iconst (pc := 7) (v := (-1 : Int32)) hx hb dX6_put_7 (by decide) ?_
    cases hf
    exact hret _ _ _ _ dX6_put_8 hP hD hS
def r_X6_row : Room := { frames := 2, cells := 0, slots := 0, locals := 45 }
set_option maxHeartbeats 4000000 in
set_option maxRecDepth 100000 in
theorem c_X6_row (G : GT) (l : Launch) (A : Nat → Nat) (sz : Nat) (M : CS) (N : JS) (x1 : Int32) (x2 : Int32) (r : Int32) (M' : CS) (hf : f_X6_row M N x1 x2 = some (r, M')) : MTi l yX6_row wsX6_row r_X6_row [.ref (A 0), .int x1, .int x2] G (w_Mo G A M N) (w_Mo G A M' N) sz r := by
  refine MTi.of (cc := cX6_row) (maxL := 4) (by decide +kernel) rfl (Nat.le_of_ble_eq_true rfl) (fun p e s m av below meth cd Q B H locs ls X hret hl hP hD hS => ?_)
  have hx := X.1.1
  have hb := X.1.2.1
  have hl : lv_has ls 4 [(0, .ref (A 0)), (1, .int x1), (2, .int x2)] := hl
  have b_13 : ∀ (M : CS) (H : Heap) (locs : List Loc) (ls : Array Slot), f_X6_row_13 M N = some (r, M') → va_P G.1 vwCl (w_Mo G A M N) H → va_D B (w_Mo G A M N) → va_S B s.heap H locs → lv_has ls 4 [] → W p l e r_X6_row s m av below meth cd H locs 0 0 Q (F0 m 13 ls []) := by
    intro M H locs ls hf hP hD hS hl
    unfold f_X6_row_13 at hf
    refine lv_iconst (pc := 13) (v := (-1 : Int32)) hx hb dX6_row_13 (by decide) ?_
    cases hf
    exact hret _ _ _ _ dX6_row_14 hP hD hS
  have l_34 : ∀ (n34 : Nat), ∀ (x1 : Int32) (x2 : Int32) (x3 : Int32) (M : CS) (H : Heap) (locs : List Loc) (ls : Array Slot), f_X6_row_34 n34 x1 x2 x3 M N = some (r, M') → va_P G.1 vwCl (w_Mo G A M N) H → va_D B (w_Mo G A M N) → va_S B s.heap H locs → lv_has ls 4 [(0, .ref (A 0)), (1, .int x1), (2, .int x2), (3, .int x3)] → W p l e r_X6_row s m av below meth cd H locs 0 0 Q (F0 m 34 ls []) := by
    intro n34
    induction n34 with
    | zero =>
      intro x1 x2 x3 M H locs ls hf hP hD hS hl
      rw [f_X6_row_34] at hf
      cases hf
    | succ n34 ih34 =>
      intro x1 x2 x3 M H locs ls hf hP hD hS hl
      rw [f_X6_row_34] at hf
      refine lv_iload_n (pc := 34) hx hb dX6_row_34 rfl (lv_at hl 3 rfl) ?_
      refine lv_bipush (pc := 35) (v := (40 : Int32)) hx hb dX6_row_35 (by decide) ?_
      refine lv_icmp_ge (pc := 37) (tgt := 58) hx hb dX6_row_37 (by decide) (fun h1 => ?_) (fun h1 => ?_)
      · have hf := br_y h1 hf
        refine lv_iload_n (pc := 58) hx hb dX6_row_58 rfl (lv_at hl 2 rfl) ?_
        cases hf
        exact hret _ _ _ _ dX6_row_59 hP hD hS
      · have hf := br_n h1 hf
        refine lv_aload_n (pc := 40) hx hb dX6_row_40 rfl (lv_at hl 0 rfl) ?_
        refine wget (pc := 41) X (fun _ h9 => List.mem_cons_of_mem _ (List.mem_append_right _ h9)) hP 0 (at_Mo_0 G A M N) rfl 1 (by decide) (List.mem_cons_of_mem _ (List.mem_append_left _ (List.mem_of_getElem? (i := 1) rfl))) rfl (v := .ref (A 2)) rfl dX6_row_41 ?_
        refine lv_bipush (pc := 44) (v := (40 : Int32)) hx hb dX6_row_44 (by decide) ?_
        refine lv_iload_n (pc := 46) hx hb dX6_row_46 rfl (lv_at hl 1 rfl) ?_
        refine lv_imul (pc := 47) hx hb dX6_row_47 ?_
        refine lv_iload_n (pc := 48) hx hb dX6_row_48 rfl (lv_at hl 3 rfl) ?_
        refine lv_iadd (pc := 49) hx hb dX6_row_49 ?_
        refine lv_iconst (pc := 50) (v := (0 : Int32)) hx hb dX6_row_50 (by decide) ?_
        obtain ⟨hi, hf⟩ := ck_some hf
        refine wiast (pc := 51) X hP hD hS 2 (at_Mo_2 G A M N) hi rfl (sa_Mo_2 G A M N _) dX6_row_51 (fun H locs hP hD hS => ?_)
        have hP : va_P G.1 vwCl (w_Mo G A (cset M 1 (((40 : Int32) * x1) + x3).toNatClampNeg (0 : Int32)) N) H := hP
        have hD : va_D B (w_Mo G A (cset M 1 (((40 : Int32) * x1) + x3).toNatClampNeg (0 : Int32)) N) := hD
        refine lv_iinc (pc := 52) (v := (x3 + (1 : Int32))) (lv' := [(3, .int (x3 + (1 : Int32))), (0, .ref (A 0)), (1, .int x1), (2, .int x2)]) hx hb dX6_row_52 hl (k := 3) rfl rfl (by decide) rfl (fun ls hl => ?_)
        refine lv_goto (pc := 55) (tgt := 34) hx hb dX6_row_55 (by decide) ?_
        exact ih34 _ _ _ _ H locs ls hf hP hD hS (lv_sub hl [1, 2, 3, 0] rfl)
  unfold f_X6_row at hf
  refine lv_iload_n (pc := 0) hx hb dX6_row_0 rfl (lv_at hl 1 rfl) ?_
  obtain ⟨r1, hc1, hf⟩ := ob1_some hf
  refine endi X.2.2.2.2 (runS (pc := 1) (As := [.int x1]) (rest := []) X (c_X6_isRow G l  H.size x1 r1 hc1) gX6_row_X6_isRow k_X6_isRow ⟨rfl, rfl⟩ ⟨Nat.le_of_ble_eq_true rfl, Nat.le_of_ble_eq_true rfl⟩ (EM.nil (w_Mo G A M N)) hP hD hS rfl hl.1 rfl (Nat.le_of_ble_eq_true rfl) ⟨Nat.zero_le _, Nat.zero_le _⟩ dX6_row_1) (EM.nil (w_Mo G A M N)) hP hD hS (fun H locs hP hD hS => ?_)
  refine lv_if_eq (pc := 4) (tgt := 13) hx hb dX6_row_4 (by decide) (fun h4 => ?_) (fun h4 => ?_)
  · have hf := br_y h4 hf
    exact b_13 _ H locs ls hf hP hD hS (lv_sub hl [] rfl)
  · have hf := br_n h4 hf
    refine lv_iload_n (pc := 7) hx hb dX6_row_7 rfl (lv_at hl 2 rfl) ?_
    refine lv_bipush (pc := 8) (v := (40 : Int32)) hx hb dX6_row_8 (by decide) ?_
    refine lv_icmp_le (pc := 10) (tgt := 15) hx hb dX6_row_10 (by decide) (fun h3 => ?_) (fun h3 => ?_)
    · have hf := br_y h3 hf
      refine lv_iload_n (pc := 15) hx hb dX6_row_15 rfl (lv_at hl 2 rfl) ?_
      refine lv_if_ge (pc := 16) (tgt := 25) hx hb dX6_row_16 (by decide) (fun h2 => ?_) (fun h2 => ?_)
      · have hf := br_y h2 hf
        refine lv_aload_n (pc := 25) hx hb dX6_row_25 rfl (lv_at hl 0 rfl) ?_
        refine wget (pc := 26) X (fun _ h9 => List.mem_cons_of_mem _ (List.mem_append_right _ h9)) hP 0 (at_Mo_0 G A M N) rfl 0 (by decide) (List.mem_cons_of_mem _ (List.mem_append_left _ (List.mem_of_getElem? (i := 0) rfl))) rfl (v := .ref (A 1)) rfl dX6_row_26 ?_
        refine lv_iload_n (pc := 29) hx hb dX6_row_29 rfl (lv_at hl 1 rfl) ?_
        refine lv_iload_n (pc := 30) hx hb dX6_row_30 rfl (lv_at hl 2 rfl) ?_
        obtain ⟨hi, hf⟩ := ck_some hf
        refine wiast (pc := 31) X hP hD hS 1 (at_Mo_1 G A M N) hi rfl (sa_Mo_1 G A M N _) dX6_row_31 (fun H locs hP hD hS => ?_)
        have hP : va_P G.1 vwCl (w_Mo G A (cset M 0 x1.toNatClampNeg x2) N) H := hP
        have hD : va_D B (w_Mo G A (cset M 0 x1.toNatClampNeg x2) N) := hD
        refine lv_iconst (pc := 32) (v := (0 : Int32)) hx hb dX6_row_32 (by decide) ?_
        refine lv_istore_n (pc := 33) (lv' := [(3, .int (0 : Int32)), (0, .ref (A 0)), (1, .int x1), (2, .int x2)]) hx hb dX6_row_33 rfl hl (by decide) rfl (fun ls hl => ?_)
        exact l_34 FU _ _ _ _ H locs ls hf hP hD hS (lv_sub hl [1, 2, 3, 0] rfl)
      · have hf := br_n h2 hf
        refine lv_aload_n (pc := 19) hx hb dX6_row_19 rfl (lv_at hl 0 rfl) ?_
        refine lv_iconst (pc := 20) (v := (5 : Int32)) hx hb dX6_row_20 (by decide) ?_
        obtain ⟨r2, M2, hc2, hf⟩ := ob2_some hf
        refine endi X.2.2.2.2 (runV (pc := 21) (As := [.int (5 : Int32)]) (rest := []) X (c_X6_found G l A H.size M N (5 : Int32) r2 M2 hc2) gX6_row_X6_found k_X6_found ⟨rfl, rfl⟩ ⟨Nat.le_of_ble_eq_true rfl, Nat.le_of_ble_eq_true rfl⟩ (EM.all (w_Mo G A M N) (w_Mo G A M2 N)) hP hD hS (ci := 6) rfl rfl (at_Mo_0 G A M N) rfl hl.1 rfl (Nat.le_of_ble_eq_true rfl) ⟨Nat.zero_le _, Nat.zero_le _⟩ dX6_row_21) (EM.all (w_Mo G A M N) (w_Mo G A M2 N)) hP hD hS (fun H locs hP hD hS => ?_)
        cases hf
        exact hret _ _ _ _ dX6_row_24 hP hD hS
    · have hf := br_n h3 hf
      exact b_13 _ H locs ls hf hP hD hS (lv_sub hl [] rfl)
def r_X6_since : Room := { frames := 3, cells := 0, slots := 0, locals := 70 }
set_option maxHeartbeats 4000000 in
set_option maxRecDepth 100000 in
theorem c_X6_since (G : GT) (l : Launch) (A : Nat → Nat) (sz : Nat) (M : CS) (N : JS) (x1 : Int32) (x2 : Int32) (x3 : Int32) (r : Int32) (M' : CS) (hf : f_X6_since M N x1 x2 x3 = some (r, M')) : MTi l yX6_since wsX6_since r_X6_since [.ref (A 0), .int x1, .int x2, .int x3] G (w_Mo G A M N) (w_Mo G A M' N) sz r := by
  refine MTi.of (cc := cX6_since) (maxL := 8) (by decide +kernel) rfl (Nat.le_of_ble_eq_true rfl) (fun p e s m av below meth cd Q B H locs ls X hret hl hP hD hS => ?_)
  have hx := X.1.1
  have hb := X.1.2.1
  have hl : lv_has ls 8 [(0, .ref (A 0)), (1, .int x1), (2, .int x2), (3, .int x3)] := hl
  have b_16 : ∀ (M : CS) (H : Heap) (locs : List Loc) (ls : Array Slot), f_X6_since_16 M N = some (r, M') → va_P G.1 vwCl (w_Mo G A M N) H → va_D B (w_Mo G A M N) → va_S B s.heap H locs → lv_has ls 8 [] → W p l e r_X6_since s m av below meth cd H locs 0 0 Q (F0 m 16 ls []) := by
    intro M H locs ls hf hP hD hS hl
    unfold f_X6_since_16 at hf
    refine lv_iconst (pc := 16) (v := (-1 : Int32)) hx hb dX6_since_16 (by decide) ?_
    cases hf
    exact hret _ _ _ _ dX6_since_17 hP hD hS
  have b_105 : ∀ (t0 : Int32) (M : CS) (H : Heap) (locs : List Loc) (ls : Array Slot), f_X6_since_105 t0 M N = some (r, M') → va_P G.1 vwCl (w_Mo G A M N) H → va_D B (w_Mo G A M N) → va_S B s.heap H locs → lv_has ls 8 [] → W p l e r_X6_since s m av below meth cd H locs 0 0 Q (F0 m 105 ls [.int t0]) := by
    intro t0 M H locs ls hf hP hD hS hl
    unfold f_X6_since_105 at hf
    cases hf
    exact hret _ _ _ _ dX6_since_105 hP hD hS
  have l_34 : ∀ (n34 : Nat), ∀ (x1 : Int32) (x2 : Int32) (x4 : Int32) (x5 : Int32) (x6 : Int32) (M : CS) (H : Heap) (locs : List Loc) (ls : Array Slot), f_X6_since_34 n34 x1 x2 x4 x5 x6 M N = some (r, M') → va_P G.1 vwCl (w_Mo G A M N) H → va_D B (w_Mo G A M N) → va_S B s.heap H locs → lv_has ls 8 [(0, .ref (A 0)), (1, .int x1), (2, .int x2), (4, .int x4), (5, .int x5), (6, .int x6)] → W p l e r_X6_since s m av below meth cd H locs 0 0 Q (F0 m 34 ls []) := by
    intro n34
    induction n34 with
    | zero =>
      intro x1 x2 x4 x5 x6 M H locs ls hf hP hD hS hl
      rw [f_X6_since_34] at hf
      cases hf
    | succ n34 ih34 =>
      have b_77 : ∀ (x1 : Int32) (x2 : Int32) (x5 : Int32) (x6 : Int32) (t0 : Int32) (M : CS) (H : Heap) (locs : List Loc) (ls : Array Slot), f_X6_since_77 (f_X6_since_34 n34) x1 x2 x5 x6 t0 M N = some (r, M') → va_P G.1 vwCl (w_Mo G A M N) H → va_D B (w_Mo G A M N) → va_S B s.heap H locs → lv_has ls 8 [(0, .ref (A 0)), (1, .int x1), (2, .int x2), (5, .int x5), (6, .int x6)] → W p l e r_X6_since s m av below meth cd H locs 0 0 Q (F0 m 77 ls [.int t0]) := by
        intro x1 x2 x5 x6 t0 M H locs ls hf hP hD hS hl
        unfold f_X6_since_77 at hf
        refine lv_istore (pc := 77) (lv' := [(4, .int t0), (0, .ref (A 0)), (1, .int x1), (2, .int x2), (5, .int x5), (6, .int x6)]) hx hb dX6_since_77 hl (by decide) rfl (fun ls hl => ?_)
        refine lv_iinc (pc := 79) (v := (x6 + (-1 : Int32))) (lv' := [(6, .int (x6 + (-1 : Int32))), (4, .int t0), (0, .ref (A 0)), (1, .int x1), (2, .int x2), (5, .int x5)]) hx hb dX6_since_79 hl (k := 5) rfl rfl (by decide) rfl (fun ls hl => ?_)
        refine lv_goto (pc := 82) (tgt := 34) hx hb dX6_since_82 (by decide) ?_
        exact ih34 _ _ _ _ _ _ H locs ls hf hP hD hS (lv_sub hl [2, 3, 4, 1, 5, 0] rfl)
      have b_62 : ∀ (x1 : Int32) (x2 : Int32) (x4 : Int32) (x6 : Int32) (x7 : Int32) (t0 : Int32) (t1 : Int32) (M : CS) (H : Heap) (locs : List Loc) (ls : Array Slot), f_X6_since_62 (f_X6_since_34 n34) x1 x2 x4 x6 x7 t0 t1 M N = some (r, M') → va_P G.1 vwCl (w_Mo G A M N) H → va_D B (w_Mo G A M N) → va_S B s.heap H locs → lv_has ls 8 [(0, .ref (A 0)), (1, .int x1), (2, .int x2), (4, .int x4), (6, .int x6), (7, .int x7)] → W p l e r_X6_since s m av below meth cd H locs 0 0 Q (F0 m 62 ls [.int t1, .int t0]) := by
        intro x1 x2 x4 x6 x7 t0 t1 M H locs ls hf hP hD hS hl
        unfold f_X6_since_62 at hf
        refine lv_iadd (pc := 62) hx hb dX6_since_62 ?_
        refine lv_istore (pc := 63) (lv' := [(5, .int (t0 + t1)), (0, .ref (A 0)), (1, .int x1), (2, .int x2), (4, .int x4), (6, .int x6), (7, .int x7)]) hx hb dX6_since_63 hl (by decide) rfl (fun ls hl => ?_)
        refine lv_iload (pc := 65) hx hb dX6_since_65 (lv_at hl 6 rfl) ?_
        refine lv_if_eq (pc := 67) (tgt := 75) hx hb dX6_since_67 (by decide) (fun h1 => ?_) (fun h1 => ?_)
        · have hf := br_y h1 hf
          refine lv_iload (pc := 75) hx hb dX6_since_75 (lv_at hl 4 rfl) ?_
          exact b_77 _ _ _ _ _ _ H locs ls hf hP hD hS (lv_sub hl [1, 2, 3, 0, 5] rfl)
        · have hf := br_n h1 hf
          refine lv_iload (pc := 70) hx hb dX6_since_70 (lv_at hl 5 rfl) ?_
          refine lv_goto (pc := 72) (tgt := 77) hx hb dX6_since_72 (by decide) ?_
          exact b_77 _ _ _ _ _ _ H locs ls hf hP hD hS (lv_sub hl [1, 2, 3, 0, 5] rfl)
      intro x1 x2 x4 x5 x6 M H locs ls hf hP hD hS hl
      rw [f_X6_since_34] at hf
      refine lv_iload (pc := 34) hx hb dX6_since_34 (lv_at hl 5 rfl) ?_
      refine lv_iload_n (pc := 36) hx hb dX6_since_36 rfl (lv_at hl 2 rfl) ?_
      refine lv_icmp_lt (pc := 37) (tgt := 85) hx hb dX6_since_37 (by decide) (fun h4 => ?_) (fun h4 => ?_)
      · have hf := br_y h4 hf
        refine lv_iload (pc := 85) hx hb dX6_since_85 (lv_at hl 3 rfl) ?_
        refine lv_bipush (pc := 87) (v := (-9 : Int32)) hx hb dX6_since_87 (by decide) ?_
        refine lv_icmp_ne (pc := 89) (tgt := 97) hx hb dX6_since_89 (by decide) (fun h2 => ?_) (fun h2 => ?_)
        · have hf := br_n h2 hf
          refine lv_aload_n (pc := 97) hx hb dX6_since_97 rfl (lv_at hl 0 rfl) ?_
          refine lv_iload (pc := 98) hx hb dX6_since_98 (lv_at hl 3 rfl) ?_
          refine lv_iload (pc := 100) hx hb dX6_since_100 (lv_at hl 4 rfl) ?_
          obtain ⟨r1, M1, hc1, hf⟩ := ob2_some hf
          refine endi X.2.2.2.2 (runV (pc := 102) (As := [.int x4, .int x5]) (rest := []) X (c_X6_answer G l A H.size M N x4 x5 r1 M1 hc1) gX6_since_X6_answer k_X6_answer ⟨rfl, rfl⟩ ⟨Nat.le_of_ble_eq_true rfl, Nat.le_of_ble_eq_true rfl⟩ (EM.all (w_Mo G A M N) (w_Mo G A M1 N)) hP hD hS (ci := 6) rfl rfl (at_Mo_0 G A M N) rfl hl.1 rfl (Nat.le_of_ble_eq_true rfl) ⟨Nat.zero_le _, Nat.zero_le _⟩ dX6_since_102) (EM.all (w_Mo G A M N) (w_Mo G A M1 N)) hP hD hS (fun H locs hP hD hS => ?_)
          exact b_105 _ _ H locs ls hf hP hD hS (lv_sub hl [] rfl)
        · have hf := br_y h2 hf
          refine lv_bipush (pc := 92) (v := (-9 : Int32)) hx hb dX6_since_92 (by decide) ?_
          refine lv_goto (pc := 94) (tgt := 105) hx hb dX6_since_94 (by decide) ?_
          exact b_105 _ _ H locs ls hf hP hD hS (lv_sub hl [] rfl)
      · have hf := br_n h4 hf
        refine lv_aload_n (pc := 40) hx hb dX6_since_40 rfl (lv_at hl 0 rfl) ?_
        refine lv_iload_n (pc := 41) hx hb dX6_since_41 rfl (lv_at hl 1 rfl) ?_
        refine lv_iload_n (pc := 42) hx hb dX6_since_42 rfl (lv_at hl 2 rfl) ?_
        refine lv_iload (pc := 43) hx hb dX6_since_43 (lv_at hl 5 rfl) ?_
        obtain ⟨r2, hc2, hf⟩ := ob1_some hf
        refine endi X.2.2.2.2 (runV (pc := 45) (As := [.int x1, .int x2, .int x6]) (rest := []) X (c_X6_differs G l A H.size M N x1 x2 x6 r2 hc2) gX6_since_X6_differs k_X6_differs ⟨rfl, rfl⟩ ⟨Nat.le_of_ble_eq_true rfl, Nat.le_of_ble_eq_true rfl⟩ (EM.all (w_Mo G A M N) (w_Mo G A M N)) hP hD hS (ci := 6) rfl rfl (at_Mo_0 G A M N) rfl hl.1 rfl (Nat.le_of_ble_eq_true rfl) ⟨Nat.zero_le _, Nat.zero_le _⟩ dX6_since_45) (EM.all (w_Mo G A M N) (w_Mo G A M N)) hP hD hS (fun H locs hP hD hS => ?_)
        refine lv_istore (pc := 48) (lv' := [(7, .int r2), (0, .ref (A 0)), (1, .int x1), (2, .int x2), (4, .int x4), (5, .int x5), (6, .int x6)]) hx hb dX6_since_48 hl (by decide) rfl (fun ls hl => ?_)
        refine lv_iload (pc := 50) hx hb dX6_since_50 (lv_at hl 5 rfl) ?_
        refine lv_iload (pc := 52) hx hb dX6_since_52 (lv_at hl 0 rfl) ?_
        refine lv_if_eq (pc := 54) (tgt := 61) hx hb dX6_since_54 (by decide) (fun h3 => ?_) (fun h3 => ?_)
        · have hf := br_y h3 hf
          refine lv_iconst (pc := 61) (v := (0 : Int32)) hx hb dX6_since_61 (by decide) ?_
          exact b_62 _ _ _ _ _ _ _ _ H locs ls hf hP hD hS (lv_sub hl [1, 2, 3, 4, 6, 0] rfl)
        · have hf := br_n h3 hf
          refine lv_iconst (pc := 57) (v := (1 : Int32)) hx hb dX6_since_57 (by decide) ?_
          refine lv_goto (pc := 58) (tgt := 62) hx hb dX6_since_58 (by decide) ?_
          exact b_62 _ _ _ _ _ _ _ _ H locs ls hf hP hD hS (lv_sub hl [1, 2, 3, 4, 6, 0] rfl)
  unfold f_X6_since at hf
  refine lv_iload_n (pc := 0) hx hb dX6_since_0 rfl (lv_at hl 1 rfl) ?_
  refine lv_iload_n (pc := 1) hx hb dX6_since_1 rfl (lv_at hl 2 rfl) ?_
  obtain ⟨r1, hc1, hf⟩ := ob1_some hf
  refine endi X.2.2.2.2 (runS (pc := 2) (As := [.int x1, .int x2]) (rest := []) X (c_X6_areTowns G l  H.size x1 x2 r1 hc1) gX6_since_X6_areTowns k_X6_areTowns ⟨rfl, rfl⟩ ⟨Nat.le_of_ble_eq_true rfl, Nat.le_of_ble_eq_true rfl⟩ (EM.nil (w_Mo G A M N)) hP hD hS rfl hl.1 rfl (Nat.le_of_ble_eq_true rfl) ⟨Nat.zero_le _, Nat.zero_le _⟩ dX6_since_2) (EM.nil (w_Mo G A M N)) hP hD hS (fun H locs hP hD hS => ?_)
  refine lv_if_eq (pc := 5) (tgt := 16) hx hb dX6_since_5 (by decide) (fun h6 => ?_) (fun h6 => ?_)
  · have hf := br_y h6 hf
    exact b_16 _ H locs ls hf hP hD hS (lv_sub hl [] rfl)
  · have hf := br_n h6 hf
    refine lv_aload_n (pc := 8) hx hb dX6_since_8 rfl (lv_at hl 0 rfl) ?_
    refine lv_iload_n (pc := 9) hx hb dX6_since_9 rfl (lv_at hl 3 rfl) ?_
    obtain ⟨r2, hc2, hf⟩ := ob1_some hf
    refine endi X.2.2.2.2 (runV (pc := 10) (As := [.int x3]) (rest := []) X (c_X6_isPerson G l A H.size M N x3 r2 hc2) gX6_since_X6_isPerson k_X6_isPerson ⟨rfl, rfl⟩ ⟨Nat.le_of_ble_eq_true rfl, Nat.le_of_ble_eq_true rfl⟩ (EM.all (w_Mo G A M N) (w_Mo G A M N)) hP hD hS (ci := 6) rfl rfl (at_Mo_0 G A M N) rfl hl.1 rfl (Nat.le_of_ble_eq_true rfl) ⟨Nat.zero_le _, Nat.zero_le _⟩ dX6_since_10) (EM.all (w_Mo G A M N) (w_Mo G A M N)) hP hD hS (fun H locs hP hD hS => ?_)
    refine lv_if_ne (pc := 13) (tgt := 18) hx hb dX6_since_13 (by decide) (fun h5 => ?_) (fun h5 => ?_)
    · have hf := br_n h5 hf
      refine lv_aload_n (pc := 18) hx hb dX6_since_18 rfl (lv_at hl 0 rfl) ?_
      refine lv_iload_n (pc := 19) hx hb dX6_since_19 rfl (lv_at hl 3 rfl) ?_
      obtain ⟨M3, hc3, hf⟩ := ob1_some hf
      refine endv X.2.2.2.2 (runV (pc := 20) (As := [.int x3]) (rest := []) X (c_X6_layNow G l A H.size M N x3 M3 hc3) gX6_since_X6_layNow k_X6_layNow ⟨rfl, rfl⟩ ⟨Nat.le_of_ble_eq_true rfl, Nat.le_of_ble_eq_true rfl⟩ (EM.all (w_Mo G A M N) (w_Mo G A M3 N)) hP hD hS (ci := 6) rfl rfl (at_Mo_0 G A M N) rfl hl.1 rfl (Nat.le_of_ble_eq_true rfl) ⟨Nat.zero_le _, Nat.zero_le _⟩ dX6_since_20) (EM.all (w_Mo G A M N) (w_Mo G A M3 N)) hP hD hS (fun H locs hP hD hS => ?_)
      refine lv_bipush (pc := 23) (v := (-9 : Int32)) hx hb dX6_since_23 (by decide) ?_
      refine lv_istore (pc := 25) (lv' := [(4, .int (-9 : Int32)), (0, .ref (A 0)), (1, .int x1), (2, .int x2), (3, .int x3)]) hx hb dX6_since_25 hl (by decide) rfl (fun ls hl => ?_)
      refine lv_iconst (pc := 27) (v := (0 : Int32)) hx hb dX6_since_27 (by decide) ?_
      refine lv_istore (pc := 28) (lv' := [(5, .int (0 : Int32)), (4, .int (-9 : Int32)), (0, .ref (A 0)), (1, .int x1), (2, .int x2), (3, .int x3)]) hx hb dX6_since_28 hl (by decide) rfl (fun ls hl => ?_)
      refine lv_bipush (pc := 30) (v := (19 : Int32)) hx hb dX6_since_30 (by decide) ?_
      refine lv_istore (pc := 32) (lv' := [(6, .int (19 : Int32)), (5, .int (0 : Int32)), (4, .int (-9 : Int32)), (0, .ref (A 0)), (1, .int x1), (2, .int x2), (3, .int x3)]) hx hb dX6_since_32 hl (by decide) rfl (fun ls hl => ?_)
      exact l_34 FU _ _ _ _ _ _ H locs ls hf hP hD hS (lv_sub hl [3, 4, 5, 2, 1, 0] rfl)
    · have hf := br_y h5 hf
      exact b_16 _ H locs ls hf hP hD hS (lv_sub hl [] rfl)
def r_X6_source : Room := { frames := 4, cells := 0, slots := 0, locals := 93 }
set_option maxHeartbeats 4000000 in
set_option maxRecDepth 100000 in
theorem c_X6_source (G : GT) (l : Launch) (A : Nat → Nat) (sz : Nat) (M : CS) (N : JS) (x1 : Int32) (x2 : Int32) (x3 : Int32) (r : Int32) (M' : CS) (hf : f_X6_source M N x1 x2 x3 = some (r, M')) : MTi l yX6_source wsX6_source r_X6_source [.ref (A 0), .int x1, .int x2, .int x3] G (w_Mo G A M N) (w_Mo G A M' N) sz r := by
  refine MTi.of (cc := cX6_source) (maxL := 8) (by decide +kernel) rfl (Nat.le_of_ble_eq_true rfl) (fun p e s m av below meth cd Q B H locs ls X hret hl hP hD hS => ?_)
  have hx := X.1.1
  have hb := X.1.2.1
  have hl : lv_has ls 8 [(0, .ref (A 0)), (1, .int x1), (2, .int x2), (3, .int x3)] := hl
  have b_27 : ∀ (M : CS) (H : Heap) (locs : List Loc) (ls : Array Slot), f_X6_source_27 M N = some (r, M') → va_P G.1 vwCl (w_Mo G A M N) H → va_D B (w_Mo G A M N) → va_S B s.heap H locs → lv_has ls 8 [] → W p l e r_X6_source s m av below meth cd H locs 0 0 Q (F0 m 27 ls []) := by
    intro M H locs ls hf hP hD hS hl
    unfold f_X6_source_27 at hf
    refine lv_iconst (pc := 27) (v := (-1 : Int32)) hx hb dX6_source_27 (by decide) ?_
    cases hf
    exact hret _ _ _ _ dX6_source_28 hP hD hS
  have l_50 : ∀ (n50 : Nat), ∀ (x1 : Int32) (x2 : Int32) (x3 : Int32) (x4 : Int32) (x5 : Int32) (x6 : Int32) (x7 : Int32) (M : CS) (H : Heap) (locs : List Loc) (ls : Array Slot), f_X6_source_50 n50 x1 x2 x3 x4 x5 x6 x7 M N = some (r, M') → va_P G.1 vwCl (w_Mo G A M N) H → va_D B (w_Mo G A M N) → va_S B s.heap H locs → lv_has ls 8 [(0, .ref (A 0)), (1, .int x1), (2, .int x2), (3, .int x3), (4, .int x4), (5, .int x5), (6, .int x6), (7, .int x7)] → W p l e r_X6_source s m av below meth cd H locs 0 0 Q (F0 m 50 ls []) := by
    intro n50
    induction n50 with
    | zero =>
      intro x1 x2 x3 x4 x5 x6 x7 M H locs ls hf hP hD hS hl
      rw [f_X6_source_50] at hf
      cases hf
    | succ n50 ih50 =>
      have b_115 : ∀ (x1 : Int32) (x2 : Int32) (x3 : Int32) (x4 : Int32) (x5 : Int32) (x6 : Int32) (x7 : Int32) (M : CS) (H : Heap) (locs : List Loc) (ls : Array Slot), f_X6_source_115 (f_X6_source_50 n50) x1 x2 x3 x4 x5 x6 x7 M N = some (r, M') → va_P G.1 vwCl (w_Mo G A M N) H → va_D B (w_Mo G A M N) → va_S B s.heap H locs → lv_has ls 8 [(0, .ref (A 0)), (1, .int x1), (2, .int x2), (3, .int x3), (4, .int x4), (5, .int x5), (6, .int x6), (7, .int x7)] → W p l e r_X6_source s m av below meth cd H locs 0 0 Q (F0 m 115 ls []) := by
        intro x1 x2 x3 x4 x5 x6 x7 M H locs ls hf hP hD hS hl
        unfold f_X6_source_115 at hf
        refine lv_iinc (pc := 115) (v := (x7 + (1 : Int32))) (lv' := [(7, .int (x7 + (1 : Int32))), (0, .ref (A 0)), (1, .int x1), (2, .int x2), (3, .int x3), (4, .int x4), (5, .int x5), (6, .int x6)]) hx hb dX6_source_115 hl (k := 7) rfl rfl (by decide) rfl (fun ls hl => ?_)
        refine lv_goto (pc := 118) (tgt := 50) hx hb dX6_source_118 (by decide) ?_
        exact ih50 _ _ _ _ _ _ _ _ H locs ls hf hP hD hS (lv_sub hl [1, 2, 3, 4, 5, 6, 7, 0] rfl)
      have b_112 : ∀ (x1 : Int32) (x2 : Int32) (x3 : Int32) (x4 : Int32) (x5 : Int32) (x7 : Int32) (t0 : Int32) (t1 : Int32) (M : CS) (H : Heap) (locs : List Loc) (ls : Array Slot), f_X6_source_112 (f_X6_source_50 n50) x1 x2 x3 x4 x5 x7 t0 t1 M N = some (r, M') → va_P G.1 vwCl (w_Mo G A M N) H → va_D B (w_Mo G A M N) → va_S B s.heap H locs → lv_has ls 8 [(0, .ref (A 0)), (1, .int x1), (2, .int x2), (3, .int x3), (4, .int x4), (5, .int x5), (7, .int x7)] → W p l e r_X6_source s m av below meth cd H locs 0 0 Q (F0 m 112 ls [.int t1, .int t0]) := by
        intro x1 x2 x3 x4 x5 x7 t0 t1 M H locs ls hf hP hD hS hl
        unfold f_X6_source_112 at hf
        refine lv_ior (pc := 112) hx hb dX6_source_112 ?_
        refine lv_istore (pc := 113) (lv' := [(6, .int (t0 ||| t1)), (0, .ref (A 0)), (1, .int x1), (2, .int x2), (3, .int x3), (4, .int x4), (5, .int x5), (7, .int x7)]) hx hb dX6_source_113 hl (by decide) rfl (fun ls hl => ?_)
        exact b_115 _ _ _ _ _ _ _ _ H locs ls hf hP hD hS (lv_sub hl [1, 2, 3, 4, 5, 6, 0, 7] rfl)
      intro x1 x2 x3 x4 x5 x6 x7 M H locs ls hf hP hD hS hl
      rw [f_X6_source_50] at hf
      refine lv_iload (pc := 50) hx hb dX6_source_50 (lv_at hl 7 rfl) ?_
      refine lv_aload_n (pc := 52) hx hb dX6_source_52 rfl (lv_at hl 0 rfl) ?_
      refine wget (pc := 53) X (fun _ h9 => List.mem_cons_of_mem _ (List.mem_append_right _ h9)) hP 0 (at_Mo_0 G A M N) rfl 4 (by decide) (List.mem_cons_of_mem _ (List.mem_append_left _ (List.mem_append_left _ (List.mem_of_getElem? (i := 0) rfl)))) rfl (v := .ref (A 5)) rfl dX6_source_53 ?_
      refine lv_iconst (pc := 56) (v := (1 : Int32)) hx hb dX6_source_56 (by decide) ?_
      refine wiald (pc := 57) X hP 5 (at_Mo_5 G A M N) (by decide) (j := 1) (by decide) dX6_source_57 ?_
      refine lv_icmp_ge (pc := 58) (tgt := 121) hx hb dX6_source_58 (by decide) (fun h3 => ?_) (fun h3 => ?_)
      · have hf := br_y h3 hf
        refine lv_iload (pc := 121) hx hb dX6_source_121 (lv_at hl 6 rfl) ?_
        cases hf
        exact hret _ _ _ _ dX6_source_123 hP hD hS
      · have hf := br_n h3 hf
        refine lv_iload (pc := 61) hx hb dX6_source_61 (lv_at hl 5 rfl) ?_
        refine lv_iload (pc := 63) hx hb dX6_source_63 (lv_at hl 7 rfl) ?_
        obtain ⟨r1, hc1, hf⟩ := ob1_some hf
        refine endi X.2.2.2.2 (runS (pc := 65) (As := [.int x5, .int x7]) (rest := []) X (c_X6_has G l  H.size x5 x7 r1 hc1) gX6_source_X6_has k_X6_has ⟨rfl, rfl⟩ ⟨Nat.le_of_ble_eq_true rfl, Nat.le_of_ble_eq_true rfl⟩ (EM.nil (w_Mo G A M N)) hP hD hS rfl hl.1 rfl (Nat.le_of_ble_eq_true rfl) ⟨Nat.zero_le _, Nat.zero_le _⟩ dX6_source_65) (EM.nil (w_Mo G A M N)) hP hD hS (fun H locs hP hD hS => ?_)
        refine lv_if_eq (pc := 68) (tgt := 115) hx hb dX6_source_68 (by decide) (fun h2 => ?_) (fun h2 => ?_)
        · have hf := br_y h2 hf
          exact b_115 _ _ _ _ _ _ _ _ H locs ls hf hP hD hS (lv_sub hl [0, 1, 2, 3, 4, 5, 6, 7] rfl)
        · have hf := br_n h2 hf
          refine lv_aload_n (pc := 71) hx hb dX6_source_71 rfl (lv_at hl 0 rfl) ?_
          refine lv_iload_n (pc := 72) hx hb dX6_source_72 rfl (lv_at hl 3 rfl) ?_
          refine lv_iload (pc := 73) hx hb dX6_source_73 (lv_at hl 5 rfl) ?_
          refine lv_iconst (pc := 75) (v := (1 : Int32)) hx hb dX6_source_75 (by decide) ?_
          refine lv_iload (pc := 76) hx hb dX6_source_76 (lv_at hl 7 rfl) ?_
          refine lv_ishl (pc := 78) hx hb dX6_source_78 ?_
          refine lv_iconst (pc := 79) (v := (-1 : Int32)) hx hb dX6_source_79 (by decide) ?_
          refine lv_ixor (pc := 80) hx hb dX6_source_80 ?_
          refine lv_iand (pc := 81) hx hb dX6_source_81 ?_
          refine lv_iconst (pc := 82) (v := (-1 : Int32)) hx hb dX6_source_82 (by decide) ?_
          obtain ⟨M2, hc2, hf⟩ := ob1_some hf
          refine endv X.2.2.2.2 (runV (pc := 83) (As := [.int x3, .int (x5 &&& (((1 : Int32) <<< (x7 &&& 31)) ^^^ (-1 : Int32))), .int (-1 : Int32)]) (rest := []) X (c_X6_lays G l A H.size M N x3 (x5 &&& (((1 : Int32) <<< (x7 &&& 31)) ^^^ (-1 : Int32))) (-1 : Int32) M2 hc2) gX6_source_X6_lays k_X6_lays ⟨rfl, rfl⟩ ⟨Nat.le_of_ble_eq_true rfl, Nat.le_of_ble_eq_true rfl⟩ (EM.all (w_Mo G A M N) (w_Mo G A M2 N)) hP hD hS (ci := 6) rfl rfl (at_Mo_0 G A M N) rfl hl.1 rfl (Nat.le_of_ble_eq_true rfl) ⟨Nat.zero_le _, Nat.zero_le _⟩ dX6_source_83) (EM.all (w_Mo G A M N) (w_Mo G A M2 N)) hP hD hS (fun H locs hP hD hS => ?_)
          refine lv_iload (pc := 86) hx hb dX6_source_86 (lv_at hl 6 rfl) ?_
          refine lv_aload_n (pc := 88) hx hb dX6_source_88 rfl (lv_at hl 0 rfl) ?_
          refine wget (pc := 89) X (fun _ h9 => List.mem_cons_of_mem _ (List.mem_append_right _ h9)) hP 0 (at_Mo_0 G A M2 N) rfl 15 (by decide) (List.mem_cons_of_mem _ (List.mem_append_left _ (List.mem_append_left _ (List.mem_of_getElem? (i := 1) rfl)))) rfl (v := .ref (A 11)) rfl dX6_source_89 ?_
          refine lv_bipush (pc := 92) (v := (20 : Int32)) hx hb dX6_source_92 (by decide) ?_
          refine lv_iload_n (pc := 94) hx hb dX6_source_94 rfl (lv_at hl 1 rfl) ?_
          refine lv_imul (pc := 95) hx hb dX6_source_95 ?_
          refine lv_iload_n (pc := 96) hx hb dX6_source_96 rfl (lv_at hl 2 rfl) ?_
          refine lv_iadd (pc := 97) hx hb dX6_source_97 ?_
          obtain ⟨hi, hf⟩ := ck_some hf
          refine wiald (pc := 98) X hP 11 (at_Mo_11 G A M2 N) hi rfl dX6_source_98 ?_
          refine lv_iload (pc := 99) hx hb dX6_source_99 (lv_at hl 4 rfl) ?_
          refine lv_icmp_eq (pc := 101) (tgt := 111) hx hb dX6_source_101 (by decide) (fun h1 => ?_) (fun h1 => ?_)
          · have hf := br_y h1 hf
            refine lv_iconst (pc := 111) (v := (0 : Int32)) hx hb dX6_source_111 (by decide) ?_
            exact b_112 _ _ _ _ _ _ _ _ _ H locs ls hf hP hD hS (lv_sub hl [0, 1, 2, 3, 4, 5, 7] rfl)
          · have hf := br_n h1 hf
            refine lv_iconst (pc := 104) (v := (1 : Int32)) hx hb dX6_source_104 (by decide) ?_
            refine lv_iload (pc := 105) hx hb dX6_source_105 (lv_at hl 7 rfl) ?_
            refine lv_ishl (pc := 107) hx hb dX6_source_107 ?_
            refine lv_goto (pc := 108) (tgt := 112) hx hb dX6_source_108 (by decide) ?_
            exact b_112 _ _ _ _ _ _ _ _ _ H locs ls hf hP hD hS (lv_sub hl [0, 1, 2, 3, 4, 5, 7] rfl)
  unfold f_X6_source at hf
  refine lv_iload_n (pc := 0) hx hb dX6_source_0 rfl (lv_at hl 1 rfl) ?_
  obtain ⟨r1, hc1, hf⟩ := ob1_some hf
  refine endi X.2.2.2.2 (runS (pc := 1) (As := [.int x1]) (rest := []) X (c_X6_isTown G l  H.size x1 r1 hc1) gX6_source_X6_isTown k_X6_isTown ⟨rfl, rfl⟩ ⟨Nat.le_of_ble_eq_true rfl, Nat.le_of_ble_eq_true rfl⟩ (EM.nil (w_Mo G A M N)) hP hD hS rfl hl.1 rfl (Nat.le_of_ble_eq_true rfl) ⟨Nat.zero_le _, Nat.zero_le _⟩ dX6_source_1) (EM.nil (w_Mo G A M N)) hP hD hS (fun H locs hP hD hS => ?_)
  refine lv_if_eq (pc := 4) (tgt := 27) hx hb dX6_source_4 (by decide) (fun h7 => ?_) (fun h7 => ?_)
  · have hf := br_y h7 hf
    exact b_27 _ H locs ls hf hP hD hS (lv_sub hl [] rfl)
  · have hf := br_n h7 hf
    refine lv_iload_n (pc := 7) hx hb dX6_source_7 rfl (lv_at hl 2 rfl) ?_
    obtain ⟨r2, hc2, hf⟩ := ob1_some hf
    refine endi X.2.2.2.2 (runS (pc := 8) (As := [.int x2]) (rest := []) X (c_X6_isDay G l  H.size x2 r2 hc2) gX6_source_X6_isDay k_X6_isDay ⟨rfl, rfl⟩ ⟨Nat.le_of_ble_eq_true rfl, Nat.le_of_ble_eq_true rfl⟩ (EM.nil (w_Mo G A M N)) hP hD hS rfl hl.1 rfl (Nat.le_of_ble_eq_true rfl) ⟨Nat.zero_le _, Nat.zero_le _⟩ dX6_source_8) (EM.nil (w_Mo G A M N)) hP hD hS (fun H locs hP hD hS => ?_)
    refine lv_if_eq (pc := 11) (tgt := 27) hx hb dX6_source_11 (by decide) (fun h6 => ?_) (fun h6 => ?_)
    · have hf := br_y h6 hf
      exact b_27 _ H locs ls hf hP hD hS (lv_sub hl [] rfl)
    · have hf := br_n h6 hf
      refine lv_aload_n (pc := 14) hx hb dX6_source_14 rfl (lv_at hl 0 rfl) ?_
      refine lv_iload_n (pc := 15) hx hb dX6_source_15 rfl (lv_at hl 3 rfl) ?_
      obtain ⟨r3, hc3, hf⟩ := ob1_some hf
      refine endi X.2.2.2.2 (runV (pc := 16) (As := [.int x3]) (rest := []) X (c_X6_isPerson G l A H.size M N x3 r3 hc3) gX6_source_X6_isPerson k_X6_isPerson ⟨rfl, rfl⟩ ⟨Nat.le_of_ble_eq_true rfl, Nat.le_of_ble_eq_true rfl⟩ (EM.all (w_Mo G A M N) (w_Mo G A M N)) hP hD hS (ci := 6) rfl rfl (at_Mo_0 G A M N) rfl hl.1 rfl (Nat.le_of_ble_eq_true rfl) ⟨Nat.zero_le _, Nat.zero_le _⟩ dX6_source_16) (EM.all (w_Mo G A M N) (w_Mo G A M N)) hP hD hS (fun H locs hP hD hS => ?_)
      refine lv_if_eq (pc := 19) (tgt := 27) hx hb dX6_source_19 (by decide) (fun h5 => ?_) (fun h5 => ?_)
      · have hf := br_y h5 hf
        exact b_27 _ H locs ls hf hP hD hS (lv_sub hl [] rfl)
      · have hf := br_n h5 hf
        refine lv_iload_n (pc := 22) hx hb dX6_source_22 rfl (lv_at hl 2 rfl) ?_
        refine lv_iload_n (pc := 23) hx hb dX6_source_23 rfl (lv_at hl 1 rfl) ?_
        refine lv_icmp_ge (pc := 24) (tgt := 29) hx hb dX6_source_24 (by decide) (fun h4 => ?_) (fun h4 => ?_)
        · have hf := br_y h4 hf
          refine lv_aload_n (pc := 29) hx hb dX6_source_29 rfl (lv_at hl 0 rfl) ?_
          refine lv_iload_n (pc := 30) hx hb dX6_source_30 rfl (lv_at hl 3 rfl) ?_
          refine lv_iload_n (pc := 31) hx hb dX6_source_31 rfl (lv_at hl 1 rfl) ?_
          refine lv_iload_n (pc := 32) hx hb dX6_source_32 rfl (lv_at hl 2 rfl) ?_
          obtain ⟨r4, M4, hc4, hf⟩ := ob2_some hf
          refine endi X.2.2.2.2 (runV (pc := 33) (As := [.int x3, .int x1, .int x2]) (rest := []) X (c_X6_doing G l A H.size M N x3 x1 x2 r4 M4 hc4) gX6_source_X6_doing k_X6_doing ⟨rfl, rfl⟩ ⟨Nat.le_of_ble_eq_true rfl, Nat.le_of_ble_eq_true rfl⟩ (EM.all (w_Mo G A M N) (w_Mo G A M4 N)) hP hD hS (ci := 6) rfl rfl (at_Mo_0 G A M N) rfl hl.1 rfl (Nat.le_of_ble_eq_true rfl) ⟨Nat.zero_le _, Nat.zero_le _⟩ dX6_source_33) (EM.all (w_Mo G A M N) (w_Mo G A M4 N)) hP hD hS (fun H locs hP hD hS => ?_)
          refine lv_istore (pc := 36) (lv' := [(4, .int r4), (0, .ref (A 0)), (1, .int x1), (2, .int x2), (3, .int x3)]) hx hb dX6_source_36 hl (by decide) rfl (fun ls hl => ?_)
          refine lv_aload_n (pc := 38) hx hb dX6_source_38 rfl (lv_at hl 1 rfl) ?_
          obtain ⟨r5, hc5, hf⟩ := ob1_some hf
          refine endi X.2.2.2.2 (runV (pc := 39) (As := []) (rest := []) X (c_X6_live G l A H.size M4 N r5 hc5) gX6_source_X6_live k_X6_live ⟨rfl, rfl⟩ ⟨Nat.le_of_ble_eq_true rfl, Nat.le_of_ble_eq_true rfl⟩ (EM.all (w_Mo G A M4 N) (w_Mo G A M4 N)) hP hD hS (ci := 6) rfl rfl (at_Mo_0 G A M4 N) rfl hl.1 rfl (Nat.le_of_ble_eq_true rfl) ⟨Nat.zero_le _, Nat.zero_le _⟩ dX6_source_39) (EM.all (w_Mo G A M4 N) (w_Mo G A M4 N)) hP hD hS (fun H locs hP hD hS => ?_)
          refine lv_istore (pc := 42) (lv' := [(5, .int r5), (4, .int r4), (0, .ref (A 0)), (1, .int x1), (2, .int x2), (3, .int x3)]) hx hb dX6_source_42 hl (by decide) rfl (fun ls hl => ?_)
          refine lv_iconst (pc := 44) (v := (0 : Int32)) hx hb dX6_source_44 (by decide) ?_
          refine lv_istore (pc := 45) (lv' := [(6, .int (0 : Int32)), (5, .int r5), (4, .int r4), (0, .ref (A 0)), (1, .int x1), (2, .int x2), (3, .int x3)]) hx hb dX6_source_45 hl (by decide) rfl (fun ls hl => ?_)
          refine lv_iconst (pc := 47) (v := (0 : Int32)) hx hb dX6_source_47 (by decide) ?_
          refine lv_istore (pc := 48) (lv' := [(7, .int (0 : Int32)), (6, .int (0 : Int32)), (5, .int r5), (4, .int r4), (0, .ref (A 0)), (1, .int x1), (2, .int x2), (3, .int x3)]) hx hb dX6_source_48 hl (by decide) rfl (fun ls hl => ?_)
          exact l_50 FU _ _ _ _ _ _ _ _ H locs ls hf hP hD hS (lv_sub hl [4, 5, 6, 7, 3, 2, 1, 0] rfl)
        · have hf := br_n h4 hf
          exact b_27 _ H locs ls hf hP hD hS (lv_sub hl [] rfl)
def r_X6_stride : Room := { frames := 2, cells := 0, slots := 0, locals := 46 }
set_option maxHeartbeats 4000000 in
set_option maxRecDepth 100000 in
theorem c_X6_stride (G : GT) (l : Launch) (A : Nat → Nat) (sz : Nat) (M : CS) (N : JS) (x1 : Int32) (x2 : Int32) (r : Int32) (M' : CS) (hf : f_X6_stride M N x1 x2 = some (r, M')) : MTi l yX6_stride wsX6_stride r_X6_stride [.ref (A 0), .int x1, .int x2] G (w_Mo G A M N) (w_Mo G A M' N) sz r := by
  refine MTi.of (cc := cX6_stride) (maxL := 4) (by decide +kernel) rfl (Nat.le_of_ble_eq_true rfl) (fun p e s m av below meth cd Q B H locs ls X hret hl hP hD hS => ?_)
  have hx := X.1.1
  have hb := X.1.2.1
  have hl : lv_has ls 4 [(0, .ref (A 0)), (1, .int x1), (2, .int x2)] := hl
  have b_15 : ∀ (M : CS) (H : Heap) (locs : List Loc) (ls : Array Slot), f_X6_stride_15 M N = some (r, M') → va_P G.1 vwCl (w_Mo G A M N) H → va_D B (w_Mo G A M N) → va_S B s.heap H locs → lv_has ls 4 [] → W p l e r_X6_stride s m av below meth cd H locs 0 0 Q (F0 m 15 ls []) := by
    intro M H locs ls hf hP hD hS hl
    unfold f_X6_stride_15 at hf
    refine lv_iconst (pc := 15) (v := (-1 : Int32)) hx hb dX6_stride_15 (by decide) ?_
    cases hf
    exact hret _ _ _ _ dX6_stride_16 hP hD hS
  unfold f_X6_stride at hf
  refine lv_aload_n (pc := 0) hx hb dX6_stride_0 rfl (lv_at hl 0 rfl) ?_
  refine lv_iload_n (pc := 1) hx hb dX6_stride_1 rfl (lv_at hl 1 rfl) ?_
  obtain ⟨r1, hc1, hf⟩ := ob1_some hf
  refine endi X.2.2.2.2 (runV (pc := 2) (As := [.int x1]) (rest := []) X (c_X6_isPerson G l A H.size M N x1 r1 hc1) gX6_stride_X6_isPerson k_X6_isPerson ⟨rfl, rfl⟩ ⟨Nat.le_of_ble_eq_true rfl, Nat.le_of_ble_eq_true rfl⟩ (EM.all (w_Mo G A M N) (w_Mo G A M N)) hP hD hS (ci := 6) rfl rfl (at_Mo_0 G A M N) rfl hl.1 rfl (Nat.le_of_ble_eq_true rfl) ⟨Nat.zero_le _, Nat.zero_le _⟩ dX6_stride_2) (EM.all (w_Mo G A M N) (w_Mo G A M N)) hP hD hS (fun H locs hP hD hS => ?_)
  refine lv_if_eq (pc := 5) (tgt := 15) hx hb dX6_stride_5 (by decide) (fun h3 => ?_) (fun h3 => ?_)
  · have hf := br_y h3 hf
    exact b_15 _ H locs ls hf hP hD hS (lv_sub hl [] rfl)
  · have hf := br_n h3 hf
    refine lv_iload_n (pc := 8) hx hb dX6_stride_8 rfl (lv_at hl 2 rfl) ?_
    obtain ⟨r2, hc2, hf⟩ := ob1_some hf
    refine endi X.2.2.2.2 (runS (pc := 9) (As := [.int x2]) (rest := []) X (c_X6_isDeed G l  H.size x2 r2 hc2) gX6_stride_X6_isDeed k_X6_isDeed ⟨rfl, rfl⟩ ⟨Nat.le_of_ble_eq_true rfl, Nat.le_of_ble_eq_true rfl⟩ (EM.nil (w_Mo G A M N)) hP hD hS rfl hl.1 rfl (Nat.le_of_ble_eq_true rfl) ⟨Nat.zero_le _, Nat.zero_le _⟩ dX6_stride_9) (EM.nil (w_Mo G A M N)) hP hD hS (fun H locs hP hD hS => ?_)
    refine lv_if_ne (pc := 12) (tgt := 17) hx hb dX6_stride_12 (by decide) (fun h2 => ?_) (fun h2 => ?_)
    · have hf := br_n h2 hf
      refine lv_aload_n (pc := 17) hx hb dX6_stride_17 rfl (lv_at hl 0 rfl) ?_
      refine wget (pc := 18) X (fun _ h9 => List.mem_cons_of_mem _ (List.mem_append_right _ h9)) hP 0 (at_Mo_0 G A M N) rfl 4 (by decide) (List.mem_cons_of_mem _ (List.mem_append_left _ (List.mem_of_getElem? (i := 0) rfl))) rfl (v := .ref (A 5)) rfl dX6_stride_18 ?_
      refine lv_iconst (pc := 21) (v := (3 : Int32)) hx hb dX6_stride_21 (by decide) ?_
      refine wiald (pc := 22) X hP 5 (at_Mo_5 G A M N) (by decide) (j := 3) (by decide) dX6_stride_22 ?_
      refine lv_if_le (pc := 23) (tgt := 29) hx hb dX6_stride_23 (by decide) (fun h1 => ?_) (fun h1 => ?_)
      · have hf := br_y h1 hf
        refine lv_aload_n (pc := 29) hx hb dX6_stride_29 rfl (lv_at hl 0 rfl) ?_
        refine wget (pc := 30) X (fun _ h9 => List.mem_cons_of_mem _ (List.mem_append_right _ h9)) hP 0 (at_Mo_0 G A M N) rfl 4 (by decide) (List.mem_cons_of_mem _ (List.mem_append_left _ (List.mem_of_getElem? (i := 0) rfl))) rfl (v := .ref (A 5)) rfl dX6_stride_30 ?_
        refine lv_bipush (pc := 33) (v := (14 : Int32)) hx hb dX6_stride_33 (by decide) ?_
        refine lv_iload_n (pc := 35) hx hb dX6_stride_35 rfl (lv_at hl 1 rfl) ?_
        refine lv_iadd (pc := 36) hx hb dX6_stride_36 ?_
        obtain ⟨hi, hf⟩ := ck_some hf
        refine wiald (pc := 37) X hP 5 (at_Mo_5 G A M N) hi rfl dX6_stride_37 ?_
        refine lv_istore_n (pc := 38) (lv' := [(3, .int ((M 4) ((14 : Int32) + x1).toNatClampNeg)), (0, .ref (A 0)), (1, .int x1), (2, .int x2)]) hx hb dX6_stride_38 rfl hl (by decide) rfl (fun ls hl => ?_)
        refine lv_aload_n (pc := 39) hx hb dX6_stride_39 rfl (lv_at hl 1 rfl) ?_
        refine wget (pc := 40) X (fun _ h9 => List.mem_cons_of_mem _ (List.mem_append_right _ h9)) hP 0 (at_Mo_0 G A M N) rfl 4 (by decide) (List.mem_cons_of_mem _ (List.mem_append_left _ (List.mem_of_getElem? (i := 0) rfl))) rfl (v := .ref (A 5)) rfl dX6_stride_40 ?_
        refine lv_bipush (pc := 43) (v := (14 : Int32)) hx hb dX6_stride_43 (by decide) ?_
        refine lv_iload_n (pc := 45) hx hb dX6_stride_45 rfl (lv_at hl 2 rfl) ?_
        refine lv_iadd (pc := 46) hx hb dX6_stride_46 ?_
        refine lv_iload_n (pc := 47) hx hb dX6_stride_47 rfl (lv_at hl 3 rfl) ?_
        obtain ⟨hi, hf⟩ := ck_some hf
        refine wiast (pc := 48) X hP hD hS 5 (at_Mo_5 G A M N) hi rfl (sa_Mo_5 G A M N _) dX6_stride_48 (fun H locs hP hD hS => ?_)
        have hP : va_P G.1 vwCl (w_Mo G A (cset M 4 ((14 : Int32) + x1).toNatClampNeg x2) N) H := hP
        have hD : va_D B (w_Mo G A (cset M 4 ((14 : Int32) + x1).toNatClampNeg x2) N) := hD
        refine lv_iload_n (pc := 49) hx hb dX6_stride_49 rfl (lv_at hl 0 rfl) ?_
        cases hf
        exact hret _ _ _ _ dX6_stride_50 hP hD hS
      · have hf := br_n h1 hf
        refine lv_bipush (pc := 26) (v := (-4 : Int32)) hx hb dX6_stride_26 (by decide) ?_
        cases hf
        exact hret _ _ _ _ dX6_stride_28 hP hD hS
    · have hf := br_y h2 hf
      exact b_15 _ H locs ls hf hP hD hS (lv_sub hl [] rfl)
