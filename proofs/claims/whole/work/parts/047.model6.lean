def r_X6_sure : Room := { frames := 3, cells := 0, slots := 0, locals := 75 }
set_option maxHeartbeats 4000000 in
set_option maxRecDepth 100000 in
theorem c_X6_sure (G : GT) (l : Launch) (A : Nat → Nat) (sz : Nat) (M : CS) (N : JS) (x1 : Int32) (r : Int32) (M' : CS) (hf : f_X6_sure M N x1 = some (r, M')) : MTi l yX6_sure wsX6_sure r_X6_sure [.ref (A 0), .int x1] G (w_Mo G A M N) (w_Mo G A M' N) sz r := by
  refine MTi.of (cc := cX6_sure) (maxL := 8) (by decide +kernel) rfl (Nat.le_of_ble_eq_true rfl) (fun p e s m av below meth cd Q B H locs ls X hret hl hP hD hS => ?_)
  have hx := X.1.1
  have hb := X.1.2.1
  have hl : lv_has ls 8 [(0, .ref (A 0)), (1, .int x1)] := hl
  have b_102 : ∀ (t0 : Int32) (M : CS) (H : Heap) (locs : List Loc) (ls : Array Slot), f_X6_sure_102 t0 M N = some (r, M') → va_P G.1 vwCl (w_Mo G A M N) H → va_D B (w_Mo G A M N) → va_S B s.heap H locs → lv_has ls 8 [] → W p l e r_X6_sure s m av below meth cd H locs 0 0 Q (F0 m 102 ls [.int t0]) := by
    intro t0 M H locs ls hf hP hD hS hl
    unfold f_X6_sure_102 at hf
    cases hf
    exact hret _ _ _ _ dX6_sure_102 hP hD hS
  have l_29 : ∀ (n29 : Nat), ∀ (x1 : Int32) (x3 : Int32) (x4 : Int32) (x5 : Int32) (x6 : Int32) (x7 : Int32) (M : CS) (H : Heap) (locs : List Loc) (ls : Array Slot), f_X6_sure_29 n29 x1 x3 x4 x5 x6 x7 M N = some (r, M') → va_P G.1 vwCl (w_Mo G A M N) H → va_D B (w_Mo G A M N) → va_S B s.heap H locs → lv_has ls 8 [(0, .ref (A 0)), (1, .int x1), (3, .int x3), (4, .int x4), (5, .int x5), (6, .int x6), (7, .int x7)] → W p l e r_X6_sure s m av below meth cd H locs 0 0 Q (F0 m 29 ls []) := by
    intro n29
    induction n29 with
    | zero =>
      intro x1 x3 x4 x5 x6 x7 M H locs ls hf hP hD hS hl
      rw [f_X6_sure_29] at hf
      cases hf
    | succ n29 ih29 =>
      have b_71 : ∀ (x1 : Int32) (x3 : Int32) (x4 : Int32) (x5 : Int32) (x6 : Int32) (x7 : Int32) (M : CS) (H : Heap) (locs : List Loc) (ls : Array Slot), f_X6_sure_71 (f_X6_sure_29 n29) x1 x3 x4 x5 x6 x7 M N = some (r, M') → va_P G.1 vwCl (w_Mo G A M N) H → va_D B (w_Mo G A M N) → va_S B s.heap H locs → lv_has ls 8 [(0, .ref (A 0)), (1, .int x1), (3, .int x3), (4, .int x4), (5, .int x5), (6, .int x6), (7, .int x7)] → W p l e r_X6_sure s m av below meth cd H locs 0 0 Q (F0 m 71 ls []) := by
        intro x1 x3 x4 x5 x6 x7 M H locs ls hf hP hD hS hl
        unfold f_X6_sure_71 at hf
        refine lv_iinc (pc := 71) (v := (x7 + (1 : Int32))) (lv' := [(7, .int (x7 + (1 : Int32))), (0, .ref (A 0)), (1, .int x1), (3, .int x3), (4, .int x4), (5, .int x5), (6, .int x6)]) hx hb dX6_sure_71 hl (k := 6) rfl rfl (by decide) rfl (fun ls hl => ?_)
        refine lv_goto (pc := 74) (tgt := 29) hx hb dX6_sure_74 (by decide) ?_
        exact ih29 _ _ _ _ _ _ _ H locs ls hf hP hD hS (lv_sub hl [1, 2, 3, 4, 5, 6, 0] rfl)
      intro x1 x3 x4 x5 x6 x7 M H locs ls hf hP hD hS hl
      rw [f_X6_sure_29] at hf
      refine lv_iload (pc := 29) hx hb dX6_sure_29 (lv_at hl 6 rfl) ?_
      refine lv_iload_n (pc := 31) hx hb dX6_sure_31 rfl (lv_at hl 2 rfl) ?_
      refine lv_icmp_gt (pc := 32) (tgt := 77) hx hb dX6_sure_32 (by decide) (fun h4 => ?_) (fun h4 => ?_)
      · have hf := br_y h4 hf
        refine lv_iload (pc := 77) hx hb dX6_sure_77 (lv_at hl 5 rfl) ?_
        refine lv_if_eq (pc := 79) (tgt := 97) hx hb dX6_sure_79 (by decide) (fun h1 => ?_) (fun h1 => ?_)
        · have hf := br_y h1 hf
          refine lv_aload_n (pc := 97) hx hb dX6_sure_97 rfl (lv_at hl 0 rfl) ?_
          refine lv_iconst (pc := 98) (v := (4 : Int32)) hx hb dX6_sure_98 (by decide) ?_
          obtain ⟨r1, M1, hc1, hf⟩ := ob2_some hf
          refine endi X.2.2.2.2 (runV (pc := 99) (As := [.int (4 : Int32)]) (rest := []) X (c_X6_found G l A H.size M N (4 : Int32) r1 M1 hc1) gX6_sure_X6_found k_X6_found ⟨rfl, rfl⟩ ⟨Nat.le_of_ble_eq_true rfl, Nat.le_of_ble_eq_true rfl⟩ (EM.all (w_Mo G A M N) (w_Mo G A M1 N)) hP hD hS (ci := 6) rfl rfl (at_Mo_0 G A M N) rfl hl.1 rfl (Nat.le_of_ble_eq_true rfl) ⟨Nat.zero_le _, Nat.zero_le _⟩ dX6_sure_99) (EM.all (w_Mo G A M N) (w_Mo G A M1 N)) hP hD hS (fun H locs hP hD hS => ?_)
          exact b_102 _ _ H locs ls hf hP hD hS (lv_sub hl [] rfl)
        · have hf := br_n h1 hf
          refine lv_aload_n (pc := 82) hx hb dX6_sure_82 rfl (lv_at hl 0 rfl) ?_
          refine lv_iload (pc := 83) hx hb dX6_sure_83 (lv_at hl 3 rfl) ?_
          refine lv_iload_n (pc := 85) hx hb dX6_sure_85 rfl (lv_at hl 2 rfl) ?_
          refine lv_iload (pc := 86) hx hb dX6_sure_86 (lv_at hl 4 rfl) ?_
          refine lv_iconst (pc := 88) (v := (-1 : Int32)) hx hb dX6_sure_88 (by decide) ?_
          refine lv_ixor (pc := 89) hx hb dX6_sure_89 ?_
          refine lv_iand (pc := 90) hx hb dX6_sure_90 ?_
          obtain ⟨r2, M2, hc2, hf⟩ := ob2_some hf
          refine endi X.2.2.2.2 (runV (pc := 91) (As := [.int x4, .int (x3 &&& (x5 ^^^ (-1 : Int32)))]) (rest := []) X (c_X6_answer G l A H.size M N x4 (x3 &&& (x5 ^^^ (-1 : Int32))) r2 M2 hc2) gX6_sure_X6_answer k_X6_answer ⟨rfl, rfl⟩ ⟨Nat.le_of_ble_eq_true rfl, Nat.le_of_ble_eq_true rfl⟩ (EM.all (w_Mo G A M N) (w_Mo G A M2 N)) hP hD hS (ci := 6) rfl rfl (at_Mo_0 G A M N) rfl hl.1 rfl (Nat.le_of_ble_eq_true rfl) ⟨Nat.zero_le _, Nat.zero_le _⟩ dX6_sure_91) (EM.all (w_Mo G A M N) (w_Mo G A M2 N)) hP hD hS (fun H locs hP hD hS => ?_)
          refine lv_goto (pc := 94) (tgt := 102) hx hb dX6_sure_94 (by decide) ?_
          exact b_102 _ _ H locs ls hf hP hD hS (lv_sub hl [] rfl)
      · have hf := br_n h4 hf
        refine lv_iload (pc := 35) hx hb dX6_sure_35 (lv_at hl 6 rfl) ?_
        refine lv_iload_n (pc := 37) hx hb dX6_sure_37 rfl (lv_at hl 2 rfl) ?_
        refine lv_iconst (pc := 38) (v := (-1 : Int32)) hx hb dX6_sure_38 (by decide) ?_
        refine lv_ixor (pc := 39) hx hb dX6_sure_39 ?_
        refine lv_iand (pc := 40) hx hb dX6_sure_40 ?_
        refine lv_if_ne (pc := 41) (tgt := 71) hx hb dX6_sure_41 (by decide) (fun h3 => ?_) (fun h3 => ?_)
        · have hf := br_n h3 hf
          exact b_71 _ _ _ _ _ _ _ H locs ls hf hP hD hS (lv_sub hl [0, 1, 2, 3, 4, 5, 6] rfl)
        · have hf := br_y h3 hf
          refine lv_aload_n (pc := 44) hx hb dX6_sure_44 rfl (lv_at hl 0 rfl) ?_
          refine lv_iload_n (pc := 45) hx hb dX6_sure_45 rfl (lv_at hl 1 rfl) ?_
          refine lv_iload (pc := 46) hx hb dX6_sure_46 (lv_at hl 6 rfl) ?_
          obtain ⟨r3, M3, hc3, hf⟩ := ob2_some hf
          refine endi X.2.2.2.2 (runV (pc := 48) (As := [.int x1, .int x7]) (rest := []) X (c_X6_fitsBy G l A H.size M N x1 x7 r3 M3 hc3) gX6_sure_X6_fitsBy k_X6_fitsBy ⟨rfl, rfl⟩ ⟨Nat.le_of_ble_eq_true rfl, Nat.le_of_ble_eq_true rfl⟩ (EM.all (w_Mo G A M N) (w_Mo G A M3 N)) hP hD hS (ci := 6) rfl rfl (at_Mo_0 G A M N) rfl hl.1 rfl (Nat.le_of_ble_eq_true rfl) ⟨Nat.zero_le _, Nat.zero_le _⟩ dX6_sure_48) (EM.all (w_Mo G A M N) (w_Mo G A M3 N)) hP hD hS (fun H locs hP hD hS => ?_)
          refine lv_if_eq (pc := 51) (tgt := 71) hx hb dX6_sure_51 (by decide) (fun h2 => ?_) (fun h2 => ?_)
          · have hf := br_y h2 hf
            exact b_71 _ _ _ _ _ _ _ H locs ls hf hP hD hS (lv_sub hl [0, 1, 2, 3, 4, 5, 6] rfl)
          · have hf := br_n h2 hf
            refine lv_iconst (pc := 54) (v := (1 : Int32)) hx hb dX6_sure_54 (by decide) ?_
            refine lv_istore (pc := 55) (lv' := [(6, .int (1 : Int32)), (0, .ref (A 0)), (1, .int x1), (3, .int x3), (4, .int x4), (5, .int x5), (7, .int x7)]) hx hb dX6_sure_55 hl (by decide) rfl (fun ls hl => ?_)
            refine lv_iload (pc := 57) hx hb dX6_sure_57 (lv_at hl 4 rfl) ?_
            refine lv_iload (pc := 59) hx hb dX6_sure_59 (lv_at hl 6 rfl) ?_
            refine lv_iand (pc := 61) hx hb dX6_sure_61 ?_
            refine lv_istore (pc := 62) (lv' := [(4, .int (x4 &&& x7)), (6, .int (1 : Int32)), (0, .ref (A 0)), (1, .int x1), (3, .int x3), (5, .int x5), (7, .int x7)]) hx hb dX6_sure_62 hl (by decide) rfl (fun ls hl => ?_)
            refine lv_iload (pc := 64) hx hb dX6_sure_64 (lv_at hl 5 rfl) ?_
            refine lv_iload (pc := 66) hx hb dX6_sure_66 (lv_at hl 6 rfl) ?_
            refine lv_ior (pc := 68) hx hb dX6_sure_68 ?_
            refine lv_istore (pc := 69) (lv' := [(5, .int (x5 ||| x7)), (4, .int (x4 &&& x7)), (6, .int (1 : Int32)), (0, .ref (A 0)), (1, .int x1), (3, .int x3), (7, .int x7)]) hx hb dX6_sure_69 hl (by decide) rfl (fun ls hl => ?_)
            exact b_71 _ _ _ _ _ _ _ H locs ls hf hP hD hS (lv_sub hl [3, 4, 5, 1, 0, 2, 6] rfl)
  unfold f_X6_sure at hf
  refine lv_aload_n (pc := 0) hx hb dX6_sure_0 rfl (lv_at hl 0 rfl) ?_
  refine lv_iload_n (pc := 1) hx hb dX6_sure_1 rfl (lv_at hl 1 rfl) ?_
  obtain ⟨r1, M1, hc1, hf⟩ := ob2_some hf
  refine endi X.2.2.2.2 (runV (pc := 2) (As := [.int x1]) (rest := []) X (c_X6_fours G l A H.size M N x1 r1 M1 hc1) gX6_sure_X6_fours k_X6_fours ⟨rfl, rfl⟩ ⟨Nat.le_of_ble_eq_true rfl, Nat.le_of_ble_eq_true rfl⟩ (EM.all (w_Mo G A M N) (w_Mo G A M1 N)) hP hD hS (ci := 6) rfl rfl (at_Mo_0 G A M N) rfl hl.1 rfl (Nat.le_of_ble_eq_true rfl) ⟨Nat.zero_le _, Nat.zero_le _⟩ dX6_sure_2) (EM.all (w_Mo G A M N) (w_Mo G A M1 N)) hP hD hS (fun H locs hP hD hS => ?_)
  refine lv_istore_n (pc := 5) (lv' := [(2, .int r1), (0, .ref (A 0)), (1, .int x1)]) hx hb dX6_sure_5 rfl hl (by decide) rfl (fun ls hl => ?_)
  refine lv_iload_n (pc := 6) hx hb dX6_sure_6 rfl (lv_at hl 0 rfl) ?_
  refine lv_if_eq (pc := 7) (tgt := 12) hx hb dX6_sure_7 (by decide) (fun h5 => ?_) (fun h5 => ?_)
  · have hf := br_y h5 hf
    refine lv_aload_n (pc := 12) hx hb dX6_sure_12 rfl (lv_at hl 1 rfl) ?_
    obtain ⟨r2, hc2, hf⟩ := ob1_some hf
    refine endi X.2.2.2.2 (runV (pc := 13) (As := []) (rest := []) X (c_X6_live G l A H.size M1 N r2 hc2) gX6_sure_X6_live k_X6_live ⟨rfl, rfl⟩ ⟨Nat.le_of_ble_eq_true rfl, Nat.le_of_ble_eq_true rfl⟩ (EM.all (w_Mo G A M1 N) (w_Mo G A M1 N)) hP hD hS (ci := 6) rfl rfl (at_Mo_0 G A M1 N) rfl hl.1 rfl (Nat.le_of_ble_eq_true rfl) ⟨Nat.zero_le _, Nat.zero_le _⟩ dX6_sure_13) (EM.all (w_Mo G A M1 N) (w_Mo G A M1 N)) hP hD hS (fun H locs hP hD hS => ?_)
    refine lv_istore_n (pc := 16) (lv' := [(3, .int r2), (2, .int r1), (0, .ref (A 0)), (1, .int x1)]) hx hb dX6_sure_16 rfl hl (by decide) rfl (fun ls hl => ?_)
    refine lv_iload_n (pc := 17) hx hb dX6_sure_17 rfl (lv_at hl 0 rfl) ?_
    refine lv_istore (pc := 18) (lv' := [(4, .int r2), (3, .int r2), (2, .int r1), (0, .ref (A 0)), (1, .int x1)]) hx hb dX6_sure_18 hl (by decide) rfl (fun ls hl => ?_)
    refine lv_iconst (pc := 20) (v := (0 : Int32)) hx hb dX6_sure_20 (by decide) ?_
    refine lv_istore (pc := 21) (lv' := [(5, .int (0 : Int32)), (4, .int r2), (3, .int r2), (2, .int r1), (0, .ref (A 0)), (1, .int x1)]) hx hb dX6_sure_21 hl (by decide) rfl (fun ls hl => ?_)
    refine lv_iconst (pc := 23) (v := (0 : Int32)) hx hb dX6_sure_23 (by decide) ?_
    refine lv_istore (pc := 24) (lv' := [(6, .int (0 : Int32)), (5, .int (0 : Int32)), (4, .int r2), (3, .int r2), (2, .int r1), (0, .ref (A 0)), (1, .int x1)]) hx hb dX6_sure_24 hl (by decide) rfl (fun ls hl => ?_)
    refine lv_iconst (pc := 26) (v := (0 : Int32)) hx hb dX6_sure_26 (by decide) ?_
    refine lv_istore (pc := 27) (lv' := [(7, .int (0 : Int32)), (6, .int (0 : Int32)), (5, .int (0 : Int32)), (4, .int r2), (3, .int r2), (2, .int r1), (0, .ref (A 0)), (1, .int x1)]) hx hb dX6_sure_27 hl (by decide) rfl (fun ls hl => ?_)
    exact l_29 FU _ _ _ _ _ _ _ H locs ls hf hP hD hS (lv_sub hl [6, 7, 4, 3, 2, 1, 0] rfl)
  · have hf := br_n h5 hf
    refine lv_iload_n (pc := 10) hx hb dX6_sure_10 rfl (lv_at hl 0 rfl) ?_
    cases hf
    exact hret _ _ _ _ dX6_sure_11 hP hD hS
def r_X6_tear : Room := { frames := 2, cells := 0, slots := 0, locals := 45 }
set_option maxHeartbeats 4000000 in
set_option maxRecDepth 100000 in
theorem c_X6_tear (G : GT) (l : Launch) (A : Nat → Nat) (sz : Nat) (M : CS) (N : JS) (x1 : Int32) (r : Int32) (M' : CS) (hf : f_X6_tear M N x1 = some (r, M')) : MTi l yX6_tear wsX6_tear r_X6_tear [.ref (A 0), .int x1] G (w_Mo G A M N) (w_Mo G A M' N) sz r := by
  refine MTi.of (cc := cX6_tear) (maxL := 2) (by decide +kernel) rfl (Nat.le_of_ble_eq_true rfl) (fun p e s m av below meth cd Q B H locs ls X hret hl hP hD hS => ?_)
  have hx := X.1.1
  have hb := X.1.2.1
  have hl : lv_has ls 2 [(0, .ref (A 0)), (1, .int x1)] := hl
  unfold f_X6_tear at hf
  refine lv_iload_n (pc := 0) hx hb dX6_tear_0 rfl (lv_at hl 1 rfl) ?_
  obtain ⟨r1, hc1, hf⟩ := ob1_some hf
  refine endi X.2.2.2.2 (runS (pc := 1) (As := [.int x1]) (rest := []) X (c_X6_isRow G l  H.size x1 r1 hc1) gX6_tear_X6_isRow k_X6_isRow ⟨rfl, rfl⟩ ⟨Nat.le_of_ble_eq_true rfl, Nat.le_of_ble_eq_true rfl⟩ (EM.nil (w_Mo G A M N)) hP hD hS rfl hl.1 rfl (Nat.le_of_ble_eq_true rfl) ⟨Nat.zero_le _, Nat.zero_le _⟩ dX6_tear_1) (EM.nil (w_Mo G A M N)) hP hD hS (fun H locs hP hD hS => ?_)
  refine lv_if_ne (pc := 4) (tgt := 9) hx hb dX6_tear_4 (by decide) (fun h2 => ?_) (fun h2 => ?_)
  · have hf := br_n h2 hf
    refine lv_aload_n (pc := 9) hx hb dX6_tear_9 rfl (lv_at hl 0 rfl) ?_
    refine wget (pc := 10) X (fun _ h9 => List.mem_cons_of_mem _ (List.mem_append_right _ h9)) hP 0 (at_Mo_0 G A M N) rfl 0 (by decide) (List.mem_cons_of_mem _ (List.mem_append_left _ (List.mem_of_getElem? (i := 0) rfl))) rfl (v := .ref (A 1)) rfl dX6_tear_10 ?_
    refine lv_iload_n (pc := 13) hx hb dX6_tear_13 rfl (lv_at hl 1 rfl) ?_
    obtain ⟨hi, hf⟩ := ck_some hf
    refine wiald (pc := 14) X hP 1 (at_Mo_1 G A M N) hi rfl dX6_tear_14 ?_
    refine lv_if_ge (pc := 15) (tgt := 24) hx hb dX6_tear_15 (by decide) (fun h1 => ?_) (fun h1 => ?_)
    · have hf := br_y h1 hf
      refine lv_aload_n (pc := 24) hx hb dX6_tear_24 rfl (lv_at hl 0 rfl) ?_
      refine wget (pc := 25) X (fun _ h9 => List.mem_cons_of_mem _ (List.mem_append_right _ h9)) hP 0 (at_Mo_0 G A M N) rfl 0 (by decide) (List.mem_cons_of_mem _ (List.mem_append_left _ (List.mem_of_getElem? (i := 0) rfl))) rfl (v := .ref (A 1)) rfl dX6_tear_25 ?_
      refine lv_iload_n (pc := 28) hx hb dX6_tear_28 rfl (lv_at hl 1 rfl) ?_
      refine lv_iconst (pc := 29) (v := (-1 : Int32)) hx hb dX6_tear_29 (by decide) ?_
      obtain ⟨hi, hf⟩ := ck_some hf
      refine wiast (pc := 30) X hP hD hS 1 (at_Mo_1 G A M N) hi rfl (sa_Mo_1 G A M N _) dX6_tear_30 (fun H locs hP hD hS => ?_)
      have hP : va_P G.1 vwCl (w_Mo G A (cset M 0 x1.toNatClampNeg (-1 : Int32)) N) H := hP
      have hD : va_D B (w_Mo G A (cset M 0 x1.toNatClampNeg (-1 : Int32)) N) := hD
      refine lv_iconst (pc := 31) (v := (1 : Int32)) hx hb dX6_tear_31 (by decide) ?_
      cases hf
      exact hret _ _ _ _ dX6_tear_32 hP hD hS
    · have hf := br_n h1 hf
      refine lv_aload_n (pc := 18) hx hb dX6_tear_18 rfl (lv_at hl 0 rfl) ?_
      refine lv_iconst (pc := 19) (v := (1 : Int32)) hx hb dX6_tear_19 (by decide) ?_
      obtain ⟨r2, M2, hc2, hf⟩ := ob2_some hf
      refine endi X.2.2.2.2 (runV (pc := 20) (As := [.int (1 : Int32)]) (rest := []) X (c_X6_found G l A H.size M N (1 : Int32) r2 M2 hc2) gX6_tear_X6_found k_X6_found ⟨rfl, rfl⟩ ⟨Nat.le_of_ble_eq_true rfl, Nat.le_of_ble_eq_true rfl⟩ (EM.all (w_Mo G A M N) (w_Mo G A M2 N)) hP hD hS (ci := 6) rfl rfl (at_Mo_0 G A M N) rfl hl.1 rfl (Nat.le_of_ble_eq_true rfl) ⟨Nat.zero_le _, Nat.zero_le _⟩ dX6_tear_20) (EM.all (w_Mo G A M N) (w_Mo G A M2 N)) hP hD hS (fun H locs hP hD hS => ?_)
      cases hf
      exact hret _ _ _ _ dX6_tear_23 hP hD hS
  · have hf := br_y h2 hf
    refine lv_iconst (pc := 7) (v := (-1 : Int32)) hx hb dX6_tear_7 (by decide) ?_
    cases hf
    exact hret _ _ _ _ dX6_tear_8 hP hD hS
def r_X6_text : Room := { frames := 2, cells := 0, slots := 0, locals := 45 }
set_option maxHeartbeats 4000000 in
set_option maxRecDepth 100000 in
theorem c_X6_text (G : GT) (l : Launch) (A : Nat → Nat) (sz : Nat) (M : CS) (N : JS) (x1 : Int32) (x2 : Int32) (r : Int32) (M' : CS) (hf : f_X6_text M N x1 x2 = some (r, M')) : MTi l yX6_text wsX6_text r_X6_text [.ref (A 0), .int x1, .int x2] G (w_Mo G A M N) (w_Mo G A M' N) sz r := by
  refine MTi.of (cc := cX6_text) (maxL := 4) (by decide +kernel) rfl (Nat.le_of_ble_eq_true rfl) (fun p e s m av below meth cd Q B H locs ls X hret hl hP hD hS => ?_)
  have hx := X.1.1
  have hb := X.1.2.1
  have hl : lv_has ls 4 [(0, .ref (A 0)), (1, .int x1), (2, .int x2)] := hl
  have b_13 : ∀ (M : CS) (H : Heap) (locs : List Loc) (ls : Array Slot), f_X6_text_13 M N = some (r, M') → va_P G.1 vwCl (w_Mo G A M N) H → va_D B (w_Mo G A M N) → va_S B s.heap H locs → lv_has ls 4 [] → W p l e r_X6_text s m av below meth cd H locs 0 0 Q (F0 m 13 ls []) := by
    intro M H locs ls hf hP hD hS hl
    unfold f_X6_text_13 at hf
    refine lv_iconst (pc := 13) (v := (-1 : Int32)) hx hb dX6_text_13 (by decide) ?_
    cases hf
    exact hret _ _ _ _ dX6_text_14 hP hD hS
  have l_34 : ∀ (n34 : Nat), ∀ (x1 : Int32) (x2 : Int32) (x3 : Int32) (M : CS) (H : Heap) (locs : List Loc) (ls : Array Slot), f_X6_text_34 n34 x1 x2 x3 M N = some (r, M') → va_P G.1 vwCl (w_Mo G A M N) H → va_D B (w_Mo G A M N) → va_S B s.heap H locs → lv_has ls 4 [(0, .ref (A 0)), (1, .int x1), (2, .int x2), (3, .int x3)] → W p l e r_X6_text s m av below meth cd H locs 0 0 Q (F0 m 34 ls []) := by
    intro n34
    induction n34 with
    | zero =>
      intro x1 x2 x3 M H locs ls hf hP hD hS hl
      rw [f_X6_text_34] at hf
      cases hf
    | succ n34 ih34 =>
      intro x1 x2 x3 M H locs ls hf hP hD hS hl
      rw [f_X6_text_34] at hf
      refine lv_iload_n (pc := 34) hx hb dX6_text_34 rfl (lv_at hl 3 rfl) ?_
      refine lv_bipush (pc := 35) (v := (60 : Int32)) hx hb dX6_text_35 (by decide) ?_
      refine lv_icmp_ge (pc := 37) (tgt := 59) hx hb dX6_text_37 (by decide) (fun h1 => ?_) (fun h1 => ?_)
      · have hf := br_y h1 hf
        refine lv_iload_n (pc := 59) hx hb dX6_text_59 rfl (lv_at hl 2 rfl) ?_
        cases hf
        exact hret _ _ _ _ dX6_text_60 hP hD hS
      · have hf := br_n h1 hf
        refine lv_aload_n (pc := 40) hx hb dX6_text_40 rfl (lv_at hl 0 rfl) ?_
        refine wget (pc := 41) X (fun _ h9 => List.mem_cons_of_mem _ (List.mem_append_right _ h9)) hP 0 (at_Mo_0 G A M N) rfl 3 (by decide) (List.mem_cons_of_mem _ (List.mem_append_left _ (List.mem_of_getElem? (i := 1) rfl))) rfl (v := .ref (A 4)) rfl dX6_text_41 ?_
        refine lv_bipush (pc := 44) (v := (60 : Int32)) hx hb dX6_text_44 (by decide) ?_
        refine lv_iload_n (pc := 46) hx hb dX6_text_46 rfl (lv_at hl 1 rfl) ?_
        refine lv_imul (pc := 47) hx hb dX6_text_47 ?_
        refine lv_iload_n (pc := 48) hx hb dX6_text_48 rfl (lv_at hl 3 rfl) ?_
        refine lv_iadd (pc := 49) hx hb dX6_text_49 ?_
        refine lv_bipush (pc := 50) (v := (32 : Int32)) hx hb dX6_text_50 (by decide) ?_
        obtain ⟨hi, hf⟩ := ck_some hf
        refine wiast (pc := 52) X hP hD hS 4 (at_Mo_4 G A M N) hi rfl (sa_Mo_4 G A M N _) dX6_text_52 (fun H locs hP hD hS => ?_)
        have hP : va_P G.1 vwCl (w_Mo G A (cset M 3 (((60 : Int32) * x1) + x3).toNatClampNeg (32 : Int32)) N) H := hP
        have hD : va_D B (w_Mo G A (cset M 3 (((60 : Int32) * x1) + x3).toNatClampNeg (32 : Int32)) N) := hD
        refine lv_iinc (pc := 53) (v := (x3 + (1 : Int32))) (lv' := [(3, .int (x3 + (1 : Int32))), (0, .ref (A 0)), (1, .int x1), (2, .int x2)]) hx hb dX6_text_53 hl (k := 3) rfl rfl (by decide) rfl (fun ls hl => ?_)
        refine lv_goto (pc := 56) (tgt := 34) hx hb dX6_text_56 (by decide) ?_
        exact ih34 _ _ _ _ H locs ls hf hP hD hS (lv_sub hl [1, 2, 3, 0] rfl)
  unfold f_X6_text at hf
  refine lv_iload_n (pc := 0) hx hb dX6_text_0 rfl (lv_at hl 1 rfl) ?_
  obtain ⟨r1, hc1, hf⟩ := ob1_some hf
  refine endi X.2.2.2.2 (runS (pc := 1) (As := [.int x1]) (rest := []) X (c_X6_isText G l  H.size x1 r1 hc1) gX6_text_X6_isText k_X6_isText ⟨rfl, rfl⟩ ⟨Nat.le_of_ble_eq_true rfl, Nat.le_of_ble_eq_true rfl⟩ (EM.nil (w_Mo G A M N)) hP hD hS rfl hl.1 rfl (Nat.le_of_ble_eq_true rfl) ⟨Nat.zero_le _, Nat.zero_le _⟩ dX6_text_1) (EM.nil (w_Mo G A M N)) hP hD hS (fun H locs hP hD hS => ?_)
  refine lv_if_eq (pc := 4) (tgt := 13) hx hb dX6_text_4 (by decide) (fun h4 => ?_) (fun h4 => ?_)
  · have hf := br_y h4 hf
    exact b_13 _ H locs ls hf hP hD hS (lv_sub hl [] rfl)
  · have hf := br_n h4 hf
    refine lv_iload_n (pc := 7) hx hb dX6_text_7 rfl (lv_at hl 2 rfl) ?_
    refine lv_bipush (pc := 8) (v := (60 : Int32)) hx hb dX6_text_8 (by decide) ?_
    refine lv_icmp_le (pc := 10) (tgt := 15) hx hb dX6_text_10 (by decide) (fun h3 => ?_) (fun h3 => ?_)
    · have hf := br_y h3 hf
      refine lv_iload_n (pc := 15) hx hb dX6_text_15 rfl (lv_at hl 2 rfl) ?_
      refine lv_if_ge (pc := 16) (tgt := 25) hx hb dX6_text_16 (by decide) (fun h2 => ?_) (fun h2 => ?_)
      · have hf := br_y h2 hf
        refine lv_aload_n (pc := 25) hx hb dX6_text_25 rfl (lv_at hl 0 rfl) ?_
        refine wget (pc := 26) X (fun _ h9 => List.mem_cons_of_mem _ (List.mem_append_right _ h9)) hP 0 (at_Mo_0 G A M N) rfl 2 (by decide) (List.mem_cons_of_mem _ (List.mem_append_left _ (List.mem_of_getElem? (i := 0) rfl))) rfl (v := .ref (A 3)) rfl dX6_text_26 ?_
        refine lv_iload_n (pc := 29) hx hb dX6_text_29 rfl (lv_at hl 1 rfl) ?_
        refine lv_iload_n (pc := 30) hx hb dX6_text_30 rfl (lv_at hl 2 rfl) ?_
        obtain ⟨hi, hf⟩ := ck_some hf
        refine wiast (pc := 31) X hP hD hS 3 (at_Mo_3 G A M N) hi rfl (sa_Mo_3 G A M N _) dX6_text_31 (fun H locs hP hD hS => ?_)
        have hP : va_P G.1 vwCl (w_Mo G A (cset M 2 x1.toNatClampNeg x2) N) H := hP
        have hD : va_D B (w_Mo G A (cset M 2 x1.toNatClampNeg x2) N) := hD
        refine lv_iconst (pc := 32) (v := (0 : Int32)) hx hb dX6_text_32 (by decide) ?_
        refine lv_istore_n (pc := 33) (lv' := [(3, .int (0 : Int32)), (0, .ref (A 0)), (1, .int x1), (2, .int x2)]) hx hb dX6_text_33 rfl hl (by decide) rfl (fun ls hl => ?_)
        exact l_34 FU _ _ _ _ H locs ls hf hP hD hS (lv_sub hl [1, 2, 3, 0] rfl)
      · have hf := br_n h2 hf
        refine lv_aload_n (pc := 19) hx hb dX6_text_19 rfl (lv_at hl 0 rfl) ?_
        refine lv_iconst (pc := 20) (v := (5 : Int32)) hx hb dX6_text_20 (by decide) ?_
        obtain ⟨r2, M2, hc2, hf⟩ := ob2_some hf
        refine endi X.2.2.2.2 (runV (pc := 21) (As := [.int (5 : Int32)]) (rest := []) X (c_X6_found G l A H.size M N (5 : Int32) r2 M2 hc2) gX6_text_X6_found k_X6_found ⟨rfl, rfl⟩ ⟨Nat.le_of_ble_eq_true rfl, Nat.le_of_ble_eq_true rfl⟩ (EM.all (w_Mo G A M N) (w_Mo G A M2 N)) hP hD hS (ci := 6) rfl rfl (at_Mo_0 G A M N) rfl hl.1 rfl (Nat.le_of_ble_eq_true rfl) ⟨Nat.zero_le _, Nat.zero_le _⟩ dX6_text_21) (EM.all (w_Mo G A M N) (w_Mo G A M2 N)) hP hD hS (fun H locs hP hD hS => ?_)
        cases hf
        exact hret _ _ _ _ dX6_text_24 hP hD hS
    · have hf := br_n h3 hf
      exact b_13 _ H locs ls hf hP hD hS (lv_sub hl [] rfl)
def r_X6_together : Room := { frames := 3, cells := 0, slots := 0, locals := 70 }
set_option maxHeartbeats 4000000 in
set_option maxRecDepth 100000 in
theorem c_X6_together (G : GT) (l : Launch) (A : Nat → Nat) (sz : Nat) (M : CS) (N : JS) (x1 : Int32) (x2 : Int32) (x3 : Int32) (r : Int32) (M' : CS) (hf : f_X6_together M N x1 x2 x3 = some (r, M')) : MTi l yX6_together wsX6_together r_X6_together [.ref (A 0), .int x1, .int x2, .int x3] G (w_Mo G A M N) (w_Mo G A M' N) sz r := by
  refine MTi.of (cc := cX6_together) (maxL := 8) (by decide +kernel) rfl (Nat.le_of_ble_eq_true rfl) (fun p e s m av below meth cd Q B H locs ls X hret hl hP hD hS => ?_)
  have hx := X.1.1
  have hb := X.1.2.1
  have hl : lv_has ls 8 [(0, .ref (A 0)), (1, .int x1), (2, .int x2), (3, .int x3)] := hl
  have b_28 : ∀ (M : CS) (H : Heap) (locs : List Loc) (ls : Array Slot), f_X6_together_28 M N = some (r, M') → va_P G.1 vwCl (w_Mo G A M N) H → va_D B (w_Mo G A M N) → va_S B s.heap H locs → lv_has ls 8 [] → W p l e r_X6_together s m av below meth cd H locs 0 0 Q (F0 m 28 ls []) := by
    intro M H locs ls hf hP hD hS hl
    unfold f_X6_together_28 at hf
    refine lv_iconst (pc := 28) (v := (-1 : Int32)) hx hb dX6_together_28 (by decide) ?_
    cases hf
    exact hret _ _ _ _ dX6_together_29 hP hD hS
  have l_81 : ∀ (n81 : Nat), ∀ (x1 : Int32) (x4 : Int32) (x5 : Int32) (x6 : Int32) (M : CS) (H : Heap) (locs : List Loc) (ls : Array Slot), f_X6_together_81 n81 x1 x4 x5 x6 M N = some (r, M') → va_P G.1 vwCl (w_Mo G A M N) H → va_D B (w_Mo G A M N) → va_S B s.heap H locs → lv_has ls 8 [(0, .ref (A 0)), (1, .int x1), (4, .int x4), (5, .int x5), (6, .int x6)] → W p l e r_X6_together s m av below meth cd H locs 0 0 Q (F0 m 81 ls []) := by
    intro n81
    induction n81 with
    | zero =>
      intro x1 x4 x5 x6 M H locs ls hf hP hD hS hl
      rw [f_X6_together_81] at hf
      cases hf
    | succ n81 ih81 =>
      have b_148 : ∀ (x1 : Int32) (x5 : Int32) (x6 : Int32) (t0 : Int32) (M : CS) (H : Heap) (locs : List Loc) (ls : Array Slot), f_X6_together_148 (f_X6_together_81 n81) x1 x5 x6 t0 M N = some (r, M') → va_P G.1 vwCl (w_Mo G A M N) H → va_D B (w_Mo G A M N) → va_S B s.heap H locs → lv_has ls 8 [(0, .ref (A 0)), (1, .int x1), (5, .int x5), (6, .int x6)] → W p l e r_X6_together s m av below meth cd H locs 0 0 Q (F0 m 148 ls [.int t0]) := by
        intro x1 x5 x6 t0 M H locs ls hf hP hD hS hl
        unfold f_X6_together_148 at hf
        refine lv_istore (pc := 148) (lv' := [(4, .int t0), (0, .ref (A 0)), (1, .int x1), (5, .int x5), (6, .int x6)]) hx hb dX6_together_148 hl (by decide) rfl (fun ls hl => ?_)
        refine lv_iinc (pc := 150) (v := (x6 + (-1 : Int32))) (lv' := [(6, .int (x6 + (-1 : Int32))), (4, .int t0), (0, .ref (A 0)), (1, .int x1), (5, .int x5)]) hx hb dX6_together_150 hl (k := 4) rfl rfl (by decide) rfl (fun ls hl => ?_)
        refine lv_goto (pc := 153) (tgt := 81) hx hb dX6_together_153 (by decide) ?_
        exact ih81 _ _ _ _ _ H locs ls hf hP hD hS (lv_sub hl [2, 3, 1, 4, 0] rfl)
      have b_133 : ∀ (x1 : Int32) (x4 : Int32) (x6 : Int32) (x7 : Int32) (t0 : Int32) (t1 : Int32) (M : CS) (H : Heap) (locs : List Loc) (ls : Array Slot), f_X6_together_133 (f_X6_together_81 n81) x1 x4 x6 x7 t0 t1 M N = some (r, M') → va_P G.1 vwCl (w_Mo G A M N) H → va_D B (w_Mo G A M N) → va_S B s.heap H locs → lv_has ls 8 [(0, .ref (A 0)), (1, .int x1), (4, .int x4), (6, .int x6), (7, .int x7)] → W p l e r_X6_together s m av below meth cd H locs 0 0 Q (F0 m 133 ls [.int t1, .int t0]) := by
        intro x1 x4 x6 x7 t0 t1 M H locs ls hf hP hD hS hl
        unfold f_X6_together_133 at hf
        refine lv_iadd (pc := 133) hx hb dX6_together_133 ?_
        refine lv_istore (pc := 134) (lv' := [(5, .int (t0 + t1)), (0, .ref (A 0)), (1, .int x1), (4, .int x4), (6, .int x6), (7, .int x7)]) hx hb dX6_together_134 hl (by decide) rfl (fun ls hl => ?_)
        refine lv_iload (pc := 136) hx hb dX6_together_136 (lv_at hl 5 rfl) ?_
        refine lv_if_eq (pc := 138) (tgt := 146) hx hb dX6_together_138 (by decide) (fun h1 => ?_) (fun h1 => ?_)
        · have hf := br_y h1 hf
          refine lv_iload (pc := 146) hx hb dX6_together_146 (lv_at hl 3 rfl) ?_
          exact b_148 _ _ _ _ _ H locs ls hf hP hD hS (lv_sub hl [1, 2, 0, 4] rfl)
        · have hf := br_n h1 hf
          refine lv_iload (pc := 141) hx hb dX6_together_141 (lv_at hl 4 rfl) ?_
          refine lv_goto (pc := 143) (tgt := 148) hx hb dX6_together_143 (by decide) ?_
          exact b_148 _ _ _ _ _ H locs ls hf hP hD hS (lv_sub hl [1, 2, 0, 4] rfl)
      have b_119 : ∀ (x1 : Int32) (x4 : Int32) (x5 : Int32) (x6 : Int32) (t0 : Int32) (M : CS) (H : Heap) (locs : List Loc) (ls : Array Slot), f_X6_together_119 (f_X6_together_81 n81) x1 x4 x5 x6 t0 M N = some (r, M') → va_P G.1 vwCl (w_Mo G A M N) H → va_D B (w_Mo G A M N) → va_S B s.heap H locs → lv_has ls 8 [(0, .ref (A 0)), (1, .int x1), (4, .int x4), (5, .int x5), (6, .int x6)] → W p l e r_X6_together s m av below meth cd H locs 0 0 Q (F0 m 119 ls [.int t0]) := by
        intro x1 x4 x5 x6 t0 M H locs ls hf hP hD hS hl
        unfold f_X6_together_119 at hf
        refine lv_istore (pc := 119) (lv' := [(7, .int t0), (0, .ref (A 0)), (1, .int x1), (4, .int x4), (5, .int x5), (6, .int x6)]) hx hb dX6_together_119 hl (by decide) rfl (fun ls hl => ?_)
        refine lv_iload (pc := 121) hx hb dX6_together_121 (lv_at hl 4 rfl) ?_
        refine lv_iload (pc := 123) hx hb dX6_together_123 (lv_at hl 0 rfl) ?_
        refine lv_if_eq (pc := 125) (tgt := 132) hx hb dX6_together_125 (by decide) (fun h2 => ?_) (fun h2 => ?_)
        · have hf := br_y h2 hf
          refine lv_iconst (pc := 132) (v := (0 : Int32)) hx hb dX6_together_132 (by decide) ?_
          exact b_133 _ _ _ _ _ _ _ H locs ls hf hP hD hS (lv_sub hl [1, 2, 3, 5, 0] rfl)
        · have hf := br_n h2 hf
          refine lv_iconst (pc := 128) (v := (1 : Int32)) hx hb dX6_together_128 (by decide) ?_
          refine lv_goto (pc := 129) (tgt := 133) hx hb dX6_together_129 (by decide) ?_
          exact b_133 _ _ _ _ _ _ _ H locs ls hf hP hD hS (lv_sub hl [1, 2, 3, 5, 0] rfl)
      intro x1 x4 x5 x6 M H locs ls hf hP hD hS hl
      rw [f_X6_together_81] at hf
      refine lv_iload (pc := 81) hx hb dX6_together_81 (lv_at hl 4 rfl) ?_
      refine lv_iload_n (pc := 83) hx hb dX6_together_83 rfl (lv_at hl 1 rfl) ?_
      refine lv_icmp_lt (pc := 84) (tgt := 156) hx hb dX6_together_84 (by decide) (fun h4 => ?_) (fun h4 => ?_)
      · have hf := br_y h4 hf
        refine lv_aload_n (pc := 156) hx hb dX6_together_156 rfl (lv_at hl 0 rfl) ?_
        refine lv_iload (pc := 157) hx hb dX6_together_157 (lv_at hl 3 rfl) ?_
        refine lv_iload (pc := 159) hx hb dX6_together_159 (lv_at hl 2 rfl) ?_
        obtain ⟨r1, M1, hc1, hf⟩ := ob2_some hf
        refine endi X.2.2.2.2 (runV (pc := 161) (As := [.int x5, .int x4]) (rest := []) X (c_X6_answer G l A H.size M N x5 x4 r1 M1 hc1) gX6_together_X6_answer k_X6_answer ⟨rfl, rfl⟩ ⟨Nat.le_of_ble_eq_true rfl, Nat.le_of_ble_eq_true rfl⟩ (EM.all (w_Mo G A M N) (w_Mo G A M1 N)) hP hD hS (ci := 6) rfl rfl (at_Mo_0 G A M N) rfl hl.1 rfl (Nat.le_of_ble_eq_true rfl) ⟨Nat.zero_le _, Nat.zero_le _⟩ dX6_together_161) (EM.all (w_Mo G A M N) (w_Mo G A M1 N)) hP hD hS (fun H locs hP hD hS => ?_)
        cases hf
        exact hret _ _ _ _ dX6_together_164 hP hD hS
      · have hf := br_n h4 hf
        refine lv_aload_n (pc := 87) hx hb dX6_together_87 rfl (lv_at hl 0 rfl) ?_
        refine wget (pc := 88) X (fun _ h9 => List.mem_cons_of_mem _ (List.mem_append_right _ h9)) hP 0 (at_Mo_0 G A M N) rfl 15 (by decide) (List.mem_cons_of_mem _ (List.mem_append_left _ (List.mem_append_left _ (List.mem_of_getElem? (i := 1) rfl)))) rfl (v := .ref (A 11)) rfl dX6_together_88 ?_
        refine lv_bipush (pc := 91) (v := (20 : Int32)) hx hb dX6_together_91 (by decide) ?_
        refine lv_iload_n (pc := 93) hx hb dX6_together_93 rfl (lv_at hl 1 rfl) ?_
        refine lv_imul (pc := 94) hx hb dX6_together_94 ?_
        refine lv_iload (pc := 95) hx hb dX6_together_95 (lv_at hl 4 rfl) ?_
        refine lv_iadd (pc := 97) hx hb dX6_together_97 ?_
        obtain ⟨hi, hf⟩ := ck_some hf
        refine wiald (pc := 98) X hP 11 (at_Mo_11 G A M N) hi rfl dX6_together_98 ?_
        refine lv_aload_n (pc := 99) hx hb dX6_together_99 rfl (lv_at hl 0 rfl) ?_
        refine wget (pc := 100) X (fun _ h9 => List.mem_cons_of_mem _ (List.mem_append_right _ h9)) hP 0 (at_Mo_0 G A M N) rfl 16 (by decide) (List.mem_cons_of_mem _ (List.mem_append_left _ (List.mem_append_left _ (List.mem_of_getElem? (i := 0) rfl)))) rfl (v := .ref (A 12)) rfl dX6_together_100 ?_
        refine lv_bipush (pc := 103) (v := (20 : Int32)) hx hb dX6_together_103 (by decide) ?_
        refine lv_iload_n (pc := 105) hx hb dX6_together_105 rfl (lv_at hl 1 rfl) ?_
        refine lv_imul (pc := 106) hx hb dX6_together_106 ?_
        refine lv_iload (pc := 107) hx hb dX6_together_107 (lv_at hl 4 rfl) ?_
        refine lv_iadd (pc := 109) hx hb dX6_together_109 ?_
        obtain ⟨hi, hf⟩ := ck_some hf
        refine wiald (pc := 110) X hP 12 (at_Mo_12 G A M N) hi rfl dX6_together_110 ?_
        refine lv_icmp_ne (pc := 111) (tgt := 118) hx hb dX6_together_111 (by decide) (fun h3 => ?_) (fun h3 => ?_)
        · have hf := br_n h3 hf
          refine lv_iconst (pc := 118) (v := (0 : Int32)) hx hb dX6_together_118 (by decide) ?_
          exact b_119 _ _ _ _ _ _ H locs ls hf hP hD hS (lv_sub hl [0, 1, 2, 3, 4] rfl)
        · have hf := br_y h3 hf
          refine lv_iconst (pc := 114) (v := (1 : Int32)) hx hb dX6_together_114 (by decide) ?_
          refine lv_goto (pc := 115) (tgt := 119) hx hb dX6_together_115 (by decide) ?_
          exact b_119 _ _ _ _ _ _ H locs ls hf hP hD hS (lv_sub hl [0, 1, 2, 3, 4] rfl)
  have l_38 : ∀ (n38 : Nat), ∀ (x1 : Int32) (x3 : Int32) (x4 : Int32) (M : CS) (H : Heap) (locs : List Loc) (ls : Array Slot), f_X6_together_38 n38 x1 x3 x4 M N = some (r, M') → va_P G.1 vwCl (w_Mo G A M N) H → va_D B (w_Mo G A M N) → va_S B s.heap H locs → lv_has ls 8 [(0, .ref (A 0)), (1, .int x1), (3, .int x3), (4, .int x4)] → W p l e r_X6_together s m av below meth cd H locs 0 0 Q (F0 m 38 ls []) := by
    intro n38
    induction n38 with
    | zero =>
      intro x1 x3 x4 M H locs ls hf hP hD hS hl
      rw [f_X6_together_38] at hf
      cases hf
    | succ n38 ih38 =>
      intro x1 x3 x4 M H locs ls hf hP hD hS hl
      rw [f_X6_together_38] at hf
      refine lv_iload (pc := 38) hx hb dX6_together_38 (lv_at hl 3 rfl) ?_
      refine lv_bipush (pc := 40) (v := (100 : Int32)) hx hb dX6_together_40 (by decide) ?_
      refine lv_icmp_ge (pc := 42) (tgt := 65) hx hb dX6_together_42 (by decide) (fun h5 => ?_) (fun h5 => ?_)
      · have hf := br_y h5 hf
        refine lv_aload_n (pc := 65) hx hb dX6_together_65 rfl (lv_at hl 0 rfl) ?_
        refine lv_iload_n (pc := 66) hx hb dX6_together_66 rfl (lv_at hl 2 rfl) ?_
        obtain ⟨M1, hc1, hf⟩ := ob1_some hf
        refine endv X.2.2.2.2 (runV (pc := 67) (As := [.int x3]) (rest := []) X (c_X6_layNow G l A H.size M N x3 M1 hc1) gX6_together_X6_layNow k_X6_layNow ⟨rfl, rfl⟩ ⟨Nat.le_of_ble_eq_true rfl, Nat.le_of_ble_eq_true rfl⟩ (EM.all (w_Mo G A M N) (w_Mo G A M1 N)) hP hD hS (ci := 6) rfl rfl (at_Mo_0 G A M N) rfl hl.1 rfl (Nat.le_of_ble_eq_true rfl) ⟨Nat.zero_le _, Nat.zero_le _⟩ dX6_together_67) (EM.all (w_Mo G A M N) (w_Mo G A M1 N)) hP hD hS (fun H locs hP hD hS => ?_)
        refine lv_bipush (pc := 70) (v := (-9 : Int32)) hx hb dX6_together_70 (by decide) ?_
        refine lv_istore (pc := 72) (lv' := [(4, .int (-9 : Int32)), (0, .ref (A 0)), (1, .int x1), (3, .int x3)]) hx hb dX6_together_72 hl (by decide) rfl (fun ls hl => ?_)
        refine lv_iconst (pc := 74) (v := (0 : Int32)) hx hb dX6_together_74 (by decide) ?_
        refine lv_istore (pc := 75) (lv' := [(5, .int (0 : Int32)), (4, .int (-9 : Int32)), (0, .ref (A 0)), (1, .int x1), (3, .int x3)]) hx hb dX6_together_75 hl (by decide) rfl (fun ls hl => ?_)
        refine lv_bipush (pc := 77) (v := (19 : Int32)) hx hb dX6_together_77 (by decide) ?_
        refine lv_istore (pc := 79) (lv' := [(6, .int (19 : Int32)), (5, .int (0 : Int32)), (4, .int (-9 : Int32)), (0, .ref (A 0)), (1, .int x1), (3, .int x3)]) hx hb dX6_together_79 hl (by decide) rfl (fun ls hl => ?_)
        exact l_81 FU _ _ _ _ _ H locs ls hf hP hD hS (lv_sub hl [3, 4, 2, 1, 0] rfl)
      · have hf := br_n h5 hf
        refine lv_aload_n (pc := 45) hx hb dX6_together_45 rfl (lv_at hl 0 rfl) ?_
        refine wget (pc := 46) X (fun _ h9 => List.mem_cons_of_mem _ (List.mem_append_right _ h9)) hP 0 (at_Mo_0 G A M N) rfl 16 (by decide) (List.mem_cons_of_mem _ (List.mem_append_left _ (List.mem_append_left _ (List.mem_of_getElem? (i := 0) rfl)))) rfl (v := .ref (A 12)) rfl dX6_together_46 ?_
        refine lv_iload (pc := 49) hx hb dX6_together_49 (lv_at hl 3 rfl) ?_
        refine lv_aload_n (pc := 51) hx hb dX6_together_51 rfl (lv_at hl 0 rfl) ?_
        refine wget (pc := 52) X (fun _ h9 => List.mem_cons_of_mem _ (List.mem_append_right _ h9)) hP 0 (at_Mo_0 G A M N) rfl 15 (by decide) (List.mem_cons_of_mem _ (List.mem_append_left _ (List.mem_append_left _ (List.mem_of_getElem? (i := 1) rfl)))) rfl (v := .ref (A 11)) rfl dX6_together_52 ?_
        refine lv_iload (pc := 55) hx hb dX6_together_55 (lv_at hl 3 rfl) ?_
        obtain ⟨hi, hf⟩ := ck_some hf
        refine wiald (pc := 57) X hP 11 (at_Mo_11 G A M N) hi rfl dX6_together_57 ?_
        obtain ⟨hi, hf⟩ := ck_some hf
        refine wiast (pc := 58) X hP hD hS 12 (at_Mo_12 G A M N) hi rfl (sa_Mo_12 G A M N _) dX6_together_58 (fun H locs hP hD hS => ?_)
        have hP : va_P G.1 vwCl (w_Mo G A (cset M 14 x4.toNatClampNeg ((M 13) x4.toNatClampNeg)) N) H := hP
        have hD : va_D B (w_Mo G A (cset M 14 x4.toNatClampNeg ((M 13) x4.toNatClampNeg)) N) := hD
        refine lv_iinc (pc := 59) (v := (x4 + (1 : Int32))) (lv' := [(4, .int (x4 + (1 : Int32))), (0, .ref (A 0)), (1, .int x1), (3, .int x3)]) hx hb dX6_together_59 hl (k := 3) rfl rfl (by decide) rfl (fun ls hl => ?_)
        refine lv_goto (pc := 62) (tgt := 38) hx hb dX6_together_62 (by decide) ?_
        exact ih38 _ _ _ _ H locs ls hf hP hD hS (lv_sub hl [1, 2, 3, 0] rfl)
  unfold f_X6_together at hf
  refine lv_iload_n (pc := 0) hx hb dX6_together_0 rfl (lv_at hl 1 rfl) ?_
  obtain ⟨r1, hc1, hf⟩ := ob1_some hf
  refine endi X.2.2.2.2 (runS (pc := 1) (As := [.int x1]) (rest := []) X (c_X6_isTown G l  H.size x1 r1 hc1) gX6_together_X6_isTown k_X6_isTown ⟨rfl, rfl⟩ ⟨Nat.le_of_ble_eq_true rfl, Nat.le_of_ble_eq_true rfl⟩ (EM.nil (w_Mo G A M N)) hP hD hS rfl hl.1 rfl (Nat.le_of_ble_eq_true rfl) ⟨Nat.zero_le _, Nat.zero_le _⟩ dX6_together_1) (EM.nil (w_Mo G A M N)) hP hD hS (fun H locs hP hD hS => ?_)
  refine lv_if_eq (pc := 4) (tgt := 28) hx hb dX6_together_4 (by decide) (fun h9 => ?_) (fun h9 => ?_)
  · have hf := br_y h9 hf
    exact b_28 _ H locs ls hf hP hD hS (lv_sub hl [] rfl)
  · have hf := br_n h9 hf
    refine lv_aload_n (pc := 7) hx hb dX6_together_7 rfl (lv_at hl 0 rfl) ?_
    refine lv_iload_n (pc := 8) hx hb dX6_together_8 rfl (lv_at hl 2 rfl) ?_
    obtain ⟨r2, hc2, hf⟩ := ob1_some hf
    refine endi X.2.2.2.2 (runV (pc := 9) (As := [.int x2]) (rest := []) X (c_X6_isPerson G l A H.size M N x2 r2 hc2) gX6_together_X6_isPerson k_X6_isPerson ⟨rfl, rfl⟩ ⟨Nat.le_of_ble_eq_true rfl, Nat.le_of_ble_eq_true rfl⟩ (EM.all (w_Mo G A M N) (w_Mo G A M N)) hP hD hS (ci := 6) rfl rfl (at_Mo_0 G A M N) rfl hl.1 rfl (Nat.le_of_ble_eq_true rfl) ⟨Nat.zero_le _, Nat.zero_le _⟩ dX6_together_9) (EM.all (w_Mo G A M N) (w_Mo G A M N)) hP hD hS (fun H locs hP hD hS => ?_)
    refine lv_if_eq (pc := 12) (tgt := 28) hx hb dX6_together_12 (by decide) (fun h8 => ?_) (fun h8 => ?_)
    · have hf := br_y h8 hf
      exact b_28 _ H locs ls hf hP hD hS (lv_sub hl [] rfl)
    · have hf := br_n h8 hf
      refine lv_aload_n (pc := 15) hx hb dX6_together_15 rfl (lv_at hl 0 rfl) ?_
      refine lv_iload_n (pc := 16) hx hb dX6_together_16 rfl (lv_at hl 3 rfl) ?_
      obtain ⟨r3, hc3, hf⟩ := ob1_some hf
      refine endi X.2.2.2.2 (runV (pc := 17) (As := [.int x3]) (rest := []) X (c_X6_isPerson G l A H.size M N x3 r3 hc3) gX6_together_X6_isPerson k_X6_isPerson ⟨rfl, rfl⟩ ⟨Nat.le_of_ble_eq_true rfl, Nat.le_of_ble_eq_true rfl⟩ (EM.all (w_Mo G A M N) (w_Mo G A M N)) hP hD hS (ci := 6) rfl rfl (at_Mo_0 G A M N) rfl hl.1 rfl (Nat.le_of_ble_eq_true rfl) ⟨Nat.zero_le _, Nat.zero_le _⟩ dX6_together_17) (EM.all (w_Mo G A M N) (w_Mo G A M N)) hP hD hS (fun H locs hP hD hS => ?_)
      refine lv_if_eq (pc := 20) (tgt := 28) hx hb dX6_together_20 (by decide) (fun h7 => ?_) (fun h7 => ?_)
      · have hf := br_y h7 hf
        exact b_28 _ H locs ls hf hP hD hS (lv_sub hl [] rfl)
      · have hf := br_n h7 hf
        refine lv_iload_n (pc := 23) hx hb dX6_together_23 rfl (lv_at hl 2 rfl) ?_
        refine lv_iload_n (pc := 24) hx hb dX6_together_24 rfl (lv_at hl 3 rfl) ?_
        refine lv_icmp_ne (pc := 25) (tgt := 30) hx hb dX6_together_25 (by decide) (fun h6 => ?_) (fun h6 => ?_)
        · have hf := br_n h6 hf
          refine lv_aload_n (pc := 30) hx hb dX6_together_30 rfl (lv_at hl 0 rfl) ?_
          refine lv_iload_n (pc := 31) hx hb dX6_together_31 rfl (lv_at hl 2 rfl) ?_
          obtain ⟨M4, hc4, hf⟩ := ob1_some hf
          refine endv X.2.2.2.2 (runV (pc := 32) (As := [.int x2]) (rest := []) X (c_X6_layNow G l A H.size M N x2 M4 hc4) gX6_together_X6_layNow k_X6_layNow ⟨rfl, rfl⟩ ⟨Nat.le_of_ble_eq_true rfl, Nat.le_of_ble_eq_true rfl⟩ (EM.all (w_Mo G A M N) (w_Mo G A M4 N)) hP hD hS (ci := 6) rfl rfl (at_Mo_0 G A M N) rfl hl.1 rfl (Nat.le_of_ble_eq_true rfl) ⟨Nat.zero_le _, Nat.zero_le _⟩ dX6_together_32) (EM.all (w_Mo G A M N) (w_Mo G A M4 N)) hP hD hS (fun H locs hP hD hS => ?_)
          refine lv_iconst (pc := 35) (v := (0 : Int32)) hx hb dX6_together_35 (by decide) ?_
          refine lv_istore (pc := 36) (lv' := [(4, .int (0 : Int32)), (0, .ref (A 0)), (1, .int x1), (2, .int x2), (3, .int x3)]) hx hb dX6_together_36 hl (by decide) rfl (fun ls hl => ?_)
          exact l_38 FU _ _ _ _ H locs ls hf hP hD hS (lv_sub hl [1, 2, 4, 0] rfl)
        · have hf := br_y h6 hf
          exact b_28 _ H locs ls hf hP hD hS (lv_sub hl [] rfl)
def r_X6_undo : Room := { frames := 1, cells := 0, slots := 0, locals := 25 }
set_option maxHeartbeats 4000000 in
set_option maxRecDepth 100000 in
theorem c_X6_undo (G : GT) (l : Launch) (A : Nat → Nat) (sz : Nat) (M : CS) (N : JS) (x1 : Int32) (r : Int32) (M' : CS) (hf : f_X6_undo M N x1 = some (r, M')) : MTi l yX6_undo wsX6_undo r_X6_undo [.ref (A 0), .int x1] G (w_Mo G A M N) (w_Mo G A M' N) sz r := by
  refine MTi.of (cc := cX6_undo) (maxL := 5) (by decide +kernel) rfl (Nat.le_of_ble_eq_true rfl) (fun p e s m av below meth cd Q B H locs ls X hret hl hP hD hS => ?_)
  have hx := X.1.1
  have hb := X.1.2.1
  have hl : lv_has ls 5 [(0, .ref (A 0)), (1, .int x1)] := hl
  have l_36 : ∀ (n36 : Nat), ∀ (x1 : Int32) (x2 : Int32) (x3 : Int32) (M : CS) (H : Heap) (locs : List Loc) (ls : Array Slot), f_X6_undo_36 n36 x1 x2 x3 M N = some (r, M') → va_P G.1 vwCl (w_Mo G A M N) H → va_D B (w_Mo G A M N) → va_S B s.heap H locs → lv_has ls 5 [(0, .ref (A 0)), (1, .int x1), (2, .int x2), (3, .int x3)] → W p l e r_X6_undo s m av below meth cd H locs 0 0 Q (F0 m 36 ls []) := by
    intro n36
    induction n36 with
    | zero =>
      intro x1 x2 x3 M H locs ls hf hP hD hS hl
      rw [f_X6_undo_36] at hf
      cases hf
    | succ n36 ih36 =>
      have b_115 : ∀ (x1 : Int32) (x2 : Int32) (x3 : Int32) (M : CS) (H : Heap) (locs : List Loc) (ls : Array Slot), f_X6_undo_115 (f_X6_undo_36 n36) x1 x2 x3 M N = some (r, M') → va_P G.1 vwCl (w_Mo G A M N) H → va_D B (w_Mo G A M N) → va_S B s.heap H locs → lv_has ls 5 [(0, .ref (A 0)), (1, .int x1), (2, .int x2), (3, .int x3)] → W p l e r_X6_undo s m av below meth cd H locs 0 0 Q (F0 m 115 ls []) := by
        intro x1 x2 x3 M H locs ls hf hP hD hS hl
        unfold f_X6_undo_115 at hf
        refine lv_iinc (pc := 115) (v := (x3 + (-1 : Int32))) (lv' := [(3, .int (x3 + (-1 : Int32))), (0, .ref (A 0)), (1, .int x1), (2, .int x2)]) hx hb dX6_undo_115 hl (k := 3) rfl rfl (by decide) rfl (fun ls hl => ?_)
        refine lv_goto (pc := 118) (tgt := 36) hx hb dX6_undo_118 (by decide) ?_
        exact ih36 _ _ _ _ H locs ls hf hP hD hS (lv_sub hl [1, 2, 3, 0] rfl)
      intro x1 x2 x3 M H locs ls hf hP hD hS hl
      rw [f_X6_undo_36] at hf
      refine lv_iload_n (pc := 36) hx hb dX6_undo_36 rfl (lv_at hl 3 rfl) ?_
      refine lv_iload_n (pc := 37) hx hb dX6_undo_37 rfl (lv_at hl 1 rfl) ?_
      refine lv_icmp_lt (pc := 38) (tgt := 121) hx hb dX6_undo_38 (by decide) (fun h3 => ?_) (fun h3 => ?_)
      · have hf := br_y h3 hf
        refine lv_aload_n (pc := 121) hx hb dX6_undo_121 rfl (lv_at hl 0 rfl) ?_
        refine wget (pc := 122) X (fun _ h9 => List.mem_cons_of_mem _ (List.mem_append_right _ h9)) hP 0 (at_Mo_0 G A M N) rfl 4 (by decide) (List.mem_cons_of_mem _ (List.mem_append_left _ (List.mem_of_getElem? (i := 0) rfl))) rfl (v := .ref (A 5)) rfl dX6_undo_122 ?_
        refine lv_iconst (pc := 125) (v := (3 : Int32)) hx hb dX6_undo_125 (by decide) ?_
        refine lv_iload_n (pc := 126) hx hb dX6_undo_126 rfl (lv_at hl 1 rfl) ?_
        refine wiast (pc := 127) X hP hD hS 5 (at_Mo_5 G A M N) (by decide) (j := 3) (by decide) (sa_Mo_5 G A M N _) dX6_undo_127 (fun H locs hP hD hS => ?_)
        have hP : va_P G.1 vwCl (w_Mo G A (cset M 4 3 x1) N) H := hP
        have hD : va_D B (w_Mo G A (cset M 4 3 x1) N) := hD
        refine lv_iload_n (pc := 128) hx hb dX6_undo_128 rfl (lv_at hl 2 rfl) ?_
        cases hf
        exact hret _ _ _ _ dX6_undo_129 hP hD hS
      · have hf := br_n h3 hf
        refine lv_aload_n (pc := 41) hx hb dX6_undo_41 rfl (lv_at hl 0 rfl) ?_
        refine wget (pc := 42) X (fun _ h9 => List.mem_cons_of_mem _ (List.mem_append_right _ h9)) hP 0 (at_Mo_0 G A M N) rfl 4 (by decide) (List.mem_cons_of_mem _ (List.mem_append_left _ (List.mem_of_getElem? (i := 0) rfl))) rfl (v := .ref (A 5)) rfl dX6_undo_42 ?_
        refine lv_bipush (pc := 45) (v := (79 : Int32)) hx hb dX6_undo_45 (by decide) ?_
        refine lv_iload_n (pc := 47) hx hb dX6_undo_47 rfl (lv_at hl 3 rfl) ?_
        refine lv_iadd (pc := 48) hx hb dX6_undo_48 ?_
        obtain ⟨hi, hf⟩ := ck_some hf
        refine wiald (pc := 49) X hP 5 (at_Mo_5 G A M N) hi rfl dX6_undo_49 ?_
        refine lv_istore (pc := 50) (lv' := [(4, .int ((M 4) ((79 : Int32) + x3).toNatClampNeg)), (0, .ref (A 0)), (1, .int x1), (2, .int x2), (3, .int x3)]) hx hb dX6_undo_50 hl (by decide) rfl (fun ls hl => ?_)
        refine lv_iload (pc := 52) hx hb dX6_undo_52 (lv_at hl 0 rfl) ?_
        refine lv_if_ne (pc := 54) (tgt := 70) hx hb dX6_undo_54 (by decide) (fun h2 => ?_) (fun h2 => ?_)
        · have hf := br_n h2 hf
          refine lv_iload (pc := 70) hx hb dX6_undo_70 (lv_at hl 0 rfl) ?_
          refine lv_iconst (pc := 72) (v := (1 : Int32)) hx hb dX6_undo_72 (by decide) ?_
          refine lv_icmp_ne (pc := 73) (tgt := 89) hx hb dX6_undo_73 (by decide) (fun h1 => ?_) (fun h1 => ?_)
          · have hf := br_n h1 hf
            refine lv_aload_n (pc := 89) hx hb dX6_undo_89 rfl (lv_at hl 1 rfl) ?_
            refine wget (pc := 90) X (fun _ h9 => List.mem_cons_of_mem _ (List.mem_append_right _ h9)) hP 0 (at_Mo_0 G A M N) rfl 4 (by decide) (List.mem_cons_of_mem _ (List.mem_append_left _ (List.mem_of_getElem? (i := 0) rfl))) rfl (v := .ref (A 5)) rfl dX6_undo_90 ?_
            refine lv_bipush (pc := 93) (v := (67 : Int32)) hx hb dX6_undo_93 (by decide) ?_
            refine lv_iload (pc := 95) hx hb dX6_undo_95 (lv_at hl 0 rfl) ?_
            refine lv_iadd (pc := 97) hx hb dX6_undo_97 ?_
            refine lv_iconst (pc := 98) (v := (2 : Int32)) hx hb dX6_undo_98 (by decide) ?_
            refine lv_isub (pc := 99) hx hb dX6_undo_99 ?_
            refine lv_iconst (pc := 100) (v := (1 : Int32)) hx hb dX6_undo_100 (by decide) ?_
            refine lv_aload_n (pc := 101) hx hb dX6_undo_101 rfl (lv_at hl 1 rfl) ?_
            refine wget (pc := 102) X (fun _ h9 => List.mem_cons_of_mem _ (List.mem_append_right _ h9)) hP 0 (at_Mo_0 G A M N) rfl 4 (by decide) (List.mem_cons_of_mem _ (List.mem_append_left _ (List.mem_of_getElem? (i := 0) rfl))) rfl (v := .ref (A 5)) rfl dX6_undo_102 ?_
            refine lv_bipush (pc := 105) (v := (67 : Int32)) hx hb dX6_undo_105 (by decide) ?_
            refine lv_iload (pc := 107) hx hb dX6_undo_107 (lv_at hl 0 rfl) ?_
            refine lv_iadd (pc := 109) hx hb dX6_undo_109 ?_
            refine lv_iconst (pc := 110) (v := (2 : Int32)) hx hb dX6_undo_110 (by decide) ?_
            refine lv_isub (pc := 111) hx hb dX6_undo_111 ?_
            obtain ⟨hi, hf⟩ := ck_some hf
            refine wiald (pc := 112) X hP 5 (at_Mo_5 G A M N) hi rfl dX6_undo_112 ?_
            refine lv_isub (pc := 113) hx hb dX6_undo_113 ?_
            obtain ⟨hi, hf⟩ := ck_some hf
            refine wiast (pc := 114) X hP hD hS 5 (at_Mo_5 G A M N) hi rfl (sa_Mo_5 G A M N _) dX6_undo_114 (fun H locs hP hD hS => ?_)
            have hP : va_P G.1 vwCl (w_Mo G A (cset M 4 (((67 : Int32) + ((M 4) ((79 : Int32) + x3).toNatClampNeg)) - (2 : Int32)).toNatClampNeg ((1 : Int32) - ((M 4) (((67 : Int32) + ((M 4) ((79 : Int32) + x3).toNatClampNeg)) - (2 : Int32)).toNatClampNeg))) N) H := hP
            have hD : va_D B (w_Mo G A (cset M 4 (((67 : Int32) + ((M 4) ((79 : Int32) + x3).toNatClampNeg)) - (2 : Int32)).toNatClampNeg ((1 : Int32) - ((M 4) (((67 : Int32) + ((M 4) ((79 : Int32) + x3).toNatClampNeg)) - (2 : Int32)).toNatClampNeg))) N) := hD
            exact b_115 _ _ _ _ H locs ls hf hP hD hS (lv_sub hl [1, 2, 3, 4] rfl)
          · have hf := br_y h1 hf
            refine lv_aload_n (pc := 76) hx hb dX6_undo_76 rfl (lv_at hl 1 rfl) ?_
            refine wget (pc := 77) X (fun _ h9 => List.mem_cons_of_mem _ (List.mem_append_right _ h9)) hP 0 (at_Mo_0 G A M N) rfl 4 (by decide) (List.mem_cons_of_mem _ (List.mem_append_left _ (List.mem_of_getElem? (i := 0) rfl))) rfl (v := .ref (A 5)) rfl dX6_undo_77 ?_
            refine lv_iconst (pc := 80) (v := (2 : Int32)) hx hb dX6_undo_80 (by decide) ?_
            refine lv_dup2_11 (pc := 81) hx hb dX6_undo_81 rfl rfl ?_
            refine wiald (pc := 82) X hP 5 (at_Mo_5 G A M N) (by decide) (j := 2) (by decide) dX6_undo_82 ?_
            refine lv_iconst (pc := 83) (v := (1 : Int32)) hx hb dX6_undo_83 (by decide) ?_
            refine lv_isub (pc := 84) hx hb dX6_undo_84 ?_
            refine wiast (pc := 85) X hP hD hS 5 (at_Mo_5 G A M N) (by decide) (j := 2) (by decide) (sa_Mo_5 G A M N _) dX6_undo_85 (fun H locs hP hD hS => ?_)
            have hP : va_P G.1 vwCl (w_Mo G A (cset M 4 2 (((M 4) 2) - (1 : Int32))) N) H := hP
            have hD : va_D B (w_Mo G A (cset M 4 2 (((M 4) 2) - (1 : Int32))) N) := hD
            refine lv_goto (pc := 86) (tgt := 115) hx hb dX6_undo_86 (by decide) ?_
            exact b_115 _ _ _ _ H locs ls hf hP hD hS (lv_sub hl [1, 2, 3, 4] rfl)
        · have hf := br_y h2 hf
          refine lv_aload_n (pc := 57) hx hb dX6_undo_57 rfl (lv_at hl 1 rfl) ?_
          refine wget (pc := 58) X (fun _ h9 => List.mem_cons_of_mem _ (List.mem_append_right _ h9)) hP 0 (at_Mo_0 G A M N) rfl 4 (by decide) (List.mem_cons_of_mem _ (List.mem_append_left _ (List.mem_of_getElem? (i := 0) rfl))) rfl (v := .ref (A 5)) rfl dX6_undo_58 ?_
          refine lv_iconst (pc := 61) (v := (1 : Int32)) hx hb dX6_undo_61 (by decide) ?_
          refine lv_dup2_11 (pc := 62) hx hb dX6_undo_62 rfl rfl ?_
          refine wiald (pc := 63) X hP 5 (at_Mo_5 G A M N) (by decide) (j := 1) (by decide) dX6_undo_63 ?_
          refine lv_iconst (pc := 64) (v := (1 : Int32)) hx hb dX6_undo_64 (by decide) ?_
          refine lv_isub (pc := 65) hx hb dX6_undo_65 ?_
          refine wiast (pc := 66) X hP hD hS 5 (at_Mo_5 G A M N) (by decide) (j := 1) (by decide) (sa_Mo_5 G A M N _) dX6_undo_66 (fun H locs hP hD hS => ?_)
          have hP : va_P G.1 vwCl (w_Mo G A (cset M 4 1 (((M 4) 1) - (1 : Int32))) N) H := hP
          have hD : va_D B (w_Mo G A (cset M 4 1 (((M 4) 1) - (1 : Int32))) N) := hD
          refine lv_goto (pc := 67) (tgt := 115) hx hb dX6_undo_67 (by decide) ?_
          exact b_115 _ _ _ _ H locs ls hf hP hD hS (lv_sub hl [1, 2, 3, 4] rfl)
  unfold f_X6_undo at hf
  refine lv_iload_n (pc := 0) hx hb dX6_undo_0 rfl (lv_at hl 1 rfl) ?_
  refine lv_i2l (pc := 1) (v := (x1).toInt64) hx hb dX6_undo_1 rfl ?_
  refine lv_lconst (pc := 2) (v := (0 : Int64)) hx hb dX6_undo_2 (by decide) ?_
  refine lv_aload_n (pc := 3) hx hb dX6_undo_3 rfl (lv_at hl 0 rfl) ?_
  refine wget (pc := 4) X (fun _ h9 => List.mem_cons_of_mem _ (List.mem_append_right _ h9)) hP 0 (at_Mo_0 G A M N) rfl 4 (by decide) (List.mem_cons_of_mem _ (List.mem_append_left _ (List.mem_of_getElem? (i := 0) rfl))) rfl (v := .ref (A 5)) rfl dX6_undo_4 ?_
  refine lv_iconst (pc := 7) (v := (3 : Int32)) hx hb dX6_undo_7 (by decide) ?_
  refine wiald (pc := 8) X hP 5 (at_Mo_5 G A M N) (by decide) (j := 3) (by decide) dX6_undo_8 ?_
  refine lv_i2l (pc := 9) (v := (((M 4) 3)).toInt64) hx hb dX6_undo_9 rfl ?_
  obtain ⟨r1, hc1, hf⟩ := ob1_some hf
  refine endi X.2.2.2.2 (runS (pc := 10) (As := [.long ((x1).toInt64), .long (0 : Int64), .long ((((M 4) 3)).toInt64)]) (rest := []) X (c_X6_in G l  H.size ((x1).toInt64) (0 : Int64) ((((M 4) 3)).toInt64) r1 hc1) gX6_undo_X6_in k_X6_in ⟨rfl, rfl⟩ ⟨Nat.le_of_ble_eq_true rfl, Nat.le_of_ble_eq_true rfl⟩ (EM.nil (w_Mo G A M N)) hP hD hS rfl hl.1 rfl (Nat.le_of_ble_eq_true rfl) ⟨Nat.zero_le _, Nat.zero_le _⟩ dX6_undo_10) (EM.nil (w_Mo G A M N)) hP hD hS (fun H locs hP hD hS => ?_)
  refine lv_if_ne (pc := 13) (tgt := 18) hx hb dX6_undo_13 (by decide) (fun h4 => ?_) (fun h4 => ?_)
  · have hf := br_n h4 hf
    refine lv_aload_n (pc := 18) hx hb dX6_undo_18 rfl (lv_at hl 0 rfl) ?_
    refine wget (pc := 19) X (fun _ h9 => List.mem_cons_of_mem _ (List.mem_append_right _ h9)) hP 0 (at_Mo_0 G A M N) rfl 4 (by decide) (List.mem_cons_of_mem _ (List.mem_append_left _ (List.mem_of_getElem? (i := 0) rfl))) rfl (v := .ref (A 5)) rfl dX6_undo_19 ?_
    refine lv_iconst (pc := 22) (v := (3 : Int32)) hx hb dX6_undo_22 (by decide) ?_
    refine wiald (pc := 23) X hP 5 (at_Mo_5 G A M N) (by decide) (j := 3) (by decide) dX6_undo_23 ?_
    refine lv_iload_n (pc := 24) hx hb dX6_undo_24 rfl (lv_at hl 1 rfl) ?_
    refine lv_isub (pc := 25) hx hb dX6_undo_25 ?_
    refine lv_istore_n (pc := 26) (lv' := [(2, .int (((M 4) 3) - x1)), (0, .ref (A 0)), (1, .int x1)]) hx hb dX6_undo_26 rfl hl (by decide) rfl (fun ls hl => ?_)
    refine lv_aload_n (pc := 27) hx hb dX6_undo_27 rfl (lv_at hl 1 rfl) ?_
    refine wget (pc := 28) X (fun _ h9 => List.mem_cons_of_mem _ (List.mem_append_right _ h9)) hP 0 (at_Mo_0 G A M N) rfl 4 (by decide) (List.mem_cons_of_mem _ (List.mem_append_left _ (List.mem_of_getElem? (i := 0) rfl))) rfl (v := .ref (A 5)) rfl dX6_undo_28 ?_
    refine lv_iconst (pc := 31) (v := (3 : Int32)) hx hb dX6_undo_31 (by decide) ?_
    refine wiald (pc := 32) X hP 5 (at_Mo_5 G A M N) (by decide) (j := 3) (by decide) dX6_undo_32 ?_
    refine lv_iconst (pc := 33) (v := (1 : Int32)) hx hb dX6_undo_33 (by decide) ?_
    refine lv_isub (pc := 34) hx hb dX6_undo_34 ?_
    refine lv_istore_n (pc := 35) (lv' := [(3, .int (((M 4) 3) - (1 : Int32))), (2, .int (((M 4) 3) - x1)), (0, .ref (A 0)), (1, .int x1)]) hx hb dX6_undo_35 rfl hl (by decide) rfl (fun ls hl => ?_)
    exact l_36 FU _ _ _ _ H locs ls hf hP hD hS (lv_sub hl [2, 3, 1, 0] rfl)
  · have hf := br_y h4 hf
    refine lv_iconst (pc := 16) (v := (-1 : Int32)) hx hb dX6_undo_16 (by decide) ?_
    cases hf
    exact hret _ _ _ _ dX6_undo_17 hP hD hS
def r_X6_upper : Room := { frames := 0, cells := 0, slots := 0, locals := 0 }
set_option maxHeartbeats 4000000 in
set_option maxRecDepth 100000 in
theorem c_X6_upper (G : GT) (l : Launch) (A : Nat → Nat) (sz : Nat) (M : CS) (N : JS) (r : Int64) (hf : f_X6_upper M N = some r) : MTl l yX6_upper wsX6_upper r_X6_upper [.ref (A 0)] G (w_Mo G A M N) (w_Mo G A M N) sz r := by
  refine MTl.of (cc := cX6_upper) (maxL := 1) (by decide +kernel) rfl (Nat.le_of_ble_eq_true rfl) (fun p e s m av below meth cd Q B H locs ls X hret hl hP hD hS => ?_)
  have hx := X.1.1
  have hb := X.1.2.1
  have hl : lv_has ls 1 [(0, .ref (A 0))] := hl
  unfold f_X6_upper at hf
  refine lv_aload_n (pc := 0) hx hb dX6_upper_0 rfl (lv_at hl 0 rfl) ?_
  refine wget (pc := 1) X (fun _ h9 => List.mem_cons_of_mem _ (List.mem_append_right _ h9)) hP 0 (at_Mo_0 G A M N) rfl 8 (by decide) (List.mem_cons_of_mem _ (List.mem_append_left _ (List.mem_of_getElem? (i := 0) rfl))) rfl (v := .long (N 0)) rfl dX6_upper_1 ?_
  cases hf
  exact hret _ _ _ _ dX6_upper_4 hP hD hS
def r_X6_warn : Room := { frames := 4, cells := 0, slots := 0, locals := 93 }
set_option maxHeartbeats 4000000 in
set_option maxRecDepth 100000 in
theorem c_X6_warn (G : GT) (l : Launch) (A : Nat → Nat) (sz : Nat) (M : CS) (N : JS) (x1 : Int32) (x2 : Int32) (x3 : Int32) (x4 : Int32) (r : Int32) (M' : CS) (hf : f_X6_warn M N x1 x2 x3 x4 = some (r, M')) : MTi l yX6_warn wsX6_warn r_X6_warn [.ref (A 0), .int x1, .int x2, .int x3, .int x4] G (w_Mo G A M N) (w_Mo G A M' N) sz r := by
  refine MTi.of (cc := cX6_warn) (maxL := 7) (by decide +kernel) rfl (Nat.le_of_ble_eq_true rfl) (fun p e s m av below meth cd Q B H locs ls X hret hl hP hD hS => ?_)
  have hx := X.1.1
  have hb := X.1.2.1
  have hl : lv_has ls 7 [(0, .ref (A 0)), (1, .int x1), (2, .int x2), (3, .int x3), (4, .int x4)] := hl
  have b_35 : ∀ (M : CS) (H : Heap) (locs : List Loc) (ls : Array Slot), f_X6_warn_35 M N = some (r, M') → va_P G.1 vwCl (w_Mo G A M N) H → va_D B (w_Mo G A M N) → va_S B s.heap H locs → lv_has ls 7 [] → W p l e r_X6_warn s m av below meth cd H locs 0 0 Q (F0 m 35 ls []) := by
    intro M H locs ls hf hP hD hS hl
    unfold f_X6_warn_35 at hf
    refine lv_iconst (pc := 35) (v := (-1 : Int32)) hx hb dX6_warn_35 (by decide) ?_
    cases hf
    exact hret _ _ _ _ dX6_warn_36 hP hD hS
  have l_60 : ∀ (n60 : Nat), ∀ (x1 : Int32) (x2 : Int32) (x3 : Int32) (x4 : Int32) (x5 : Int32) (M : CS) (H : Heap) (locs : List Loc) (ls : Array Slot), f_X6_warn_60 n60 x1 x2 x3 x4 x5 M N = some (r, M') → va_P G.1 vwCl (w_Mo G A M N) H → va_D B (w_Mo G A M N) → va_S B s.heap H locs → lv_has ls 7 [(0, .ref (A 0)), (1, .int x1), (2, .int x2), (3, .int x3), (4, .int x4), (5, .int x5)] → W p l e r_X6_warn s m av below meth cd H locs 0 0 Q (F0 m 60 ls []) := by
    intro n60
    induction n60 with
    | zero =>
      intro x1 x2 x3 x4 x5 M H locs ls hf hP hD hS hl
      rw [f_X6_warn_60] at hf
      cases hf
    | succ n60 ih60 =>
      have l_69 : ∀ (n69 : Nat), ∀ (x1 : Int32) (x2 : Int32) (x3 : Int32) (x4 : Int32) (x5 : Int32) (x6 : Int32) (M : CS) (H : Heap) (locs : List Loc) (ls : Array Slot), f_X6_warn_69 (f_X6_warn_60 n60) n69 x1 x2 x3 x4 x5 x6 M N = some (r, M') → va_P G.1 vwCl (w_Mo G A M N) H → va_D B (w_Mo G A M N) → va_S B s.heap H locs → lv_has ls 7 [(0, .ref (A 0)), (1, .int x1), (2, .int x2), (3, .int x3), (4, .int x4), (5, .int x5), (6, .int x6)] → W p l e r_X6_warn s m av below meth cd H locs 0 0 Q (F0 m 69 ls []) := by
        intro n69
        induction n69 with
        | zero =>
          intro x1 x2 x3 x4 x5 x6 M H locs ls hf hP hD hS hl
          rw [f_X6_warn_69] at hf
          cases hf
        | succ n69 ih69 =>
          intro x1 x2 x3 x4 x5 x6 M H locs ls hf hP hD hS hl
          rw [f_X6_warn_69] at hf
          refine lv_iload (pc := 69) hx hb dX6_warn_69 (lv_at hl 6 rfl) ?_
          refine lv_iload_n (pc := 71) hx hb dX6_warn_71 rfl (lv_at hl 1 rfl) ?_
          refine lv_icmp_gt (pc := 72) (tgt := 123) hx hb dX6_warn_72 (by decide) (fun h2 => ?_) (fun h2 => ?_)
          · have hf := br_y h2 hf
            refine lv_iinc (pc := 123) (v := (x5 + (1 : Int32))) (lv' := [(5, .int (x5 + (1 : Int32))), (0, .ref (A 0)), (1, .int x1), (2, .int x2), (3, .int x3), (4, .int x4), (6, .int x6)]) hx hb dX6_warn_123 hl (k := 5) rfl rfl (by decide) rfl (fun ls hl => ?_)
            refine lv_goto (pc := 126) (tgt := 60) hx hb dX6_warn_126 (by decide) ?_
            exact ih60 _ _ _ _ _ _ H locs ls hf hP hD hS (lv_sub hl [1, 2, 3, 4, 5, 0] rfl)
          · have hf := br_n h2 hf
            refine lv_aload_n (pc := 75) hx hb dX6_warn_75 rfl (lv_at hl 0 rfl) ?_
            refine lv_iload_n (pc := 76) hx hb dX6_warn_76 rfl (lv_at hl 3 rfl) ?_
            refine lv_aload_n (pc := 77) hx hb dX6_warn_77 rfl (lv_at hl 0 rfl) ?_
            obtain ⟨r1, hc1, hf⟩ := ob1_some hf
            refine endi X.2.2.2.2 (runV (pc := 78) (As := []) (rest := [.int x3, .ref (A 0)]) X (c_X6_live G l A H.size M N r1 hc1) gX6_warn_X6_live k_X6_live ⟨rfl, rfl⟩ ⟨Nat.le_of_ble_eq_true rfl, Nat.le_of_ble_eq_true rfl⟩ (EM.all (w_Mo G A M N) (w_Mo G A M N)) hP hD hS (ci := 6) rfl rfl (at_Mo_0 G A M N) rfl hl.1 rfl (Nat.le_of_ble_eq_true rfl) ⟨Nat.zero_le _, Nat.zero_le _⟩ dX6_warn_78) (EM.all (w_Mo G A M N) (w_Mo G A M N)) hP hD hS (fun H locs hP hD hS => ?_)
            refine lv_bipush (pc := 81) (v := (20 : Int32)) hx hb dX6_warn_81 (by decide) ?_
            refine lv_iload (pc := 83) hx hb dX6_warn_83 (lv_at hl 6 rfl) ?_
            refine lv_imul (pc := 85) hx hb dX6_warn_85 ?_
            refine lv_iload (pc := 86) hx hb dX6_warn_86 (lv_at hl 5 rfl) ?_
            refine lv_iadd (pc := 88) hx hb dX6_warn_88 ?_
            obtain ⟨M2, hc2, hf⟩ := ob1_some hf
            refine endv X.2.2.2.2 (runV (pc := 89) (As := [.int x3, .int r1, .int (((20 : Int32) * x6) + x5)]) (rest := []) X (c_X6_lays G l A H.size M N x3 r1 (((20 : Int32) * x6) + x5) M2 hc2) gX6_warn_X6_lays k_X6_lays ⟨rfl, rfl⟩ ⟨Nat.le_of_ble_eq_true rfl, Nat.le_of_ble_eq_true rfl⟩ (EM.all (w_Mo G A M N) (w_Mo G A M2 N)) hP hD hS (ci := 6) rfl rfl (at_Mo_0 G A M N) rfl hl.1 rfl (Nat.le_of_ble_eq_true rfl) ⟨Nat.zero_le _, Nat.zero_le _⟩ dX6_warn_89) (EM.all (w_Mo G A M N) (w_Mo G A M2 N)) hP hD hS (fun H locs hP hD hS => ?_)
            refine lv_aload_n (pc := 92) hx hb dX6_warn_92 rfl (lv_at hl 0 rfl) ?_
            refine wget (pc := 93) X (fun _ h9 => List.mem_cons_of_mem _ (List.mem_append_right _ h9)) hP 0 (at_Mo_0 G A M2 N) rfl 15 (by decide) (List.mem_cons_of_mem _ (List.mem_append_left _ (List.mem_append_left _ (List.mem_of_getElem? (i := 2) rfl)))) rfl (v := .ref (A 11)) rfl dX6_warn_93 ?_
            refine lv_bipush (pc := 96) (v := (20 : Int32)) hx hb dX6_warn_96 (by decide) ?_
            refine lv_iload_n (pc := 98) hx hb dX6_warn_98 rfl (lv_at hl 1 rfl) ?_
            refine lv_imul (pc := 99) hx hb dX6_warn_99 ?_
            refine lv_iload_n (pc := 100) hx hb dX6_warn_100 rfl (lv_at hl 2 rfl) ?_
            refine lv_iadd (pc := 101) hx hb dX6_warn_101 ?_
            obtain ⟨hi, hf⟩ := ck_some hf
            refine wiald (pc := 102) X hP 11 (at_Mo_11 G A M2 N) hi rfl dX6_warn_102 ?_
            refine lv_iload (pc := 103) hx hb dX6_warn_103 (lv_at hl 4 rfl) ?_
            refine lv_icmp_eq (pc := 105) (tgt := 117) hx hb dX6_warn_105 (by decide) (fun h1 => ?_) (fun h1 => ?_)
            · have hf := br_y h1 hf
              refine lv_iinc (pc := 117) (v := (x6 + (1 : Int32))) (lv' := [(6, .int (x6 + (1 : Int32))), (0, .ref (A 0)), (1, .int x1), (2, .int x2), (3, .int x3), (4, .int x4), (5, .int x5)]) hx hb dX6_warn_117 hl (k := 6) rfl rfl (by decide) rfl (fun ls hl => ?_)
              refine lv_goto (pc := 120) (tgt := 69) hx hb dX6_warn_120 (by decide) ?_
              exact ih69 _ _ _ _ _ _ _ H locs ls hf hP hD hS (lv_sub hl [1, 2, 3, 4, 5, 6, 0] rfl)
            · have hf := br_n h1 hf
              refine lv_aload_n (pc := 108) hx hb dX6_warn_108 rfl (lv_at hl 0 rfl) ?_
              refine lv_iload (pc := 109) hx hb dX6_warn_109 (lv_at hl 5 rfl) ?_
              refine lv_iload (pc := 111) hx hb dX6_warn_111 (lv_at hl 6 rfl) ?_
              obtain ⟨r3, M3, hc3, hf⟩ := ob2_some hf
              refine endi X.2.2.2.2 (runV (pc := 113) (As := [.int x5, .int x6]) (rest := []) X (c_X6_answer G l A H.size M2 N x5 x6 r3 M3 hc3) gX6_warn_X6_answer k_X6_answer ⟨rfl, rfl⟩ ⟨Nat.le_of_ble_eq_true rfl, Nat.le_of_ble_eq_true rfl⟩ (EM.all (w_Mo G A M2 N) (w_Mo G A M3 N)) hP hD hS (ci := 6) rfl rfl (at_Mo_0 G A M2 N) rfl hl.1 rfl (Nat.le_of_ble_eq_true rfl) ⟨Nat.zero_le _, Nat.zero_le _⟩ dX6_warn_113) (EM.all (w_Mo G A M2 N) (w_Mo G A M3 N)) hP hD hS (fun H locs hP hD hS => ?_)
              cases hf
              exact hret _ _ _ _ dX6_warn_116 hP hD hS
      intro x1 x2 x3 x4 x5 M H locs ls hf hP hD hS hl
      rw [f_X6_warn_60] at hf
      refine lv_iload (pc := 60) hx hb dX6_warn_60 (lv_at hl 5 rfl) ?_
      refine lv_iload_n (pc := 62) hx hb dX6_warn_62 rfl (lv_at hl 2 rfl) ?_
      refine lv_icmp_gt (pc := 63) (tgt := 129) hx hb dX6_warn_63 (by decide) (fun h3 => ?_) (fun h3 => ?_)
      · have hf := br_y h3 hf
        refine lv_bipush (pc := 129) (v := (-9 : Int32)) hx hb dX6_warn_129 (by decide) ?_
        cases hf
        exact hret _ _ _ _ dX6_warn_131 hP hD hS
      · have hf := br_n h3 hf
        refine lv_iconst (pc := 66) (v := (1 : Int32)) hx hb dX6_warn_66 (by decide) ?_
        refine lv_istore (pc := 67) (lv' := [(6, .int (1 : Int32)), (0, .ref (A 0)), (1, .int x1), (2, .int x2), (3, .int x3), (4, .int x4), (5, .int x5)]) hx hb dX6_warn_67 hl (by decide) rfl (fun ls hl => ?_)
        exact l_69 FU _ _ _ _ _ _ _ H locs ls hf hP hD hS (lv_sub hl [1, 2, 3, 4, 5, 6, 0] rfl)
  unfold f_X6_warn at hf
  refine lv_iload_n (pc := 0) hx hb dX6_warn_0 rfl (lv_at hl 1 rfl) ?_
  refine lv_i2l (pc := 1) (v := (x1).toInt64) hx hb dX6_warn_1 rfl ?_
  refine lv_lconst (pc := 2) (v := (1 : Int64)) hx hb dX6_warn_2 (by decide) ?_
  refine lv_ldc2 (pc := 3) (v := 4) hx hb X.1.2.2.2.1 (X.1.2.2.2.2 _ (List.mem_cons_of_mem _ (List.mem_append_left _ (List.mem_append_left _ (List.mem_of_getElem? (i := 0) rfl))))) dX6_warn_3 ?_
  obtain ⟨r1, hc1, hf⟩ := ob1_some hf
  refine endi X.2.2.2.2 (runS (pc := 6) (As := [.long ((x1).toInt64), .long (1 : Int64), .long (4 : Int64)]) (rest := []) X (c_X6_in G l  H.size ((x1).toInt64) (1 : Int64) (4 : Int64) r1 hc1) gX6_warn_X6_in k_X6_in ⟨rfl, rfl⟩ ⟨Nat.le_of_ble_eq_true rfl, Nat.le_of_ble_eq_true rfl⟩ (EM.nil (w_Mo G A M N)) hP hD hS rfl hl.1 rfl (Nat.le_of_ble_eq_true rfl) ⟨Nat.zero_le _, Nat.zero_le _⟩ dX6_warn_6) (EM.nil (w_Mo G A M N)) hP hD hS (fun H locs hP hD hS => ?_)
  refine lv_if_eq (pc := 9) (tgt := 35) hx hb dX6_warn_9 (by decide) (fun h8 => ?_) (fun h8 => ?_)
  · have hf := br_y h8 hf
    exact b_35 _ H locs ls hf hP hD hS (lv_sub hl [] rfl)
  · have hf := br_n h8 hf
    refine lv_iload_n (pc := 12) hx hb dX6_warn_12 rfl (lv_at hl 2 rfl) ?_
    obtain ⟨r2, hc2, hf⟩ := ob1_some hf
    refine endi X.2.2.2.2 (runS (pc := 13) (As := [.int x2]) (rest := []) X (c_X6_isDay G l  H.size x2 r2 hc2) gX6_warn_X6_isDay k_X6_isDay ⟨rfl, rfl⟩ ⟨Nat.le_of_ble_eq_true rfl, Nat.le_of_ble_eq_true rfl⟩ (EM.nil (w_Mo G A M N)) hP hD hS rfl hl.1 rfl (Nat.le_of_ble_eq_true rfl) ⟨Nat.zero_le _, Nat.zero_le _⟩ dX6_warn_13) (EM.nil (w_Mo G A M N)) hP hD hS (fun H locs hP hD hS => ?_)
    refine lv_if_eq (pc := 16) (tgt := 35) hx hb dX6_warn_16 (by decide) (fun h7 => ?_) (fun h7 => ?_)
    · have hf := br_y h7 hf
      exact b_35 _ H locs ls hf hP hD hS (lv_sub hl [] rfl)
    · have hf := br_n h7 hf
      refine lv_aload_n (pc := 19) hx hb dX6_warn_19 rfl (lv_at hl 0 rfl) ?_
      refine lv_iload_n (pc := 20) hx hb dX6_warn_20 rfl (lv_at hl 3 rfl) ?_
      obtain ⟨r3, hc3, hf⟩ := ob1_some hf
      refine endi X.2.2.2.2 (runV (pc := 21) (As := [.int x3]) (rest := []) X (c_X6_isPerson G l A H.size M N x3 r3 hc3) gX6_warn_X6_isPerson k_X6_isPerson ⟨rfl, rfl⟩ ⟨Nat.le_of_ble_eq_true rfl, Nat.le_of_ble_eq_true rfl⟩ (EM.all (w_Mo G A M N) (w_Mo G A M N)) hP hD hS (ci := 6) rfl rfl (at_Mo_0 G A M N) rfl hl.1 rfl (Nat.le_of_ble_eq_true rfl) ⟨Nat.zero_le _, Nat.zero_le _⟩ dX6_warn_21) (EM.all (w_Mo G A M N) (w_Mo G A M N)) hP hD hS (fun H locs hP hD hS => ?_)
      refine lv_if_eq (pc := 24) (tgt := 35) hx hb dX6_warn_24 (by decide) (fun h6 => ?_) (fun h6 => ?_)
      · have hf := br_y h6 hf
        exact b_35 _ H locs ls hf hP hD hS (lv_sub hl [] rfl)
      · have hf := br_n h6 hf
        refine lv_iload (pc := 27) hx hb dX6_warn_27 (lv_at hl 4 rfl) ?_
        obtain ⟨r4, hc4, hf⟩ := ob1_some hf
        refine endi X.2.2.2.2 (runS (pc := 29) (As := [.int x4]) (rest := []) X (c_X6_isDeed G l  H.size x4 r4 hc4) gX6_warn_X6_isDeed k_X6_isDeed ⟨rfl, rfl⟩ ⟨Nat.le_of_ble_eq_true rfl, Nat.le_of_ble_eq_true rfl⟩ (EM.nil (w_Mo G A M N)) hP hD hS rfl hl.1 rfl (Nat.le_of_ble_eq_true rfl) ⟨Nat.zero_le _, Nat.zero_le _⟩ dX6_warn_29) (EM.nil (w_Mo G A M N)) hP hD hS (fun H locs hP hD hS => ?_)
        refine lv_if_ne (pc := 32) (tgt := 37) hx hb dX6_warn_32 (by decide) (fun h5 => ?_) (fun h5 => ?_)
        · have hf := br_n h5 hf
          refine lv_aload_n (pc := 37) hx hb dX6_warn_37 rfl (lv_at hl 0 rfl) ?_
          refine lv_iload_n (pc := 38) hx hb dX6_warn_38 rfl (lv_at hl 3 rfl) ?_
          refine lv_iload_n (pc := 39) hx hb dX6_warn_39 rfl (lv_at hl 1 rfl) ?_
          refine lv_iload_n (pc := 40) hx hb dX6_warn_40 rfl (lv_at hl 2 rfl) ?_
          obtain ⟨r5, M5, hc5, hf⟩ := ob2_some hf
          refine endi X.2.2.2.2 (runV (pc := 41) (As := [.int x3, .int x1, .int x2]) (rest := []) X (c_X6_doing G l A H.size M N x3 x1 x2 r5 M5 hc5) gX6_warn_X6_doing k_X6_doing ⟨rfl, rfl⟩ ⟨Nat.le_of_ble_eq_true rfl, Nat.le_of_ble_eq_true rfl⟩ (EM.all (w_Mo G A M N) (w_Mo G A M5 N)) hP hD hS (ci := 6) rfl rfl (at_Mo_0 G A M N) rfl hl.1 rfl (Nat.le_of_ble_eq_true rfl) ⟨Nat.zero_le _, Nat.zero_le _⟩ dX6_warn_41) (EM.all (w_Mo G A M N) (w_Mo G A M5 N)) hP hD hS (fun H locs hP hD hS => ?_)
          refine lv_iload (pc := 44) hx hb dX6_warn_44 (lv_at hl 4 rfl) ?_
          refine lv_icmp_eq (pc := 46) (tgt := 52) hx hb dX6_warn_46 (by decide) (fun h4 => ?_) (fun h4 => ?_)
          · have hf := br_y h4 hf
            refine lv_aload_n (pc := 52) hx hb dX6_warn_52 rfl (lv_at hl 0 rfl) ?_
            refine wget (pc := 53) X (fun _ h9 => List.mem_cons_of_mem _ (List.mem_append_right _ h9)) hP 0 (at_Mo_0 G A M5 N) rfl 4 (by decide) (List.mem_cons_of_mem _ (List.mem_append_left _ (List.mem_append_left _ (List.mem_of_getElem? (i := 1) rfl)))) rfl (v := .ref (A 5)) rfl dX6_warn_53 ?_
            refine lv_iconst (pc := 56) (v := (2 : Int32)) hx hb dX6_warn_56 (by decide) ?_
            refine wiald (pc := 57) X hP 5 (at_Mo_5 G A M5 N) (by decide) (j := 2) (by decide) dX6_warn_57 ?_
            refine lv_istore (pc := 58) (lv' := [(5, .int ((M5 4) 2)), (0, .ref (A 0)), (1, .int x1), (2, .int x2), (3, .int x3), (4, .int x4)]) hx hb dX6_warn_58 hl (by decide) rfl (fun ls hl => ?_)
            exact l_60 FU _ _ _ _ _ _ H locs ls hf hP hD hS (lv_sub hl [1, 2, 3, 4, 5, 0] rfl)
          · have hf := br_n h4 hf
            refine lv_bipush (pc := 49) (v := (-9 : Int32)) hx hb dX6_warn_49 (by decide) ?_
            cases hf
            exact hret _ _ _ _ dX6_warn_51 hP hD hS
        · have hf := br_y h5 hf
          exact b_35 _ H locs ls hf hP hD hS (lv_sub hl [] rfl)
def r_X6_worst : Room := { frames := 3, cells := 0, slots := 0, locals := 75 }
set_option maxHeartbeats 4000000 in
set_option maxRecDepth 100000 in
theorem c_X6_worst (G : GT) (l : Launch) (A : Nat → Nat) (sz : Nat) (M : CS) (N : JS) (x1 : Int32) (r : Int32) (M' : CS) (hf : f_X6_worst M N x1 = some (r, M')) : MTi l yX6_worst wsX6_worst r_X6_worst [.ref (A 0), .int x1] G (w_Mo G A M N) (w_Mo G A M' N) sz r := by
  refine MTi.of (cc := cX6_worst) (maxL := 6) (by decide +kernel) rfl (Nat.le_of_ble_eq_true rfl) (fun p e s m av below meth cd Q B H locs ls X hret hl hP hD hS => ?_)
  have hx := X.1.1
  have hb := X.1.2.1
  have hl : lv_has ls 6 [(0, .ref (A 0)), (1, .int x1)] := hl
  have l_35 : ∀ (n35 : Nat), ∀ (x1 : Int32) (x2 : Int32) (x3 : Int32) (x4 : Int32) (M : CS) (H : Heap) (locs : List Loc) (ls : Array Slot), f_X6_worst_35 n35 x1 x2 x3 x4 M N = some (r, M') → va_P G.1 vwCl (w_Mo G A M N) H → va_D B (w_Mo G A M N) → va_S B s.heap H locs → lv_has ls 6 [(0, .ref (A 0)), (1, .int x1), (2, .int x2), (3, .int x3), (4, .int x4)] → W p l e r_X6_worst s m av below meth cd H locs 0 0 Q (F0 m 35 ls []) := by
    intro n35
    induction n35 with
    | zero =>
      intro x1 x2 x3 x4 M H locs ls hf hP hD hS hl
      rw [f_X6_worst_35] at hf
      cases hf
    | succ n35 ih35 =>
      have b_86 : ∀ (x1 : Int32) (x2 : Int32) (x4 : Int32) (t0 : Int32) (M : CS) (H : Heap) (locs : List Loc) (ls : Array Slot), f_X6_worst_86 (f_X6_worst_35 n35) x1 x2 x4 t0 M N = some (r, M') → va_P G.1 vwCl (w_Mo G A M N) H → va_D B (w_Mo G A M N) → va_S B s.heap H locs → lv_has ls 6 [(0, .ref (A 0)), (1, .int x1), (2, .int x2), (4, .int x4)] → W p l e r_X6_worst s m av below meth cd H locs 0 0 Q (F0 m 86 ls [.int t0]) := by
        intro x1 x2 x4 t0 M H locs ls hf hP hD hS hl
        unfold f_X6_worst_86 at hf
        refine lv_istore_n (pc := 86) (lv' := [(3, .int t0), (0, .ref (A 0)), (1, .int x1), (2, .int x2), (4, .int x4)]) hx hb dX6_worst_86 rfl hl (by decide) rfl (fun ls hl => ?_)
        refine lv_iinc (pc := 87) (v := (x4 + (1 : Int32))) (lv' := [(4, .int (x4 + (1 : Int32))), (3, .int t0), (0, .ref (A 0)), (1, .int x1), (2, .int x2)]) hx hb dX6_worst_87 hl (k := 4) rfl rfl (by decide) rfl (fun ls hl => ?_)
        refine lv_goto (pc := 90) (tgt := 35) hx hb dX6_worst_90 (by decide) ?_
        exact ih35 _ _ _ _ _ H locs ls hf hP hD hS (lv_sub hl [2, 3, 4, 1, 0] rfl)
      have b_73 : ∀ (x1 : Int32) (x3 : Int32) (x4 : Int32) (x5 : Int32) (t0 : Int32) (M : CS) (H : Heap) (locs : List Loc) (ls : Array Slot), f_X6_worst_73 (f_X6_worst_35 n35) x1 x3 x4 x5 t0 M N = some (r, M') → va_P G.1 vwCl (w_Mo G A M N) H → va_D B (w_Mo G A M N) → va_S B s.heap H locs → lv_has ls 6 [(0, .ref (A 0)), (1, .int x1), (3, .int x3), (4, .int x4), (5, .int x5)] → W p l e r_X6_worst s m av below meth cd H locs 0 0 Q (F0 m 73 ls [.int t0]) := by
        intro x1 x3 x4 x5 t0 M H locs ls hf hP hD hS hl
        unfold f_X6_worst_73 at hf
        refine lv_istore_n (pc := 73) (lv' := [(2, .int t0), (0, .ref (A 0)), (1, .int x1), (3, .int x3), (4, .int x4), (5, .int x5)]) hx hb dX6_worst_73 rfl hl (by decide) rfl (fun ls hl => ?_)
        refine lv_iload (pc := 74) hx hb dX6_worst_74 (lv_at hl 5 rfl) ?_
        refine lv_iload_n (pc := 76) hx hb dX6_worst_76 rfl (lv_at hl 3 rfl) ?_
        refine lv_icmp_le (pc := 77) (tgt := 85) hx hb dX6_worst_77 (by decide) (fun h1 => ?_) (fun h1 => ?_)
        · have hf := br_y h1 hf
          refine lv_iload_n (pc := 85) hx hb dX6_worst_85 rfl (lv_at hl 3 rfl) ?_
          exact b_86 _ _ _ _ _ H locs ls hf hP hD hS (lv_sub hl [1, 2, 0, 4] rfl)
        · have hf := br_n h1 hf
          refine lv_iload (pc := 80) hx hb dX6_worst_80 (lv_at hl 5 rfl) ?_
          refine lv_goto (pc := 82) (tgt := 86) hx hb dX6_worst_82 (by decide) ?_
          exact b_86 _ _ _ _ _ H locs ls hf hP hD hS (lv_sub hl [1, 2, 0, 4] rfl)
      intro x1 x2 x3 x4 M H locs ls hf hP hD hS hl
      rw [f_X6_worst_35] at hf
      refine lv_iload (pc := 35) hx hb dX6_worst_35 (lv_at hl 4 rfl) ?_
      refine lv_iconst (pc := 37) (v := (5 : Int32)) hx hb dX6_worst_37 (by decide) ?_
      refine lv_icmp_ge (pc := 38) (tgt := 93) hx hb dX6_worst_38 (by decide) (fun h3 => ?_) (fun h3 => ?_)
      · have hf := br_y h3 hf
        refine lv_aload_n (pc := 93) hx hb dX6_worst_93 rfl (lv_at hl 0 rfl) ?_
        refine lv_iload_n (pc := 94) hx hb dX6_worst_94 rfl (lv_at hl 2 rfl) ?_
        refine lv_iload_n (pc := 95) hx hb dX6_worst_95 rfl (lv_at hl 3 rfl) ?_
        obtain ⟨r1, M1, hc1, hf⟩ := ob2_some hf
        refine endi X.2.2.2.2 (runV (pc := 96) (As := [.int x2, .int x3]) (rest := []) X (c_X6_answer G l A H.size M N x2 x3 r1 M1 hc1) gX6_worst_X6_answer k_X6_answer ⟨rfl, rfl⟩ ⟨Nat.le_of_ble_eq_true rfl, Nat.le_of_ble_eq_true rfl⟩ (EM.all (w_Mo G A M N) (w_Mo G A M1 N)) hP hD hS (ci := 6) rfl rfl (at_Mo_0 G A M N) rfl hl.1 rfl (Nat.le_of_ble_eq_true rfl) ⟨Nat.zero_le _, Nat.zero_le _⟩ dX6_worst_96) (EM.all (w_Mo G A M N) (w_Mo G A M1 N)) hP hD hS (fun H locs hP hD hS => ?_)
        cases hf
        exact hret _ _ _ _ dX6_worst_99 hP hD hS
      · have hf := br_n h3 hf
        refine lv_aload_n (pc := 41) hx hb dX6_worst_41 rfl (lv_at hl 0 rfl) ?_
        refine lv_iload (pc := 42) hx hb dX6_worst_42 (lv_at hl 4 rfl) ?_
        refine lv_iconst (pc := 44) (v := (1 : Int32)) hx hb dX6_worst_44 (by decide) ?_
        refine lv_isub (pc := 45) hx hb dX6_worst_45 ?_
        refine lv_iload (pc := 46) hx hb dX6_worst_46 (lv_at hl 4 rfl) ?_
        refine lv_iload_n (pc := 48) hx hb dX6_worst_48 rfl (lv_at hl 1 rfl) ?_
        refine lv_aload_n (pc := 49) hx hb dX6_worst_49 rfl (lv_at hl 0 rfl) ?_
        obtain ⟨r2, hc2, hf⟩ := ob1_some hf
        refine endi X.2.2.2.2 (runV (pc := 50) (As := []) (rest := [.int x1, .int x4, .int (x4 - (1 : Int32)), .ref (A 0)]) X (c_X6_live G l A H.size M N r2 hc2) gX6_worst_X6_live k_X6_live ⟨rfl, rfl⟩ ⟨Nat.le_of_ble_eq_true rfl, Nat.le_of_ble_eq_true rfl⟩ (EM.all (w_Mo G A M N) (w_Mo G A M N)) hP hD hS (ci := 6) rfl rfl (at_Mo_0 G A M N) rfl hl.1 rfl (Nat.le_of_ble_eq_true rfl) ⟨Nat.zero_le _, Nat.zero_le _⟩ dX6_worst_50) (EM.all (w_Mo G A M N) (w_Mo G A M N)) hP hD hS (fun H locs hP hD hS => ?_)
        obtain ⟨r3, M3, hc3, hf⟩ := ob2_some hf
        refine endi X.2.2.2.2 (runV (pc := 53) (As := [.int (x4 - (1 : Int32)), .int x4, .int x1, .int r2]) (rest := []) X (c_X6_differing G l A H.size M N (x4 - (1 : Int32)) x4 x1 r2 r3 M3 hc3) gX6_worst_X6_differing k_X6_differing ⟨rfl, rfl⟩ ⟨Nat.le_of_ble_eq_true rfl, Nat.le_of_ble_eq_true rfl⟩ (EM.all (w_Mo G A M N) (w_Mo G A M3 N)) hP hD hS (ci := 6) rfl rfl (at_Mo_0 G A M N) rfl hl.1 rfl (Nat.le_of_ble_eq_true rfl) ⟨Nat.zero_le _, Nat.zero_le _⟩ dX6_worst_53) (EM.all (w_Mo G A M N) (w_Mo G A M3 N)) hP hD hS (fun H locs hP hD hS => ?_)
        obtain ⟨r4, hc4, hf⟩ := ob1_some hf
        refine endi X.2.2.2.2 (runS (pc := 56) (As := [.int r3]) (rest := []) X (c_X6_bits G l  H.size r3 r4 hc4) gX6_worst_X6_bits k_X6_bits ⟨rfl, rfl⟩ ⟨Nat.le_of_ble_eq_true rfl, Nat.le_of_ble_eq_true rfl⟩ (EM.nil (w_Mo G A M3 N)) hP hD hS rfl hl.1 rfl (Nat.le_of_ble_eq_true rfl) ⟨Nat.zero_le _, Nat.zero_le _⟩ dX6_worst_56) (EM.nil (w_Mo G A M3 N)) hP hD hS (fun H locs hP hD hS => ?_)
        refine lv_istore (pc := 59) (lv' := [(5, .int r4), (0, .ref (A 0)), (1, .int x1), (2, .int x2), (3, .int x3), (4, .int x4)]) hx hb dX6_worst_59 hl (by decide) rfl (fun ls hl => ?_)
        refine lv_iload (pc := 61) hx hb dX6_worst_61 (lv_at hl 0 rfl) ?_
        refine lv_iload_n (pc := 63) hx hb dX6_worst_63 rfl (lv_at hl 4 rfl) ?_
        refine lv_icmp_le (pc := 64) (tgt := 72) hx hb dX6_worst_64 (by decide) (fun h2 => ?_) (fun h2 => ?_)
        · have hf := br_y h2 hf
          refine lv_iload_n (pc := 72) hx hb dX6_worst_72 rfl (lv_at hl 3 rfl) ?_
          exact b_73 _ _ _ _ _ _ H locs ls hf hP hD hS (lv_sub hl [1, 2, 4, 5, 0] rfl)
        · have hf := br_n h2 hf
          refine lv_iload (pc := 67) hx hb dX6_worst_67 (lv_at hl 5 rfl) ?_
          refine lv_goto (pc := 69) (tgt := 73) hx hb dX6_worst_69 (by decide) ?_
          exact b_73 _ _ _ _ _ _ H locs ls hf hP hD hS (lv_sub hl [1, 2, 4, 5, 0] rfl)
  unfold f_X6_worst at hf
  refine lv_iload_n (pc := 0) hx hb dX6_worst_0 rfl (lv_at hl 1 rfl) ?_
  refine lv_i2l (pc := 1) (v := (x1).toInt64) hx hb dX6_worst_1 rfl ?_
  refine lv_ldc2 (pc := 2) (v := 4) hx hb X.1.2.2.2.1 (X.1.2.2.2.2 _ (List.mem_cons_of_mem _ (List.mem_append_left _ (List.mem_append_left _ (List.mem_of_getElem? (i := 0) rfl))))) dX6_worst_2 ?_
  refine lv_ldc2 (pc := 5) (v := 19) hx hb X.1.2.2.2.1 (X.1.2.2.2.2 _ (List.mem_cons_of_mem _ (List.mem_append_left _ (List.mem_append_left _ (List.mem_of_getElem? (i := 1) rfl))))) dX6_worst_5 ?_
  obtain ⟨r1, hc1, hf⟩ := ob1_some hf
  refine endi X.2.2.2.2 (runS (pc := 8) (As := [.long ((x1).toInt64), .long (4 : Int64), .long (19 : Int64)]) (rest := []) X (c_X6_in G l  H.size ((x1).toInt64) (4 : Int64) (19 : Int64) r1 hc1) gX6_worst_X6_in k_X6_in ⟨rfl, rfl⟩ ⟨Nat.le_of_ble_eq_true rfl, Nat.le_of_ble_eq_true rfl⟩ (EM.nil (w_Mo G A M N)) hP hD hS rfl hl.1 rfl (Nat.le_of_ble_eq_true rfl) ⟨Nat.zero_le _, Nat.zero_le _⟩ dX6_worst_8) (EM.nil (w_Mo G A M N)) hP hD hS (fun H locs hP hD hS => ?_)
  refine lv_if_ne (pc := 11) (tgt := 16) hx hb dX6_worst_11 (by decide) (fun h5 => ?_) (fun h5 => ?_)
  · have hf := br_n h5 hf
    refine lv_aload_n (pc := 16) hx hb dX6_worst_16 rfl (lv_at hl 0 rfl) ?_
    refine wget (pc := 17) X (fun _ h9 => List.mem_cons_of_mem _ (List.mem_append_right _ h9)) hP 0 (at_Mo_0 G A M N) rfl 4 (by decide) (List.mem_cons_of_mem _ (List.mem_append_left _ (List.mem_append_left _ (List.mem_of_getElem? (i := 2) rfl)))) rfl (v := .ref (A 5)) rfl dX6_worst_17 ?_
    refine lv_iconst (pc := 20) (v := (0 : Int32)) hx hb dX6_worst_20 (by decide) ?_
    refine wiald (pc := 21) X hP 5 (at_Mo_5 G A M N) (by decide) (j := 0) (by decide) dX6_worst_21 ?_
    refine lv_if_ne (pc := 22) (tgt := 28) hx hb dX6_worst_22 (by decide) (fun h4 => ?_) (fun h4 => ?_)
    · have hf := br_n h4 hf
      refine lv_iconst (pc := 28) (v := (0 : Int32)) hx hb dX6_worst_28 (by decide) ?_
      refine lv_istore_n (pc := 29) (lv' := [(2, .int (0 : Int32)), (0, .ref (A 0)), (1, .int x1)]) hx hb dX6_worst_29 rfl hl (by decide) rfl (fun ls hl => ?_)
      refine lv_iconst (pc := 30) (v := (-1 : Int32)) hx hb dX6_worst_30 (by decide) ?_
      refine lv_istore_n (pc := 31) (lv' := [(3, .int (-1 : Int32)), (2, .int (0 : Int32)), (0, .ref (A 0)), (1, .int x1)]) hx hb dX6_worst_31 rfl hl (by decide) rfl (fun ls hl => ?_)
      refine lv_iconst (pc := 32) (v := (1 : Int32)) hx hb dX6_worst_32 (by decide) ?_
      refine lv_istore (pc := 33) (lv' := [(4, .int (1 : Int32)), (3, .int (-1 : Int32)), (2, .int (0 : Int32)), (0, .ref (A 0)), (1, .int x1)]) hx hb dX6_worst_33 hl (by decide) rfl (fun ls hl => ?_)
      exact l_35 FU _ _ _ _ _ H locs ls hf hP hD hS (lv_sub hl [3, 4, 2, 1, 0] rfl)
    · have hf := br_y h4 hf
      refine lv_bipush (pc := 25) (v := (-4 : Int32)) hx hb dX6_worst_25 (by decide) ?_
      cases hf
      exact hret _ _ _ _ dX6_worst_27 hP hD hS
  · have hf := br_y h5 hf
    refine lv_iconst (pc := 14) (v := (-1 : Int32)) hx hb dX6_worst_14 (by decide) ?_
    cases hf
    exact hret _ _ _ _ dX6_worst_15 hP hD hS
