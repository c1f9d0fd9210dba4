def r_X4_found : Room := { frames := 0, cells := 0, slots := 0, locals := 0 }
set_option maxHeartbeats 4000000 in
set_option maxRecDepth 100000 in
theorem c_X4_found (G : GT) (l : Launch) (A : Nat → Nat) (sz : Nat) (o : CS) (j : JS) (x1 : Int32) (r : Int32) (o' : CS) (hf : f_X4_found o j x1 = some (r, o')) : MTi l yX4_found wsX4_found r_X4_found [.ref (A 0), .int x1] G (w_To G A o j) (w_To G A o' j) sz r := by
  refine MTi.of (cc := cX4_found) (maxL := 2) (by decide +kernel) rfl (Nat.le_of_ble_eq_true rfl) (fun p e s m av below meth cd Q B H locs ls X hret hl hP hD hS => ?_)
  have hx := X.1.1
  have hb := X.1.2.1
  have hl : lv_has ls 2 [(0, .ref (A 0)), (1, .int x1)] := hl
  have b_28 : ∀ (o : CS) (H : Heap) (locs : List Loc) (ls : Array Slot), f_X4_found_28 o j = some (r, o') → va_P G.1 vwCl (w_To G A o j) H → va_D B (w_To G A o j) → va_S B s.heap H locs → lv_has ls 2 [] → W p l e r_X4_found s m av below meth cd H locs 0 0 Q (F0 m 28 ls []) := by
    intro o H locs ls hf hP hD hS hl
    unfold f_X4_found_28 at hf
    refine lv_bipush (pc := 28) (v := (-3 : Int32)) hx hb dX4_found_28 (by decide) ?_
    cases hf
    exact hret _ _ _ _ dX4_found_30 hP hD hS
  unfold f_X4_found at hf
  refine lv_aload_n (pc := 0) hx hb dX4_found_0 rfl (lv_at hl 0 rfl) ?_
  refine lv_iload_n (pc := 1) hx hb dX4_found_1 rfl (lv_at hl 1 rfl) ?_
  refine wput (pc := 2) X (fun _ h9 => List.mem_cons_of_mem _ (List.mem_append_right _ h9)) tyX4 tyX4_ok nmX4 hP hD hS 0 (at_To_0 G A o j) rfl 3 (by decide) (List.mem_cons_of_mem _ (List.mem_append_left _ (List.mem_of_getElem? (i := 0) rfl))) rfl rfl (ty := .int) (v := .int x1) rfl rfl rfl (Nat.le_of_ble_eq_true rfl) (st_To_0_3 G A o j x1) dX4_found_2 (fun H locs hP hD hS => ?_)
  refine lv_iload_n (pc := 5) hx hb dX4_found_5 rfl (lv_at hl 1 rfl) ?_
  refine lv_if_lt (pc := 6) (tgt := 28) hx hb dX4_found_6 (by decide) (fun h2 => ?_) (fun h2 => ?_)
  · have hf := br_y h2 hf
    exact b_28 _ H locs ls hf hP hD hS (lv_sub hl [] rfl)
  · have hf := br_n h2 hf
    refine lv_iload_n (pc := 9) hx hb dX4_found_9 rfl (lv_at hl 1 rfl) ?_
    refine lv_aload_n (pc := 10) hx hb dX4_found_10 rfl (lv_at hl 0 rfl) ?_
    refine wget (pc := 11) X (fun _ h9 => List.mem_cons_of_mem _ (List.mem_append_right _ h9)) hP 0 (at_To_0 G A (cset o 1 0 x1) j) rfl 4 (by decide) (List.mem_cons_of_mem _ (List.mem_append_left _ (List.mem_of_getElem? (i := 1) rfl))) rfl (v := .ref (A 1)) rfl dX4_found_11 ?_
    refine walen (pc := 14) X hP 1 0 (at_To_1 G A (cset o 1 0 x1) j) rfl (v := (6 : Int32)) rfl dX4_found_14 ?_
    refine lv_icmp_ge (pc := 15) (tgt := 28) hx hb dX4_found_15 (by decide) (fun h1 => ?_) (fun h1 => ?_)
    · have hf := br_y h1 hf
      exact b_28 _ H locs ls hf hP hD hS (lv_sub hl [] rfl)
    · have hf := br_n h1 hf
      refine lv_aload_n (pc := 18) hx hb dX4_found_18 rfl (lv_at hl 0 rfl) ?_
      refine wget (pc := 19) X (fun _ h9 => List.mem_cons_of_mem _ (List.mem_append_right _ h9)) hP 0 (at_To_0 G A (cset o 1 0 x1) j) rfl 4 (by decide) (List.mem_cons_of_mem _ (List.mem_append_left _ (List.mem_of_getElem? (i := 1) rfl))) rfl (v := .ref (A 1)) rfl dX4_found_19 ?_
      refine lv_iload_n (pc := 22) hx hb dX4_found_22 rfl (lv_at hl 1 rfl) ?_
      refine lv_dup2_11 (pc := 23) hx hb dX4_found_23 rfl rfl ?_
      obtain ⟨hi, hf⟩ := ck_some hf
      refine wiald (pc := 24) X hP 1 (at_To_1 G A (cset o 1 0 x1) j) hi rfl dX4_found_24 ?_
      refine lv_iconst (pc := 25) (v := (1 : Int32)) hx hb dX4_found_25 (by decide) ?_
      refine lv_iadd (pc := 26) hx hb dX4_found_26 ?_
      obtain ⟨hi, hf⟩ := ck_some hf
      refine wiast (pc := 27) X hP hD hS 1 (at_To_1 G A (cset o 1 0 x1) j) hi rfl (sa_To_1 G A (cset o 1 0 x1) j _) dX4_found_27 (fun H locs hP hD hS => ?_)
      have hP : va_P G.1 vwCl (w_To G A (cset (cset o 1 0 x1) 2 x1.toNatClampNeg (((o 2) x1.toNatClampNeg) + (1 : Int32))) j) H := hP
      have hD : va_D B (w_To G A (cset (cset o 1 0 x1) 2 x1.toNatClampNeg (((o 2) x1.toNatClampNeg) + (1 : Int32))) j) := hD
      exact b_28 _ H locs ls hf hP hD hS (lv_sub hl [] rfl)
def r_X4_greatestShared : Room := { frames := 0, cells := 0, slots := 0, locals := 0 }
set_option maxHeartbeats 4000000 in
set_option maxRecDepth 100000 in
theorem c_X4_greatestShared (G : GT) (l : Launch) (sz : Nat) (x0 : Int64) (x2 : Int64) (r : Int64) (hf : f_X4_greatestShared x0 x2 = some r) : MTl l yX4_greatestShared wsX4_greatestShared r_X4_greatestShared [.long x0, .long x2] G [] [] sz r := by
  refine MTl.of (cc := cX4_greatestShared) (maxL := 11) (by decide +kernel) rfl (Nat.le_of_ble_eq_true rfl) (fun p e s m av below meth cd Q B H locs ls X hret hl hP hD hS => ?_)
  have hx := X.1.1
  have hb := X.1.2.1
  have hl : lv_has ls 11 [(0, .long x0), (2, .long x2)] := hl
  have b_44 : ∀ (x4 : Int64) (H : Heap) (locs : List Loc) (ls : Array Slot), f_X4_greatestShared_44 x4 = some r → va_P G.1 vwCl [] H → va_D B [] → va_S B s.heap H locs → lv_has ls 11 [(4, .long x4)] → W p l e r_X4_greatestShared s m av below meth cd H locs 0 0 Q (F0 m 44 ls []) := by
    intro x4 H locs ls hf hP hD hS hl
    unfold f_X4_greatestShared_44 at hf
    refine lv_lload (pc := 44) hx hb dX4_greatestShared_44 (lv_at hl 0 rfl) ?_
    cases hf
    exact hret _ _ _ _ dX4_greatestShared_46 hP hD hS
  have l_9 : ∀ (n9 : Nat), ∀ (x4 : Int64) (x6 : Int64) (x8 : Int32) (H : Heap) (locs : List Loc) (ls : Array Slot), f_X4_greatestShared_9 n9 x4 x6 x8 = some r → va_P G.1 vwCl [] H → va_D B [] → va_S B s.heap H locs → lv_has ls 11 [(4, .long x4), (6, .long x6), (8, .int x8)] → W p l e r_X4_greatestShared s m av below meth cd H locs 0 0 Q (F0 m 9 ls []) := by
    intro n9
    induction n9 with
    | zero =>
      intro x4 x6 x8 H locs ls hf hP hD hS hl
      rw [f_X4_greatestShared_9] at hf
      cases hf
    | succ n9 ih9 =>
      intro x4 x6 x8 H locs ls hf hP hD hS hl
      rw [f_X4_greatestShared_9] at hf
      refine lv_iload (pc := 9) hx hb dX4_greatestShared_9 (lv_at hl 2 rfl) ?_
      refine lv_bipush (pc := 11) (v := (100 : Int32)) hx hb dX4_greatestShared_11 (by decide) ?_
      refine lv_icmp_ge (pc := 13) (tgt := 44) hx hb dX4_greatestShared_13 (by decide) (fun h2 => ?_) (fun h2 => ?_)
      · have hf := br_y h2 hf
        exact b_44 _ H locs ls hf hP hD hS (lv_sub hl [0] rfl)
      · have hf := br_n h2 hf
        refine lv_lload (pc := 16) hx hb dX4_greatestShared_16 (lv_at hl 1 rfl) ?_
        refine lv_lconst (pc := 18) (v := (0 : Int64)) hx hb dX4_greatestShared_18 (by decide) ?_
        refine W.lcmp (pc := 19) hx hb dX4_greatestShared_19 ?_
        refine lv_if_eq (pc := 20) (tgt := 44) hx hb dX4_greatestShared_20 (by decide) (fun h1 => ?_) (fun h1 => ?_)
        · have hf := br_y h1 hf
          exact b_44 _ H locs ls hf hP hD hS (lv_sub hl [0] rfl)
        · have hf := br_n h1 hf
          refine lv_lload (pc := 23) hx hb dX4_greatestShared_23 (lv_at hl 0 rfl) ?_
          refine lv_lload (pc := 25) hx hb dX4_greatestShared_25 (lv_at hl 1 rfl) ?_
          obtain ⟨hz, hf⟩ := ck_some hf
          refine wlrem (pc := 27) hx hb dX4_greatestShared_27 (nzL_ne hz) ?_
          refine lv_lstore (pc := 28) (lv' := [(9, .long (jremL x4 x6)), (4, .long x4), (6, .long x6), (8, .int x8)]) hx hb dX4_greatestShared_28 hl (by decide) rfl (fun ls hl => ?_)
          refine lv_lload (pc := 30) hx hb dX4_greatestShared_30 (lv_at hl 2 rfl) ?_
          refine lv_lstore (pc := 32) (lv' := [(4, .long x6), (9, .long (jremL x4 x6)), (6, .long x6), (8, .int x8)]) hx hb dX4_greatestShared_32 hl (by decide) rfl (fun ls hl => ?_)
          refine lv_lload (pc := 34) hx hb dX4_greatestShared_34 (lv_at hl 1 rfl) ?_
          refine lv_lstore (pc := 36) (lv' := [(6, .long (jremL x4 x6)), (4, .long x6), (9, .long (jremL x4 x6)), (8, .int x8)]) hx hb dX4_greatestShared_36 hl (by decide) rfl (fun ls hl => ?_)
          refine lv_iinc (pc := 38) (v := (x8 + (1 : Int32))) (lv' := [(8, .int (x8 + (1 : Int32))), (6, .long (jremL x4 x6)), (4, .long x6), (9, .long (jremL x4 x6))]) hx hb dX4_greatestShared_38 hl (k := 3) rfl rfl (by decide) rfl (fun ls hl => ?_)
          refine lv_goto (pc := 41) (tgt := 9) hx hb dX4_greatestShared_41 (by decide) ?_
          exact ih9 _ _ _ H locs ls hf hP hD hS (lv_sub hl [2, 1, 0] rfl)
  unfold f_X4_greatestShared at hf
  refine lv_lload_n (pc := 0) hx hb dX4_greatestShared_0 rfl (lv_at hl 0 rfl) ?_
  refine lv_lstore (pc := 1) (lv' := [(4, .long x0), (0, .long x0), (2, .long x2)]) hx hb dX4_greatestShared_1 hl (by decide) rfl (fun ls hl => ?_)
  refine lv_lload_n (pc := 3) hx hb dX4_greatestShared_3 rfl (lv_at hl 2 rfl) ?_
  refine lv_lstore (pc := 4) (lv' := [(6, .long x2), (4, .long x0), (0, .long x0), (2, .long x2)]) hx hb dX4_greatestShared_4 hl (by decide) rfl (fun ls hl => ?_)
  refine lv_iconst (pc := 6) (v := (0 : Int32)) hx hb dX4_greatestShared_6 (by decide) ?_
  refine lv_istore (pc := 7) (lv' := [(8, .int (0 : Int32)), (6, .long x2), (4, .long x0), (0, .long x0), (2, .long x2)]) hx hb dX4_greatestShared_7 hl (by decide) rfl (fun ls hl => ?_)
  exact l_9 FU _ _ _ H locs ls hf hP hD hS (lv_sub hl [2, 1, 0] rfl)
def r_X4_tell : Room := { frames := 1, cells := 0, slots := 0, locals := 30 }
set_option maxHeartbeats 4000000 in
set_option maxRecDepth 100000 in
theorem c_X4_tell (G : GT) (l : Launch) (A : Nat → Nat) (sz : Nat) (o : CS) (j : JS) (x1 : Int64) (x3 : Int64) (j' : JS) (hf : f_X4_tell o j x1 x3 = some j') : MTv l yX4_tell wsX4_tell r_X4_tell [.ref (A 0), .long x1, .long x3] G (w_To G A o j) (w_To G A o j') sz := by
  refine MTv.of (cc := cX4_tell) (maxL := 7) (by decide +kernel) rfl (Nat.le_of_ble_eq_true rfl) (fun p e s m av below meth cd Q B H locs ls X hret hl hP hD hS => ?_)
  have hx := X.1.1
  have hb := X.1.2.1
  have hl : lv_has ls 7 [(0, .ref (A 0)), (1, .long x1), (3, .long x3)] := hl
  have b_30 : ∀ (j : JS) (H : Heap) (locs : List Loc) (ls : Array Slot), f_X4_tell_30 o j = some j' → va_P G.1 vwCl (w_To G A o j) H → va_D B (w_To G A o j) → va_S B s.heap H locs → lv_has ls 7 [] → W p l e r_X4_tell s m av below meth cd H locs 0 0 Q (F0 m 30 ls []) := by
    intro j H locs ls hf hP hD hS hl
    unfold f_X4_tell_30 at hf
    cases hf
    exact hret _ _ _ _ dX4_tell_30 hP hD hS
  unfold f_X4_tell at hf
  refine lv_lload_n (pc := 0) hx hb dX4_tell_0 rfl (lv_at hl 1 rfl) ?_
  refine lv_lload_n (pc := 1) hx hb dX4_tell_1 rfl (lv_at hl 2 rfl) ?_
  obtain ⟨r1, hc1, hf⟩ := ob1_some hf
  refine endl X.2.2.2.2 (runS (pc := 2) (As := [.long x1, .long x3]) (rest := []) X (c_X4_greatestShared G l  H.size x1 x3 r1 hc1) gX4_tell_X4_greatestShared k_X4_greatestShared ⟨rfl, rfl⟩ ⟨Nat.le_of_ble_eq_true rfl, Nat.le_of_ble_eq_true rfl⟩ (EM.nil (w_To G A o j)) hP hD hS rfl hl.1 rfl (Nat.le_of_ble_eq_true rfl) ⟨Nat.zero_le _, Nat.zero_le _⟩ dX4_tell_2) (EM.nil (w_To G A o j)) hP hD hS (fun H locs hP hD hS => ?_)
  refine lv_lstore (pc := 5) (lv' := [(5, .long r1), (0, .ref (A 0)), (1, .long x1), (3, .long x3)]) hx hb dX4_tell_5 hl (by decide) rfl (fun ls hl => ?_)
  refine lv_lload (pc := 7) hx hb dX4_tell_7 (lv_at hl 0 rfl) ?_
  refine lv_lconst (pc := 9) (v := (0 : Int64)) hx hb dX4_tell_9 (by decide) ?_
  refine W.lcmp (pc := 10) hx hb dX4_tell_10 ?_
  refine lv_if_le (pc := 11) (tgt := 30) hx hb dX4_tell_11 (by decide) (fun h1 => ?_) (fun h1 => ?_)
  · have hf := br_y h1 hf
    exact b_30 _ H locs ls hf hP hD hS (lv_sub hl [] rfl)
  · have hf := br_n h1 hf
    refine lv_aload_n (pc := 14) hx hb dX4_tell_14 rfl (lv_at hl 1 rfl) ?_
    refine lv_lload_n (pc := 15) hx hb dX4_tell_15 rfl (lv_at hl 2 rfl) ?_
    refine lv_lload (pc := 16) hx hb dX4_tell_16 (lv_at hl 0 rfl) ?_
    obtain ⟨hz, hf⟩ := ck_some hf
    refine lv_ldiv (pc := 18) hx hb dX4_tell_18 (nzL_ne hz) ?_
    refine wput (pc := 19) X (fun _ h9 => List.mem_cons_of_mem _ (List.mem_append_right _ h9)) tyX4 tyX4_ok nmX4 hP hD hS 0 (at_To_0 G A o j) rfl 1 (by decide) (List.mem_cons_of_mem _ (List.mem_append_left _ (List.mem_of_getElem? (i := 0) rfl))) rfl rfl (ty := .long) (v := .long (x1 / r1)) rfl rfl rfl (Nat.le_of_ble_eq_true rfl) (st_To_0_1 G A o j (x1 / r1)) dX4_tell_19 (fun H locs hP hD hS => ?_)
    refine lv_aload_n (pc := 22) hx hb dX4_tell_22 rfl (lv_at hl 1 rfl) ?_
    refine lv_lload_n (pc := 23) hx hb dX4_tell_23 rfl (lv_at hl 3 rfl) ?_
    refine lv_lload (pc := 24) hx hb dX4_tell_24 (lv_at hl 0 rfl) ?_
    obtain ⟨hz, hf⟩ := ck_some hf
    refine lv_ldiv (pc := 26) hx hb dX4_tell_26 (nzL_ne hz) ?_
    refine wput (pc := 27) X (fun _ h9 => List.mem_cons_of_mem _ (List.mem_append_right _ h9)) tyX4 tyX4_ok nmX4 hP hD hS 0 (at_To_0 G A o (jset j 0 (x1 / r1))) rfl 2 (by decide) (List.mem_cons_of_mem _ (List.mem_append_left _ (List.mem_of_getElem? (i := 1) rfl))) rfl rfl (ty := .long) (v := .long (x3 / r1)) rfl rfl rfl (Nat.le_of_ble_eq_true rfl) (st_To_0_2 G A o (jset j 0 (x1 / r1)) (x3 / r1)) dX4_tell_27 (fun H locs hP hD hS => ?_)
    exact b_30 _ H locs ls hf hP hD hS (lv_sub hl [] rfl)
