def r_X5_stride : Room := { frames := 1, cells := 0, slots := 0, locals := 21 }
set_option maxHeartbeats 4000000 in
set_option maxRecDepth 100000 in
theorem c_X5_stride (G : GT) (l : Launch) (A : Nat → Nat) (sz : Nat) (I : Nat → CS) (J : Nat → JS) (x1 : Int32) (x2 : Int32) (r : Int32) (I' : Nat → CS) (hf : f_X5_stride I J x1 x2 = some (r, I')) : MTi l yX5_stride wsX5_stride r_X5_stride [.ref (A 0), .int x1, .int x2] G (w_Tw G A I J) (w_Tw G A I' J) sz r := by
  refine MTi.of (cc := cX5_stride) (maxL := 4) (by decide +kernel) rfl (Nat.le_of_ble_eq_true rfl) (fun p e s m av below meth cd Q B H locs ls X hret hl hP hD hS => ?_)
  have hx := X.1.1
  have hb := X.1.2.1
  have hl : lv_has ls 4 [(0, .ref (A 0)), (1, .int x1), (2, .int x2)] := hl
  have b_21 : ∀ (I : Nat → CS) (H : Heap) (locs : List Loc) (ls : Array Slot), f_X5_stride_21 I J = some (r, I') → va_P G.1 vwCl (w_Tw G A I J) H → va_D B (w_Tw G A I J) → va_S B s.heap H locs → lv_has ls 4 [] → W p l e r_X5_stride s m av below meth cd H locs 0 0 Q (F0 m 21 ls []) := by
    intro I H locs ls hf hP hD hS hl
    unfold f_X5_stride_21 at hf
    refine lv_iconst (pc := 21) (v := (-1 : Int32)) hx hb dX5_stride_21 (by decide) ?_
    cases hf
    exact hret _ _ _ _ dX5_stride_22 hP hD hS
  unfold f_X5_stride at hf
  refine lv_aload_n (pc := 0) hx hb dX5_stride_0 rfl (lv_at hl 0 rfl) ?_
  refine wget (pc := 1) X (fun _ h9 => List.mem_cons_of_mem _ (List.mem_append_left _ (List.mem_append_right _ h9))) hP 0 (at_Tw_0 G A I J) rfl 5 (by decide) (List.mem_cons_of_mem _ (List.mem_append_left _ (List.mem_append_left _ (List.mem_of_getElem? (i := 0) rfl)))) rfl (v := .ref (A 31)) rfl dX5_stride_1 ?_
  refine lv_iload_n (pc := 4) hx hb dX5_stride_4 rfl (lv_at hl 1 rfl) ?_
  obtain ⟨r1, hc1, hf⟩ := ob1_some hf
  refine endi X.2.2.2.2 (runV (pc := 5) (As := [.int x1]) (rest := []) X (c_X0_isPerson G l (fun k => A (31 + k)) H.size (I 0) x1 r1 hc1) gX5_stride_X0_isPerson k_X0_isPerson ⟨rfl, rfl⟩ ⟨Nat.le_of_ble_eq_true rfl, Nat.le_of_ble_eq_true rfl⟩ (em_Tw_Ch_31 G A I J ) hP hD hS (ci := 0) rfl rfl (at_Ch_0 G (fun k => A (31 + k)) (I 0)) rfl hl.1 rfl (Nat.le_of_ble_eq_true rfl) ⟨Nat.zero_le _, Nat.zero_le _⟩ dX5_stride_5) (em_Tw_Ch_31 G A I J ) hP hD hS (fun H locs hP hD hS => ?_)
  refine lv_if_eq (pc := 8) (tgt := 21) hx hb dX5_stride_8 (by decide) (fun h4 => ?_) (fun h4 => ?_)
  · have hf := br_y h4 hf
    exact b_21 _ H locs ls hf hP hD hS (lv_sub hl [] rfl)
  · have hf := br_n h4 hf
    refine lv_iload_n (pc := 11) hx hb dX5_stride_11 rfl (lv_at hl 2 rfl) ?_
    refine lv_if_lt (pc := 12) (tgt := 21) hx hb dX5_stride_12 (by decide) (fun h3 => ?_) (fun h3 => ?_)
    · have hf := br_y h3 hf
      exact b_21 _ H locs ls hf hP hD hS (lv_sub hl [] rfl)
    · have hf := br_n h3 hf
      refine lv_iload_n (pc := 15) hx hb dX5_stride_15 rfl (lv_at hl 2 rfl) ?_
      refine lv_bipush (pc := 16) (v := (10 : Int32)) hx hb dX5_stride_16 (by decide) ?_
      refine lv_icmp_lt (pc := 18) (tgt := 23) hx hb dX5_stride_18 (by decide) (fun h2 => ?_) (fun h2 => ?_)
      · have hf := br_y h2 hf
        refine lv_aload_n (pc := 23) hx hb dX5_stride_23 rfl (lv_at hl 0 rfl) ?_
        refine wget (pc := 24) X (fun _ h9 => List.mem_cons_of_mem _ (List.mem_append_left _ (List.mem_append_right _ h9))) hP 0 (at_Tw_0 G A I J) rfl 5 (by decide) (List.mem_cons_of_mem _ (List.mem_append_left _ (List.mem_append_left _ (List.mem_of_getElem? (i := 0) rfl)))) rfl (v := .ref (A 31)) rfl dX5_stride_24 ?_
        refine wgetN (pc := 27) X (fun _ h9 => List.mem_cons_of_mem _ (List.mem_append_right _ h9)) hP 31 (at_Tw_31 G A I J) rfl 4 (by decide) (List.mem_of_getElem? (i := 11) rfl) rfl (v := .int ((I 0) 4 0)) rfl dX5_stride_27 ?_
        refine lv_if_le (pc := 30) (tgt := 36) hx hb dX5_stride_30 (by decide) (fun h1 => ?_) (fun h1 => ?_)
        · have hf := br_y h1 hf
          refine lv_aload_n (pc := 36) hx hb dX5_stride_36 rfl (lv_at hl 0 rfl) ?_
          refine wget (pc := 37) X (fun _ h9 => List.mem_cons_of_mem _ (List.mem_append_left _ (List.mem_append_right _ h9))) hP 0 (at_Tw_0 G A I J) rfl 5 (by decide) (List.mem_cons_of_mem _ (List.mem_append_left _ (List.mem_append_left _ (List.mem_of_getElem? (i := 0) rfl)))) rfl (v := .ref (A 31)) rfl dX5_stride_37 ?_
          refine wgetN (pc := 40) X (fun _ h9 => List.mem_cons_of_mem _ (List.mem_append_right _ h9)) hP 31 (at_Tw_31 G A I J) rfl 7 (by decide) (List.mem_of_getElem? (i := 12) rfl) rfl (v := .ref (A 34)) rfl dX5_stride_40 ?_
          refine lv_iload_n (pc := 43) hx hb dX5_stride_43 rfl (lv_at hl 1 rfl) ?_
          obtain ⟨hi, hf⟩ := ck_some hf
          refine wiald (pc := 44) X hP 34 (at_Tw_34 G A I J) hi rfl dX5_stride_44 ?_
          refine lv_istore_n (pc := 45) (lv' := [(3, .int (((I 0) 7) x1.toNatClampNeg)), (0, .ref (A 0)), (1, .int x1), (2, .int x2)]) hx hb dX5_stride_45 rfl hl (by decide) rfl (fun ls hl => ?_)
          refine lv_aload_n (pc := 46) hx hb dX5_stride_46 rfl (lv_at hl 1 rfl) ?_
          refine wget (pc := 47) X (fun _ h9 => List.mem_cons_of_mem _ (List.mem_append_left _ (List.mem_append_right _ h9))) hP 0 (at_Tw_0 G A I J) rfl 5 (by decide) (List.mem_cons_of_mem _ (List.mem_append_left _ (List.mem_append_left _ (List.mem_of_getElem? (i := 0) rfl)))) rfl (v := .ref (A 31)) rfl dX5_stride_47 ?_
          refine wgetN (pc := 50) X (fun _ h9 => List.mem_cons_of_mem _ (List.mem_append_right _ h9)) hP 31 (at_Tw_31 G A I J) rfl 7 (by decide) (List.mem_of_getElem? (i := 12) rfl) rfl (v := .ref (A 34)) rfl dX5_stride_50 ?_
          refine lv_iload_n (pc := 53) hx hb dX5_stride_53 rfl (lv_at hl 2 rfl) ?_
          refine lv_iload_n (pc := 54) hx hb dX5_stride_54 rfl (lv_at hl 3 rfl) ?_
          obtain ⟨hi, hf⟩ := ck_some hf
          refine wiast (pc := 55) X hP hD hS 34 (at_Tw_34 G A I J) hi rfl (sa_Tw_34 G A I J _) dX5_stride_55 (fun H locs hP hD hS => ?_)
          have hP : va_P G.1 vwCl (w_Tw G A (gset I 0 (cset (I 0) 7 x1.toNatClampNeg x2)) J) H := hP
          have hD : va_D B (w_Tw G A (gset I 0 (cset (I 0) 7 x1.toNatClampNeg x2)) J) := hD
          refine lv_iload_n (pc := 56) hx hb dX5_stride_56 rfl (lv_at hl 0 rfl) ?_
          cases hf
          exact hret _ _ _ _ dX5_stride_57 hP hD hS
        · have hf := br_n h1 hf
          refine lv_bipush (pc := 33) (v := (-4 : Int32)) hx hb dX5_stride_33 (by decide) ?_
          cases hf
          exact hret _ _ _ _ dX5_stride_35 hP hD hS
      · have hf := br_n h2 hf
        exact b_21 _ H locs ls hf hP hD hS (lv_sub hl [] rfl)
def r_X5_sure : Room := { frames := 6, cells := 0, slots := 0, locals := 155 }
set_option maxHeartbeats 4000000 in
set_option maxRecDepth 100000 in
theorem c_X5_sure (G : GT) (l : Launch) (A : Nat → Nat) (sz : Nat) (I : Nat → CS) (J : Nat → JS) (x1 : Int32) (r : Int32) (I' : Nat → CS) (J' : Nat → JS) (hf : f_X5_sure I J x1 = some (r, I', J')) : MTi l yX5_sure wsX5_sure r_X5_sure [.ref (A 0), .int x1] G (w_Tw G A I J) (w_Tw G A I' J') sz r := by
  refine MTi.of (cc := cX5_sure) (maxL := 3) (by decide +kernel) rfl (Nat.le_of_ble_eq_true rfl) (fun p e s m av below meth cd Q B H locs ls X hret hl hP hD hS => ?_)
  have hx := X.1.1
  have hb := X.1.2.1
  have hl : lv_has ls 3 [(0, .ref (A 0)), (1, .int x1)] := hl
  unfold f_X5_sure at hf
  refine lv_aload_n (pc := 0) hx hb dX5_sure_0 rfl (lv_at hl 0 rfl) ?_
  refine lv_iload_n (pc := 1) hx hb dX5_sure_1 rfl (lv_at hl 1 rfl) ?_
  obtain ⟨r1, I1, hc1, hf⟩ := ob2_some hf
  refine endi X.2.2.2.2 (runV (pc := 2) (As := [.int x1]) (rest := []) X (c_X5_foursRefused G l A H.size I J x1 r1 I1 hc1) gX5_sure_X5_foursRefused k_X5_foursRefused ⟨rfl, rfl⟩ ⟨Nat.le_of_ble_eq_true rfl, Nat.le_of_ble_eq_true rfl⟩ (EM.all (w_Tw G A I J) (w_Tw G A I1 J)) hP hD hS (ci := 5) rfl rfl (at_Tw_0 G A I J) rfl hl.1 rfl (Nat.le_of_ble_eq_true rfl) ⟨Nat.zero_le _, Nat.zero_le _⟩ dX5_sure_2) (EM.all (w_Tw G A I J) (w_Tw G A I1 J)) hP hD hS (fun H locs hP hD hS => ?_)
  refine lv_istore_n (pc := 5) (lv' := [(2, .int r1), (0, .ref (A 0)), (1, .int x1)]) hx hb dX5_sure_5 rfl hl (by decide) rfl (fun ls hl => ?_)
  refine lv_iload_n (pc := 6) hx hb dX5_sure_6 rfl (lv_at hl 0 rfl) ?_
  refine lv_if_eq (pc := 7) (tgt := 12) hx hb dX5_sure_7 (by decide) (fun h2 => ?_) (fun h2 => ?_)
  · have hf := br_y h2 hf
    refine lv_aload_n (pc := 12) hx hb dX5_sure_12 rfl (lv_at hl 1 rfl) ?_
    refine wget (pc := 13) X (fun _ h9 => List.mem_cons_of_mem _ (List.mem_append_left _ (List.mem_append_left _ (List.mem_append_left _ (List.mem_append_left _ (List.mem_append_right _ h9)))))) hP 0 (at_Tw_0 G A I1 J) rfl 4 (by decide) (List.mem_cons_of_mem _ (List.mem_append_left _ (List.mem_append_left _ (List.mem_append_left _ (List.mem_append_left _ (List.mem_append_left _ (List.mem_append_left _ (List.mem_of_getElem? (i := 0) rfl)))))))) rfl (v := .ref (A 30)) rfl dX5_sure_13 ?_
    refine lv_aload_n (pc := 16) hx hb dX5_sure_16 rfl (lv_at hl 1 rfl) ?_
    refine wget (pc := 17) X (fun _ h9 => List.mem_cons_of_mem _ (List.mem_append_left _ (List.mem_append_left _ (List.mem_append_left _ (List.mem_append_left _ (List.mem_append_right _ h9)))))) hP 0 (at_Tw_0 G A I1 J) rfl 5 (by decide) (List.mem_cons_of_mem _ (List.mem_append_left _ (List.mem_append_left _ (List.mem_append_left _ (List.mem_append_left _ (List.mem_append_left _ (List.mem_append_left _ (List.mem_of_getElem? (i := 1) rfl)))))))) rfl (v := .ref (A 31)) rfl dX5_sure_17 ?_
    refine lv_aload_n (pc := 20) hx hb dX5_sure_20 rfl (lv_at hl 1 rfl) ?_
    refine wget (pc := 21) X (fun _ h9 => List.mem_cons_of_mem _ (List.mem_append_left _ (List.mem_append_left _ (List.mem_append_left _ (List.mem_append_left _ (List.mem_append_right _ h9)))))) hP 0 (at_Tw_0 G A I1 J) rfl 0 (by decide) (List.mem_cons_of_mem _ (List.mem_append_left _ (List.mem_append_left _ (List.mem_append_left _ (List.mem_append_left _ (List.mem_append_left _ (List.mem_append_left _ (List.mem_of_getElem? (i := 2) rfl)))))))) rfl (v := .ref (A 1)) rfl dX5_sure_21 ?_
    refine lv_iload_n (pc := 24) hx hb dX5_sure_24 rfl (lv_at hl 2 rfl) ?_
    obtain ⟨o2, j2, c2, hc2, hf⟩ := ob3_some hf
    refine endv X.2.2.2.2 (runV (pc := 25) (As := [.ref (A 31), .ref (A 1), .int x1]) (rest := []) X (c_X1_find G l (fun k => A (bif Nat.blt k 11 then 30 + k else k - 10)) H.size (I1 8) (J 1) (I1 0) (I1 5) x1 o2 j2 c2 hc2) gX5_sure_X1_find k_X1_find ⟨rfl, rfl⟩ ⟨Nat.le_of_ble_eq_true rfl, Nat.le_of_ble_eq_true rfl⟩ (em_Tw_FCS_30_31_1_ojc G A I1 J o2 j2 c2) hP hD hS (ci := 1) rfl rfl (at_FCS_0 G (fun k => A (bif Nat.blt k 11 then 30 + k else k - 10)) (I1 8) (J 1) (I1 0) (I1 5)) rfl hl.1 rfl (Nat.le_of_ble_eq_true rfl) ⟨Nat.zero_le _, Nat.zero_le _⟩ dX5_sure_25) (em_Tw_FCS_30_31_1_ojc G A I1 J o2 j2 c2) hP hD hS (fun H locs hP hD hS => ?_)
    refine lv_aload_n (pc := 28) hx hb dX5_sure_28 rfl (lv_at hl 1 rfl) ?_
    refine wget (pc := 29) X (fun _ h9 => List.mem_cons_of_mem _ (List.mem_append_left _ (List.mem_append_left _ (List.mem_append_left _ (List.mem_append_left _ (List.mem_append_right _ h9)))))) hP 0 (at_Tw_0 G A (gset (gset I1 8 o2) 0 c2) (hset J 1 j2)) rfl 4 (by decide) (List.mem_cons_of_mem _ (List.mem_append_left _ (List.mem_append_left _ (List.mem_append_left _ (List.mem_append_left _ (List.mem_append_left _ (List.mem_append_left _ (List.mem_of_getElem? (i := 0) rfl)))))))) rfl (v := .ref (A 30)) rfl dX5_sure_29 ?_
    refine wgetN (pc := 32) X (fun _ h9 => List.mem_cons_of_mem _ (List.mem_append_left _ (List.mem_append_left _ (List.mem_append_left _ (List.mem_append_right _ h9))))) hP 30 (at_Tw_30 G A (gset (gset I1 8 o2) 0 c2) (hset J 1 j2)) rfl 0 (by decide) (List.mem_of_getElem? (i := 14) rfl) rfl (v := .long (j2 0)) rfl dX5_sure_32 ?_
    refine lv_lconst (pc := 35) (v := (0 : Int64)) hx hb dX5_sure_35 (by decide) ?_
    refine W.lcmp (pc := 36) hx hb dX5_sure_36 ?_
    refine lv_if_ne (pc := 37) (tgt := 49) hx hb dX5_sure_37 (by decide) (fun h1 => ?_) (fun h1 => ?_)
    · have hf := br_n h1 hf
      refine lv_aload_n (pc := 49) hx hb dX5_sure_49 rfl (lv_at hl 1 rfl) ?_
      refine wget (pc := 50) X (fun _ h9 => List.mem_cons_of_mem _ (List.mem_append_left _ (List.mem_append_left _ (List.mem_append_left _ (List.mem_append_left _ (List.mem_append_right _ h9)))))) hP 0 (at_Tw_0 G A (gset (gset I1 8 o2) 0 c2) (hset J 1 j2)) rfl 2 (by decide) (List.mem_cons_of_mem _ (List.mem_append_left _ (List.mem_append_left _ (List.mem_append_left _ (List.mem_append_left _ (List.mem_append_left _ (List.mem_append_left _ (List.mem_of_getElem? (i := 3) rfl)))))))) rfl (v := .ref (A 17)) rfl dX5_sure_50 ?_
      refine lv_aload_n (pc := 53) hx hb dX5_sure_53 rfl (lv_at hl 1 rfl) ?_
      refine wget (pc := 54) X (fun _ h9 => List.mem_cons_of_mem _ (List.mem_append_left _ (List.mem_append_left _ (List.mem_append_left _ (List.mem_append_left _ (List.mem_append_right _ h9)))))) hP 0 (at_Tw_0 G A (gset (gset I1 8 o2) 0 c2) (hset J 1 j2)) rfl 5 (by decide) (List.mem_cons_of_mem _ (List.mem_append_left _ (List.mem_append_left _ (List.mem_append_left _ (List.mem_append_left _ (List.mem_append_left _ (List.mem_append_left _ (List.mem_of_getElem? (i := 1) rfl)))))))) rfl (v := .ref (A 31)) rfl dX5_sure_54 ?_
      obtain ⟨r3, hc3, hf⟩ := ob1_some hf
      refine endi X.2.2.2.2 (runV (pc := 57) (As := []) (rest := [.ref (A 17)]) X (c_X0_unmended G l (fun k => A (31 + k)) H.size c2 r3 hc3) gX5_sure_X0_unmended k_X0_unmended ⟨rfl, rfl⟩ ⟨Nat.le_of_ble_eq_true rfl, Nat.le_of_ble_eq_true rfl⟩ (em_Tw_Ch_31 G A (gset (gset I1 8 o2) 0 c2) (hset J 1 j2) ) hP hD hS (ci := 0) rfl rfl (at_Ch_0 G (fun k => A (31 + k)) c2) rfl hl.1 rfl (Nat.le_of_ble_eq_true rfl) ⟨Nat.zero_le _, Nat.zero_le _⟩ dX5_sure_57) (em_Tw_Ch_31 G A (gset (gset I1 8 o2) 0 c2) (hset J 1 j2) ) hP hD hS (fun H locs hP hD hS => ?_)
      refine lv_aload_n (pc := 60) hx hb dX5_sure_60 rfl (lv_at hl 1 rfl) ?_
      refine wget (pc := 61) X (fun _ h9 => List.mem_cons_of_mem _ (List.mem_append_left _ (List.mem_append_left _ (List.mem_append_left _ (List.mem_append_left _ (List.mem_append_right _ h9)))))) hP 0 (at_Tw_0 G A (gset (gset I1 8 o2) 0 c2) (hset J 1 j2)) rfl 4 (by decide) (List.mem_cons_of_mem _ (List.mem_append_left _ (List.mem_append_left _ (List.mem_append_left _ (List.mem_append_left _ (List.mem_append_left _ (List.mem_append_left _ (List.mem_of_getElem? (i := 0) rfl)))))))) rfl (v := .ref (A 30)) rfl dX5_sure_61 ?_
      refine wgetN (pc := 64) X (fun _ h9 => List.mem_cons_of_mem _ (List.mem_append_left _ (List.mem_append_left _ (List.mem_append_left _ (List.mem_append_right _ h9))))) hP 30 (at_Tw_30 G A (gset (gset I1 8 o2) 0 c2) (hset J 1 j2)) rfl 3 (by decide) (List.mem_of_getElem? (i := 17) rfl) rfl (v := .int (o2 2 0)) rfl dX5_sure_64 ?_
      refine lv_iconst (pc := 67) (v := (-1 : Int32)) hx hb dX5_sure_67 (by decide) ?_
      refine lv_ixor (pc := 68) hx hb dX5_sure_68 ?_
      refine lv_iand (pc := 69) hx hb dX5_sure_69 ?_
      refine wputN (pc := 70) X (fun _ h9 => List.mem_cons_of_mem _ (List.mem_append_left _ (List.mem_append_left _ (List.mem_append_right _ h9)))) tyX4 tyX4_ok nmX4 hP hD hS 17 (at_Tw_17 G A (gset (gset I1 8 o2) 0 c2) (hset J 1 j2)) rfl 0 (by decide) (List.mem_of_getElem? (i := 0) rfl) rfl rfl (ty := .int) (v := .int (r3 &&& ((o2 2 0) ^^^ (-1 : Int32)))) rfl rfl rfl (Nat.le_of_ble_eq_true rfl) (st_Tw_17_0 G A (gset (gset I1 8 o2) 0 c2) (hset J 1 j2) (r3 &&& ((o2 2 0) ^^^ (-1 : Int32)))) dX5_sure_70 (fun H locs hP hD hS => ?_)
      refine lv_aload_n (pc := 73) hx hb dX5_sure_73 rfl (lv_at hl 1 rfl) ?_
      refine wget (pc := 74) X (fun _ h9 => List.mem_cons_of_mem _ (List.mem_append_left _ (List.mem_append_left _ (List.mem_append_left _ (List.mem_append_left _ (List.mem_append_right _ h9)))))) hP 0 (at_Tw_0 G A (gset (gset (gset I1 8 o2) 0 c2) 7 (cset (I1 7) 0 0 (r3 &&& ((o2 2 0) ^^^ (-1 : Int32))))) (hset J 1 j2)) rfl 4 (by decide) (List.mem_cons_of_mem _ (List.mem_append_left _ (List.mem_append_left _ (List.mem_append_left _ (List.mem_append_left _ (List.mem_append_left _ (List.mem_append_left _ (List.mem_of_getElem? (i := 0) rfl)))))))) rfl (v := .ref (A 30)) rfl dX5_sure_74 ?_
      refine wgetN (pc := 77) X (fun _ h9 => List.mem_cons_of_mem _ (List.mem_append_left _ (List.mem_append_left _ (List.mem_append_left _ (List.mem_append_right _ h9))))) hP 30 (at_Tw_30 G A (gset (gset (gset I1 8 o2) 0 c2) 7 (cset (I1 7) 0 0 (r3 &&& ((o2 2 0) ^^^ (-1 : Int32))))) (hset J 1 j2)) rfl 2 (by decide) (List.mem_of_getElem? (i := 16) rfl) rfl (v := .int (o2 1 0)) rfl dX5_sure_77 ?_
      cases hf
      exact hret _ _ _ _ dX5_sure_80 hP hD hS
    · have hf := br_y h1 hf
      refine lv_aload_n (pc := 40) hx hb dX5_sure_40 rfl (lv_at hl 1 rfl) ?_
      refine wget (pc := 41) X (fun _ h9 => List.mem_cons_of_mem _ (List.mem_append_left _ (List.mem_append_left _ (List.mem_append_left _ (List.mem_append_left _ (List.mem_append_right _ h9)))))) hP 0 (at_Tw_0 G A (gset (gset I1 8 o2) 0 c2) (hset J 1 j2)) rfl 2 (by decide) (List.mem_cons_of_mem _ (List.mem_append_left _ (List.mem_append_left _ (List.mem_append_left _ (List.mem_append_left _ (List.mem_append_left _ (List.mem_append_left _ (List.mem_of_getElem? (i := 3) rfl)))))))) rfl (v := .ref (A 17)) rfl dX5_sure_41 ?_
      refine lv_iconst (pc := 44) (v := (4 : Int32)) hx hb dX5_sure_44 (by decide) ?_
      obtain ⟨r4, o4, hc4, hf⟩ := ob2_some hf
      refine endi X.2.2.2.2 (runV (pc := 45) (As := [.int (4 : Int32)]) (rest := []) X (c_X4_found G l (fun k => A (17 + k)) H.size (I1 7) (J 0) (4 : Int32) r4 o4 hc4) gX5_sure_X4_found k_X4_found ⟨rfl, rfl⟩ ⟨Nat.le_of_ble_eq_true rfl, Nat.le_of_ble_eq_true rfl⟩ (em_Tw_To_17_o G A (gset (gset I1 8 o2) 0 c2) (hset J 1 j2) o4) hP hD hS (ci := 4) rfl rfl (at_To_0 G (fun k => A (17 + k)) (I1 7) (J 0)) rfl hl.1 rfl (Nat.le_of_ble_eq_true rfl) ⟨Nat.zero_le _, Nat.zero_le _⟩ dX5_sure_45) (em_Tw_To_17_o G A (gset (gset I1 8 o2) 0 c2) (hset J 1 j2) o4) hP hD hS (fun H locs hP hD hS => ?_)
      cases hf
      exact hret _ _ _ _ dX5_sure_48 hP hD hS
  · have hf := br_n h2 hf
    refine lv_iload_n (pc := 10) hx hb dX5_sure_10 rfl (lv_at hl 0 rfl) ?_
    cases hf
    exact hret _ _ _ _ dX5_sure_11 hP hD hS
def r_X5_tear : Room := { frames := 3, cells := 0, slots := 0, locals := 64 }
set_option maxHeartbeats 4000000 in
set_option maxRecDepth 100000 in
theorem c_X5_tear (G : GT) (l : Launch) (A : Nat → Nat) (sz : Nat) (I : Nat → CS) (J : Nat → JS) (x1 : Int32) (r : Int32) (I' : Nat → CS) (hf : f_X5_tear I J x1 = some (r, I')) : MTi l yX5_tear wsX5_tear r_X5_tear [.ref (A 0), .int x1] G (w_Tw G A I J) (w_Tw G A I' J) sz r := by
  refine MTi.of (cc := cX5_tear) (maxL := 3) (by decide +kernel) rfl (Nat.le_of_ble_eq_true rfl) (fun p e s m av below meth cd Q B H locs ls X hret hl hP hD hS => ?_)
  have hx := X.1.1
  have hb := X.1.2.1
  have hl : lv_has ls 3 [(0, .ref (A 0)), (1, .int x1)] := hl
  unfold f_X5_tear at hf
  refine lv_aload_n (pc := 0) hx hb dX5_tear_0 rfl (lv_at hl 0 rfl) ?_
  refine lv_aload_n (pc := 1) hx hb dX5_tear_1 rfl (lv_at hl 0 rfl) ?_
  refine wget (pc := 2) X (fun _ h9 => List.mem_cons_of_mem _ (List.mem_append_left _ (List.mem_append_left _ (List.mem_append_right _ h9)))) hP 0 (at_Tw_0 G A I J) rfl 0 (by decide) (List.mem_cons_of_mem _ (List.mem_append_left _ (List.mem_append_left _ (List.mem_append_left _ (List.mem_append_left _ (List.mem_of_getElem? (i := 0) rfl)))))) rfl (v := .ref (A 1)) rfl dX5_tear_2 ?_
  refine lv_iload_n (pc := 5) hx hb dX5_tear_5 rfl (lv_at hl 1 rfl) ?_
  obtain ⟨r1, I1, hc1, hf⟩ := ob2_some hf
  refine endi X.2.2.2.2 (runV (pc := 6) (As := [.ref (A 1), .int x1]) (rest := []) X (c_X5_missingRefused_r G l A H.size I J x1 r1 I1 hc1) gX5_tear_X5_missingRefused k_X5_missingRefused ⟨rfl, rfl⟩ ⟨Nat.le_of_ble_eq_true rfl, Nat.le_of_ble_eq_true rfl⟩ (EM.all (w_Tw G A I J) (w_Tw G A I1 J)) hP hD hS (ci := 5) rfl rfl (at_Tw_0 G A I J) rfl hl.1 rfl (Nat.le_of_ble_eq_true rfl) ⟨Nat.zero_le _, Nat.zero_le _⟩ dX5_tear_6) (EM.all (w_Tw G A I J) (w_Tw G A I1 J)) hP hD hS (fun H locs hP hD hS => ?_)
  refine lv_istore_n (pc := 9) (lv' := [(2, .int r1), (0, .ref (A 0)), (1, .int x1)]) hx hb dX5_tear_9 rfl hl (by decide) rfl (fun ls hl => ?_)
  refine lv_iload_n (pc := 10) hx hb dX5_tear_10 rfl (lv_at hl 0 rfl) ?_
  refine lv_if_eq (pc := 11) (tgt := 16) hx hb dX5_tear_11 (by decide) (fun h1 => ?_) (fun h1 => ?_)
  · have hf := br_y h1 hf
    refine lv_aload_n (pc := 16) hx hb dX5_tear_16 rfl (lv_at hl 1 rfl) ?_
    refine wget (pc := 17) X (fun _ h9 => List.mem_cons_of_mem _ (List.mem_append_left _ (List.mem_append_left _ (List.mem_append_right _ h9)))) hP 0 (at_Tw_0 G A I1 J) rfl 0 (by decide) (List.mem_cons_of_mem _ (List.mem_append_left _ (List.mem_append_left _ (List.mem_append_left _ (List.mem_append_left _ (List.mem_of_getElem? (i := 0) rfl)))))) rfl (v := .ref (A 1)) rfl dX5_tear_17 ?_
    refine lv_iload_n (pc := 20) hx hb dX5_tear_20 rfl (lv_at hl 2 rfl) ?_
    obtain ⟨b2, hc2, hf⟩ := ob1_some hf
    refine endv X.2.2.2.2 (runV (pc := 21) (As := [.int x1]) (rest := []) X (c_X3_remove_r G l (fun k => A (1 + k)) H.size (I1 5) x1 b2 hc2) gX5_tear_X3_remove k_X3_remove ⟨rfl, rfl⟩ ⟨Nat.le_of_ble_eq_true rfl, Nat.le_of_ble_eq_true rfl⟩ (em_Tw_S6_1_b G A I1 J b2) hP hD hS (ci := 3) rfl rfl (at_S6_0 G (fun k => A (1 + k)) (I1 5)) rfl hl.1 rfl (Nat.le_of_ble_eq_true rfl) ⟨Nat.zero_le _, Nat.zero_le _⟩ dX5_tear_21) (em_Tw_S6_1_b G A I1 J b2) hP hD hS (fun H locs hP hD hS => ?_)
    refine lv_iconst (pc := 24) (v := (1 : Int32)) hx hb dX5_tear_24 (by decide) ?_
    cases hf
    exact hret _ _ _ _ dX5_tear_25 hP hD hS
  · have hf := br_n h1 hf
    refine lv_iload_n (pc := 14) hx hb dX5_tear_14 rfl (lv_at hl 0 rfl) ?_
    cases hf
    exact hret _ _ _ _ dX5_tear_15 hP hD hS
def r_X5_text : Room := { frames := 2, cells := 0, slots := 0, locals := 45 }
set_option maxHeartbeats 4000000 in
set_option maxRecDepth 100000 in
theorem c_X5_text (G : GT) (l : Launch) (A : Nat → Nat) (sz : Nat) (I : Nat → CS) (J : Nat → JS) (x1 : Int32) (x2 : Int32) (r : Int32) (I' : Nat → CS) (hf : f_X5_text I J x1 x2 = some (r, I')) : MTi l yX5_text wsX5_text r_X5_text [.ref (A 0), .int x1, .int x2] G (w_Tw G A I J) (w_Tw G A I' J) sz r := by
  refine MTi.of (cc := cX5_text) (maxL := 3) (by decide +kernel) rfl (Nat.le_of_ble_eq_true rfl) (fun p e s m av below meth cd Q B H locs ls X hret hl hP hD hS => ?_)
  have hx := X.1.1
  have hb := X.1.2.1
  have hl : lv_has ls 3 [(0, .ref (A 0)), (1, .int x1), (2, .int x2)] := hl
  have b_17 : ∀ (I : Nat → CS) (H : Heap) (locs : List Loc) (ls : Array Slot), f_X5_text_17 I J = some (r, I') → va_P G.1 vwCl (w_Tw G A I J) H → va_D B (w_Tw G A I J) → va_S B s.heap H locs → lv_has ls 3 [] → W p l e r_X5_text s m av below meth cd H locs 0 0 Q (F0 m 17 ls []) := by
    intro I H locs ls hf hP hD hS hl
    unfold f_X5_text_17 at hf
    refine lv_iconst (pc := 17) (v := (-1 : Int32)) hx hb dX5_text_17 (by decide) ?_
    cases hf
    exact hret _ _ _ _ dX5_text_18 hP hD hS
  unfold f_X5_text at hf
  refine lv_aload_n (pc := 0) hx hb dX5_text_0 rfl (lv_at hl 0 rfl) ?_
  refine wget (pc := 1) X (fun _ h9 => List.mem_cons_of_mem _ (List.mem_append_left _ (List.mem_append_left _ (List.mem_append_right _ h9)))) hP 0 (at_Tw_0 G A I J) rfl 1 (by decide) (List.mem_cons_of_mem _ (List.mem_append_left _ (List.mem_append_left _ (List.mem_append_left _ (List.mem_of_getElem? (i := 0) rfl))))) rfl (v := .ref (A 10)) rfl dX5_text_1 ?_
  refine lv_iload_n (pc := 4) hx hb dX5_text_4 rfl (lv_at hl 1 rfl) ?_
  obtain ⟨r1, hc1, hf⟩ := ob1_some hf
  refine endi X.2.2.2.2 (runV (pc := 5) (As := [.int x1]) (rest := []) X (c_X3_isNumber_t G l (fun k => A (10 + k)) H.size (I 6) x1 r1 hc1) gX5_text_X3_isNumber k_X3_isNumber ⟨rfl, rfl⟩ ⟨Nat.le_of_ble_eq_true rfl, Nat.le_of_ble_eq_true rfl⟩ (em_Tw_S4_10 G A I J ) hP hD hS (ci := 3) rfl rfl (at_S4_0 G (fun k => A (10 + k)) (I 6)) rfl hl.1 rfl (Nat.le_of_ble_eq_true rfl) ⟨Nat.zero_le _, Nat.zero_le _⟩ dX5_text_5) (em_Tw_S4_10 G A I J ) hP hD hS (fun H locs hP hD hS => ?_)
  refine lv_if_eq (pc := 8) (tgt := 17) hx hb dX5_text_8 (by decide) (fun h3 => ?_) (fun h3 => ?_)
  · have hf := br_y h3 hf
    exact b_17 _ H locs ls hf hP hD hS (lv_sub hl [] rfl)
  · have hf := br_n h3 hf
    refine lv_iload_n (pc := 11) hx hb dX5_text_11 rfl (lv_at hl 2 rfl) ?_
    refine lv_bipush (pc := 12) (v := (60 : Int32)) hx hb dX5_text_12 (by decide) ?_
    refine lv_icmp_le (pc := 14) (tgt := 19) hx hb dX5_text_14 (by decide) (fun h2 => ?_) (fun h2 => ?_)
    · have hf := br_y h2 hf
      refine lv_iload_n (pc := 19) hx hb dX5_text_19 rfl (lv_at hl 2 rfl) ?_
      refine lv_if_ge (pc := 20) (tgt := 32) hx hb dX5_text_20 (by decide) (fun h1 => ?_) (fun h1 => ?_)
      · have hf := br_y h1 hf
        refine lv_aload_n (pc := 32) hx hb dX5_text_32 rfl (lv_at hl 0 rfl) ?_
        refine wget (pc := 33) X (fun _ h9 => List.mem_cons_of_mem _ (List.mem_append_left _ (List.mem_append_left _ (List.mem_append_right _ h9)))) hP 0 (at_Tw_0 G A I J) rfl 1 (by decide) (List.mem_cons_of_mem _ (List.mem_append_left _ (List.mem_append_left _ (List.mem_append_left _ (List.mem_of_getElem? (i := 0) rfl))))) rfl (v := .ref (A 10)) rfl dX5_text_33 ?_
        refine lv_iload_n (pc := 36) hx hb dX5_text_36 rfl (lv_at hl 1 rfl) ?_
        refine lv_iload_n (pc := 37) hx hb dX5_text_37 rfl (lv_at hl 2 rfl) ?_
        refine lv_bipush (pc := 38) (v := (32 : Int32)) hx hb dX5_text_38 (by decide) ?_
        obtain ⟨b2, hc2, hf⟩ := ob1_some hf
        refine endv X.2.2.2.2 (runV (pc := 40) (As := [.int x1, .int x2, .int (32 : Int32)]) (rest := []) X (c_X3_make_t G l (fun k => A (10 + k)) H.size (I 6) x1 x2 (32 : Int32) b2 hc2) gX5_text_X3_make k_X3_make ⟨rfl, rfl⟩ ⟨Nat.le_of_ble_eq_true rfl, Nat.le_of_ble_eq_true rfl⟩ (em_Tw_S4_10_b G A I J b2) hP hD hS (ci := 3) rfl rfl (at_S4_0 G (fun k => A (10 + k)) (I 6)) rfl hl.1 rfl (Nat.le_of_ble_eq_true rfl) ⟨Nat.zero_le _, Nat.zero_le _⟩ dX5_text_40) (em_Tw_S4_10_b G A I J b2) hP hD hS (fun H locs hP hD hS => ?_)
        refine lv_iload_n (pc := 43) hx hb dX5_text_43 rfl (lv_at hl 2 rfl) ?_
        cases hf
        exact hret _ _ _ _ dX5_text_44 hP hD hS
      · have hf := br_n h1 hf
        refine lv_aload_n (pc := 23) hx hb dX5_text_23 rfl (lv_at hl 0 rfl) ?_
        refine wget (pc := 24) X (fun _ h9 => List.mem_cons_of_mem _ (List.mem_append_left _ (List.mem_append_left _ (List.mem_append_right _ h9)))) hP 0 (at_Tw_0 G A I J) rfl 2 (by decide) (List.mem_cons_of_mem _ (List.mem_append_left _ (List.mem_append_left _ (List.mem_append_left _ (List.mem_of_getElem? (i := 1) rfl))))) rfl (v := .ref (A 17)) rfl dX5_text_24 ?_
        refine lv_iconst (pc := 27) (v := (5 : Int32)) hx hb dX5_text_27 (by decide) ?_
        obtain ⟨r3, o3, hc3, hf⟩ := ob2_some hf
        refine endi X.2.2.2.2 (runV (pc := 28) (As := [.int (5 : Int32)]) (rest := []) X (c_X4_found G l (fun k => A (17 + k)) H.size (I 7) (J 0) (5 : Int32) r3 o3 hc3) gX5_text_X4_found k_X4_found ⟨rfl, rfl⟩ ⟨Nat.le_of_ble_eq_true rfl, Nat.le_of_ble_eq_true rfl⟩ (em_Tw_To_17_o G A I J o3) hP hD hS (ci := 4) rfl rfl (at_To_0 G (fun k => A (17 + k)) (I 7) (J 0)) rfl hl.1 rfl (Nat.le_of_ble_eq_true rfl) ⟨Nat.zero_le _, Nat.zero_le _⟩ dX5_text_28) (em_Tw_To_17_o G A I J o3) hP hD hS (fun H locs hP hD hS => ?_)
        cases hf
        exact hret _ _ _ _ dX5_text_31 hP hD hS
    · have hf := br_n h2 hf
      exact b_17 _ H locs ls hf hP hD hS (lv_sub hl [] rfl)
def r_X5_together : Room := { frames := 4, cells := 0, slots := 0, locals := 99 }
set_option maxHeartbeats 4000000 in
set_option maxRecDepth 100000 in
theorem c_X5_together (G : GT) (l : Launch) (A : Nat → Nat) (sz : Nat) (I : Nat → CS) (J : Nat → JS) (x1 : Int32) (x2 : Int32) (x3 : Int32) (r : Int32) (I' : Nat → CS) (hf : f_X5_together I J x1 x2 x3 = some (r, I')) : MTi l yX5_together wsX5_together r_X5_together [.ref (A 0), .int x1, .int x2, .int x3] G (w_Tw G A I J) (w_Tw G A I' J) sz r := by
  refine MTi.of (cc := cX5_together) (maxL := 7) (by decide +kernel) rfl (Nat.le_of_ble_eq_true rfl) (fun p e s m av below meth cd Q B H locs ls X hret hl hP hD hS => ?_)
  have hx := X.1.1
  have hb := X.1.2.1
  have hl : lv_has ls 7 [(0, .ref (A 0)), (1, .int x1), (2, .int x2), (3, .int x3)] := hl
  have b_34 : ∀ (I : Nat → CS) (H : Heap) (locs : List Loc) (ls : Array Slot), f_X5_together_34 I J = some (r, I') → va_P G.1 vwCl (w_Tw G A I J) H → va_D B (w_Tw G A I J) → va_S B s.heap H locs → lv_has ls 7 [] → W p l e r_X5_together s m av below meth cd H locs 0 0 Q (F0 m 34 ls []) := by
    intro I H locs ls hf hP hD hS hl
    unfold f_X5_together_34 at hf
    refine lv_iconst (pc := 34) (v := (-1 : Int32)) hx hb dX5_together_34 (by decide) ?_
    cases hf
    exact hret _ _ _ _ dX5_together_35 hP hD hS
  have l_46 : ∀ (n46 : Nat), ∀ (x1 : Int32) (x2 : Int32) (x3 : Int32) (x4 : Int32) (x5 : Int32) (x6 : Int32) (I : Nat → CS) (H : Heap) (locs : List Loc) (ls : Array Slot), f_X5_together_46 n46 x1 x2 x3 x4 x5 x6 I J = some (r, I') → va_P G.1 vwCl (w_Tw G A I J) H → va_D B (w_Tw G A I J) → va_S B s.heap H locs → lv_has ls 7 [(0, .ref (A 0)), (1, .int x1), (2, .int x2), (3, .int x3), (4, .int x4), (5, .int x5), (6, .int x6)] → W p l e r_X5_together s m av below meth cd H locs 0 0 Q (F0 m 46 ls []) := by
    intro n46
    induction n46 with
    | zero =>
      intro x1 x2 x3 x4 x5 x6 I H locs ls hf hP hD hS hl
      rw [f_X5_together_46] at hf
      cases hf
    | succ n46 ih46 =>
      have b_95 : ∀ (x1 : Int32) (x2 : Int32) (x3 : Int32) (x4 : Int32) (x5 : Int32) (x6 : Int32) (I : Nat → CS) (H : Heap) (locs : List Loc) (ls : Array Slot), f_X5_together_95 (f_X5_together_46 n46) x1 x2 x3 x4 x5 x6 I J = some (r, I') → va_P G.1 vwCl (w_Tw G A I J) H → va_D B (w_Tw G A I J) → va_S B s.heap H locs → lv_has ls 7 [(0, .ref (A 0)), (1, .int x1), (2, .int x2), (3, .int x3), (4, .int x4), (5, .int x5), (6, .int x6)] → W p l e r_X5_together s m av below meth cd H locs 0 0 Q (F0 m 95 ls []) := by
        intro x1 x2 x3 x4 x5 x6 I H locs ls hf hP hD hS hl
        unfold f_X5_together_95 at hf
        refine lv_iinc (pc := 95) (v := (x6 + (1 : Int32))) (lv' := [(6, .int (x6 + (1 : Int32))), (0, .ref (A 0)), (1, .int x1), (2, .int x2), (3, .int x3), (4, .int x4), (5, .int x5)]) hx hb dX5_together_95 hl (k := 6) rfl rfl (by decide) rfl (fun ls hl => ?_)
        refine lv_goto (pc := 98) (tgt := 46) hx hb dX5_together_98 (by decide) ?_
        exact ih46 _ _ _ _ _ _ _ H locs ls hf hP hD hS (lv_sub hl [1, 2, 3, 4, 5, 6, 0] rfl)
      have b_90 : ∀ (x1 : Int32) (x2 : Int32) (x3 : Int32) (x5 : Int32) (x6 : Int32) (t0 : Int32) (I : Nat → CS) (H : Heap) (locs : List Loc) (ls : Array Slot), f_X5_together_90 (f_X5_together_46 n46) x1 x2 x3 x5 x6 t0 I J = some (r, I') → va_P G.1 vwCl (w_Tw G A I J) H → va_D B (w_Tw G A I J) → va_S B s.heap H locs → lv_has ls 7 [(0, .ref (A 0)), (1, .int x1), (2, .int x2), (3, .int x3), (5, .int x5), (6, .int x6)] → W p l e r_X5_together s m av below meth cd H locs 0 0 Q (F0 m 90 ls [.int t0]) := by
        intro x1 x2 x3 x5 x6 t0 I H locs ls hf hP hD hS hl
        unfold f_X5_together_90 at hf
        refine lv_istore (pc := 90) (lv' := [(4, .int t0), (0, .ref (A 0)), (1, .int x1), (2, .int x2), (3, .int x3), (5, .int x5), (6, .int x6)]) hx hb dX5_together_90 hl (by decide) rfl (fun ls hl => ?_)
        refine lv_iinc (pc := 92) (v := (x5 + (1 : Int32))) (lv' := [(5, .int (x5 + (1 : Int32))), (4, .int t0), (0, .ref (A 0)), (1, .int x1), (2, .int x2), (3, .int x3), (6, .int x6)]) hx hb dX5_together_92 hl (k := 5) rfl rfl (by decide) rfl (fun ls hl => ?_)
        exact b_95 _ _ _ _ _ _ _ H locs ls hf hP hD hS (lv_sub hl [2, 3, 4, 5, 1, 0, 6] rfl)
      intro x1 x2 x3 x4 x5 x6 I H locs ls hf hP hD hS hl
      rw [f_X5_together_46] at hf
      refine lv_iload (pc := 46) hx hb dX5_together_46 (lv_at hl 6 rfl) ?_
      refine lv_bipush (pc := 48) (v := (20 : Int32)) hx hb dX5_together_48 (by decide) ?_
      refine lv_icmp_ge (pc := 50) (tgt := 101) hx hb dX5_together_50 (by decide) (fun h3 => ?_) (fun h3 => ?_)
      · have hf := br_y h3 hf
        refine lv_aload_n (pc := 101) hx hb dX5_together_101 rfl (lv_at hl 0 rfl) ?_
        refine wget (pc := 102) X (fun _ h9 => List.mem_cons_of_mem _ (List.mem_append_left _ (List.mem_append_left _ (List.mem_append_right _ h9)))) hP 0 (at_Tw_0 G A I J) rfl 2 (by decide) (List.mem_cons_of_mem _ (List.mem_append_left _ (List.mem_append_left _ (List.mem_append_left _ (List.mem_append_left _ (List.mem_of_getElem? (i := 1) rfl)))))) rfl (v := .ref (A 17)) rfl dX5_together_102 ?_
        refine lv_iload (pc := 105) hx hb dX5_together_105 (lv_at hl 4 rfl) ?_
        refine wputN (pc := 107) X (fun _ h9 => List.mem_cons_of_mem _ (List.mem_append_left _ (List.mem_append_right _ h9))) tyX4 tyX4_ok nmX4 hP hD hS 17 (at_Tw_17 G A I J) rfl 0 (by decide) (List.mem_of_getElem? (i := 0) rfl) rfl rfl (ty := .int) (v := .int x4) rfl rfl rfl (Nat.le_of_ble_eq_true rfl) (st_Tw_17_0 G A I J x4) dX5_together_107 (fun H locs hP hD hS => ?_)
        refine lv_iload (pc := 110) hx hb dX5_together_110 (lv_at hl 5 rfl) ?_
        cases hf
        exact hret _ _ _ _ dX5_together_112 hP hD hS
      · have hf := br_n h3 hf
        refine lv_aload_n (pc := 53) hx hb dX5_together_53 rfl (lv_at hl 0 rfl) ?_
        refine wget (pc := 54) X (fun _ h9 => List.mem_cons_of_mem _ (List.mem_append_left _ (List.mem_append_left _ (List.mem_append_right _ h9)))) hP 0 (at_Tw_0 G A I J) rfl 5 (by decide) (List.mem_cons_of_mem _ (List.mem_append_left _ (List.mem_append_left _ (List.mem_append_left _ (List.mem_append_left _ (List.mem_of_getElem? (i := 0) rfl)))))) rfl (v := .ref (A 31)) rfl dX5_together_54 ?_
        refine lv_iload_n (pc := 57) hx hb dX5_together_57 rfl (lv_at hl 1 rfl) ?_
        refine lv_iload (pc := 58) hx hb dX5_together_58 (lv_at hl 6 rfl) ?_
        refine lv_iload_n (pc := 60) hx hb dX5_together_60 rfl (lv_at hl 2 rfl) ?_
        obtain ⟨r1, c1, hc1, hf⟩ := ob2_some hf
        refine endi X.2.2.2.2 (runV (pc := 61) (As := [.int x1, .int x6, .int x2]) (rest := []) X (c_X0_done G l (fun k => A (31 + k)) H.size (I 0) x1 x6 x2 r1 c1 hc1) gX5_together_X0_done k_X0_done ⟨rfl, rfl⟩ ⟨Nat.le_of_ble_eq_true rfl, Nat.le_of_ble_eq_true rfl⟩ (em_Tw_Ch_31_c G A I J c1) hP hD hS (ci := 0) rfl rfl (at_Ch_0 G (fun k => A (31 + k)) (I 0)) rfl hl.1 rfl (Nat.le_of_ble_eq_true rfl) ⟨Nat.zero_le _, Nat.zero_le _⟩ dX5_together_61) (em_Tw_Ch_31_c G A I J c1) hP hD hS (fun H locs hP hD hS => ?_)
        refine lv_aload_n (pc := 64) hx hb dX5_together_64 rfl (lv_at hl 0 rfl) ?_
        refine wget (pc := 65) X (fun _ h9 => List.mem_cons_of_mem _ (List.mem_append_left _ (List.mem_append_left _ (List.mem_append_right _ h9)))) hP 0 (at_Tw_0 G A (gset I 0 c1) J) rfl 5 (by decide) (List.mem_cons_of_mem _ (List.mem_append_left _ (List.mem_append_left _ (List.mem_append_left _ (List.mem_append_left _ (List.mem_of_getElem? (i := 0) rfl)))))) rfl (v := .ref (A 31)) rfl dX5_together_65 ?_
        refine lv_iload_n (pc := 68) hx hb dX5_together_68 rfl (lv_at hl 1 rfl) ?_
        refine lv_iload (pc := 69) hx hb dX5_together_69 (lv_at hl 6 rfl) ?_
        refine lv_iload_n (pc := 71) hx hb dX5_together_71 rfl (lv_at hl 3 rfl) ?_
        obtain ⟨r2, c2, hc2, hf⟩ := ob2_some hf
        refine endi X.2.2.2.2 (runV (pc := 72) (As := [.int x1, .int x6, .int x3]) (rest := [.int r1]) X (c_X0_done G l (fun k => A (31 + k)) H.size c1 x1 x6 x3 r2 c2 hc2) gX5_together_X0_done k_X0_done ⟨rfl, rfl⟩ ⟨Nat.le_of_ble_eq_true rfl, Nat.le_of_ble_eq_true rfl⟩ (em_Tw_Ch_31_c G A (gset I 0 c1) J c2) hP hD hS (ci := 0) rfl rfl (at_Ch_0 G (fun k => A (31 + k)) c1) rfl hl.1 rfl (Nat.le_of_ble_eq_true rfl) ⟨Nat.zero_le _, Nat.zero_le _⟩ dX5_together_72) (em_Tw_Ch_31_c G A (gset I 0 c1) J c2) hP hD hS (fun H locs hP hD hS => ?_)
        refine lv_icmp_ne (pc := 75) (tgt := 95) hx hb dX5_together_75 (by decide) (fun h2 => ?_) (fun h2 => ?_)
        · have hf := br_n h2 hf
          exact b_95 _ _ _ _ _ _ _ H locs ls hf hP hD hS (lv_sub hl [0, 1, 2, 3, 4, 5, 6] rfl)
        · have hf := br_y h2 hf
          refine lv_iload (pc := 78) hx hb dX5_together_78 (lv_at hl 5 rfl) ?_
          refine lv_if_ne (pc := 80) (tgt := 88) hx hb dX5_together_80 (by decide) (fun h1 => ?_) (fun h1 => ?_)
          · have hf := br_n h1 hf
            refine lv_iload (pc := 88) hx hb dX5_together_88 (lv_at hl 4 rfl) ?_
            exact b_90 _ _ _ _ _ _ _ H locs ls hf hP hD hS (lv_sub hl [0, 1, 2, 3, 5, 6] rfl)
          · have hf := br_y h1 hf
            refine lv_iload (pc := 83) hx hb dX5_together_83 (lv_at hl 6 rfl) ?_
            refine lv_goto (pc := 85) (tgt := 90) hx hb dX5_together_85 (by decide) ?_
            exact b_90 _ _ _ _ _ _ _ H locs ls hf hP hD hS (lv_sub hl [0, 1, 2, 3, 5, 6] rfl)
  unfold f_X5_together at hf
  refine lv_iload_n (pc := 0) hx hb dX5_together_0 rfl (lv_at hl 1 rfl) ?_
  obtain ⟨r1, hc1, hf⟩ := ob1_some hf
  refine endi X.2.2.2.2 (runS (pc := 1) (As := [.int x1]) (rest := []) X (c_X5_isTown G l  H.size x1 r1 hc1) gX5_together_X5_isTown k_X5_isTown ⟨rfl, rfl⟩ ⟨Nat.le_of_ble_eq_true rfl, Nat.le_of_ble_eq_true rfl⟩ (EM.nil (w_Tw G A I J)) hP hD hS rfl hl.1 rfl (Nat.le_of_ble_eq_true rfl) ⟨Nat.zero_le _, Nat.zero_le _⟩ dX5_together_1) (EM.nil (w_Tw G A I J)) hP hD hS (fun H locs hP hD hS => ?_)
  refine lv_if_eq (pc := 4) (tgt := 34) hx hb dX5_together_4 (by decide) (fun h7 => ?_) (fun h7 => ?_)
  · have hf := br_y h7 hf
    exact b_34 _ H locs ls hf hP hD hS (lv_sub hl [] rfl)
  · have hf := br_n h7 hf
    refine lv_aload_n (pc := 7) hx hb dX5_together_7 rfl (lv_at hl 0 rfl) ?_
    refine wget (pc := 8) X (fun _ h9 => List.mem_cons_of_mem _ (List.mem_append_left _ (List.mem_append_left _ (List.mem_append_right _ h9)))) hP 0 (at_Tw_0 G A I J) rfl 5 (by decide) (List.mem_cons_of_mem _ (List.mem_append_left _ (List.mem_append_left _ (List.mem_append_left _ (List.mem_append_left _ (List.mem_of_getElem? (i := 0) rfl)))))) rfl (v := .ref (A 31)) rfl dX5_together_8 ?_
    refine lv_iload_n (pc := 11) hx hb dX5_together_11 rfl (lv_at hl 2 rfl) ?_
    obtain ⟨r2, hc2, hf⟩ := ob1_some hf
    refine endi X.2.2.2.2 (runV (pc := 12) (As := [.int x2]) (rest := []) X (c_X0_isPerson G l (fun k => A (31 + k)) H.size (I 0) x2 r2 hc2) gX5_together_X0_isPerson k_X0_isPerson ⟨rfl, rfl⟩ ⟨Nat.le_of_ble_eq_true rfl, Nat.le_of_ble_eq_true rfl⟩ (em_Tw_Ch_31 G A I J ) hP hD hS (ci := 0) rfl rfl (at_Ch_0 G (fun k => A (31 + k)) (I 0)) rfl hl.1 rfl (Nat.le_of_ble_eq_true rfl) ⟨Nat.zero_le _, Nat.zero_le _⟩ dX5_together_12) (em_Tw_Ch_31 G A I J ) hP hD hS (fun H locs hP hD hS => ?_)
    refine lv_if_eq (pc := 15) (tgt := 34) hx hb dX5_together_15 (by decide) (fun h6 => ?_) (fun h6 => ?_)
    · have hf := br_y h6 hf
      exact b_34 _ H locs ls hf hP hD hS (lv_sub hl [] rfl)
    · have hf := br_n h6 hf
      refine lv_aload_n (pc := 18) hx hb dX5_together_18 rfl (lv_at hl 0 rfl) ?_
      refine wget (pc := 19) X (fun _ h9 => List.mem_cons_of_mem _ (List.mem_append_left _ (List.mem_append_left _ (List.mem_append_right _ h9)))) hP 0 (at_Tw_0 G A I J) rfl 5 (by decide) (List.mem_cons_of_mem _ (List.mem_append_left _ (List.mem_append_left _ (List.mem_append_left _ (List.mem_append_left _ (List.mem_of_getElem? (i := 0) rfl)))))) rfl (v := .ref (A 31)) rfl dX5_together_19 ?_
      refine lv_iload_n (pc := 22) hx hb dX5_together_22 rfl (lv_at hl 3 rfl) ?_
      obtain ⟨r3, hc3, hf⟩ := ob1_some hf
      refine endi X.2.2.2.2 (runV (pc := 23) (As := [.int x3]) (rest := []) X (c_X0_isPerson G l (fun k => A (31 + k)) H.size (I 0) x3 r3 hc3) gX5_together_X0_isPerson k_X0_isPerson ⟨rfl, rfl⟩ ⟨Nat.le_of_ble_eq_true rfl, Nat.le_of_ble_eq_true rfl⟩ (em_Tw_Ch_31 G A I J ) hP hD hS (ci := 0) rfl rfl (at_Ch_0 G (fun k => A (31 + k)) (I 0)) rfl hl.1 rfl (Nat.le_of_ble_eq_true rfl) ⟨Nat.zero_le _, Nat.zero_le _⟩ dX5_together_23) (em_Tw_Ch_31 G A I J ) hP hD hS (fun H locs hP hD hS => ?_)
      refine lv_if_eq (pc := 26) (tgt := 34) hx hb dX5_together_26 (by decide) (fun h5 => ?_) (fun h5 => ?_)
      · have hf := br_y h5 hf
        exact b_34 _ H locs ls hf hP hD hS (lv_sub hl [] rfl)
      · have hf := br_n h5 hf
        refine lv_iload_n (pc := 29) hx hb dX5_together_29 rfl (lv_at hl 2 rfl) ?_
        refine lv_iload_n (pc := 30) hx hb dX5_together_30 rfl (lv_at hl 3 rfl) ?_
        refine lv_icmp_ne (pc := 31) (tgt := 36) hx hb dX5_together_31 (by decide) (fun h4 => ?_) (fun h4 => ?_)
        · have hf := br_n h4 hf
          refine lv_bipush (pc := 36) (v := (-9 : Int32)) hx hb dX5_together_36 (by decide) ?_
          refine lv_istore (pc := 38) (lv' := [(4, .int (-9 : Int32)), (0, .ref (A 0)), (1, .int x1), (2, .int x2), (3, .int x3)]) hx hb dX5_together_38 hl (by decide) rfl (fun ls hl => ?_)
          refine lv_iconst (pc := 40) (v := (0 : Int32)) hx hb dX5_together_40 (by decide) ?_
          refine lv_istore (pc := 41) (lv' := [(5, .int (0 : Int32)), (4, .int (-9 : Int32)), (0, .ref (A 0)), (1, .int x1), (2, .int x2), (3, .int x3)]) hx hb dX5_together_41 hl (by decide) rfl (fun ls hl => ?_)
          refine lv_iload_n (pc := 43) hx hb dX5_together_43 rfl (lv_at hl 3 rfl) ?_
          refine lv_istore (pc := 44) (lv' := [(6, .int x1), (5, .int (0 : Int32)), (4, .int (-9 : Int32)), (0, .ref (A 0)), (1, .int x1), (2, .int x2), (3, .int x3)]) hx hb dX5_together_44 hl (by decide) rfl (fun ls hl => ?_)
          exact l_46 FU _ _ _ _ _ _ _ H locs ls hf hP hD hS (lv_sub hl [3, 4, 5, 6, 2, 1, 0] rfl)
        · have hf := br_y h4 hf
          exact b_34 _ H locs ls hf hP hD hS (lv_sub hl [] rfl)
def r_X5_undo : Room := { frames := 1, cells := 0, slots := 0, locals := 21 }
set_option maxHeartbeats 4000000 in
set_option maxRecDepth 100000 in
theorem c_X5_undo (G : GT) (l : Launch) (A : Nat → Nat) (sz : Nat) (I : Nat → CS) (J : Nat → JS) (x1 : Int32) (r : Int32) (I' : Nat → CS) (hf : f_X5_undo I J x1 = some (r, I')) : MTi l yX5_undo wsX5_undo r_X5_undo [.ref (A 0), .int x1] G (w_Tw G A I J) (w_Tw G A I' J) sz r := by
  refine MTi.of (cc := cX5_undo) (maxL := 4) (by decide +kernel) rfl (Nat.le_of_ble_eq_true rfl) (fun p e s m av below meth cd Q B H locs ls X hret hl hP hD hS => ?_)
  have hx := X.1.1
  have hb := X.1.2.1
  have hl : lv_has ls 4 [(0, .ref (A 0)), (1, .int x1)] := hl
  have b_15 : ∀ (I : Nat → CS) (H : Heap) (locs : List Loc) (ls : Array Slot), f_X5_undo_15 I J = some (r, I') → va_P G.1 vwCl (w_Tw G A I J) H → va_D B (w_Tw G A I J) → va_S B s.heap H locs → lv_has ls 4 [] → W p l e r_X5_undo s m av below meth cd H locs 0 0 Q (F0 m 15 ls []) := by
    intro I H locs ls hf hP hD hS hl
    unfold f_X5_undo_15 at hf
    refine lv_iconst (pc := 15) (v := (-1 : Int32)) hx hb dX5_undo_15 (by decide) ?_
    cases hf
    exact hret _ _ _ _ dX5_undo_16 hP hD hS
  have l_29 : ∀ (n29 : Nat), ∀ (x2 : Int32) (x3 : Int32) (I : Nat → CS) (H : Heap) (locs : List Loc) (ls : Array Slot), f_X5_undo_29 n29 x2 x3 I J = some (r, I') → va_P G.1 vwCl (w_Tw G A I J) H → va_D B (w_Tw G A I J) → va_S B s.heap H locs → lv_has ls 4 [(0, .ref (A 0)), (2, .int x2), (3, .int x3)] → W p l e r_X5_undo s m av below meth cd H locs 0 0 Q (F0 m 29 ls []) := by
    intro n29
    induction n29 with
    | zero =>
      intro x2 x3 I H locs ls hf hP hD hS hl
      rw [f_X5_undo_29] at hf
      cases hf
    | succ n29 ih29 =>
      intro x2 x3 I H locs ls hf hP hD hS hl
      rw [f_X5_undo_29] at hf
      refine lv_iload_n (pc := 29) hx hb dX5_undo_29 rfl (lv_at hl 2 rfl) ?_
      refine lv_iload_n (pc := 30) hx hb dX5_undo_30 rfl (lv_at hl 1 rfl) ?_
      refine lv_icmp_ge (pc := 31) (tgt := 47) hx hb dX5_undo_31 (by decide) (fun h1 => ?_) (fun h1 => ?_)
      · have hf := br_y h1 hf
        refine lv_iload_n (pc := 47) hx hb dX5_undo_47 rfl (lv_at hl 1 rfl) ?_
        cases hf
        exact hret _ _ _ _ dX5_undo_48 hP hD hS
      · have hf := br_n h1 hf
        refine lv_aload_n (pc := 34) hx hb dX5_undo_34 rfl (lv_at hl 0 rfl) ?_
        refine wget (pc := 35) X (fun _ h9 => List.mem_cons_of_mem _ (List.mem_append_left _ (List.mem_append_right _ h9))) hP 0 (at_Tw_0 G A I J) rfl 5 (by decide) (List.mem_cons_of_mem _ (List.mem_append_left _ (List.mem_append_left _ (List.mem_of_getElem? (i := 0) rfl)))) rfl (v := .ref (A 31)) rfl dX5_undo_35 ?_
        obtain ⟨c1, hc1, hf⟩ := ob1_some hf
        refine endv X.2.2.2.2 (runV (pc := 38) (As := []) (rest := []) X (c_X0_turnBack G l (fun k => A (31 + k)) H.size (I 0) c1 hc1) gX5_undo_X0_turnBack k_X0_turnBack ⟨rfl, rfl⟩ ⟨Nat.le_of_ble_eq_true rfl, Nat.le_of_ble_eq_true rfl⟩ (em_Tw_Ch_31_c G A I J c1) hP hD hS (ci := 0) rfl rfl (at_Ch_0 G (fun k => A (31 + k)) (I 0)) rfl hl.1 rfl (Nat.le_of_ble_eq_true rfl) ⟨Nat.zero_le _, Nat.zero_le _⟩ dX5_undo_38) (em_Tw_Ch_31_c G A I J c1) hP hD hS (fun H locs hP hD hS => ?_)
        refine lv_iinc (pc := 41) (v := (x3 + (1 : Int32))) (lv' := [(3, .int (x3 + (1 : Int32))), (0, .ref (A 0)), (2, .int x2)]) hx hb dX5_undo_41 hl (k := 2) rfl rfl (by decide) rfl (fun ls hl => ?_)
        refine lv_goto (pc := 44) (tgt := 29) hx hb dX5_undo_44 (by decide) ?_
        exact ih29 _ _ _ H locs ls hf hP hD hS (lv_sub hl [1, 2, 0] rfl)
  unfold f_X5_undo at hf
  refine lv_iload_n (pc := 0) hx hb dX5_undo_0 rfl (lv_at hl 1 rfl) ?_
  refine lv_if_lt (pc := 1) (tgt := 15) hx hb dX5_undo_1 (by decide) (fun h3 => ?_) (fun h3 => ?_)
  · have hf := br_y h3 hf
    exact b_15 _ H locs ls hf hP hD hS (lv_sub hl [] rfl)
  · have hf := br_n h3 hf
    refine lv_iload_n (pc := 4) hx hb dX5_undo_4 rfl (lv_at hl 1 rfl) ?_
    refine lv_aload_n (pc := 5) hx hb dX5_undo_5 rfl (lv_at hl 0 rfl) ?_
    refine wget (pc := 6) X (fun _ h9 => List.mem_cons_of_mem _ (List.mem_append_left _ (List.mem_append_right _ h9))) hP 0 (at_Tw_0 G A I J) rfl 5 (by decide) (List.mem_cons_of_mem _ (List.mem_append_left _ (List.mem_append_left _ (List.mem_of_getElem? (i := 0) rfl)))) rfl (v := .ref (A 31)) rfl dX5_undo_6 ?_
    refine wgetN (pc := 9) X (fun _ h9 => List.mem_cons_of_mem _ (List.mem_append_right _ h9)) hP 31 (at_Tw_31 G A I J) rfl 4 (by decide) (List.mem_of_getElem? (i := 11) rfl) rfl (v := .int ((I 0) 4 0)) rfl dX5_undo_9 ?_
    refine lv_icmp_le (pc := 12) (tgt := 17) hx hb dX5_undo_12 (by decide) (fun h2 => ?_) (fun h2 => ?_)
    · have hf := br_y h2 hf
      refine lv_aload_n (pc := 17) hx hb dX5_undo_17 rfl (lv_at hl 0 rfl) ?_
      refine wget (pc := 18) X (fun _ h9 => List.mem_cons_of_mem _ (List.mem_append_left _ (List.mem_append_right _ h9))) hP 0 (at_Tw_0 G A I J) rfl 5 (by decide) (List.mem_cons_of_mem _ (List.mem_append_left _ (List.mem_append_left _ (List.mem_of_getElem? (i := 0) rfl)))) rfl (v := .ref (A 31)) rfl dX5_undo_18 ?_
      refine wgetN (pc := 21) X (fun _ h9 => List.mem_cons_of_mem _ (List.mem_append_right _ h9)) hP 31 (at_Tw_31 G A I J) rfl 4 (by decide) (List.mem_of_getElem? (i := 11) rfl) rfl (v := .int ((I 0) 4 0)) rfl dX5_undo_21 ?_
      refine lv_iload_n (pc := 24) hx hb dX5_undo_24 rfl (lv_at hl 1 rfl) ?_
      refine lv_isub (pc := 25) hx hb dX5_undo_25 ?_
      refine lv_istore_n (pc := 26) (lv' := [(2, .int (((I 0) 4 0) - x1)), (0, .ref (A 0)), (1, .int x1)]) hx hb dX5_undo_26 rfl hl (by decide) rfl (fun ls hl => ?_)
      refine lv_iconst (pc := 27) (v := (0 : Int32)) hx hb dX5_undo_27 (by decide) ?_
      refine lv_istore_n (pc := 28) (lv' := [(3, .int (0 : Int32)), (2, .int (((I 0) 4 0) - x1)), (0, .ref (A 0)), (1, .int x1)]) hx hb dX5_undo_28 rfl hl (by decide) rfl (fun ls hl => ?_)
      exact l_29 FU _ _ _ H locs ls hf hP hD hS (lv_sub hl [2, 1, 0] rfl)
    · have hf := br_n h2 hf
      exact b_15 _ H locs ls hf hP hD hS (lv_sub hl [] rfl)
def r_X5_upper : Room := { frames := 0, cells := 0, slots := 0, locals := 0 }
set_option maxHeartbeats 4000000 in
set_option maxRecDepth 100000 in
theorem c_X5_upper (G : GT) (l : Launch) (A : Nat → Nat) (sz : Nat) (I : Nat → CS) (J : Nat → JS) (r : Int64) (hf : f_X5_upper I J = some r) : MTl l yX5_upper wsX5_upper r_X5_upper [.ref (A 0)] G (w_Tw G A I J) (w_Tw G A I J) sz r := by
  refine MTl.of (cc := cX5_upper) (maxL := 1) (by decide +kernel) rfl (Nat.le_of_ble_eq_true rfl) (fun p e s m av below meth cd Q B H locs ls X hret hl hP hD hS => ?_)
  have hx := X.1.1
  have hb := X.1.2.1
  have hl : lv_has ls 1 [(0, .ref (A 0))] := hl
  unfold f_X5_upper at hf
  refine lv_aload_n (pc := 0) hx hb dX5_upper_0 rfl (lv_at hl 0 rfl) ?_
  refine wget (pc := 1) X (fun _ h9 => List.mem_cons_of_mem _ (List.mem_append_left _ (List.mem_append_right _ h9))) hP 0 (at_Tw_0 G A I J) rfl 2 (by decide) (List.mem_cons_of_mem _ (List.mem_append_left _ (List.mem_append_left _ (List.mem_of_getElem? (i := 0) rfl)))) rfl (v := .ref (A 17)) rfl dX5_upper_1 ?_
  refine wgetN (pc := 4) X (fun _ h9 => List.mem_cons_of_mem _ (List.mem_append_right _ h9)) hP 17 (at_Tw_17 G A I J) rfl 1 (by decide) (List.mem_of_getElem? (i := 1) rfl) rfl (v := .long ((J 0) 0)) rfl dX5_upper_4 ?_
  cases hf
  exact hret _ _ _ _ dX5_upper_7 hP hD hS
def r_X5_warn : Room := { frames := 4, cells := 0, slots := 0, locals := 99 }
set_option maxHeartbeats 4000000 in
set_option maxRecDepth 100000 in
theorem c_X5_warn (G : GT) (l : Launch) (A : Nat → Nat) (sz : Nat) (I : Nat → CS) (J : Nat → JS) (x1 : Int32) (x2 : Int32) (x3 : Int32) (x4 : Int32) (r : Int32) (I' : Nat → CS) (hf : f_X5_warn I J x1 x2 x3 x4 = some (r, I')) : MTi l yX5_warn wsX5_warn r_X5_warn [.ref (A 0), .int x1, .int x2, .int x3, .int x4] G (w_Tw G A I J) (w_Tw G A I' J) sz r := by
  refine MTi.of (cc := cX5_warn) (maxL := 7) (by decide +kernel) rfl (Nat.le_of_ble_eq_true rfl) (fun p e s m av below meth cd Q B H locs ls X hret hl hP hD hS => ?_)
  have hx := X.1.1
  have hb := X.1.2.1
  have hl : lv_has ls 7 [(0, .ref (A 0)), (1, .int x1), (2, .int x2), (3, .int x3), (4, .int x4)] := hl
  have b_38 : ∀ (I : Nat → CS) (H : Heap) (locs : List Loc) (ls : Array Slot), f_X5_warn_38 I J = some (r, I') → va_P G.1 vwCl (w_Tw G A I J) H → va_D B (w_Tw G A I J) → va_S B s.heap H locs → lv_has ls 7 [] → W p l e r_X5_warn s m av below meth cd H locs 0 0 Q (F0 m 38 ls []) := by
    intro I H locs ls hf hP hD hS hl
    unfold f_X5_warn_38 at hf
    refine lv_iconst (pc := 38) (v := (-1 : Int32)) hx hb dX5_warn_38 (by decide) ?_
    cases hf
    exact hret _ _ _ _ dX5_warn_39 hP hD hS
  have l_61 : ∀ (n61 : Nat), ∀ (x1 : Int32) (x2 : Int32) (x3 : Int32) (x4 : Int32) (x5 : Int32) (I : Nat → CS) (H : Heap) (locs : List Loc) (ls : Array Slot), f_X5_warn_61 n61 x1 x2 x3 x4 x5 I J = some (r, I') → va_P G.1 vwCl (w_Tw G A I J) H → va_D B (w_Tw G A I J) → va_S B s.heap H locs → lv_has ls 7 [(0, .ref (A 0)), (1, .int x1), (2, .int x2), (3, .int x3), (4, .int x4), (5, .int x5)] → W p l e r_X5_warn s m av below meth cd H locs 0 0 Q (F0 m 61 ls []) := by
    intro n61
    induction n61 with
    | zero =>
      intro x1 x2 x3 x4 x5 I H locs ls hf hP hD hS hl
      rw [f_X5_warn_61] at hf
      cases hf
    | succ n61 ih61 =>
      have b_116 : ∀ (x1 : Int32) (x2 : Int32) (x3 : Int32) (x4 : Int32) (x5 : Int32) (I : Nat → CS) (H : Heap) (locs : List Loc) (ls : Array Slot), f_X5_warn_116 (f_X5_warn_61 n61) x1 x2 x3 x4 x5 I J = some (r, I') → va_P G.1 vwCl (w_Tw G A I J) H → va_D B (w_Tw G A I J) → va_S B s.heap H locs → lv_has ls 7 [(0, .ref (A 0)), (1, .int x1), (2, .int x2), (3, .int x3), (4, .int x4), (5, .int x5)] → W p l e r_X5_warn s m av below meth cd H locs 0 0 Q (F0 m 116 ls []) := by
        intro x1 x2 x3 x4 x5 I H locs ls hf hP hD hS hl
        unfold f_X5_warn_116 at hf
        refine lv_iinc (pc := 116) (v := (x5 + (1 : Int32))) (lv' := [(5, .int (x5 + (1 : Int32))), (0, .ref (A 0)), (1, .int x1), (2, .int x2), (3, .int x3), (4, .int x4)]) hx hb dX5_warn_116 hl (k := 5) rfl rfl (by decide) rfl (fun ls hl => ?_)
        refine lv_goto (pc := 119) (tgt := 61) hx hb dX5_warn_119 (by decide) ?_
        exact ih61 _ _ _ _ _ _ H locs ls hf hP hD hS (lv_sub hl [1, 2, 3, 4, 5, 0] rfl)
      intro x1 x2 x3 x4 x5 I H locs ls hf hP hD hS hl
      rw [f_X5_warn_61] at hf
      refine lv_iload (pc := 61) hx hb dX5_warn_61 (lv_at hl 5 rfl) ?_
      refine lv_iload_n (pc := 63) hx hb dX5_warn_63 rfl (lv_at hl 1 rfl) ?_
      refine lv_icmp_gt (pc := 64) (tgt := 122) hx hb dX5_warn_64 (by decide) (fun h3 => ?_) (fun h3 => ?_)
      · have hf := br_y h3 hf
        refine lv_bipush (pc := 122) (v := (-9 : Int32)) hx hb dX5_warn_122 (by decide) ?_
        cases hf
        exact hret _ _ _ _ dX5_warn_124 hP hD hS
      · have hf := br_n h3 hf
        refine lv_iload_n (pc := 67) hx hb dX5_warn_67 rfl (lv_at hl 2 rfl) ?_
        refine lv_iload_n (pc := 68) hx hb dX5_warn_68 rfl (lv_at hl 1 rfl) ?_
        refine lv_isub (pc := 69) hx hb dX5_warn_69 ?_
        refine lv_iload (pc := 70) hx hb dX5_warn_70 (lv_at hl 5 rfl) ?_
        refine lv_iadd (pc := 72) hx hb dX5_warn_72 ?_
        refine lv_istore (pc := 73) (lv' := [(6, .int ((x2 - x1) + x5)), (0, .ref (A 0)), (1, .int x1), (2, .int x2), (3, .int x3), (4, .int x4), (5, .int x5)]) hx hb dX5_warn_73 hl (by decide) rfl (fun ls hl => ?_)
        refine lv_iload (pc := 75) hx hb dX5_warn_75 (lv_at hl 0 rfl) ?_
        refine lv_aload_n (pc := 77) hx hb dX5_warn_77 rfl (lv_at hl 1 rfl) ?_
        refine wget (pc := 78) X (fun _ h9 => List.mem_cons_of_mem _ (List.mem_append_left _ (List.mem_append_left _ (List.mem_append_right _ h9)))) hP 0 (at_Tw_0 G A I J) rfl 5 (by decide) (List.mem_cons_of_mem _ (List.mem_append_left _ (List.mem_append_left _ (List.mem_append_left _ (List.mem_append_left _ (List.mem_of_getElem? (i := 0) rfl)))))) rfl (v := .ref (A 31)) rfl dX5_warn_78 ?_
        refine wgetN (pc := 81) X (fun _ h9 => List.mem_cons_of_mem _ (List.mem_append_left _ (List.mem_append_right _ h9))) hP 31 (at_Tw_31 G A I J) rfl 3 (by decide) (List.mem_of_getElem? (i := 10) rfl) rfl (v := .int ((I 0) 3 0)) rfl dX5_warn_81 ?_
        refine lv_icmp_lt (pc := 84) (tgt := 116) hx hb dX5_warn_84 (by decide) (fun h2 => ?_) (fun h2 => ?_)
        · have hf := br_y h2 hf
          exact b_116 _ _ _ _ _ _ H locs ls hf hP hD hS (lv_sub hl [1, 2, 3, 4, 5, 6] rfl)
        · have hf := br_n h2 hf
          refine lv_aload_n (pc := 87) hx hb dX5_warn_87 rfl (lv_at hl 1 rfl) ?_
          refine wget (pc := 88) X (fun _ h9 => List.mem_cons_of_mem _ (List.mem_append_left _ (List.mem_append_left _ (List.mem_append_right _ h9)))) hP 0 (at_Tw_0 G A I J) rfl 5 (by decide) (List.mem_cons_of_mem _ (List.mem_append_left _ (List.mem_append_left _ (List.mem_append_left _ (List.mem_append_left _ (List.mem_of_getElem? (i := 0) rfl)))))) rfl (v := .ref (A 31)) rfl dX5_warn_88 ?_
          refine lv_iload_n (pc := 91) hx hb dX5_warn_91 rfl (lv_at hl 2 rfl) ?_
          refine lv_iload_n (pc := 92) hx hb dX5_warn_92 rfl (lv_at hl 3 rfl) ?_
          refine lv_iload_n (pc := 93) hx hb dX5_warn_93 rfl (lv_at hl 4 rfl) ?_
          refine lv_iload (pc := 94) hx hb dX5_warn_94 (lv_at hl 6 rfl) ?_
          obtain ⟨r1, c1, hc1, hf⟩ := ob2_some hf
          refine endi X.2.2.2.2 (runV (pc := 96) (As := [.int x1, .int x2, .int x3, .int x5]) (rest := []) X (c_X0_doneIfWarned G l (fun k => A (31 + k)) H.size (I 0) x1 x2 x3 x5 r1 c1 hc1) gX5_warn_X0_doneIfWarned k_X0_doneIfWarned ⟨rfl, rfl⟩ ⟨Nat.le_of_ble_eq_true rfl, Nat.le_of_ble_eq_true rfl⟩ (em_Tw_Ch_31_c G A I J c1) hP hD hS (ci := 0) rfl rfl (at_Ch_0 G (fun k => A (31 + k)) (I 0)) rfl hl.1 rfl (Nat.le_of_ble_eq_true rfl) ⟨Nat.zero_le _, Nat.zero_le _⟩ dX5_warn_96) (em_Tw_Ch_31_c G A I J c1) hP hD hS (fun H locs hP hD hS => ?_)
          refine lv_iload (pc := 99) hx hb dX5_warn_99 (lv_at hl 5 rfl) ?_
          refine lv_icmp_eq (pc := 101) (tgt := 116) hx hb dX5_warn_101 (by decide) (fun h1 => ?_) (fun h1 => ?_)
          · have hf := br_y h1 hf
            exact b_116 _ _ _ _ _ _ H locs ls hf hP hD hS (lv_sub hl [1, 2, 3, 4, 5, 6] rfl)
          · have hf := br_n h1 hf
            refine lv_aload_n (pc := 104) hx hb dX5_warn_104 rfl (lv_at hl 1 rfl) ?_
            refine wget (pc := 105) X (fun _ h9 => List.mem_cons_of_mem _ (List.mem_append_left _ (List.mem_append_left _ (List.mem_append_right _ h9)))) hP 0 (at_Tw_0 G A (gset I 0 c1) J) rfl 2 (by decide) (List.mem_cons_of_mem _ (List.mem_append_left _ (List.mem_append_left _ (List.mem_append_left _ (List.mem_append_left _ (List.mem_of_getElem? (i := 1) rfl)))))) rfl (v := .ref (A 17)) rfl dX5_warn_105 ?_
            refine lv_iload (pc := 108) hx hb dX5_warn_108 (lv_at hl 6 rfl) ?_
            refine wputN (pc := 110) X (fun _ h9 => List.mem_cons_of_mem _ (List.mem_append_right _ h9)) tyX4 tyX4_ok nmX4 hP hD hS 17 (at_Tw_17 G A (gset I 0 c1) J) rfl 0 (by decide) (List.mem_of_getElem? (i := 0) rfl) rfl rfl (ty := .int) (v := .int x5) rfl rfl rfl (Nat.le_of_ble_eq_true rfl) (st_Tw_17_0 G A (gset I 0 c1) J x5) dX5_warn_110 (fun H locs hP hD hS => ?_)
            refine lv_iload (pc := 113) hx hb dX5_warn_113 (lv_at hl 0 rfl) ?_
            cases hf
            exact hret _ _ _ _ dX5_warn_115 hP hD hS
  unfold f_X5_warn at hf
  refine lv_iload_n (pc := 0) hx hb dX5_warn_0 rfl (lv_at hl 1 rfl) ?_
  obtain ⟨r1, hc1, hf⟩ := ob1_some hf
  refine endi X.2.2.2.2 (runS (pc := 1) (As := [.int x1]) (rest := []) X (c_X5_isTown G l  H.size x1 r1 hc1) gX5_warn_X5_isTown k_X5_isTown ⟨rfl, rfl⟩ ⟨Nat.le_of_ble_eq_true rfl, Nat.le_of_ble_eq_true rfl⟩ (EM.nil (w_Tw G A I J)) hP hD hS rfl hl.1 rfl (Nat.le_of_ble_eq_true rfl) ⟨Nat.zero_le _, Nat.zero_le _⟩ dX5_warn_1) (EM.nil (w_Tw G A I J)) hP hD hS (fun H locs hP hD hS => ?_)
  refine lv_if_eq (pc := 4) (tgt := 38) hx hb dX5_warn_4 (by decide) (fun h9 => ?_) (fun h9 => ?_)
  · have hf := br_y h9 hf
    exact b_38 _ H locs ls hf hP hD hS (lv_sub hl [] rfl)
  · have hf := br_n h9 hf
    refine lv_iload_n (pc := 7) hx hb dX5_warn_7 rfl (lv_at hl 1 rfl) ?_
    refine lv_iconst (pc := 8) (v := (1 : Int32)) hx hb dX5_warn_8 (by decide) ?_
    refine lv_icmp_lt (pc := 9) (tgt := 38) hx hb dX5_warn_9 (by decide) (fun h8 => ?_) (fun h8 => ?_)
    · have hf := br_y h8 hf
      exact b_38 _ H locs ls hf hP hD hS (lv_sub hl [] rfl)
    · have hf := br_n h8 hf
      refine lv_iload_n (pc := 12) hx hb dX5_warn_12 rfl (lv_at hl 2 rfl) ?_
      obtain ⟨r2, hc2, hf⟩ := ob1_some hf
      refine endi X.2.2.2.2 (runS (pc := 13) (As := [.int x2]) (rest := []) X (c_X5_isDay G l  H.size x2 r2 hc2) gX5_warn_X5_isDay k_X5_isDay ⟨rfl, rfl⟩ ⟨Nat.le_of_ble_eq_true rfl, Nat.le_of_ble_eq_true rfl⟩ (EM.nil (w_Tw G A I J)) hP hD hS rfl hl.1 rfl (Nat.le_of_ble_eq_true rfl) ⟨Nat.zero_le _, Nat.zero_le _⟩ dX5_warn_13) (EM.nil (w_Tw G A I J)) hP hD hS (fun H locs hP hD hS => ?_)
      refine lv_if_eq (pc := 16) (tgt := 38) hx hb dX5_warn_16 (by decide) (fun h7 => ?_) (fun h7 => ?_)
      · have hf := br_y h7 hf
        exact b_38 _ H locs ls hf hP hD hS (lv_sub hl [] rfl)
      · have hf := br_n h7 hf
        refine lv_aload_n (pc := 19) hx hb dX5_warn_19 rfl (lv_at hl 0 rfl) ?_
        refine wget (pc := 20) X (fun _ h9 => List.mem_cons_of_mem _ (List.mem_append_left _ (List.mem_append_left _ (List.mem_append_right _ h9)))) hP 0 (at_Tw_0 G A I J) rfl 5 (by decide) (List.mem_cons_of_mem _ (List.mem_append_left _ (List.mem_append_left _ (List.mem_append_left _ (List.mem_append_left _ (List.mem_of_getElem? (i := 0) rfl)))))) rfl (v := .ref (A 31)) rfl dX5_warn_20 ?_
        refine lv_iload_n (pc := 23) hx hb dX5_warn_23 rfl (lv_at hl 3 rfl) ?_
        obtain ⟨r3, hc3, hf⟩ := ob1_some hf
        refine endi X.2.2.2.2 (runV (pc := 24) (As := [.int x3]) (rest := []) X (c_X0_isPerson G l (fun k => A (31 + k)) H.size (I 0) x3 r3 hc3) gX5_warn_X0_isPerson k_X0_isPerson ⟨rfl, rfl⟩ ⟨Nat.le_of_ble_eq_true rfl, Nat.le_of_ble_eq_true rfl⟩ (em_Tw_Ch_31 G A I J ) hP hD hS (ci := 0) rfl rfl (at_Ch_0 G (fun k => A (31 + k)) (I 0)) rfl hl.1 rfl (Nat.le_of_ble_eq_true rfl) ⟨Nat.zero_le _, Nat.zero_le _⟩ dX5_warn_24) (em_Tw_Ch_31 G A I J ) hP hD hS (fun H locs hP hD hS => ?_)
        refine lv_if_eq (pc := 27) (tgt := 38) hx hb dX5_warn_27 (by decide) (fun h6 => ?_) (fun h6 => ?_)
        · have hf := br_y h6 hf
          exact b_38 _ H locs ls hf hP hD hS (lv_sub hl [] rfl)
        · have hf := br_n h6 hf
          refine lv_iload (pc := 30) hx hb dX5_warn_30 (lv_at hl 4 rfl) ?_
          obtain ⟨r4, hc4, hf⟩ := ob1_some hf
          refine endi X.2.2.2.2 (runS (pc := 32) (As := [.int x4]) (rest := []) X (c_X5_isDeed G l  H.size x4 r4 hc4) gX5_warn_X5_isDeed k_X5_isDeed ⟨rfl, rfl⟩ ⟨Nat.le_of_ble_eq_true rfl, Nat.le_of_ble_eq_true rfl⟩ (EM.nil (w_Tw G A I J)) hP hD hS rfl hl.1 rfl (Nat.le_of_ble_eq_true rfl) ⟨Nat.zero_le _, Nat.zero_le _⟩ dX5_warn_32) (EM.nil (w_Tw G A I J)) hP hD hS (fun H locs hP hD hS => ?_)
          refine lv_if_ne (pc := 35) (tgt := 40) hx hb dX5_warn_35 (by decide) (fun h5 => ?_) (fun h5 => ?_)
          · have hf := br_n h5 hf
            refine lv_aload_n (pc := 40) hx hb dX5_warn_40 rfl (lv_at hl 0 rfl) ?_
            refine wget (pc := 41) X (fun _ h9 => List.mem_cons_of_mem _ (List.mem_append_left _ (List.mem_append_left _ (List.mem_append_right _ h9)))) hP 0 (at_Tw_0 G A I J) rfl 5 (by decide) (List.mem_cons_of_mem _ (List.mem_append_left _ (List.mem_append_left _ (List.mem_append_left _ (List.mem_append_left _ (List.mem_of_getElem? (i := 0) rfl)))))) rfl (v := .ref (A 31)) rfl dX5_warn_41 ?_
            refine lv_iload_n (pc := 44) hx hb dX5_warn_44 rfl (lv_at hl 1 rfl) ?_
            refine lv_iload_n (pc := 45) hx hb dX5_warn_45 rfl (lv_at hl 2 rfl) ?_
            refine lv_iload_n (pc := 46) hx hb dX5_warn_46 rfl (lv_at hl 3 rfl) ?_
            obtain ⟨r5, c5, hc5, hf⟩ := ob2_some hf
            refine endi X.2.2.2.2 (runV (pc := 47) (As := [.int x1, .int x2, .int x3]) (rest := []) X (c_X0_done G l (fun k => A (31 + k)) H.size (I 0) x1 x2 x3 r5 c5 hc5) gX5_warn_X0_done k_X0_done ⟨rfl, rfl⟩ ⟨Nat.le_of_ble_eq_true rfl, Nat.le_of_ble_eq_true rfl⟩ (em_Tw_Ch_31_c G A I J c5) hP hD hS (ci := 0) rfl rfl (at_Ch_0 G (fun k => A (31 + k)) (I 0)) rfl hl.1 rfl (Nat.le_of_ble_eq_true rfl) ⟨Nat.zero_le _, Nat.zero_le _⟩ dX5_warn_47) (em_Tw_Ch_31_c G A I J c5) hP hD hS (fun H locs hP hD hS => ?_)
            refine lv_iload (pc := 50) hx hb dX5_warn_50 (lv_at hl 4 rfl) ?_
            refine lv_icmp_eq (pc := 52) (tgt := 58) hx hb dX5_warn_52 (by decide) (fun h4 => ?_) (fun h4 => ?_)
            · have hf := br_y h4 hf
              refine lv_iconst (pc := 58) (v := (1 : Int32)) hx hb dX5_warn_58 (by decide) ?_
              refine lv_istore (pc := 59) (lv' := [(5, .int (1 : Int32)), (0, .ref (A 0)), (1, .int x1), (2, .int x2), (3, .int x3), (4, .int x4)]) hx hb dX5_warn_59 hl (by decide) rfl (fun ls hl => ?_)
              exact l_61 FU _ _ _ _ _ _ H locs ls hf hP hD hS (lv_sub hl [1, 2, 3, 4, 5, 0] rfl)
            · have hf := br_n h4 hf
              refine lv_bipush (pc := 55) (v := (-9 : Int32)) hx hb dX5_warn_55 (by decide) ?_
              cases hf
              exact hret _ _ _ _ dX5_warn_57 hP hD hS
          · have hf := br_y h5 hf
            exact b_38 _ H locs ls hf hP hD hS (lv_sub hl [] rfl)
def r_X5_worst : Room := { frames := 5, cells := 0, slots := 0, locals := 126 }
set_option maxHeartbeats 4000000 in
set_option maxRecDepth 100000 in
theorem c_X5_worst (G : GT) (l : Launch) (A : Nat → Nat) (sz : Nat) (I : Nat → CS) (J : Nat → JS) (x1 : Int32) (r : Int32) (I' : Nat → CS) (hf : f_X5_worst I J x1 = some (r, I')) : MTi l yX5_worst wsX5_worst r_X5_worst [.ref (A 0), .int x1] G (w_Tw G A I J) (w_Tw G A I' J) sz r := by
  refine MTi.of (cc := cX5_worst) (maxL := 6) (by decide +kernel) rfl (Nat.le_of_ble_eq_true rfl) (fun p e s m av below meth cd Q B H locs ls X hret hl hP hD hS => ?_)
  have hx := X.1.1
  have hb := X.1.2.1
  have hl : lv_has ls 6 [(0, .ref (A 0)), (1, .int x1)] := hl
  have b_12 : ∀ (I : Nat → CS) (H : Heap) (locs : List Loc) (ls : Array Slot), f_X5_worst_12 I J = some (r, I') → va_P G.1 vwCl (w_Tw G A I J) H → va_D B (w_Tw G A I J) → va_S B s.heap H locs → lv_has ls 6 [] → W p l e r_X5_worst s m av below meth cd H locs 0 0 Q (F0 m 12 ls []) := by
    intro I H locs ls hf hP hD hS hl
    unfold f_X5_worst_12 at hf
    refine lv_iconst (pc := 12) (v := (-1 : Int32)) hx hb dX5_worst_12 (by decide) ?_
    cases hf
    exact hret _ _ _ _ dX5_worst_13 hP hD hS
  have l_34 : ∀ (n34 : Nat), ∀ (x1 : Int32) (x2 : Int32) (x3 : Int32) (x4 : Int32) (I : Nat → CS) (H : Heap) (locs : List Loc) (ls : Array Slot), f_X5_worst_34 n34 x1 x2 x3 x4 I J = some (r, I') → va_P G.1 vwCl (w_Tw G A I J) H → va_D B (w_Tw G A I J) → va_S B s.heap H locs → lv_has ls 6 [(0, .ref (A 0)), (1, .int x1), (2, .int x2), (3, .int x3), (4, .int x4)] → W p l e r_X5_worst s m av below meth cd H locs 0 0 Q (F0 m 34 ls []) := by
    intro n34
    induction n34 with
    | zero =>
      intro x1 x2 x3 x4 I H locs ls hf hP hD hS hl
      rw [f_X5_worst_34] at hf
      cases hf
    | succ n34 ih34 =>
      have b_71 : ∀ (x1 : Int32) (x2 : Int32) (x3 : Int32) (x4 : Int32) (I : Nat → CS) (H : Heap) (locs : List Loc) (ls : Array Slot), f_X5_worst_71 (f_X5_worst_34 n34) x1 x2 x3 x4 I J = some (r, I') → va_P G.1 vwCl (w_Tw G A I J) H → va_D B (w_Tw G A I J) → va_S B s.heap H locs → lv_has ls 6 [(0, .ref (A 0)), (1, .int x1), (2, .int x2), (3, .int x3), (4, .int x4)] → W p l e r_X5_worst s m av below meth cd H locs 0 0 Q (F0 m 71 ls []) := by
        intro x1 x2 x3 x4 I H locs ls hf hP hD hS hl
        unfold f_X5_worst_71 at hf
        refine lv_iinc (pc := 71) (v := (x4 + (1 : Int32))) (lv' := [(4, .int (x4 + (1 : Int32))), (0, .ref (A 0)), (1, .int x1), (2, .int x2), (3, .int x3)]) hx hb dX5_worst_71 hl (k := 4) rfl rfl (by decide) rfl (fun ls hl => ?_)
        refine lv_goto (pc := 74) (tgt := 34) hx hb dX5_worst_74 (by decide) ?_
        exact ih34 _ _ _ _ _ H locs ls hf hP hD hS (lv_sub hl [1, 2, 3, 4, 0] rfl)
      intro x1 x2 x3 x4 I H locs ls hf hP hD hS hl
      rw [f_X5_worst_34] at hf
      refine lv_iload (pc := 34) hx hb dX5_worst_34 (lv_at hl 4 rfl) ?_
      refine lv_iconst (pc := 36) (v := (5 : Int32)) hx hb dX5_worst_36 (by decide) ?_
      refine lv_icmp_ge (pc := 37) (tgt := 77) hx hb dX5_worst_37 (by decide) (fun h2 => ?_) (fun h2 => ?_)
      · have hf := br_y h2 hf
        refine lv_aload_n (pc := 77) hx hb dX5_worst_77 rfl (lv_at hl 0 rfl) ?_
        refine wget (pc := 78) X (fun _ h9 => List.mem_cons_of_mem _ (List.mem_append_left _ (List.mem_append_left _ (List.mem_append_right _ h9)))) hP 0 (at_Tw_0 G A I J) rfl 2 (by decide) (List.mem_cons_of_mem _ (List.mem_append_left _ (List.mem_append_left _ (List.mem_append_left _ (List.mem_append_left _ (List.mem_of_getElem? (i := 1) rfl)))))) rfl (v := .ref (A 17)) rfl dX5_worst_78 ?_
        refine lv_iload_n (pc := 81) hx hb dX5_worst_81 rfl (lv_at hl 3 rfl) ?_
        refine wputN (pc := 82) X (fun _ h9 => List.mem_cons_of_mem _ (List.mem_append_right _ h9)) tyX4 tyX4_ok nmX4 hP hD hS 17 (at_Tw_17 G A I J) rfl 0 (by decide) (List.mem_of_getElem? (i := 0) rfl) rfl rfl (ty := .int) (v := .int x3) rfl rfl rfl (Nat.le_of_ble_eq_true rfl) (st_Tw_17_0 G A I J x3) dX5_worst_82 (fun H locs hP hD hS => ?_)
        refine lv_iload_n (pc := 85) hx hb dX5_worst_85 rfl (lv_at hl 2 rfl) ?_
        cases hf
        exact hret _ _ _ _ dX5_worst_86 hP hD hS
      · have hf := br_n h2 hf
        refine lv_aload_n (pc := 40) hx hb dX5_worst_40 rfl (lv_at hl 0 rfl) ?_
        refine wget (pc := 41) X (fun _ h9 => List.mem_cons_of_mem _ (List.mem_append_left _ (List.mem_append_left _ (List.mem_append_right _ h9)))) hP 0 (at_Tw_0 G A I J) rfl 5 (by decide) (List.mem_cons_of_mem _ (List.mem_append_left _ (List.mem_append_left _ (List.mem_append_left _ (List.mem_append_left _ (List.mem_of_getElem? (i := 0) rfl)))))) rfl (v := .ref (A 31)) rfl dX5_worst_41 ?_
        refine lv_iload (pc := 44) hx hb dX5_worst_44 (lv_at hl 4 rfl) ?_
        refine lv_iconst (pc := 46) (v := (1 : Int32)) hx hb dX5_worst_46 (by decide) ?_
        refine lv_isub (pc := 47) hx hb dX5_worst_47 ?_
        refine lv_iload (pc := 48) hx hb dX5_worst_48 (lv_at hl 4 rfl) ?_
        refine lv_iload_n (pc := 50) hx hb dX5_worst_50 rfl (lv_at hl 1 rfl) ?_
        obtain ⟨r1, c1, hc1, hf⟩ := ob2_some hf
        refine endi X.2.2.2.2 (runV (pc := 51) (As := [.int (x4 - (1 : Int32)), .int x4, .int x1]) (rest := []) X (c_X0_differing G l (fun k => A (31 + k)) H.size (I 0) (x4 - (1 : Int32)) x4 x1 r1 c1 hc1) gX5_worst_X0_differing k_X0_differing ⟨rfl, rfl⟩ ⟨Nat.le_of_ble_eq_true rfl, Nat.le_of_ble_eq_true rfl⟩ (em_Tw_Ch_31_c G A I J c1) hP hD hS (ci := 0) rfl rfl (at_Ch_0 G (fun k => A (31 + k)) (I 0)) rfl hl.1 rfl (Nat.le_of_ble_eq_true rfl) ⟨Nat.zero_le _, Nat.zero_le _⟩ dX5_worst_51) (em_Tw_Ch_31_c G A I J c1) hP hD hS (fun H locs hP hD hS => ?_)
        obtain ⟨r2, hc2, hf⟩ := ob1_some hf
        refine endi X.2.2.2.2 (runS (pc := 54) (As := [.int r1]) (rest := []) X (c_J6_bitCount_0f7a4 G l  H.size r1 r2 hc2) gX5_worst_J6_bitCount_0f7a4 k_J6_bitCount_0f7a4 ⟨rfl, rfl⟩ ⟨Nat.le_of_ble_eq_true rfl, Nat.le_of_ble_eq_true rfl⟩ (EM.nil (w_Tw G A (gset I 0 c1) J)) hP hD hS rfl hl.1 rfl (Nat.le_of_ble_eq_true rfl) ⟨Nat.zero_le _, Nat.zero_le _⟩ dX5_worst_54) (EM.nil (w_Tw G A (gset I 0 c1) J)) hP hD hS (fun H locs hP hD hS => ?_)
        refine lv_istore (pc := 57) (lv' := [(5, .int r2), (0, .ref (A 0)), (1, .int x1), (2, .int x2), (3, .int x3), (4, .int x4)]) hx hb dX5_worst_57 hl (by decide) rfl (fun ls hl => ?_)
        refine lv_iload (pc := 59) hx hb dX5_worst_59 (lv_at hl 0 rfl) ?_
        refine lv_iload_n (pc := 61) hx hb dX5_worst_61 rfl (lv_at hl 4 rfl) ?_
        refine lv_icmp_le (pc := 62) (tgt := 71) hx hb dX5_worst_62 (by decide) (fun h1 => ?_) (fun h1 => ?_)
        · have hf := br_y h1 hf
          exact b_71 _ _ _ _ _ H locs ls hf hP hD hS (lv_sub hl [1, 2, 3, 4, 5] rfl)
        · have hf := br_n h1 hf
          refine lv_iload (pc := 65) hx hb dX5_worst_65 (lv_at hl 5 rfl) ?_
          refine lv_istore_n (pc := 67) (lv' := [(2, .int x4), (5, .int r2), (0, .ref (A 0)), (1, .int x1), (3, .int x3), (4, .int x4)]) hx hb dX5_worst_67 rfl hl (by decide) rfl (fun ls hl => ?_)
          refine lv_iload (pc := 68) hx hb dX5_worst_68 (lv_at hl 1 rfl) ?_
          refine lv_istore_n (pc := 70) (lv' := [(3, .int r2), (2, .int x4), (5, .int r2), (0, .ref (A 0)), (1, .int x1), (4, .int x4)]) hx hb dX5_worst_70 rfl hl (by decide) rfl (fun ls hl => ?_)
          exact b_71 _ _ _ _ _ H locs ls hf hP hD hS (lv_sub hl [3, 4, 1, 0, 5] rfl)
  unfold f_X5_worst at hf
  refine lv_iload_n (pc := 0) hx hb dX5_worst_0 rfl (lv_at hl 1 rfl) ?_
  obtain ⟨r1, hc1, hf⟩ := ob1_some hf
  refine endi X.2.2.2.2 (runS (pc := 1) (As := [.int x1]) (rest := []) X (c_X5_isDay G l  H.size x1 r1 hc1) gX5_worst_X5_isDay k_X5_isDay ⟨rfl, rfl⟩ ⟨Nat.le_of_ble_eq_true rfl, Nat.le_of_ble_eq_true rfl⟩ (EM.nil (w_Tw G A I J)) hP hD hS rfl hl.1 rfl (Nat.le_of_ble_eq_true rfl) ⟨Nat.zero_le _, Nat.zero_le _⟩ dX5_worst_1) (EM.nil (w_Tw G A I J)) hP hD hS (fun H locs hP hD hS => ?_)
  refine lv_if_eq (pc := 4) (tgt := 12) hx hb dX5_worst_4 (by decide) (fun h5 => ?_) (fun h5 => ?_)
  · have hf := br_y h5 hf
    exact b_12 _ H locs ls hf hP hD hS (lv_sub hl [] rfl)
  · have hf := br_n h5 hf
    refine lv_iload_n (pc := 7) hx hb dX5_worst_7 rfl (lv_at hl 1 rfl) ?_
    refine lv_iconst (pc := 8) (v := (4 : Int32)) hx hb dX5_worst_8 (by decide) ?_
    refine lv_icmp_ge (pc := 9) (tgt := 14) hx hb dX5_worst_9 (by decide) (fun h4 => ?_) (fun h4 => ?_)
    · have hf := br_y h4 hf
      refine lv_aload_n (pc := 14) hx hb dX5_worst_14 rfl (lv_at hl 0 rfl) ?_
      refine wget (pc := 15) X (fun _ h9 => List.mem_cons_of_mem _ (List.mem_append_left _ (List.mem_append_left _ (List.mem_append_right _ h9)))) hP 0 (at_Tw_0 G A I J) rfl 5 (by decide) (List.mem_cons_of_mem _ (List.mem_append_left _ (List.mem_append_left _ (List.mem_append_left _ (List.mem_append_left _ (List.mem_of_getElem? (i := 0) rfl)))))) rfl (v := .ref (A 31)) rfl dX5_worst_15 ?_
      refine wgetN (pc := 18) X (fun _ h9 => List.mem_cons_of_mem _ (List.mem_append_left _ (List.mem_append_right _ h9))) hP 31 (at_Tw_31 G A I J) rfl 0 (by decide) (List.mem_of_getElem? (i := 6) rfl) rfl (v := .int ((I 0) 0 0)) rfl dX5_worst_18 ?_
      refine lv_if_ne (pc := 21) (tgt := 27) hx hb dX5_worst_21 (by decide) (fun h3 => ?_) (fun h3 => ?_)
      · have hf := br_n h3 hf
        refine lv_iconst (pc := 27) (v := (0 : Int32)) hx hb dX5_worst_27 (by decide) ?_
        refine lv_istore_n (pc := 28) (lv' := [(2, .int (0 : Int32)), (0, .ref (A 0)), (1, .int x1)]) hx hb dX5_worst_28 rfl hl (by decide) rfl (fun ls hl => ?_)
        refine lv_iconst (pc := 29) (v := (-1 : Int32)) hx hb dX5_worst_29 (by decide) ?_
        refine lv_istore_n (pc := 30) (lv' := [(3, .int (-1 : Int32)), (2, .int (0 : Int32)), (0, .ref (A 0)), (1, .int x1)]) hx hb dX5_worst_30 rfl hl (by decide) rfl (fun ls hl => ?_)
        refine lv_iconst (pc := 31) (v := (1 : Int32)) hx hb dX5_worst_31 (by decide) ?_
        refine lv_istore (pc := 32) (lv' := [(4, .int (1 : Int32)), (3, .int (-1 : Int32)), (2, .int (0 : Int32)), (0, .ref (A 0)), (1, .int x1)]) hx hb dX5_worst_32 hl (by decide) rfl (fun ls hl => ?_)
        exact l_34 FU _ _ _ _ _ H locs ls hf hP hD hS (lv_sub hl [3, 4, 2, 1, 0] rfl)
      · have hf := br_y h3 hf
        refine lv_bipush (pc := 24) (v := (-4 : Int32)) hx hb dX5_worst_24 (by decide) ?_
        cases hf
        exact hret _ _ _ _ dX5_worst_26 hP hD hS
    · have hf := br_n h4 hf
      exact b_12 _ H locs ls hf hP hD hS (lv_sub hl [] rfl)
