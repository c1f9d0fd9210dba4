def r_X5_agree : Room := { frames := 5, cells := 0, slots := 0, locals := 132 }
set_option maxHeartbeats 4000000 in
set_option maxRecDepth 100000 in
theorem c_X5_agree (G : GT) (l : Launch) (A : Nat → Nat) (sz : Nat) (I : Nat → CS) (J : Nat → JS) (x1 : Int32) (x2 : Int32) (x3 : Int32) (r : Int32) (I' : Nat → CS) (hf : f_X5_agree I J x1 x2 x3 = some (r, I')) : MTi l yX5_agree wsX5_agree r_X5_agree [.ref (A 0), .int x1, .int x2, .int x3] G (w_Tw G A I J) (w_Tw G A I' J) sz r := by
  refine MTi.of (cc := cX5_agree) (maxL := 7) (by decide +kernel) rfl (Nat.le_of_ble_eq_true rfl) (fun p e s m av below meth cd Q B H locs ls X hret hl hP hD hS => ?_)
  have hx := X.1.1
  have hb := X.1.2.1
  have hl : lv_has ls 7 [(0, .ref (A 0)), (1, .int x1), (2, .int x2), (3, .int x3)] := hl
  have b_20 : ∀ (I : Nat → CS) (H : Heap) (locs : List Loc) (ls : Array Slot), f_X5_agree_20 I J = some (r, I') → va_P G.1 vwCl (w_Tw G A I J) H → va_D B (w_Tw G A I J) → va_S B s.heap H locs → lv_has ls 7 [] → W p l e r_X5_agree s m av below meth cd H locs 0 0 Q (F0 m 20 ls []) := by
    intro I H locs ls hf hP hD hS hl
    unfold f_X5_agree_20 at hf
    refine lv_iconst (pc := 20) (v := (-1 : Int32)) hx hb dX5_agree_20 (by decide) ?_
    cases hf
    exact hret _ _ _ _ dX5_agree_21 hP hD hS
  have l_28 : ∀ (n28 : Nat), ∀ (x1 : Int32) (x2 : Int32) (x3 : Int32) (x4 : Int32) (x5 : Int32) (I : Nat → CS) (H : Heap) (locs : List Loc) (ls : Array Slot), f_X5_agree_28 n28 x1 x2 x3 x4 x5 I J = some (r, I') → va_P G.1 vwCl (w_Tw G A I J) H → va_D B (w_Tw G A I J) → va_S B s.heap H locs → lv_has ls 7 [(0, .ref (A 0)), (1, .int x1), (2, .int x2), (3, .int x3), (4, .int x4), (5, .int x5)] → W p l e r_X5_agree s m av below meth cd H locs 0 0 Q (F0 m 28 ls []) := by
    intro n28
    induction n28 with
    | zero =>
      intro x1 x2 x3 x4 x5 I H locs ls hf hP hD hS hl
      rw [f_X5_agree_28] at hf
      cases hf
    | succ n28 ih28 =>
      intro x1 x2 x3 x4 x5 I H locs ls hf hP hD hS hl
      rw [f_X5_agree_28] at hf
      refine lv_iload (pc := 28) hx hb dX5_agree_28 (lv_at hl 5 rfl) ?_
      refine lv_aload_n (pc := 30) hx hb dX5_agree_30 rfl (lv_at hl 0 rfl) ?_
      refine wget (pc := 31) X (fun _ h9 => List.mem_cons_of_mem _ (List.mem_append_left _ (List.mem_append_left _ (List.mem_append_right _ h9)))) hP 0 (at_Tw_0 G A I J) rfl 5 (by decide) (List.mem_cons_of_mem _ (List.mem_append_left _ (List.mem_append_left _ (List.mem_append_left _ (List.mem_append_left _ (List.mem_of_getElem? (i := 0) rfl)))))) rfl (v := .ref (A 31)) rfl dX5_agree_31 ?_
      refine wgetN (pc := 34) X (fun _ h9 => List.mem_cons_of_mem _ (List.mem_append_left _ (List.mem_append_right _ h9))) hP 31 (at_Tw_31 G A I J) rfl 0 (by decide) (List.mem_of_getElem? (i := 6) rfl) rfl (v := .int ((I 0) 0 0)) rfl dX5_agree_34 ?_
      refine lv_icmp_ge (pc := 37) (tgt := 77) hx hb dX5_agree_37 (by decide) (fun h2 => ?_) (fun h2 => ?_)
      · have hf := br_y h2 hf
        refine lv_aload_n (pc := 77) hx hb dX5_agree_77 rfl (lv_at hl 0 rfl) ?_
        refine wget (pc := 78) X (fun _ h9 => List.mem_cons_of_mem _ (List.mem_append_left _ (List.mem_append_left _ (List.mem_append_right _ h9)))) hP 0 (at_Tw_0 G A I J) rfl 2 (by decide) (List.mem_cons_of_mem _ (List.mem_append_left _ (List.mem_append_left _ (List.mem_append_left _ (List.mem_append_left _ (List.mem_of_getElem? (i := 1) rfl)))))) rfl (v := .ref (A 17)) rfl dX5_agree_78 ?_
        refine lv_iload (pc := 81) hx hb dX5_agree_81 (lv_at hl 4 rfl) ?_
        refine wputN (pc := 83) X (fun _ h9 => List.mem_cons_of_mem _ (List.mem_append_right _ h9)) tyX4 tyX4_ok nmX4 hP hD hS 17 (at_Tw_17 G A I J) rfl 0 (by decide) (List.mem_of_getElem? (i := 0) rfl) rfl rfl (ty := .int) (v := .int x4) rfl rfl rfl (Nat.le_of_ble_eq_true rfl) (st_Tw_17_0 G A I J x4) dX5_agree_83 (fun H locs hP hD hS => ?_)
        refine lv_iload (pc := 86) hx hb dX5_agree_86 (lv_at hl 4 rfl) ?_
        obtain ⟨r1, hc1, hf⟩ := ob1_some hf
        refine endi X.2.2.2.2 (runS (pc := 88) (As := [.int x4]) (rest := []) X (c_J6_bitCount_0f7a4 G l  H.size x4 r1 hc1) gX5_agree_J6_bitCount_0f7a4 k_J6_bitCount_0f7a4 ⟨rfl, rfl⟩ ⟨Nat.le_of_ble_eq_true rfl, Nat.le_of_ble_eq_true rfl⟩ (EM.nil (w_Tw G A (gset I 7 (cset (I 7) 0 0 x4)) J)) hP hD hS rfl hl.1 rfl (Nat.le_of_ble_eq_true rfl) ⟨Nat.zero_le _, Nat.zero_le _⟩ dX5_agree_88) (EM.nil (w_Tw G A (gset I 7 (cset (I 7) 0 0 x4)) J)) hP hD hS (fun H locs hP hD hS => ?_)
        cases hf
        exact hret _ _ _ _ dX5_agree_91 hP hD hS
      · have hf := br_n h2 hf
        refine lv_aload_n (pc := 40) hx hb dX5_agree_40 rfl (lv_at hl 0 rfl) ?_
        refine wget (pc := 41) X (fun _ h9 => List.mem_cons_of_mem _ (List.mem_append_left _ (List.mem_append_left _ (List.mem_append_right _ h9)))) hP 0 (at_Tw_0 G A I J) rfl 5 (by decide) (List.mem_cons_of_mem _ (List.mem_append_left _ (List.mem_append_left _ (List.mem_append_left _ (List.mem_append_left _ (List.mem_of_getElem? (i := 0) rfl)))))) rfl (v := .ref (A 31)) rfl dX5_agree_41 ?_
        refine lv_iload_n (pc := 44) hx hb dX5_agree_44 rfl (lv_at hl 1 rfl) ?_
        refine lv_iload_n (pc := 45) hx hb dX5_agree_45 rfl (lv_at hl 2 rfl) ?_
        refine lv_iload_n (pc := 46) hx hb dX5_agree_46 rfl (lv_at hl 3 rfl) ?_
        refine lv_iload (pc := 47) hx hb dX5_agree_47 (lv_at hl 5 rfl) ?_
        obtain ⟨r2, c2, hc2, hf⟩ := ob2_some hf
        refine endi X.2.2.2.2 (runV (pc := 49) (As := [.int x1, .int x2, .int x3, .int x5]) (rest := []) X (c_X0_fewestMended G l (fun k => A (31 + k)) H.size (I 0) x1 x2 x3 x5 r2 c2 hc2) gX5_agree_X0_fewestMended k_X0_fewestMended ⟨rfl, rfl⟩ ⟨Nat.le_of_ble_eq_true rfl, Nat.le_of_ble_eq_true rfl⟩ (em_Tw_Ch_31_c G A I J c2) hP hD hS (ci := 0) rfl rfl (at_Ch_0 G (fun k => A (31 + k)) (I 0)) rfl hl.1 rfl (Nat.le_of_ble_eq_true rfl) ⟨Nat.zero_le _, Nat.zero_le _⟩ dX5_agree_49) (em_Tw_Ch_31_c G A I J c2) hP hD hS (fun H locs hP hD hS => ?_)
        refine lv_istore (pc := 52) (lv' := [(6, .int r2), (0, .ref (A 0)), (1, .int x1), (2, .int x2), (3, .int x3), (4, .int x4), (5, .int x5)]) hx hb dX5_agree_52 hl (by decide) rfl (fun ls hl => ?_)
        refine lv_iload (pc := 54) hx hb dX5_agree_54 (lv_at hl 0 rfl) ?_
        refine lv_bipush (pc := 56) (v := (-9 : Int32)) hx hb dX5_agree_56 (by decide) ?_
        refine lv_icmp_ne (pc := 58) (tgt := 64) hx hb dX5_agree_58 (by decide) (fun h1 => ?_) (fun h1 => ?_)
        · have hf := br_n h1 hf
          refine lv_iload (pc := 64) hx hb dX5_agree_64 (lv_at hl 5 rfl) ?_
          refine lv_iload (pc := 66) hx hb dX5_agree_66 (lv_at hl 0 rfl) ?_
          refine lv_ior (pc := 68) hx hb dX5_agree_68 ?_
          refine lv_istore (pc := 69) (lv' := [(4, .int (x4 ||| r2)), (6, .int r2), (0, .ref (A 0)), (1, .int x1), (2, .int x2), (3, .int x3), (5, .int x5)]) hx hb dX5_agree_69 hl (by decide) rfl (fun ls hl => ?_)
          refine lv_iinc (pc := 71) (v := (x5 + (1 : Int32))) (lv' := [(5, .int (x5 + (1 : Int32))), (4, .int (x4 ||| r2)), (6, .int r2), (0, .ref (A 0)), (1, .int x1), (2, .int x2), (3, .int x3)]) hx hb dX5_agree_71 hl (k := 6) rfl rfl (by decide) rfl (fun ls hl => ?_)
          refine lv_goto (pc := 74) (tgt := 28) hx hb dX5_agree_74 (by decide) ?_
          exact ih28 _ _ _ _ _ _ H locs ls hf hP hD hS (lv_sub hl [3, 4, 5, 6, 1, 0] rfl)
        · have hf := br_y h1 hf
          refine lv_bipush (pc := 61) (v := (-9 : Int32)) hx hb dX5_agree_61 (by decide) ?_
          cases hf
          exact hret _ _ _ _ dX5_agree_63 hP hD hS
  unfold f_X5_agree at hf
  refine lv_iload_n (pc := 0) hx hb dX5_agree_0 rfl (lv_at hl 1 rfl) ?_
  refine lv_iload_n (pc := 1) hx hb dX5_agree_1 rfl (lv_at hl 2 rfl) ?_
  obtain ⟨r1, hc1, hf⟩ := ob1_some hf
  refine endi X.2.2.2.2 (runS (pc := 2) (As := [.int x1, .int x2]) (rest := []) X (c_X5_arePair G l  H.size x1 x2 r1 hc1) gX5_agree_X5_arePair k_X5_arePair ⟨rfl, rfl⟩ ⟨Nat.le_of_ble_eq_true rfl, Nat.le_of_ble_eq_true rfl⟩ (EM.nil (w_Tw G A I J)) hP hD hS rfl hl.1 rfl (Nat.le_of_ble_eq_true rfl) ⟨Nat.zero_le _, Nat.zero_le _⟩ dX5_agree_2) (EM.nil (w_Tw G A I J)) hP hD hS (fun H locs hP hD hS => ?_)
  refine lv_if_eq (pc := 5) (tgt := 20) hx hb dX5_agree_5 (by decide) (fun h5 => ?_) (fun h5 => ?_)
  · have hf := br_y h5 hf
    exact b_20 _ H locs ls hf hP hD hS (lv_sub hl [] rfl)
  · have hf := br_n h5 hf
    refine lv_iload_n (pc := 8) hx hb dX5_agree_8 rfl (lv_at hl 3 rfl) ?_
    obtain ⟨r2, hc2, hf⟩ := ob1_some hf
    refine endi X.2.2.2.2 (runS (pc := 9) (As := [.int x3]) (rest := []) X (c_X5_isDay G l  H.size x3 r2 hc2) gX5_agree_X5_isDay k_X5_isDay ⟨rfl, rfl⟩ ⟨Nat.le_of_ble_eq_true rfl, Nat.le_of_ble_eq_true rfl⟩ (EM.nil (w_Tw G A I J)) hP hD hS rfl hl.1 rfl (Nat.le_of_ble_eq_true rfl) ⟨Nat.zero_le _, Nat.zero_le _⟩ dX5_agree_9) (EM.nil (w_Tw G A I J)) hP hD hS (fun H locs hP hD hS => ?_)
    refine lv_if_eq (pc := 12) (tgt := 20) hx hb dX5_agree_12 (by decide) (fun h4 => ?_) (fun h4 => ?_)
    · have hf := br_y h4 hf
      exact b_20 _ H locs ls hf hP hD hS (lv_sub hl [] rfl)
    · have hf := br_n h4 hf
      refine lv_iload_n (pc := 15) hx hb dX5_agree_15 rfl (lv_at hl 3 rfl) ?_
      refine lv_iload_n (pc := 16) hx hb dX5_agree_16 rfl (lv_at hl 2 rfl) ?_
      refine lv_icmp_ge (pc := 17) (tgt := 22) hx hb dX5_agree_17 (by decide) (fun h3 => ?_) (fun h3 => ?_)
      · have hf := br_y h3 hf
        refine lv_iconst (pc := 22) (v := (0 : Int32)) hx hb dX5_agree_22 (by decide) ?_
        refine lv_istore (pc := 23) (lv' := [(4, .int (0 : Int32)), (0, .ref (A 0)), (1, .int x1), (2, .int x2), (3, .int x3)]) hx hb dX5_agree_23 hl (by decide) rfl (fun ls hl => ?_)
        refine lv_iconst (pc := 25) (v := (0 : Int32)) hx hb dX5_agree_25 (by decide) ?_
        refine lv_istore (pc := 26) (lv' := [(5, .int (0 : Int32)), (4, .int (0 : Int32)), (0, .ref (A 0)), (1, .int x1), (2, .int x2), (3, .int x3)]) hx hb dX5_agree_26 hl (by decide) rfl (fun ls hl => ?_)
        exact l_28 FU _ _ _ _ _ _ H locs ls hf hP hD hS (lv_sub hl [2, 3, 4, 5, 1, 0] rfl)
      · have hf := br_n h3 hf
        exact b_20 _ H locs ls hf hP hD hS (lv_sub hl [] rfl)
def r_X5_areFours : Room := { frames := 3, cells := 0, slots := 0, locals := 65 }
set_option maxHeartbeats 4000000 in
set_option maxRecDepth 100000 in
theorem c_X5_areFours (G : GT) (l : Launch) (A : Nat → Nat) (sz : Nat) (I : Nat → CS) (J : Nat → JS) (x1 : Int32) (r : Int32) (hf : f_X5_areFours I J x1 = some r) : MTi l yX5_areFours wsX5_areFours r_X5_areFours [.ref (A 0), .int x1] G (w_Tw G A I J) (w_Tw G A I J) sz r := by
  refine MTz.of (cc := cX5_areFours) (maxL := 5) (by decide +kernel) rfl (Nat.le_of_ble_eq_true rfl) (fun p e s m av below meth cd Q B H locs ls X hret hl hP hD hS => ?_)
  have hx := X.1.1
  have hb := X.1.2.1
  have hl : lv_has ls 5 [(0, .ref (A 0)), (1, .int x1)] := hl
  have b_57 : ∀  (H : Heap) (locs : List Loc) (ls : Array Slot), f_X5_areFours_57 I J = some r → va_P G.1 vwCl (w_Tw G A I J) H → va_D B (w_Tw G A I J) → va_S B s.heap H locs → lv_has ls 5 [] → W p l e r_X5_areFours s m av below meth cd H locs 0 0 Q (F0 m 57 ls []) := by
    intro  H locs ls hf hP hD hS hl
    unfold f_X5_areFours_57 at hf
    refine lv_iconst (pc := 57) (v := (0 : Int32)) hx hb dX5_areFours_57 (by decide) ?_
    cases hf
    exact hret _ _ _ _ (by decide) dX5_areFours_58 hP hD hS
  have b_99 : ∀  (H : Heap) (locs : List Loc) (ls : Array Slot), f_X5_areFours_99 I J = some r → va_P G.1 vwCl (w_Tw G A I J) H → va_D B (w_Tw G A I J) → va_S B s.heap H locs → lv_has ls 5 [] → W p l e r_X5_areFours s m av below meth cd H locs 0 0 Q (F0 m 99 ls []) := by
    intro  H locs ls hf hP hD hS hl
    unfold f_X5_areFours_99 at hf
    refine lv_iconst (pc := 99) (v := (0 : Int32)) hx hb dX5_areFours_99 (by decide) ?_
    cases hf
    exact hret _ _ _ _ (by decide) dX5_areFours_100 hP hD hS
  have l_13 : ∀ (n13 : Nat), ∀ (x1 : Int32) (x2 : Int32) (x3 : Int32) (H : Heap) (locs : List Loc) (ls : Array Slot), f_X5_areFours_13 n13 x1 x2 x3 I J = some r → va_P G.1 vwCl (w_Tw G A I J) H → va_D B (w_Tw G A I J) → va_S B s.heap H locs → lv_has ls 5 [(0, .ref (A 0)), (1, .int x1), (2, .int x2), (3, .int x3)] → W p l e r_X5_areFours s m av below meth cd H locs 0 0 Q (F0 m 13 ls []) := by
    intro n13
    induction n13 with
    | zero =>
      intro x1 x2 x3 H locs ls hf hP hD hS hl
      rw [f_X5_areFours_13] at hf
      cases hf
    | succ n13 ih13 =>
      intro x1 x2 x3 H locs ls hf hP hD hS hl
      rw [f_X5_areFours_13] at hf
      refine lv_iload_n (pc := 13) hx hb dX5_areFours_13 rfl (lv_at hl 3 rfl) ?_
      refine lv_iload_n (pc := 14) hx hb dX5_areFours_14 rfl (lv_at hl 2 rfl) ?_
      refine lv_icmp_ge (pc := 15) (tgt := 107) hx hb dX5_areFours_15 (by decide) (fun h5 => ?_) (fun h5 => ?_)
      · have hf := br_y h5 hf
        refine lv_iconst (pc := 107) (v := (1 : Int32)) hx hb dX5_areFours_107 (by decide) ?_
        cases hf
        exact hret _ _ _ _ (by decide) dX5_areFours_108 hP hD hS
      · have hf := br_n h5 hf
        refine lv_iload_n (pc := 18) hx hb dX5_areFours_18 rfl (lv_at hl 3 rfl) ?_
        refine lv_iconst (pc := 19) (v := (4 : Int32)) hx hb dX5_areFours_19 (by decide) ?_
        refine lv_imul (pc := 20) hx hb dX5_areFours_20 ?_
        refine lv_istore (pc := 21) (lv' := [(4, .int (x3 * (4 : Int32))), (0, .ref (A 0)), (1, .int x1), (2, .int x2), (3, .int x3)]) hx hb dX5_areFours_21 hl (by decide) rfl (fun ls hl => ?_)
        refine lv_aload_n (pc := 23) hx hb dX5_areFours_23 rfl (lv_at hl 1 rfl) ?_
        refine wget (pc := 24) X (fun _ h9 => List.mem_cons_of_mem _ (List.mem_append_left _ (List.mem_append_left _ (List.mem_append_right _ h9)))) hP 0 (at_Tw_0 G A I J) rfl 0 (by decide) (List.mem_cons_of_mem _ (List.mem_append_left _ (List.mem_append_left _ (List.mem_append_left _ (List.mem_append_left _ (List.mem_of_getElem? (i := 0) rfl)))))) rfl (v := .ref (A 1)) rfl dX5_areFours_24 ?_
        refine lv_iload_n (pc := 27) hx hb dX5_areFours_27 rfl (lv_at hl 2 rfl) ?_
        refine lv_iload (pc := 28) hx hb dX5_areFours_28 (lv_at hl 0 rfl) ?_
        obtain ⟨r1, hc1, hf⟩ := ob1_some hf
        refine endi X.2.2.2.2 (runV (pc := 30) (As := [.int x1, .int (x3 * (4 : Int32))]) (rest := []) X (c_X3_get_r G l (fun k => A (1 + k)) H.size (I 5) x1 (x3 * (4 : Int32)) r1 hc1) gX5_areFours_X3_get k_X3_get ⟨rfl, rfl⟩ ⟨Nat.le_of_ble_eq_true rfl, Nat.le_of_ble_eq_true rfl⟩ (em_Tw_S6_1 G A I J ) hP hD hS (ci := 3) rfl rfl (at_S6_0 G (fun k => A (1 + k)) (I 5)) rfl hl.1 rfl (Nat.le_of_ble_eq_true rfl) ⟨Nat.zero_le _, Nat.zero_le _⟩ dX5_areFours_30) (em_Tw_S6_1 G A I J ) hP hD hS (fun H locs hP hD hS => ?_)
        obtain ⟨r2, hc2, hf⟩ := ob1_some hf
        refine endi X.2.2.2.2 (runS (pc := 33) (As := [.int r1]) (rest := []) X (c_X5_isTown G l  H.size r1 r2 hc2) gX5_areFours_X5_isTown k_X5_isTown ⟨rfl, rfl⟩ ⟨Nat.le_of_ble_eq_true rfl, Nat.le_of_ble_eq_true rfl⟩ (EM.nil (w_Tw G A I J)) hP hD hS rfl hl.1 rfl (Nat.le_of_ble_eq_true rfl) ⟨Nat.zero_le _, Nat.zero_le _⟩ dX5_areFours_33) (EM.nil (w_Tw G A I J)) hP hD hS (fun H locs hP hD hS => ?_)
        refine lv_if_eq (pc := 36) (tgt := 57) hx hb dX5_areFours_36 (by decide) (fun h4 => ?_) (fun h4 => ?_)
        · have hf := br_y h4 hf
          exact b_57  H locs ls hf hP hD hS (lv_sub hl [] rfl)
        · have hf := br_n h4 hf
          refine lv_aload_n (pc := 39) hx hb dX5_areFours_39 rfl (lv_at hl 1 rfl) ?_
          refine wget (pc := 40) X (fun _ h9 => List.mem_cons_of_mem _ (List.mem_append_left _ (List.mem_append_left _ (List.mem_append_right _ h9)))) hP 0 (at_Tw_0 G A I J) rfl 0 (by decide) (List.mem_cons_of_mem _ (List.mem_append_left _ (List.mem_append_left _ (List.mem_append_left _ (List.mem_append_left _ (List.mem_of_getElem? (i := 0) rfl)))))) rfl (v := .ref (A 1)) rfl dX5_areFours_40 ?_
          refine lv_iload_n (pc := 43) hx hb dX5_areFours_43 rfl (lv_at hl 2 rfl) ?_
          refine lv_iload (pc := 44) hx hb dX5_areFours_44 (lv_at hl 0 rfl) ?_
          refine lv_iconst (pc := 46) (v := (1 : Int32)) hx hb dX5_areFours_46 (by decide) ?_
          refine lv_iadd (pc := 47) hx hb dX5_areFours_47 ?_
          obtain ⟨r3, hc3, hf⟩ := ob1_some hf
          refine endi X.2.2.2.2 (runV (pc := 48) (As := [.int x1, .int ((x3 * (4 : Int32)) + (1 : Int32))]) (rest := []) X (c_X3_get_r G l (fun k => A (1 + k)) H.size (I 5) x1 ((x3 * (4 : Int32)) + (1 : Int32)) r3 hc3) gX5_areFours_X3_get k_X3_get ⟨rfl, rfl⟩ ⟨Nat.le_of_ble_eq_true rfl, Nat.le_of_ble_eq_true rfl⟩ (em_Tw_S6_1 G A I J ) hP hD hS (ci := 3) rfl rfl (at_S6_0 G (fun k => A (1 + k)) (I 5)) rfl hl.1 rfl (Nat.le_of_ble_eq_true rfl) ⟨Nat.zero_le _, Nat.zero_le _⟩ dX5_areFours_48) (em_Tw_S6_1 G A I J ) hP hD hS (fun H locs hP hD hS => ?_)
          obtain ⟨r4, hc4, hf⟩ := ob1_some hf
          refine endi X.2.2.2.2 (runS (pc := 51) (As := [.int r3]) (rest := []) X (c_X5_isDay G l  H.size r3 r4 hc4) gX5_areFours_X5_isDay k_X5_isDay ⟨rfl, rfl⟩ ⟨Nat.le_of_ble_eq_true rfl, Nat.le_of_ble_eq_true rfl⟩ (EM.nil (w_Tw G A I J)) hP hD hS rfl hl.1 rfl (Nat.le_of_ble_eq_true rfl) ⟨Nat.zero_le _, Nat.zero_le _⟩ dX5_areFours_51) (EM.nil (w_Tw G A I J)) hP hD hS (fun H locs hP hD hS => ?_)
          refine lv_if_ne (pc := 54) (tgt := 59) hx hb dX5_areFours_54 (by decide) (fun h3 => ?_) (fun h3 => ?_)
          · have hf := br_n h3 hf
            refine lv_aload_n (pc := 59) hx hb dX5_areFours_59 rfl (lv_at hl 1 rfl) ?_
            refine wget (pc := 60) X (fun _ h9 => List.mem_cons_of_mem _ (List.mem_append_left _ (List.mem_append_left _ (List.mem_append_right _ h9)))) hP 0 (at_Tw_0 G A I J) rfl 5 (by decide) (List.mem_cons_of_mem _ (List.mem_append_left _ (List.mem_append_left _ (List.mem_append_left _ (List.mem_append_left _ (List.mem_of_getElem? (i := 1) rfl)))))) rfl (v := .ref (A 31)) rfl dX5_areFours_60 ?_
            refine lv_aload_n (pc := 63) hx hb dX5_areFours_63 rfl (lv_at hl 1 rfl) ?_
            refine wget (pc := 64) X (fun _ h9 => List.mem_cons_of_mem _ (List.mem_append_left _ (List.mem_append_left _ (List.mem_append_right _ h9)))) hP 0 (at_Tw_0 G A I J) rfl 0 (by decide) (List.mem_cons_of_mem _ (List.mem_append_left _ (List.mem_append_left _ (List.mem_append_left _ (List.mem_append_left _ (List.mem_of_getElem? (i := 0) rfl)))))) rfl (v := .ref (A 1)) rfl dX5_areFours_64 ?_
            refine lv_iload_n (pc := 67) hx hb dX5_areFours_67 rfl (lv_at hl 2 rfl) ?_
            refine lv_iload (pc := 68) hx hb dX5_areFours_68 (lv_at hl 0 rfl) ?_
            refine lv_iconst (pc := 70) (v := (2 : Int32)) hx hb dX5_areFours_70 (by decide) ?_
            refine lv_iadd (pc := 71) hx hb dX5_areFours_71 ?_
            obtain ⟨r5, hc5, hf⟩ := ob1_some hf
            refine endi X.2.2.2.2 (runV (pc := 72) (As := [.int x1, .int ((x3 * (4 : Int32)) + (2 : Int32))]) (rest := [.ref (A 31)]) X (c_X3_get_r G l (fun k => A (1 + k)) H.size (I 5) x1 ((x3 * (4 : Int32)) + (2 : Int32)) r5 hc5) gX5_areFours_X3_get k_X3_get ⟨rfl, rfl⟩ ⟨Nat.le_of_ble_eq_true rfl, Nat.le_of_ble_eq_true rfl⟩ (em_Tw_S6_1 G A I J ) hP hD hS (ci := 3) rfl rfl (at_S6_0 G (fun k => A (1 + k)) (I 5)) rfl hl.1 rfl (Nat.le_of_ble_eq_true rfl) ⟨Nat.zero_le _, Nat.zero_le _⟩ dX5_areFours_72) (em_Tw_S6_1 G A I J ) hP hD hS (fun H locs hP hD hS => ?_)
            obtain ⟨r6, hc6, hf⟩ := ob1_some hf
            refine endi X.2.2.2.2 (runV (pc := 75) (As := [.int r5]) (rest := []) X (c_X0_isPerson G l (fun k => A (31 + k)) H.size (I 0) r5 r6 hc6) gX5_areFours_X0_isPerson k_X0_isPerson ⟨rfl, rfl⟩ ⟨Nat.le_of_ble_eq_true rfl, Nat.le_of_ble_eq_true rfl⟩ (em_Tw_Ch_31 G A I J ) hP hD hS (ci := 0) rfl rfl (at_Ch_0 G (fun k => A (31 + k)) (I 0)) rfl hl.1 rfl (Nat.le_of_ble_eq_true rfl) ⟨Nat.zero_le _, Nat.zero_le _⟩ dX5_areFours_75) (em_Tw_Ch_31 G A I J ) hP hD hS (fun H locs hP hD hS => ?_)
            refine lv_if_eq (pc := 78) (tgt := 99) hx hb dX5_areFours_78 (by decide) (fun h2 => ?_) (fun h2 => ?_)
            · have hf := br_y h2 hf
              exact b_99  H locs ls hf hP hD hS (lv_sub hl [] rfl)
            · have hf := br_n h2 hf
              refine lv_aload_n (pc := 81) hx hb dX5_areFours_81 rfl (lv_at hl 1 rfl) ?_
              refine wget (pc := 82) X (fun _ h9 => List.mem_cons_of_mem _ (List.mem_append_left _ (List.mem_append_left _ (List.mem_append_right _ h9)))) hP 0 (at_Tw_0 G A I J) rfl 0 (by decide) (List.mem_cons_of_mem _ (List.mem_append_left _ (List.mem_append_left _ (List.mem_append_left _ (List.mem_append_left _ (List.mem_of_getElem? (i := 0) rfl)))))) rfl (v := .ref (A 1)) rfl dX5_areFours_82 ?_
              refine lv_iload_n (pc := 85) hx hb dX5_areFours_85 rfl (lv_at hl 2 rfl) ?_
              refine lv_iload (pc := 86) hx hb dX5_areFours_86 (lv_at hl 0 rfl) ?_
              refine lv_iconst (pc := 88) (v := (3 : Int32)) hx hb dX5_areFours_88 (by decide) ?_
              refine lv_iadd (pc := 89) hx hb dX5_areFours_89 ?_
              obtain ⟨r7, hc7, hf⟩ := ob1_some hf
              refine endi X.2.2.2.2 (runV (pc := 90) (As := [.int x1, .int ((x3 * (4 : Int32)) + (3 : Int32))]) (rest := []) X (c_X3_get_r G l (fun k => A (1 + k)) H.size (I 5) x1 ((x3 * (4 : Int32)) + (3 : Int32)) r7 hc7) gX5_areFours_X3_get k_X3_get ⟨rfl, rfl⟩ ⟨Nat.le_of_ble_eq_true rfl, Nat.le_of_ble_eq_true rfl⟩ (em_Tw_S6_1 G A I J ) hP hD hS (ci := 3) rfl rfl (at_S6_0 G (fun k => A (1 + k)) (I 5)) rfl hl.1 rfl (Nat.le_of_ble_eq_true rfl) ⟨Nat.zero_le _, Nat.zero_le _⟩ dX5_areFours_90) (em_Tw_S6_1 G A I J ) hP hD hS (fun H locs hP hD hS => ?_)
              obtain ⟨r8, hc8, hf⟩ := ob1_some hf
              refine endi X.2.2.2.2 (runS (pc := 93) (As := [.int r7]) (rest := []) X (c_X5_isDeed G l  H.size r7 r8 hc8) gX5_areFours_X5_isDeed k_X5_isDeed ⟨rfl, rfl⟩ ⟨Nat.le_of_ble_eq_true rfl, Nat.le_of_ble_eq_true rfl⟩ (EM.nil (w_Tw G A I J)) hP hD hS rfl hl.1 rfl (Nat.le_of_ble_eq_true rfl) ⟨Nat.zero_le _, Nat.zero_le _⟩ dX5_areFours_93) (EM.nil (w_Tw G A I J)) hP hD hS (fun H locs hP hD hS => ?_)
              refine lv_if_ne (pc := 96) (tgt := 101) hx hb dX5_areFours_96 (by decide) (fun h1 => ?_) (fun h1 => ?_)
              · have hf := br_n h1 hf
                refine lv_iinc (pc := 101) (v := (x3 + (1 : Int32))) (lv' := [(3, .int (x3 + (1 : Int32))), (4, .int (x3 * (4 : Int32))), (0, .ref (A 0)), (1, .int x1), (2, .int x2)]) hx hb dX5_areFours_101 hl (k := 4) rfl rfl (by decide) rfl (fun ls hl => ?_)
                refine lv_goto (pc := 104) (tgt := 13) hx hb dX5_areFours_104 (by decide) ?_
                exact ih13 _ _ _ H locs ls hf hP hD hS (lv_sub hl [2, 3, 4, 0] rfl)
              · have hf := br_y h1 hf
                exact b_99  H locs ls hf hP hD hS (lv_sub hl [] rfl)
          · have hf := br_y h3 hf
            exact b_57  H locs ls hf hP hD hS (lv_sub hl [] rfl)
  unfold f_X5_areFours at hf
  refine lv_aload_n (pc := 0) hx hb dX5_areFours_0 rfl (lv_at hl 0 rfl) ?_
  refine wget (pc := 1) X (fun _ h9 => List.mem_cons_of_mem _ (List.mem_append_left _ (List.mem_append_left _ (List.mem_append_right _ h9)))) hP 0 (at_Tw_0 G A I J) rfl 0 (by decide) (List.mem_cons_of_mem _ (List.mem_append_left _ (List.mem_append_left _ (List.mem_append_left _ (List.mem_append_left _ (List.mem_of_getElem? (i := 0) rfl)))))) rfl (v := .ref (A 1)) rfl dX5_areFours_1 ?_
  refine lv_iload_n (pc := 4) hx hb dX5_areFours_4 rfl (lv_at hl 1 rfl) ?_
  obtain ⟨r1, hc1, hf⟩ := ob1_some hf
  refine endi X.2.2.2.2 (runV (pc := 5) (As := [.int x1]) (rest := []) X (c_X3_sizeOf_r G l (fun k => A (1 + k)) H.size (I 5) x1 r1 hc1) gX5_areFours_X3_sizeOf k_X3_sizeOf ⟨rfl, rfl⟩ ⟨Nat.le_of_ble_eq_true rfl, Nat.le_of_ble_eq_true rfl⟩ (em_Tw_S6_1 G A I J ) hP hD hS (ci := 3) rfl rfl (at_S6_0 G (fun k => A (1 + k)) (I 5)) rfl hl.1 rfl (Nat.le_of_ble_eq_true rfl) ⟨Nat.zero_le _, Nat.zero_le _⟩ dX5_areFours_5) (em_Tw_S6_1 G A I J ) hP hD hS (fun H locs hP hD hS => ?_)
  refine lv_iconst (pc := 8) (v := (4 : Int32)) hx hb dX5_areFours_8 (by decide) ?_
  refine lv_idiv (pc := 9) hx hb dX5_areFours_9 (by decide) ?_
  refine lv_istore_n (pc := 10) (lv' := [(2, .int (r1 / (4 : Int32))), (0, .ref (A 0)), (1, .int x1)]) hx hb dX5_areFours_10 rfl hl (by decide) rfl (fun ls hl => ?_)
  refine lv_iconst (pc := 11) (v := (0 : Int32)) hx hb dX5_areFours_11 (by decide) ?_
  refine lv_istore_n (pc := 12) (lv' := [(3, .int (0 : Int32)), (2, .int (r1 / (4 : Int32))), (0, .ref (A 0)), (1, .int x1)]) hx hb dX5_areFours_12 rfl hl (by decide) rfl (fun ls hl => ?_)
  exact l_13 FU _ _ _ H locs ls hf hP hD hS (lv_sub hl [2, 3, 1, 0] rfl)
def r_X5_asked : Room := { frames := 0, cells := 0, slots := 0, locals := 0 }
set_option maxHeartbeats 4000000 in
set_option maxRecDepth 100000 in
theorem c_X5_asked (G : GT) (l : Launch) (A : Nat → Nat) (sz : Nat) (I : Nat → CS) (J : Nat → JS) (r : Int32) (hf : f_X5_asked I J = some r) : MTi l yX5_asked wsX5_asked r_X5_asked [.ref (A 0)] G (w_Tw G A I J) (w_Tw G A I J) sz r := by
  refine MTi.of (cc := cX5_asked) (maxL := 1) (by decide +kernel) rfl (Nat.le_of_ble_eq_true rfl) (fun p e s m av below meth cd Q B H locs ls X hret hl hP hD hS => ?_)
  have hx := X.1.1
  have hb := X.1.2.1
  have hl : lv_has ls 1 [(0, .ref (A 0))] := hl
  unfold f_X5_asked at hf
  refine lv_aload_n (pc := 0) hx hb dX5_asked_0 rfl (lv_at hl 0 rfl) ?_
  refine wget (pc := 1) X (fun _ h9 => List.mem_cons_of_mem _ (List.mem_append_left _ (List.mem_append_right _ h9))) hP 0 (at_Tw_0 G A I J) rfl 2 (by decide) (List.mem_cons_of_mem _ (List.mem_append_left _ (List.mem_append_left _ (List.mem_of_getElem? (i := 0) rfl)))) rfl (v := .ref (A 17)) rfl dX5_asked_1 ?_
  refine wgetN (pc := 4) X (fun _ h9 => List.mem_cons_of_mem _ (List.mem_append_right _ h9)) hP 17 (at_Tw_17 G A I J) rfl 0 (by decide) (List.mem_of_getElem? (i := 0) rfl) rfl (v := .int ((I 7) 0 0)) rfl dX5_asked_4 ?_
  cases hf
  exact hret _ _ _ _ dX5_asked_7 hP hD hS
def r_X5_missingRefused_r : Room := { frames := 2, cells := 0, slots := 0, locals := 42 }
set_option maxHeartbeats 4000000 in
set_option maxRecDepth 100000 in
theorem c_X5_missingRefused_r (G : GT) (l : Launch) (A : Nat → Nat) (sz : Nat) (I : Nat → CS) (J : Nat → JS) (x2 : Int32) (r : Int32) (I' : Nat → CS) (hf : f_X5_missingRefused_r I J x2 = some (r, I')) : MTi l yX5_missingRefused wsX5_missingRefused r_X5_missingRefused_r [.ref (A 0), .ref (A 1), .int x2] G (w_Tw G A I J) (w_Tw G A I' J) sz r := by
  refine MTi.of (cc := cX5_missingRefused) (maxL := 3) (by decide +kernel) rfl (Nat.le_of_ble_eq_true rfl) (fun p e s m av below meth cd Q B H locs ls X hret hl hP hD hS => ?_)
  have hx := X.1.1
  have hb := X.1.2.1
  have hl : lv_has ls 3 [(0, .ref (A 0)), (1, .ref (A 1)), (2, .int x2)] := hl
  have b_30 : ∀ (t0 : Int32) (I : Nat → CS) (H : Heap) (locs : List Loc) (ls : Array Slot), f_X5_missingRefused_r_30 t0 I J = some (r, I') → va_P G.1 vwCl (w_Tw G A I J) H → va_D B (w_Tw G A I J) → va_S B s.heap H locs → lv_has ls 3 [] → W p l e r_X5_missingRefused_r s m av below meth cd H locs 0 0 Q (F0 m 30 ls [.int t0]) := by
    intro t0 I H locs ls hf hP hD hS hl
    unfold f_X5_missingRefused_r_30 at hf
    cases hf
    exact hret _ _ _ _ dX5_missingRefused_30 hP hD hS
  unfold f_X5_missingRefused_r at hf
  refine lv_aload_n (pc := 0) hx hb dX5_missingRefused_0 rfl (lv_at hl 1 rfl) ?_
  refine lv_iload_n (pc := 1) hx hb dX5_missingRefused_1 rfl (lv_at hl 2 rfl) ?_
  obtain ⟨r1, hc1, hf⟩ := ob1_some hf
  refine endi X.2.2.2.2 (runV (pc := 2) (As := [.int x2]) (rest := []) X (c_X3_isNumber_r G l (fun k => A (1 + k)) H.size (I 5) x2 r1 hc1) gX5_missingRefused_X3_isNumber k_X3_isNumber ⟨rfl, rfl⟩ ⟨Nat.le_of_ble_eq_true rfl, Nat.le_of_ble_eq_true rfl⟩ (em_Tw_S6_1 G A I J ) hP hD hS (ci := 3) rfl rfl (at_S6_0 G (fun k => A (1 + k)) (I 5)) rfl hl.1 rfl (Nat.le_of_ble_eq_true rfl) ⟨Nat.zero_le _, Nat.zero_le _⟩ dX5_missingRefused_2) (em_Tw_S6_1 G A I J ) hP hD hS (fun H locs hP hD hS => ?_)
  refine lv_if_ne (pc := 5) (tgt := 10) hx hb dX5_missingRefused_5 (by decide) (fun h2 => ?_) (fun h2 => ?_)
  · have hf := br_n h2 hf
    refine lv_aload_n (pc := 10) hx hb dX5_missingRefused_10 rfl (lv_at hl 1 rfl) ?_
    refine lv_iload_n (pc := 11) hx hb dX5_missingRefused_11 rfl (lv_at hl 2 rfl) ?_
    obtain ⟨r2, hc2, hf⟩ := ob1_some hf
    refine endi X.2.2.2.2 (runV (pc := 12) (As := [.int x2]) (rest := []) X (c_X3_isThere_r G l (fun k => A (1 + k)) H.size (I 5) x2 r2 hc2) gX5_missingRefused_X3_isThere k_X3_isThere ⟨rfl, rfl⟩ ⟨Nat.le_of_ble_eq_true rfl, Nat.le_of_ble_eq_true rfl⟩ (em_Tw_S6_1 G A I J ) hP hD hS (ci := 3) rfl rfl (at_S6_0 G (fun k => A (1 + k)) (I 5)) rfl hl.1 rfl (Nat.le_of_ble_eq_true rfl) ⟨Nat.zero_le _, Nat.zero_le _⟩ dX5_missingRefused_12) (em_Tw_S6_1 G A I J ) hP hD hS (fun H locs hP hD hS => ?_)
    refine lv_if_eq (pc := 15) (tgt := 22) hx hb dX5_missingRefused_15 (by decide) (fun h1 => ?_) (fun h1 => ?_)
    · have hf := br_y h1 hf
      refine lv_aload_n (pc := 22) hx hb dX5_missingRefused_22 rfl (lv_at hl 0 rfl) ?_
      refine wget (pc := 23) X (fun _ h9 => List.mem_cons_of_mem _ (List.mem_append_left _ (List.mem_append_left _ (List.mem_append_right _ h9)))) hP 0 (at_Tw_0 G A I J) rfl 2 (by decide) (List.mem_cons_of_mem _ (List.mem_append_left _ (List.mem_append_left _ (List.mem_append_left _ (List.mem_of_getElem? (i := 0) rfl))))) rfl (v := .ref (A 17)) rfl dX5_missingRefused_23 ?_
      refine lv_iconst (pc := 26) (v := (1 : Int32)) hx hb dX5_missingRefused_26 (by decide) ?_
      obtain ⟨r3, o3, hc3, hf⟩ := ob2_some hf
      refine endi X.2.2.2.2 (runV (pc := 27) (As := [.int (1 : Int32)]) (rest := []) X (c_X4_found G l (fun k => A (17 + k)) H.size (I 7) (J 0) (1 : Int32) r3 o3 hc3) gX5_missingRefused_X4_found k_X4_found ⟨rfl, rfl⟩ ⟨Nat.le_of_ble_eq_true rfl, Nat.le_of_ble_eq_true rfl⟩ (em_Tw_To_17_o G A I J o3) hP hD hS (ci := 4) rfl rfl (at_To_0 G (fun k => A (17 + k)) (I 7) (J 0)) rfl hl.1 rfl (Nat.le_of_ble_eq_true rfl) ⟨Nat.zero_le _, Nat.zero_le _⟩ dX5_missingRefused_27) (em_Tw_To_17_o G A I J o3) hP hD hS (fun H locs hP hD hS => ?_)
      exact b_30 _ _ H locs ls hf hP hD hS (lv_sub hl [] rfl)
    · have hf := br_n h1 hf
      refine lv_iconst (pc := 18) (v := (0 : Int32)) hx hb dX5_missingRefused_18 (by decide) ?_
      refine lv_goto (pc := 19) (tgt := 30) hx hb dX5_missingRefused_19 (by decide) ?_
      exact b_30 _ _ H locs ls hf hP hD hS (lv_sub hl [] rfl)
  · have hf := br_y h2 hf
    refine lv_iconst (pc := 8) (v := (-1 : Int32)) hx hb dX5_missingRefused_8 (by decide) ?_
    cases hf
    exact hret _ _ _ _ dX5_missingRefused_9 hP hD hS
def r_X5_placeRefused_r : Room := { frames := 3, cells := 0, slots := 0, locals := 64 }
set_option maxHeartbeats 4000000 in
set_option maxRecDepth 100000 in
theorem c_X5_placeRefused_r (G : GT) (l : Launch) (A : Nat → Nat) (sz : Nat) (I : Nat → CS) (J : Nat → JS) (x2 : Int32) (x3 : Int32) (r : Int32) (I' : Nat → CS) (hf : f_X5_placeRefused_r I J x2 x3 = some (r, I')) : MTi l yX5_placeRefused wsX5_placeRefused r_X5_placeRefused_r [.ref (A 0), .ref (A 1), .int x2, .int x3] G (w_Tw G A I J) (w_Tw G A I' J) sz r := by
  refine MTi.of (cc := cX5_placeRefused) (maxL := 5) (by decide +kernel) rfl (Nat.le_of_ble_eq_true rfl) (fun p e s m av below meth cd Q B H locs ls X hret hl hP hD hS => ?_)
  have hx := X.1.1
  have hb := X.1.2.1
  have hl : lv_has ls 5 [(0, .ref (A 0)), (1, .ref (A 1)), (2, .int x2), (3, .int x3)] := hl
  have b_37 : ∀ (t0 : Int32) (I : Nat → CS) (H : Heap) (locs : List Loc) (ls : Array Slot), f_X5_placeRefused_r_37 t0 I J = some (r, I') → va_P G.1 vwCl (w_Tw G A I J) H → va_D B (w_Tw G A I J) → va_S B s.heap H locs → lv_has ls 5 [] → W p l e r_X5_placeRefused_r s m av below meth cd H locs 0 0 Q (F0 m 37 ls [.int t0]) := by
    intro t0 I H locs ls hf hP hD hS hl
    unfold f_X5_placeRefused_r_37 at hf
    cases hf
    exact hret _ _ _ _ dX5_placeRefused_37 hP hD hS
  unfold f_X5_placeRefused_r at hf
  refine lv_aload_n (pc := 0) hx hb dX5_placeRefused_0 rfl (lv_at hl 0 rfl) ?_
  refine lv_aload_n (pc := 1) hx hb dX5_placeRefused_1 rfl (lv_at hl 1 rfl) ?_
  refine lv_iload_n (pc := 2) hx hb dX5_placeRefused_2 rfl (lv_at hl 2 rfl) ?_
  obtain ⟨r1, I1, hc1, hf⟩ := ob2_some hf
  refine endi X.2.2.2.2 (runV (pc := 3) (As := [.ref (A 1), .int x2]) (rest := []) X (c_X5_missingRefused_r G l A H.size I J x2 r1 I1 hc1) gX5_placeRefused_X5_missingRefused k_X5_missingRefused ⟨rfl, rfl⟩ ⟨Nat.le_of_ble_eq_true rfl, Nat.le_of_ble_eq_true rfl⟩ (EM.all (w_Tw G A I J) (w_Tw G A I1 J)) hP hD hS (ci := 5) rfl rfl (at_Tw_0 G A I J) rfl hl.1 rfl (Nat.le_of_ble_eq_true rfl) ⟨Nat.zero_le _, Nat.zero_le _⟩ dX5_placeRefused_3) (EM.all (w_Tw G A I J) (w_Tw G A I1 J)) hP hD hS (fun H locs hP hD hS => ?_)
  refine lv_istore (pc := 6) (lv' := [(4, .int r1), (0, .ref (A 0)), (1, .ref (A 1)), (2, .int x2), (3, .int x3)]) hx hb dX5_placeRefused_6 hl (by decide) rfl (fun ls hl => ?_)
  refine lv_iload (pc := 8) hx hb dX5_placeRefused_8 (lv_at hl 0 rfl) ?_
  refine lv_if_eq (pc := 10) (tgt := 16) hx hb dX5_placeRefused_10 (by decide) (fun h2 => ?_) (fun h2 => ?_)
  · have hf := br_y h2 hf
    refine lv_aload_n (pc := 16) hx hb dX5_placeRefused_16 rfl (lv_at hl 2 rfl) ?_
    refine lv_iload_n (pc := 17) hx hb dX5_placeRefused_17 rfl (lv_at hl 3 rfl) ?_
    refine lv_iload_n (pc := 18) hx hb dX5_placeRefused_18 rfl (lv_at hl 4 rfl) ?_
    obtain ⟨r2, hc2, hf⟩ := ob1_some hf
    refine endi X.2.2.2.2 (runV (pc := 19) (As := [.int x2, .int x3]) (rest := []) X (c_X3_holds_r G l (fun k => A (1 + k)) H.size (I1 5) x2 x3 r2 hc2) gX5_placeRefused_X3_holds k_X3_holds ⟨rfl, rfl⟩ ⟨Nat.le_of_ble_eq_true rfl, Nat.le_of_ble_eq_true rfl⟩ (em_Tw_S6_1 G A I1 J ) hP hD hS (ci := 3) rfl rfl (at_S6_0 G (fun k => A (1 + k)) (I1 5)) rfl hl.1 rfl (Nat.le_of_ble_eq_true rfl) ⟨Nat.zero_le _, Nat.zero_le _⟩ dX5_placeRefused_19) (em_Tw_S6_1 G A I1 J ) hP hD hS (fun H locs hP hD hS => ?_)
    refine lv_if_eq (pc := 22) (tgt := 29) hx hb dX5_placeRefused_22 (by decide) (fun h1 => ?_) (fun h1 => ?_)
    · have hf := br_y h1 hf
      refine lv_aload_n (pc := 29) hx hb dX5_placeRefused_29 rfl (lv_at hl 1 rfl) ?_
      refine wget (pc := 30) X (fun _ h9 => List.mem_cons_of_mem _ (List.mem_append_left _ (List.mem_append_left _ (List.mem_append_right _ h9)))) hP 0 (at_Tw_0 G A I1 J) rfl 2 (by decide) (List.mem_cons_of_mem _ (List.mem_append_left _ (List.mem_append_left _ (List.mem_append_left _ (List.mem_append_left _ (List.mem_of_getElem? (i := 0) rfl)))))) rfl (v := .ref (A 17)) rfl dX5_placeRefused_30 ?_
      refine lv_iconst (pc := 33) (v := (2 : Int32)) hx hb dX5_placeRefused_33 (by decide) ?_
      obtain ⟨r3, o3, hc3, hf⟩ := ob2_some hf
      refine endi X.2.2.2.2 (runV (pc := 34) (As := [.int (2 : Int32)]) (rest := []) X (c_X4_found G l (fun k => A (17 + k)) H.size (I1 7) (J 0) (2 : Int32) r3 o3 hc3) gX5_placeRefused_X4_found k_X4_found ⟨rfl, rfl⟩ ⟨Nat.le_of_ble_eq_true rfl, Nat.le_of_ble_eq_true rfl⟩ (em_Tw_To_17_o G A I1 J o3) hP hD hS (ci := 4) rfl rfl (at_To_0 G (fun k => A (17 + k)) (I1 7) (J 0)) rfl hl.1 rfl (Nat.le_of_ble_eq_true rfl) ⟨Nat.zero_le _, Nat.zero_le _⟩ dX5_placeRefused_34) (em_Tw_To_17_o G A I1 J o3) hP hD hS (fun H locs hP hD hS => ?_)
      exact b_37 _ _ H locs ls hf hP hD hS (lv_sub hl [] rfl)
    · have hf := br_n h1 hf
      refine lv_iconst (pc := 25) (v := (0 : Int32)) hx hb dX5_placeRefused_25 (by decide) ?_
      refine lv_goto (pc := 26) (tgt := 37) hx hb dX5_placeRefused_26 (by decide) ?_
      exact b_37 _ _ H locs ls hf hP hD hS (lv_sub hl [] rfl)
  · have hf := br_n h2 hf
    refine lv_iload (pc := 13) hx hb dX5_placeRefused_13 (lv_at hl 0 rfl) ?_
    cases hf
    exact hret _ _ _ _ dX5_placeRefused_15 hP hD hS
def r_X5_at : Room := { frames := 4, cells := 0, slots := 0, locals := 88 }
set_option maxHeartbeats 4000000 in
set_option maxRecDepth 100000 in
theorem c_X5_at (G : GT) (l : Launch) (A : Nat → Nat) (sz : Nat) (I : Nat → CS) (J : Nat → JS) (x1 : Int32) (x2 : Int32) (r : Int32) (I' : Nat → CS) (hf : f_X5_at I J x1 x2 = some (r, I')) : MTi l yX5_at wsX5_at r_X5_at [.ref (A 0), .int x1, .int x2] G (w_Tw G A I J) (w_Tw G A I' J) sz r := by
  refine MTi.of (cc := cX5_at) (maxL := 4) (by decide +kernel) rfl (Nat.le_of_ble_eq_true rfl) (fun p e s m av below meth cd Q B H locs ls X hret hl hP hD hS => ?_)
  have hx := X.1.1
  have hb := X.1.2.1
  have hl : lv_has ls 4 [(0, .ref (A 0)), (1, .int x1), (2, .int x2)] := hl
  unfold f_X5_at at hf
  refine lv_aload_n (pc := 0) hx hb dX5_at_0 rfl (lv_at hl 0 rfl) ?_
  refine lv_aload_n (pc := 1) hx hb dX5_at_1 rfl (lv_at hl 0 rfl) ?_
  refine wget (pc := 2) X (fun _ h9 => List.mem_cons_of_mem _ (List.mem_append_left _ (List.mem_append_left _ (List.mem_append_right _ h9)))) hP 0 (at_Tw_0 G A I J) rfl 0 (by decide) (List.mem_cons_of_mem _ (List.mem_append_left _ (List.mem_append_left _ (List.mem_append_left _ (List.mem_append_left _ (List.mem_of_getElem? (i := 0) rfl)))))) rfl (v := .ref (A 1)) rfl dX5_at_2 ?_
  refine lv_iload_n (pc := 5) hx hb dX5_at_5 rfl (lv_at hl 1 rfl) ?_
  refine lv_iload_n (pc := 6) hx hb dX5_at_6 rfl (lv_at hl 2 rfl) ?_
  obtain ⟨r1, I1, hc1, hf⟩ := ob2_some hf
  refine endi X.2.2.2.2 (runV (pc := 7) (As := [.ref (A 1), .int x1, .int x2]) (rest := []) X (c_X5_placeRefused_r G l A H.size I J x1 x2 r1 I1 hc1) gX5_at_X5_placeRefused k_X5_placeRefused ⟨rfl, rfl⟩ ⟨Nat.le_of_ble_eq_true rfl, Nat.le_of_ble_eq_true rfl⟩ (EM.all (w_Tw G A I J) (w_Tw G A I1 J)) hP hD hS (ci := 5) rfl rfl (at_Tw_0 G A I J) rfl hl.1 rfl (Nat.le_of_ble_eq_true rfl) ⟨Nat.zero_le _, Nat.zero_le _⟩ dX5_at_7) (EM.all (w_Tw G A I J) (w_Tw G A I1 J)) hP hD hS (fun H locs hP hD hS => ?_)
  refine lv_istore_n (pc := 10) (lv' := [(3, .int r1), (0, .ref (A 0)), (1, .int x1), (2, .int x2)]) hx hb dX5_at_10 rfl hl (by decide) rfl (fun ls hl => ?_)
  refine lv_iload_n (pc := 11) hx hb dX5_at_11 rfl (lv_at hl 0 rfl) ?_
  refine lv_if_eq (pc := 12) (tgt := 17) hx hb dX5_at_12 (by decide) (fun h1 => ?_) (fun h1 => ?_)
  · have hf := br_y h1 hf
    refine lv_aload_n (pc := 17) hx hb dX5_at_17 rfl (lv_at hl 1 rfl) ?_
    refine wget (pc := 18) X (fun _ h9 => List.mem_cons_of_mem _ (List.mem_append_left _ (List.mem_append_left _ (List.mem_append_right _ h9)))) hP 0 (at_Tw_0 G A I1 J) rfl 2 (by decide) (List.mem_cons_of_mem _ (List.mem_append_left _ (List.mem_append_left _ (List.mem_append_left _ (List.mem_append_left _ (List.mem_of_getElem? (i := 1) rfl)))))) rfl (v := .ref (A 17)) rfl dX5_at_18 ?_
    refine lv_aload_n (pc := 21) hx hb dX5_at_21 rfl (lv_at hl 1 rfl) ?_
    refine wget (pc := 22) X (fun _ h9 => List.mem_cons_of_mem _ (List.mem_append_left _ (List.mem_append_left _ (List.mem_append_right _ h9)))) hP 0 (at_Tw_0 G A I1 J) rfl 0 (by decide) (List.mem_cons_of_mem _ (List.mem_append_left _ (List.mem_append_left _ (List.mem_append_left _ (List.mem_append_left _ (List.mem_of_getElem? (i := 0) rfl)))))) rfl (v := .ref (A 1)) rfl dX5_at_22 ?_
    refine lv_iload_n (pc := 25) hx hb dX5_at_25 rfl (lv_at hl 2 rfl) ?_
    refine lv_iload_n (pc := 26) hx hb dX5_at_26 rfl (lv_at hl 3 rfl) ?_
    obtain ⟨r2, hc2, hf⟩ := ob1_some hf
    refine endi X.2.2.2.2 (runV (pc := 27) (As := [.int x1, .int x2]) (rest := [.ref (A 17)]) X (c_X3_get_r G l (fun k => A (1 + k)) H.size (I1 5) x1 x2 r2 hc2) gX5_at_X3_get k_X3_get ⟨rfl, rfl⟩ ⟨Nat.le_of_ble_eq_true rfl, Nat.le_of_ble_eq_true rfl⟩ (em_Tw_S6_1 G A I1 J ) hP hD hS (ci := 3) rfl rfl (at_S6_0 G (fun k => A (1 + k)) (I1 5)) rfl hl.1 rfl (Nat.le_of_ble_eq_true rfl) ⟨Nat.zero_le _, Nat.zero_le _⟩ dX5_at_27) (em_Tw_S6_1 G A I1 J ) hP hD hS (fun H locs hP hD hS => ?_)
    refine wputN (pc := 30) X (fun _ h9 => List.mem_cons_of_mem _ (List.mem_append_left _ (List.mem_append_right _ h9))) tyX4 tyX4_ok nmX4 hP hD hS 17 (at_Tw_17 G A I1 J) rfl 0 (by decide) (List.mem_of_getElem? (i := 0) rfl) rfl rfl (ty := .int) (v := .int r2) rfl rfl rfl (Nat.le_of_ble_eq_true rfl) (st_Tw_17_0 G A I1 J r2) dX5_at_30 (fun H locs hP hD hS => ?_)
    refine lv_iconst (pc := 33) (v := (1 : Int32)) hx hb dX5_at_33 (by decide) ?_
    cases hf
    exact hret _ _ _ _ dX5_at_34 hP hD hS
  · have hf := br_n h1 hf
    refine lv_iload_n (pc := 15) hx hb dX5_at_15 rfl (lv_at hl 0 rfl) ?_
    cases hf
    exact hret _ _ _ _ dX5_at_16 hP hD hS
def r_X5_missingRefused_t : Room := { frames := 2, cells := 0, slots := 0, locals := 42 }
set_option maxHeartbeats 4000000 in
set_option maxRecDepth 100000 in
theorem c_X5_missingRefused_t (G : GT) (l : Launch) (A : Nat → Nat) (sz : Nat) (I : Nat → CS) (J : Nat → JS) (x2 : Int32) (r : Int32) (I' : Nat → CS) (hf : f_X5_missingRefused_t I J x2 = some (r, I')) : MTi l yX5_missingRefused wsX5_missingRefused r_X5_missingRefused_t [.ref (A 0), .ref (A 10), .int x2] G (w_Tw G A I J) (w_Tw G A I' J) sz r := by
  refine MTi.of (cc := cX5_missingRefused) (maxL := 3) (by decide +kernel) rfl (Nat.le_of_ble_eq_true rfl) (fun p e s m av below meth cd Q B H locs ls X hret hl hP hD hS => ?_)
  have hx := X.1.1
  have hb := X.1.2.1
  have hl : lv_has ls 3 [(0, .ref (A 0)), (1, .ref (A 10)), (2, .int x2)] := hl
  have b_30 : ∀ (t0 : Int32) (I : Nat → CS) (H : Heap) (locs : List Loc) (ls : Array Slot), f_X5_missingRefused_t_30 t0 I J = some (r, I') → va_P G.1 vwCl (w_Tw G A I J) H → va_D B (w_Tw G A I J) → va_S B s.heap H locs → lv_has ls 3 [] → W p l e r_X5_missingRefused_t s m av below meth cd H locs 0 0 Q (F0 m 30 ls [.int t0]) := by
    intro t0 I H locs ls hf hP hD hS hl
    unfold f_X5_missingRefused_t_30 at hf
    cases hf
    exact hret _ _ _ _ dX5_missingRefused_30 hP hD hS
  unfold f_X5_missingRefused_t at hf
  refine lv_aload_n (pc := 0) hx hb dX5_missingRefused_0 rfl (lv_at hl 1 rfl) ?_
  refine lv_iload_n (pc := 1) hx hb dX5_missingRefused_1 rfl (lv_at hl 2 rfl) ?_
  obtain ⟨r1, hc1, hf⟩ := ob1_some hf
  refine endi X.2.2.2.2 (runV (pc := 2) (As := [.int x2]) (rest := []) X (c_X3_isNumber_t G l (fun k => A (10 + k)) H.size (I 6) x2 r1 hc1) gX5_missingRefused_X3_isNumber k_X3_isNumber ⟨rfl, rfl⟩ ⟨Nat.le_of_ble_eq_true rfl, Nat.le_of_ble_eq_true rfl⟩ (em_Tw_S4_10 G A I J ) hP hD hS (ci := 3) rfl rfl (at_S4_0 G (fun k => A (10 + k)) (I 6)) rfl hl.1 rfl (Nat.le_of_ble_eq_true rfl) ⟨Nat.zero_le _, Nat.zero_le _⟩ dX5_missingRefused_2) (em_Tw_S4_10 G A I J ) hP hD hS (fun H locs hP hD hS => ?_)
  refine lv_if_ne (pc := 5) (tgt := 10) hx hb dX5_missingRefused_5 (by decide) (fun h2 => ?_) (fun h2 => ?_)
  · have hf := br_n h2 hf
    refine lv_aload_n (pc := 10) hx hb dX5_missingRefused_10 rfl (lv_at hl 1 rfl) ?_
    refine lv_iload_n (pc := 11) hx hb dX5_missingRefused_11 rfl (lv_at hl 2 rfl) ?_
    obtain ⟨r2, hc2, hf⟩ := ob1_some hf
    refine endi X.2.2.2.2 (runV (pc := 12) (As := [.int x2]) (rest := []) X (c_X3_isThere_t G l (fun k => A (10 + k)) H.size (I 6) x2 r2 hc2) gX5_missingRefused_X3_isThere k_X3_isThere ⟨rfl, rfl⟩ ⟨Nat.le_of_ble_eq_true rfl, Nat.le_of_ble_eq_true rfl⟩ (em_Tw_S4_10 G A I J ) hP hD hS (ci := 3) rfl rfl (at_S4_0 G (fun k => A (10 + k)) (I 6)) rfl hl.1 rfl (Nat.le_of_ble_eq_true rfl) ⟨Nat.zero_le _, Nat.zero_le _⟩ dX5_missingRefused_12) (em_Tw_S4_10 G A I J ) hP hD hS (fun H locs hP hD hS => ?_)
    refine lv_if_eq (pc := 15) (tgt := 22) hx hb dX5_missingRefused_15 (by decide) (fun h1 => ?_) (fun h1 => ?_)
    · have hf := br_y h1 hf
      refine lv_aload_n (pc := 22) hx hb dX5_missingRefused_22 rfl (lv_at hl 0 rfl) ?_
      refine wget (pc := 23) X (fun _ h9 => List.mem_cons_of_mem _ (List.mem_append_left _ (List.mem_append_left _ (List.mem_append_right _ h9)))) hP 0 (at_Tw_0 G A I J) rfl 2 (by decide) (List.mem_cons_of_mem _ (List.mem_append_left _ (List.mem_append_left _ (List.mem_append_left _ (List.mem_of_getElem? (i := 0) rfl))))) rfl (v := .ref (A 17)) rfl dX5_missingRefused_23 ?_
      refine lv_iconst (pc := 26) (v := (1 : Int32)) hx hb dX5_missingRefused_26 (by decide) ?_
      obtain ⟨r3, o3, hc3, hf⟩ := ob2_some hf
      refine endi X.2.2.2.2 (runV (pc := 27) (As := [.int (1 : Int32)]) (rest := []) X (c_X4_found G l (fun k => A (17 + k)) H.size (I 7) (J 0) (1 : Int32) r3 o3 hc3) gX5_missingRefused_X4_found k_X4_found ⟨rfl, rfl⟩ ⟨Nat.le_of_ble_eq_true rfl, Nat.le_of_ble_eq_true rfl⟩ (em_Tw_To_17_o G A I J o3) hP hD hS (ci := 4) rfl rfl (at_To_0 G (fun k => A (17 + k)) (I 7) (J 0)) rfl hl.1 rfl (Nat.le_of_ble_eq_true rfl) ⟨Nat.zero_le _, Nat.zero_le _⟩ dX5_missingRefused_27) (em_Tw_To_17_o G A I J o3) hP hD hS (fun H locs hP hD hS => ?_)
      exact b_30 _ _ H locs ls hf hP hD hS (lv_sub hl [] rfl)
    · have hf := br_n h1 hf
      refine lv_iconst (pc := 18) (v := (0 : Int32)) hx hb dX5_missingRefused_18 (by decide) ?_
      refine lv_goto (pc := 19) (tgt := 30) hx hb dX5_missingRefused_19 (by decide) ?_
      exact b_30 _ _ H locs ls hf hP hD hS (lv_sub hl [] rfl)
  · have hf := br_y h2 hf
    refine lv_iconst (pc := 8) (v := (-1 : Int32)) hx hb dX5_missingRefused_8 (by decide) ?_
    cases hf
    exact hret _ _ _ _ dX5_missingRefused_9 hP hD hS
def r_X5_chain : Room := { frames := 6, cells := 0, slots := 0, locals := 144 }
set_option maxHeartbeats 4000000 in
set_option maxRecDepth 100000 in
theorem c_X5_chain (G : GT) (l : Launch) (A : Nat → Nat) (sz : Nat) (I : Nat → CS) (J : Nat → JS) (x1 : Int32) (r : Int32) (I' : Nat → CS) (hf : f_X5_chain I J x1 = some (r, I')) : MTi l yX5_chain wsX5_chain r_X5_chain [.ref (A 0), .int x1] G (w_Tw G A I J) (w_Tw G A I' J) sz r := by
  refine MTi.of (cc := cX5_chain) (maxL := 4) (by decide +kernel) rfl (Nat.le_of_ble_eq_true rfl) (fun p e s m av below meth cd Q B H locs ls X hret hl hP hD hS => ?_)
  have hx := X.1.1
  have hb := X.1.2.1
  have hl : lv_has ls 4 [(0, .ref (A 0)), (1, .int x1)] := hl
  have l_52 : ∀ (n52 : Nat), ∀ (x3 : Int32) (I : Nat → CS) (H : Heap) (locs : List Loc) (ls : Array Slot), f_X5_chain_52 n52 x3 I J = some (r, I') → va_P G.1 vwCl (w_Tw G A I J) H → va_D B (w_Tw G A I J) → va_S B s.heap H locs → lv_has ls 4 [(0, .ref (A 0)), (3, .int x3)] → W p l e r_X5_chain s m av below meth cd H locs 0 0 Q (F0 m 52 ls []) := by
    intro n52
    induction n52 with
    | zero =>
      intro x3 I H locs ls hf hP hD hS hl
      rw [f_X5_chain_52] at hf
      cases hf
    | succ n52 ih52 =>
      intro x3 I H locs ls hf hP hD hS hl
      rw [f_X5_chain_52] at hf
      refine lv_iload_n (pc := 52) hx hb dX5_chain_52 rfl (lv_at hl 1 rfl) ?_
      refine lv_iconst (pc := 53) (v := (3 : Int32)) hx hb dX5_chain_53 (by decide) ?_
      refine lv_icmp_ge (pc := 54) (tgt := 72) hx hb dX5_chain_54 (by decide) (fun h1 => ?_) (fun h1 => ?_)
      · have hf := br_y h1 hf
        refine lv_aload_n (pc := 72) hx hb dX5_chain_72 rfl (lv_at hl 0 rfl) ?_
        refine wget (pc := 73) X (fun _ h9 => List.mem_cons_of_mem _ (List.mem_append_left _ (List.mem_append_left _ (List.mem_append_left _ (List.mem_append_left _ (List.mem_append_right _ h9)))))) hP 0 (at_Tw_0 G A I J) rfl 5 (by decide) (List.mem_cons_of_mem _ (List.mem_append_left _ (List.mem_append_left _ (List.mem_append_left _ (List.mem_append_left _ (List.mem_append_left _ (List.mem_append_left _ (List.mem_of_getElem? (i := 2) rfl)))))))) rfl (v := .ref (A 31)) rfl dX5_chain_73 ?_
        refine wgetN (pc := 76) X (fun _ h9 => List.mem_cons_of_mem _ (List.mem_append_left _ (List.mem_append_left _ (List.mem_append_right _ h9)))) hP 31 (at_Tw_31 G A I J) rfl 0 (by decide) (List.mem_of_getElem? (i := 6) rfl) rfl (v := .int ((I 0) 0 0)) rfl dX5_chain_76 ?_
        cases hf
        exact hret _ _ _ _ dX5_chain_79 hP hD hS
      · have hf := br_n h1 hf
        refine lv_aload_n (pc := 57) hx hb dX5_chain_57 rfl (lv_at hl 0 rfl) ?_
        refine wget (pc := 58) X (fun _ h9 => List.mem_cons_of_mem _ (List.mem_append_left _ (List.mem_append_left _ (List.mem_append_left _ (List.mem_append_left _ (List.mem_append_right _ h9)))))) hP 0 (at_Tw_0 G A I J) rfl 6 (by decide) (List.mem_cons_of_mem _ (List.mem_append_left _ (List.mem_append_left _ (List.mem_append_left _ (List.mem_append_left _ (List.mem_append_left _ (List.mem_append_left _ (List.mem_of_getElem? (i := 3) rfl)))))))) rfl (v := .ref (A 41)) rfl dX5_chain_58 ?_
        refine lv_iload_n (pc := 61) hx hb dX5_chain_61 rfl (lv_at hl 1 rfl) ?_
        obtain ⟨hi, hf⟩ := ck_some hf
        refine waaldC (pc := 62) X hP 41 (at_Tw_41 G A I J) hi (B := fun i => A (42 + 10 * i)) (fun i h => by rcases (show i = 0 ∨ i = 1 ∨ i = 2 by omega) with rfl | rfl | rfl <;> rfl) dX5_chain_62 ?_
        have hj := inb_lt hi
        generalize x3.toNatClampNeg = jj at hf hj ⊢
        rcases (show jj = 0 ∨ jj = 1 ∨ jj = 2 by omega) with rfl | rfl | rfl
        · obtain ⟨c1, hc1, hf⟩ := ob1_some hf
          refine endv X.2.2.2.2 (runV (pc := 63) (As := []) (rest := []) X (c_X0_clear G l (fun k => A (42 + k)) H.size (I 2) c1 hc1) gX5_chain_X0_clear k_X0_clear ⟨rfl, rfl⟩ ⟨Nat.le_of_ble_eq_true rfl, Nat.le_of_ble_eq_true rfl⟩ (em_Tw_Ch_42_c G A I J c1) hP hD hS (ci := 0) rfl rfl (at_Ch_0 G (fun k => A (42 + k)) (I 2)) rfl hl.1 rfl (Nat.le_of_ble_eq_true rfl) ⟨Nat.zero_le _, Nat.zero_le _⟩ dX5_chain_63) (em_Tw_Ch_42_c G A I J c1) hP hD hS (fun H locs hP hD hS => ?_)
          refine lv_iinc (pc := 66) (v := (x3 + (1 : Int32))) (lv' := [(3, .int (x3 + (1 : Int32))), (0, .ref (A 0))]) hx hb dX5_chain_66 hl (k := 1) rfl rfl (by decide) rfl (fun ls hl => ?_)
          refine lv_goto (pc := 69) (tgt := 52) hx hb dX5_chain_69 (by decide) ?_
          exact ih52 _ _ H locs ls hf hP hD hS (lv_sub hl [1, 0] rfl)
        · obtain ⟨c2, hc2, hf⟩ := ob1_some hf
          refine endv X.2.2.2.2 (runV (pc := 63) (As := []) (rest := []) X (c_X0_clear G l (fun k => A (52 + k)) H.size (I 3) c2 hc2) gX5_chain_X0_clear k_X0_clear ⟨rfl, rfl⟩ ⟨Nat.le_of_ble_eq_true rfl, Nat.le_of_ble_eq_true rfl⟩ (em_Tw_Ch_52_c G A I J c2) hP hD hS (ci := 0) rfl rfl (at_Ch_0 G (fun k => A (52 + k)) (I 3)) rfl hl.1 rfl (Nat.le_of_ble_eq_true rfl) ⟨Nat.zero_le _, Nat.zero_le _⟩ dX5_chain_63) (em_Tw_Ch_52_c G A I J c2) hP hD hS (fun H locs hP hD hS => ?_)
          refine lv_iinc (pc := 66) (v := (x3 + (1 : Int32))) (lv' := [(3, .int (x3 + (1 : Int32))), (0, .ref (A 0))]) hx hb dX5_chain_66 hl (k := 1) rfl rfl (by decide) rfl (fun ls hl => ?_)
          refine lv_goto (pc := 69) (tgt := 52) hx hb dX5_chain_69 (by decide) ?_
          exact ih52 _ _ H locs ls hf hP hD hS (lv_sub hl [1, 0] rfl)
        · obtain ⟨c3, hc3, hf⟩ := ob1_some hf
          refine endv X.2.2.2.2 (runV (pc := 63) (As := []) (rest := []) X (c_X0_clear G l (fun k => A (62 + k)) H.size (I 4) c3 hc3) gX5_chain_X0_clear k_X0_clear ⟨rfl, rfl⟩ ⟨Nat.le_of_ble_eq_true rfl, Nat.le_of_ble_eq_true rfl⟩ (em_Tw_Ch_62_c G A I J c3) hP hD hS (ci := 0) rfl rfl (at_Ch_0 G (fun k => A (62 + k)) (I 4)) rfl hl.1 rfl (Nat.le_of_ble_eq_true rfl) ⟨Nat.zero_le _, Nat.zero_le _⟩ dX5_chain_63) (em_Tw_Ch_62_c G A I J c3) hP hD hS (fun H locs hP hD hS => ?_)
          refine lv_iinc (pc := 66) (v := (x3 + (1 : Int32))) (lv' := [(3, .int (x3 + (1 : Int32))), (0, .ref (A 0))]) hx hb dX5_chain_66 hl (k := 1) rfl rfl (by decide) rfl (fun ls hl => ?_)
          refine lv_goto (pc := 69) (tgt := 52) hx hb dX5_chain_69 (by decide) ?_
          exact ih52 _ _ H locs ls hf hP hD hS (lv_sub hl [1, 0] rfl)
  unfold f_X5_chain at hf
  refine lv_aload_n (pc := 0) hx hb dX5_chain_0 rfl (lv_at hl 0 rfl) ?_
  refine lv_aload_n (pc := 1) hx hb dX5_chain_1 rfl (lv_at hl 0 rfl) ?_
  refine wget (pc := 2) X (fun _ h9 => List.mem_cons_of_mem _ (List.mem_append_left _ (List.mem_append_left _ (List.mem_append_left _ (List.mem_append_left _ (List.mem_append_right _ h9)))))) hP 0 (at_Tw_0 G A I J) rfl 1 (by decide) (List.mem_cons_of_mem _ (List.mem_append_left _ (List.mem_append_left _ (List.mem_append_left _ (List.mem_append_left _ (List.mem_append_left _ (List.mem_append_left _ (List.mem_of_getElem? (i := 0) rfl)))))))) rfl (v := .ref (A 10)) rfl dX5_chain_2 ?_
  refine lv_iload_n (pc := 5) hx hb dX5_chain_5 rfl (lv_at hl 1 rfl) ?_
  obtain ⟨r1, I1, hc1, hf⟩ := ob2_some hf
  refine endi X.2.2.2.2 (runV (pc := 6) (As := [.ref (A 10), .int x1]) (rest := []) X (c_X5_missingRefused_t G l A H.size I J x1 r1 I1 hc1) gX5_chain_X5_missingRefused k_X5_missingRefused ⟨rfl, rfl⟩ ⟨Nat.le_of_ble_eq_true rfl, Nat.le_of_ble_eq_true rfl⟩ (EM.all (w_Tw G A I J) (w_Tw G A I1 J)) hP hD hS (ci := 5) rfl rfl (at_Tw_0 G A I J) rfl hl.1 rfl (Nat.le_of_ble_eq_true rfl) ⟨Nat.zero_le _, Nat.zero_le _⟩ dX5_chain_6) (EM.all (w_Tw G A I J) (w_Tw G A I1 J)) hP hD hS (fun H locs hP hD hS => ?_)
  refine lv_istore_n (pc := 9) (lv' := [(2, .int r1), (0, .ref (A 0)), (1, .int x1)]) hx hb dX5_chain_9 rfl hl (by decide) rfl (fun ls hl => ?_)
  refine lv_iload_n (pc := 10) hx hb dX5_chain_10 rfl (lv_at hl 0 rfl) ?_
  refine lv_if_eq (pc := 11) (tgt := 16) hx hb dX5_chain_11 (by decide) (fun h3 => ?_) (fun h3 => ?_)
  · have hf := br_y h3 hf
    refine lv_aload_n (pc := 16) hx hb dX5_chain_16 rfl (lv_at hl 1 rfl) ?_
    refine wget (pc := 17) X (fun _ h9 => List.mem_cons_of_mem _ (List.mem_append_left _ (List.mem_append_left _ (List.mem_append_left _ (List.mem_append_left _ (List.mem_append_right _ h9)))))) hP 0 (at_Tw_0 G A I1 J) rfl 3 (by decide) (List.mem_cons_of_mem _ (List.mem_append_left _ (List.mem_append_left _ (List.mem_append_left _ (List.mem_append_left _ (List.mem_append_left _ (List.mem_append_left _ (List.mem_of_getElem? (i := 1) rfl)))))))) rfl (v := .ref (A 19)) rfl dX5_chain_17 ?_
    refine lv_aload_n (pc := 20) hx hb dX5_chain_20 rfl (lv_at hl 1 rfl) ?_
    refine wget (pc := 21) X (fun _ h9 => List.mem_cons_of_mem _ (List.mem_append_left _ (List.mem_append_left _ (List.mem_append_left _ (List.mem_append_left _ (List.mem_append_right _ h9)))))) hP 0 (at_Tw_0 G A I1 J) rfl 1 (by decide) (List.mem_cons_of_mem _ (List.mem_append_left _ (List.mem_append_left _ (List.mem_append_left _ (List.mem_append_left _ (List.mem_append_left _ (List.mem_append_left _ (List.mem_of_getElem? (i := 0) rfl)))))))) rfl (v := .ref (A 10)) rfl dX5_chain_21 ?_
    refine lv_iload_n (pc := 24) hx hb dX5_chain_24 rfl (lv_at hl 2 rfl) ?_
    obtain ⟨r2, c2, hc2, hf⟩ := ob2_some hf
    refine endi X.2.2.2.2 (runV (pc := 25) (As := [.ref (A 10), .int x1]) (rest := []) X (c_X2_read G l (fun k => A (bif Nat.blt k 11 then 19 + k else k - 1)) H.size (I1 1) (I1 6) x1 r2 c2 hc2) gX5_chain_X2_read k_X2_read ⟨rfl, rfl⟩ ⟨Nat.le_of_ble_eq_true rfl, Nat.le_of_ble_eq_true rfl⟩ (em_Tw_RS_19_10_c G A I1 J c2) hP hD hS (ci := 2) rfl rfl (at_RS_0 G (fun k => A (bif Nat.blt k 11 then 19 + k else k - 1)) (I1 1) (I1 6)) rfl hl.1 rfl (Nat.le_of_ble_eq_true rfl) ⟨Nat.zero_le _, Nat.zero_le _⟩ dX5_chain_25) (em_Tw_RS_19_10_c G A I1 J c2) hP hD hS (fun H locs hP hD hS => ?_)
    refine lv_bipush (pc := 28) (v := (-9 : Int32)) hx hb dX5_chain_28 (by decide) ?_
    refine lv_icmp_eq (pc := 30) (tgt := 36) hx hb dX5_chain_30 (by decide) (fun h2 => ?_) (fun h2 => ?_)
    · have hf := br_y h2 hf
      refine lv_aload_n (pc := 36) hx hb dX5_chain_36 rfl (lv_at hl 1 rfl) ?_
      refine wget (pc := 37) X (fun _ h9 => List.mem_cons_of_mem _ (List.mem_append_left _ (List.mem_append_left _ (List.mem_append_left _ (List.mem_append_left _ (List.mem_append_right _ h9)))))) hP 0 (at_Tw_0 G A (gset I1 1 c2) J) rfl 5 (by decide) (List.mem_cons_of_mem _ (List.mem_append_left _ (List.mem_append_left _ (List.mem_append_left _ (List.mem_append_left _ (List.mem_append_left _ (List.mem_append_left _ (List.mem_of_getElem? (i := 2) rfl)))))))) rfl (v := .ref (A 31)) rfl dX5_chain_37 ?_
      refine lv_aload_n (pc := 40) hx hb dX5_chain_40 rfl (lv_at hl 1 rfl) ?_
      refine wget (pc := 41) X (fun _ h9 => List.mem_cons_of_mem _ (List.mem_append_left _ (List.mem_append_left _ (List.mem_append_left _ (List.mem_append_left _ (List.mem_append_right _ h9)))))) hP 0 (at_Tw_0 G A (gset I1 1 c2) J) rfl 3 (by decide) (List.mem_cons_of_mem _ (List.mem_append_left _ (List.mem_append_left _ (List.mem_append_left _ (List.mem_append_left _ (List.mem_append_left _ (List.mem_append_left _ (List.mem_of_getElem? (i := 1) rfl)))))))) rfl (v := .ref (A 19)) rfl dX5_chain_41 ?_
      refine wgetN (pc := 44) X (fun _ h9 => List.mem_cons_of_mem _ (List.mem_append_left _ (List.mem_append_left _ (List.mem_append_left _ (List.mem_append_right _ h9))))) hP 19 (at_Tw_19 G A (gset I1 1 c2) J) rfl 0 (by decide) (List.mem_of_getElem? (i := 13) rfl) rfl (v := .ref (A 20)) rfl dX5_chain_44 ?_
      obtain ⟨c3, hc3, hf⟩ := ob1_some hf
      refine endv X.2.2.2.2 (runV (pc := 47) (As := [.ref (A 20)]) (rest := []) X (c_X0_takeFrom G l (fun k => A (bif Nat.blt k 10 then 31 + k else 10 + k)) H.size (I1 0) c2 c3 hc3) gX5_chain_X0_takeFrom k_X0_takeFrom ⟨rfl, rfl⟩ ⟨Nat.le_of_ble_eq_true rfl, Nat.le_of_ble_eq_true rfl⟩ (em_Tw_CC_31_20_c G A (gset I1 1 c2) J c3) hP hD hS (ci := 0) rfl rfl (at_CC_0 G (fun k => A (bif Nat.blt k 10 then 31 + k else 10 + k)) (I1 0) c2) rfl hl.1 rfl (Nat.le_of_ble_eq_true rfl) ⟨Nat.zero_le _, Nat.zero_le _⟩ dX5_chain_47) (em_Tw_CC_31_20_c G A (gset I1 1 c2) J c3) hP hD hS (fun H locs hP hD hS => ?_)
      refine lv_iconst (pc := 50) (v := (0 : Int32)) hx hb dX5_chain_50 (by decide) ?_
      refine lv_istore_n (pc := 51) (lv' := [(3, .int (0 : Int32)), (2, .int r1), (0, .ref (A 0)), (1, .int x1)]) hx hb dX5_chain_51 rfl hl (by decide) rfl (fun ls hl => ?_)
      exact l_52 FU _ _ H locs ls hf hP hD hS (lv_sub hl [2, 0] rfl)
    · have hf := br_n h2 hf
      refine lv_bipush (pc := 33) (v := (-4 : Int32)) hx hb dX5_chain_33 (by decide) ?_
      cases hf
      exact hret _ _ _ _ dX5_chain_35 hP hD hS
  · have hf := br_n h3 hf
    refine lv_iload_n (pc := 14) hx hb dX5_chain_14 rfl (lv_at hl 0 rfl) ?_
    cases hf
    exact hret _ _ _ _ dX5_chain_15 hP hD hS
def r_X5_copy : Room := { frames := 4, cells := 0, slots := 0, locals := 90 }
set_option maxHeartbeats 4000000 in
set_option maxRecDepth 100000 in
theorem c_X5_copy (G : GT) (l : Launch) (A : Nat → Nat) (sz : Nat) (I : Nat → CS) (J : Nat → JS) (x1 : Int32) (x2 : Int32) (x3 : Int32) (x4 : Int32) (x5 : Int32) (r : Int32) (I' : Nat → CS) (hf : f_X5_copy I J x1 x2 x3 x4 x5 = some (r, I')) : MTi l yX5_copy wsX5_copy r_X5_copy [.ref (A 0), .int x1, .int x2, .int x3, .int x4, .int x5] G (w_Tw G A I J) (w_Tw G A I' J) sz r := by
  refine MTi.of (cc := cX5_copy) (maxL := 6) (by decide +kernel) rfl (Nat.le_of_ble_eq_true rfl) (fun p e s m av below meth cd Q B H locs ls X hret hl hP hD hS => ?_)
  have hx := X.1.1
  have hb := X.1.2.1
  have hl : lv_has ls 6 [(0, .ref (A 0)), (1, .int x1), (2, .int x2), (3, .int x3), (4, .int x4), (5, .int x5)] := hl
  have b_22 : ∀ (I : Nat → CS) (H : Heap) (locs : List Loc) (ls : Array Slot), f_X5_copy_22 I J = some (r, I') → va_P G.1 vwCl (w_Tw G A I J) H → va_D B (w_Tw G A I J) → va_S B s.heap H locs → lv_has ls 6 [] → W p l e r_X5_copy s m av below meth cd H locs 0 0 Q (F0 m 22 ls []) := by
    intro I H locs ls hf hP hD hS hl
    unfold f_X5_copy_22 at hf
    refine lv_iconst (pc := 22) (v := (-1 : Int32)) hx hb dX5_copy_22 (by decide) ?_
    cases hf
    exact hret _ _ _ _ dX5_copy_23 hP hD hS
  have b_60 : ∀ (I : Nat → CS) (H : Heap) (locs : List Loc) (ls : Array Slot), f_X5_copy_60 I J = some (r, I') → va_P G.1 vwCl (w_Tw G A I J) H → va_D B (w_Tw G A I J) → va_S B s.heap H locs → lv_has ls 6 [(0, .ref (A 0))] → W p l e r_X5_copy s m av below meth cd H locs 0 0 Q (F0 m 60 ls []) := by
    intro I H locs ls hf hP hD hS hl
    unfold f_X5_copy_60 at hf
    refine lv_aload_n (pc := 60) hx hb dX5_copy_60 rfl (lv_at hl 0 rfl) ?_
    refine wget (pc := 61) X (fun _ h9 => List.mem_cons_of_mem _ (List.mem_append_left _ (List.mem_append_left _ (List.mem_append_right _ h9)))) hP 0 (at_Tw_0 G A I J) rfl 2 (by decide) (List.mem_cons_of_mem _ (List.mem_append_left _ (List.mem_append_left _ (List.mem_append_left _ (List.mem_append_left _ (List.mem_of_getElem? (i := 1) rfl)))))) rfl (v := .ref (A 17)) rfl dX5_copy_61 ?_
    refine lv_iconst (pc := 64) (v := (1 : Int32)) hx hb dX5_copy_64 (by decide) ?_
    obtain ⟨r1, o1, hc1, hf⟩ := ob2_some hf
    refine endi X.2.2.2.2 (runV (pc := 65) (As := [.int (1 : Int32)]) (rest := []) X (c_X4_found G l (fun k => A (17 + k)) H.size (I 7) (J 0) (1 : Int32) r1 o1 hc1) gX5_copy_X4_found k_X4_found ⟨rfl, rfl⟩ ⟨Nat.le_of_ble_eq_true rfl, Nat.le_of_ble_eq_true rfl⟩ (em_Tw_To_17_o G A I J o1) hP hD hS (ci := 4) rfl rfl (at_To_0 G (fun k => A (17 + k)) (I 7) (J 0)) rfl hl.1 rfl (Nat.le_of_ble_eq_true rfl) ⟨Nat.zero_le _, Nat.zero_le _⟩ dX5_copy_65) (em_Tw_To_17_o G A I J o1) hP hD hS (fun H locs hP hD hS => ?_)
    cases hf
    exact hret _ _ _ _ dX5_copy_68 hP hD hS
  have b_98 : ∀ (I : Nat → CS) (H : Heap) (locs : List Loc) (ls : Array Slot), f_X5_copy_98 I J = some (r, I') → va_P G.1 vwCl (w_Tw G A I J) H → va_D B (w_Tw G A I J) → va_S B s.heap H locs → lv_has ls 6 [(0, .ref (A 0))] → W p l e r_X5_copy s m av below meth cd H locs 0 0 Q (F0 m 98 ls []) := by
    intro I H locs ls hf hP hD hS hl
    unfold f_X5_copy_98 at hf
    refine lv_aload_n (pc := 98) hx hb dX5_copy_98 rfl (lv_at hl 0 rfl) ?_
    refine wget (pc := 99) X (fun _ h9 => List.mem_cons_of_mem _ (List.mem_append_left _ (List.mem_append_left _ (List.mem_append_right _ h9)))) hP 0 (at_Tw_0 G A I J) rfl 2 (by decide) (List.mem_cons_of_mem _ (List.mem_append_left _ (List.mem_append_left _ (List.mem_append_left _ (List.mem_append_left _ (List.mem_of_getElem? (i := 1) rfl)))))) rfl (v := .ref (A 17)) rfl dX5_copy_99 ?_
    refine lv_iconst (pc := 102) (v := (2 : Int32)) hx hb dX5_copy_102 (by decide) ?_
    obtain ⟨r1, o1, hc1, hf⟩ := ob2_some hf
    refine endi X.2.2.2.2 (runV (pc := 103) (As := [.int (2 : Int32)]) (rest := []) X (c_X4_found G l (fun k => A (17 + k)) H.size (I 7) (J 0) (2 : Int32) r1 o1 hc1) gX5_copy_X4_found k_X4_found ⟨rfl, rfl⟩ ⟨Nat.le_of_ble_eq_true rfl, Nat.le_of_ble_eq_true rfl⟩ (em_Tw_To_17_o G A I J o1) hP hD hS (ci := 4) rfl rfl (at_To_0 G (fun k => A (17 + k)) (I 7) (J 0)) rfl hl.1 rfl (Nat.le_of_ble_eq_true rfl) ⟨Nat.zero_le _, Nat.zero_le _⟩ dX5_copy_103) (em_Tw_To_17_o G A I J o1) hP hD hS (fun H locs hP hD hS => ?_)
    cases hf
    exact hret _ _ _ _ dX5_copy_106 hP hD hS
  unfold f_X5_copy at hf
  refine lv_aload_n (pc := 0) hx hb dX5_copy_0 rfl (lv_at hl 0 rfl) ?_
  refine wget (pc := 1) X (fun _ h9 => List.mem_cons_of_mem _ (List.mem_append_left _ (List.mem_append_left _ (List.mem_append_right _ h9)))) hP 0 (at_Tw_0 G A I J) rfl 0 (by decide) (List.mem_cons_of_mem _ (List.mem_append_left _ (List.mem_append_left _ (List.mem_append_left _ (List.mem_append_left _ (List.mem_of_getElem? (i := 0) rfl)))))) rfl (v := .ref (A 1)) rfl dX5_copy_1 ?_
  refine lv_iload_n (pc := 4) hx hb dX5_copy_4 rfl (lv_at hl 1 rfl) ?_
  obtain ⟨r1, hc1, hf⟩ := ob1_some hf
  refine endi X.2.2.2.2 (runV (pc := 5) (As := [.int x1]) (rest := []) X (c_X3_isNumber_r G l (fun k => A (1 + k)) H.size (I 5) x1 r1 hc1) gX5_copy_X3_isNumber k_X3_isNumber ⟨rfl, rfl⟩ ⟨Nat.le_of_ble_eq_true rfl, Nat.le_of_ble_eq_true rfl⟩ (em_Tw_S6_1 G A I J ) hP hD hS (ci := 3) rfl rfl (at_S6_0 G (fun k => A (1 + k)) (I 5)) rfl hl.1 rfl (Nat.le_of_ble_eq_true rfl) ⟨Nat.zero_le _, Nat.zero_le _⟩ dX5_copy_5) (em_Tw_S6_1 G A I J ) hP hD hS (fun H locs hP hD hS => ?_)
  refine lv_if_eq (pc := 8) (tgt := 22) hx hb dX5_copy_8 (by decide) (fun h7 => ?_) (fun h7 => ?_)
  · have hf := br_y h7 hf
    exact b_22 _ H locs ls hf hP hD hS (lv_sub hl [] rfl)
  · have hf := br_n h7 hf
    refine lv_aload_n (pc := 11) hx hb dX5_copy_11 rfl (lv_at hl 0 rfl) ?_
    refine wget (pc := 12) X (fun _ h9 => List.mem_cons_of_mem _ (List.mem_append_left _ (List.mem_append_left _ (List.mem_append_right _ h9)))) hP 0 (at_Tw_0 G A I J) rfl 0 (by decide) (List.mem_cons_of_mem _ (List.mem_append_left _ (List.mem_append_left _ (List.mem_append_left _ (List.mem_append_left _ (List.mem_of_getElem? (i := 0) rfl)))))) rfl (v := .ref (A 1)) rfl dX5_copy_12 ?_
    refine lv_iload_n (pc := 15) hx hb dX5_copy_15 rfl (lv_at hl 3 rfl) ?_
    obtain ⟨r2, hc2, hf⟩ := ob1_some hf
    refine endi X.2.2.2.2 (runV (pc := 16) (As := [.int x3]) (rest := []) X (c_X3_isNumber_r G l (fun k => A (1 + k)) H.size (I 5) x3 r2 hc2) gX5_copy_X3_isNumber k_X3_isNumber ⟨rfl, rfl⟩ ⟨Nat.le_of_ble_eq_true rfl, Nat.le_of_ble_eq_true rfl⟩ (em_Tw_S6_1 G A I J ) hP hD hS (ci := 3) rfl rfl (at_S6_0 G (fun k => A (1 + k)) (I 5)) rfl hl.1 rfl (Nat.le_of_ble_eq_true rfl) ⟨Nat.zero_le _, Nat.zero_le _⟩ dX5_copy_16) (em_Tw_S6_1 G A I J ) hP hD hS (fun H locs hP hD hS => ?_)
    refine lv_if_ne (pc := 19) (tgt := 24) hx hb dX5_copy_19 (by decide) (fun h6 => ?_) (fun h6 => ?_)
    · have hf := br_n h6 hf
      refine lv_iload (pc := 24) hx hb dX5_copy_24 (lv_at hl 5 rfl) ?_
      refine lv_if_ge (pc := 26) (tgt := 38) hx hb dX5_copy_26 (by decide) (fun h5 => ?_) (fun h5 => ?_)
      · have hf := br_y h5 hf
        refine lv_aload_n (pc := 38) hx hb dX5_copy_38 rfl (lv_at hl 0 rfl) ?_
        refine wget (pc := 39) X (fun _ h9 => List.mem_cons_of_mem _ (List.mem_append_left _ (List.mem_append_left _ (List.mem_append_right _ h9)))) hP 0 (at_Tw_0 G A I J) rfl 0 (by decide) (List.mem_cons_of_mem _ (List.mem_append_left _ (List.mem_append_left _ (List.mem_append_left _ (List.mem_append_left _ (List.mem_of_getElem? (i := 0) rfl)))))) rfl (v := .ref (A 1)) rfl dX5_copy_39 ?_
        refine lv_iload_n (pc := 42) hx hb dX5_copy_42 rfl (lv_at hl 1 rfl) ?_
        obtain ⟨r3, hc3, hf⟩ := ob1_some hf
        refine endi X.2.2.2.2 (runV (pc := 43) (As := [.int x1]) (rest := []) X (c_X3_isThere_r G l (fun k => A (1 + k)) H.size (I 5) x1 r3 hc3) gX5_copy_X3_isThere k_X3_isThere ⟨rfl, rfl⟩ ⟨Nat.le_of_ble_eq_true rfl, Nat.le_of_ble_eq_true rfl⟩ (em_Tw_S6_1 G A I J ) hP hD hS (ci := 3) rfl rfl (at_S6_0 G (fun k => A (1 + k)) (I 5)) rfl hl.1 rfl (Nat.le_of_ble_eq_true rfl) ⟨Nat.zero_le _, Nat.zero_le _⟩ dX5_copy_43) (em_Tw_S6_1 G A I J ) hP hD hS (fun H locs hP hD hS => ?_)
        refine lv_if_eq (pc := 46) (tgt := 60) hx hb dX5_copy_46 (by decide) (fun h4 => ?_) (fun h4 => ?_)
        · have hf := br_y h4 hf
          exact b_60 _ H locs ls hf hP hD hS (lv_sub hl [0] rfl)
        · have hf := br_n h4 hf
          refine lv_aload_n (pc := 49) hx hb dX5_copy_49 rfl (lv_at hl 0 rfl) ?_
          refine wget (pc := 50) X (fun _ h9 => List.mem_cons_of_mem _ (List.mem_append_left _ (List.mem_append_left _ (List.mem_append_right _ h9)))) hP 0 (at_Tw_0 G A I J) rfl 0 (by decide) (List.mem_cons_of_mem _ (List.mem_append_left _ (List.mem_append_left _ (List.mem_append_left _ (List.mem_append_left _ (List.mem_of_getElem? (i := 0) rfl)))))) rfl (v := .ref (A 1)) rfl dX5_copy_50 ?_
          refine lv_iload_n (pc := 53) hx hb dX5_copy_53 rfl (lv_at hl 3 rfl) ?_
          obtain ⟨r4, hc4, hf⟩ := ob1_some hf
          refine endi X.2.2.2.2 (runV (pc := 54) (As := [.int x3]) (rest := []) X (c_X3_isThere_r G l (fun k => A (1 + k)) H.size (I 5) x3 r4 hc4) gX5_copy_X3_isThere k_X3_isThere ⟨rfl, rfl⟩ ⟨Nat.le_of_ble_eq_true rfl, Nat.le_of_ble_eq_true rfl⟩ (em_Tw_S6_1 G A I J ) hP hD hS (ci := 3) rfl rfl (at_S6_0 G (fun k => A (1 + k)) (I 5)) rfl hl.1 rfl (Nat.le_of_ble_eq_true rfl) ⟨Nat.zero_le _, Nat.zero_le _⟩ dX5_copy_54) (em_Tw_S6_1 G A I J ) hP hD hS (fun H locs hP hD hS => ?_)
          refine lv_if_ne (pc := 57) (tgt := 69) hx hb dX5_copy_57 (by decide) (fun h3 => ?_) (fun h3 => ?_)
          · have hf := br_n h3 hf
            refine lv_aload_n (pc := 69) hx hb dX5_copy_69 rfl (lv_at hl 0 rfl) ?_
            refine wget (pc := 70) X (fun _ h9 => List.mem_cons_of_mem _ (List.mem_append_left _ (List.mem_append_left _ (List.mem_append_right _ h9)))) hP 0 (at_Tw_0 G A I J) rfl 0 (by decide) (List.mem_cons_of_mem _ (List.mem_append_left _ (List.mem_append_left _ (List.mem_append_left _ (List.mem_append_left _ (List.mem_of_getElem? (i := 0) rfl)))))) rfl (v := .ref (A 1)) rfl dX5_copy_70 ?_
            refine lv_iload_n (pc := 73) hx hb dX5_copy_73 rfl (lv_at hl 1 rfl) ?_
            refine lv_iload_n (pc := 74) hx hb dX5_copy_74 rfl (lv_at hl 2 rfl) ?_
            refine lv_iload (pc := 75) hx hb dX5_copy_75 (lv_at hl 5 rfl) ?_
            obtain ⟨r5, hc5, hf⟩ := ob1_some hf
            refine endi X.2.2.2.2 (runV (pc := 77) (As := [.int x1, .int x2, .int x5]) (rest := []) X (c_X3_holdsRun_r G l (fun k => A (1 + k)) H.size (I 5) x1 x2 x5 r5 hc5) gX5_copy_X3_holdsRun k_X3_holdsRun ⟨rfl, rfl⟩ ⟨Nat.le_of_ble_eq_true rfl, Nat.le_of_ble_eq_true rfl⟩ (em_Tw_S6_1 G A I J ) hP hD hS (ci := 3) rfl rfl (at_S6_0 G (fun k => A (1 + k)) (I 5)) rfl hl.1 rfl (Nat.le_of_ble_eq_true rfl) ⟨Nat.zero_le _, Nat.zero_le _⟩ dX5_copy_77) (em_Tw_S6_1 G A I J ) hP hD hS (fun H locs hP hD hS => ?_)
            refine lv_if_eq (pc := 80) (tgt := 98) hx hb dX5_copy_80 (by decide) (fun h2 => ?_) (fun h2 => ?_)
            · have hf := br_y h2 hf
              exact b_98 _ H locs ls hf hP hD hS (lv_sub hl [0] rfl)
            · have hf := br_n h2 hf
              refine lv_aload_n (pc := 83) hx hb dX5_copy_83 rfl (lv_at hl 0 rfl) ?_
              refine wget (pc := 84) X (fun _ h9 => List.mem_cons_of_mem _ (List.mem_append_left _ (List.mem_append_left _ (List.mem_append_right _ h9)))) hP 0 (at_Tw_0 G A I J) rfl 0 (by decide) (List.mem_cons_of_mem _ (List.mem_append_left _ (List.mem_append_left _ (List.mem_append_left _ (List.mem_append_left _ (List.mem_of_getElem? (i := 0) rfl)))))) rfl (v := .ref (A 1)) rfl dX5_copy_84 ?_
              refine lv_iload_n (pc := 87) hx hb dX5_copy_87 rfl (lv_at hl 3 rfl) ?_
              refine lv_iload (pc := 88) hx hb dX5_copy_88 (lv_at hl 4 rfl) ?_
              refine lv_iload (pc := 90) hx hb dX5_copy_90 (lv_at hl 5 rfl) ?_
              obtain ⟨r6, hc6, hf⟩ := ob1_some hf
              refine endi X.2.2.2.2 (runV (pc := 92) (As := [.int x3, .int x4, .int x5]) (rest := []) X (c_X3_holdsRun_r G l (fun k => A (1 + k)) H.size (I 5) x3 x4 x5 r6 hc6) gX5_copy_X3_holdsRun k_X3_holdsRun ⟨rfl, rfl⟩ ⟨Nat.le_of_ble_eq_true rfl, Nat.le_of_ble_eq_true rfl⟩ (em_Tw_S6_1 G A I J ) hP hD hS (ci := 3) rfl rfl (at_S6_0 G (fun k => A (1 + k)) (I 5)) rfl hl.1 rfl (Nat.le_of_ble_eq_true rfl) ⟨Nat.zero_le _, Nat.zero_le _⟩ dX5_copy_92) (em_Tw_S6_1 G A I J ) hP hD hS (fun H locs hP hD hS => ?_)
              refine lv_if_ne (pc := 95) (tgt := 107) hx hb dX5_copy_95 (by decide) (fun h1 => ?_) (fun h1 => ?_)
              · have hf := br_n h1 hf
                refine lv_aload_n (pc := 107) hx hb dX5_copy_107 rfl (lv_at hl 0 rfl) ?_
                refine wget (pc := 108) X (fun _ h9 => List.mem_cons_of_mem _ (List.mem_append_left _ (List.mem_append_left _ (List.mem_append_right _ h9)))) hP 0 (at_Tw_0 G A I J) rfl 0 (by decide) (List.mem_cons_of_mem _ (List.mem_append_left _ (List.mem_append_left _ (List.mem_append_left _ (List.mem_append_left _ (List.mem_of_getElem? (i := 0) rfl)))))) rfl (v := .ref (A 1)) rfl dX5_copy_108 ?_
                refine lv_iload_n (pc := 111) hx hb dX5_copy_111 rfl (lv_at hl 1 rfl) ?_
                refine lv_iload_n (pc := 112) hx hb dX5_copy_112 rfl (lv_at hl 2 rfl) ?_
                refine lv_iload_n (pc := 113) hx hb dX5_copy_113 rfl (lv_at hl 3 rfl) ?_
                refine lv_iload (pc := 114) hx hb dX5_copy_114 (lv_at hl 4 rfl) ?_
                refine lv_iload (pc := 116) hx hb dX5_copy_116 (lv_at hl 5 rfl) ?_
                obtain ⟨b7, hc7, hf⟩ := ob1_some hf
                refine endv X.2.2.2.2 (runV (pc := 118) (As := [.int x1, .int x2, .int x3, .int x4, .int x5]) (rest := []) X (c_X3_copyRun_r G l (fun k => A (1 + k)) H.size (I 5) x1 x2 x3 x4 x5 b7 hc7) gX5_copy_X3_copyRun k_X3_copyRun ⟨rfl, rfl⟩ ⟨Nat.le_of_ble_eq_true rfl, Nat.le_of_ble_eq_true rfl⟩ (em_Tw_S6_1_b G A I J b7) hP hD hS (ci := 3) rfl rfl (at_S6_0 G (fun k => A (1 + k)) (I 5)) rfl hl.1 rfl (Nat.le_of_ble_eq_true rfl) ⟨Nat.zero_le _, Nat.zero_le _⟩ dX5_copy_118) (em_Tw_S6_1_b G A I J b7) hP hD hS (fun H locs hP hD hS => ?_)
                refine lv_iconst (pc := 121) (v := (1 : Int32)) hx hb dX5_copy_121 (by decide) ?_
                cases hf
                exact hret _ _ _ _ dX5_copy_122 hP hD hS
              · have hf := br_y h1 hf
                exact b_98 _ H locs ls hf hP hD hS (lv_sub hl [0] rfl)
          · have hf := br_y h3 hf
            exact b_60 _ H locs ls hf hP hD hS (lv_sub hl [0] rfl)
      · have hf := br_n h5 hf
        refine lv_aload_n (pc := 29) hx hb dX5_copy_29 rfl (lv_at hl 0 rfl) ?_
        refine wget (pc := 30) X (fun _ h9 => List.mem_cons_of_mem _ (List.mem_append_left _ (List.mem_append_left _ (List.mem_append_right _ h9)))) hP 0 (at_Tw_0 G A I J) rfl 2 (by decide) (List.mem_cons_of_mem _ (List.mem_append_left _ (List.mem_append_left _ (List.mem_append_left _ (List.mem_append_left _ (List.mem_of_getElem? (i := 1) rfl)))))) rfl (v := .ref (A 17)) rfl dX5_copy_30 ?_
        refine lv_iconst (pc := 33) (v := (5 : Int32)) hx hb dX5_copy_33 (by decide) ?_
        obtain ⟨r8, o8, hc8, hf⟩ := ob2_some hf
        refine endi X.2.2.2.2 (runV (pc := 34) (As := [.int (5 : Int32)]) (rest := []) X (c_X4_found G l (fun k => A (17 + k)) H.size (I 7) (J 0) (5 : Int32) r8 o8 hc8) gX5_copy_X4_found k_X4_found ⟨rfl, rfl⟩ ⟨Nat.le_of_ble_eq_true rfl, Nat.le_of_ble_eq_true rfl⟩ (em_Tw_To_17_o G A I J o8) hP hD hS (ci := 4) rfl rfl (at_To_0 G (fun k => A (17 + k)) (I 7) (J 0)) rfl hl.1 rfl (Nat.le_of_ble_eq_true rfl) ⟨Nat.zero_le _, Nat.zero_le _⟩ dX5_copy_34) (em_Tw_To_17_o G A I J o8) hP hD hS (fun H locs hP hD hS => ?_)
        cases hf
        exact hret _ _ _ _ dX5_copy_37 hP hD hS
    · have hf := br_y h6 hf
      exact b_22 _ H locs ls hf hP hD hS (lv_sub hl [] rfl)
def r_X5_isKept : Room := { frames := 1, cells := 0, slots := 0, locals := 20 }
set_option maxHeartbeats 4000000 in
set_option maxRecDepth 100000 in
theorem c_X5_isKept (G : GT) (l : Launch) (A : Nat → Nat) (sz : Nat) (I : Nat → CS) (J : Nat → JS) (x1 : Int32) (r : Int32) (hf : f_X5_isKept I J x1 = some r) : MTi l yX5_isKept wsX5_isKept r_X5_isKept [.ref (A 0), .int x1] G (w_Tw G A I J) (w_Tw G A I J) sz r := by
  refine MTz.of (cc := cX5_isKept) (maxL := 2) (by decide +kernel) rfl (Nat.le_of_ble_eq_true rfl) (fun p e s m av below meth cd Q B H locs ls X hret hl hP hD hS => ?_)
  have hx := X.1.1
  have hb := X.1.2.1
  have hl : lv_has ls 2 [(0, .ref (A 0)), (1, .int x1)] := hl
  have b_24 : ∀ (t0 : Int32) (H : Heap) (locs : List Loc) (ls : Array Slot), f_X5_isKept_24 t0 I J = some r → va_P G.1 vwCl (w_Tw G A I J) H → va_D B (w_Tw G A I J) → va_S B s.heap H locs → lv_has ls 2 [] → W p l e r_X5_isKept s m av below meth cd H locs 0 0 Q (F0 m 24 ls [.int t0]) := by
    intro t0 H locs ls hf hP hD hS hl
    unfold f_X5_isKept_24 at hf
    obtain ⟨hz, hf⟩ := ck_some hf
    cases hf
    exact hret _ _ _ _ (isb_or hz) dX5_isKept_24 hP hD hS
  have b_23 : ∀  (H : Heap) (locs : List Loc) (ls : Array Slot), f_X5_isKept_23 I J = some r → va_P G.1 vwCl (w_Tw G A I J) H → va_D B (w_Tw G A I J) → va_S B s.heap H locs → lv_has ls 2 [] → W p l e r_X5_isKept s m av below meth cd H locs 0 0 Q (F0 m 23 ls []) := by
    intro  H locs ls hf hP hD hS hl
    unfold f_X5_isKept_23 at hf
    refine lv_iconst (pc := 23) (v := (0 : Int32)) hx hb dX5_isKept_23 (by decide) ?_
    exact b_24 _ H locs ls hf hP hD hS (lv_sub hl [] rfl)
  unfold f_X5_isKept at hf
  refine lv_iload_n (pc := 0) hx hb dX5_isKept_0 rfl (lv_at hl 1 rfl) ?_
  obtain ⟨r1, hc1, hf⟩ := ob1_some hf
  refine endi X.2.2.2.2 (runS (pc := 1) (As := [.int x1]) (rest := []) X (c_X5_isPlace G l  H.size x1 r1 hc1) gX5_isKept_X5_isPlace k_X5_isPlace ⟨rfl, rfl⟩ ⟨Nat.le_of_ble_eq_true rfl, Nat.le_of_ble_eq_true rfl⟩ (EM.nil (w_Tw G A I J)) hP hD hS rfl hl.1 rfl (Nat.le_of_ble_eq_true rfl) ⟨Nat.zero_le _, Nat.zero_le _⟩ dX5_isKept_1) (EM.nil (w_Tw G A I J)) hP hD hS (fun H locs hP hD hS => ?_)
  refine lv_if_eq (pc := 4) (tgt := 23) hx hb dX5_isKept_4 (by decide) (fun h4 => ?_) (fun h4 => ?_)
  · have hf := br_y h4 hf
    exact b_23  H locs ls hf hP hD hS (lv_sub hl [] rfl)
  · have hf := br_n h4 hf
    refine lv_aload_n (pc := 7) hx hb dX5_isKept_7 rfl (lv_at hl 0 rfl) ?_
    refine wget (pc := 8) X (fun _ h9 => List.mem_cons_of_mem _ (List.mem_append_left _ (List.mem_append_right _ h9))) hP 0 (at_Tw_0 G A I J) rfl 6 (by decide) (List.mem_cons_of_mem _ (List.mem_append_left _ (List.mem_append_left _ (List.mem_of_getElem? (i := 0) rfl)))) rfl (v := .ref (A 41)) rfl dX5_isKept_8 ?_
    refine lv_iload_n (pc := 11) hx hb dX5_isKept_11 rfl (lv_at hl 1 rfl) ?_
    obtain ⟨hi, hf⟩ := ck_some hf
    refine waaldC (pc := 12) X hP 41 (at_Tw_41 G A I J) hi (B := fun i => A (42 + 10 * i)) (fun i h => by rcases (show i = 0 ∨ i = 1 ∨ i = 2 by omega) with rfl | rfl | rfl <;> rfl) dX5_isKept_12 ?_
    have hj := inb_lt hi
    generalize x1.toNatClampNeg = jj at hf hj ⊢
    rcases (show jj = 0 ∨ jj = 1 ∨ jj = 2 by omega) with rfl | rfl | rfl
    · refine wgetN (pc := 13) X (fun _ h9 => List.mem_cons_of_mem _ (List.mem_append_right _ h9)) hP 42 (at_Tw_42 G A I J) rfl 0 (by decide) (List.mem_of_getElem? (i := 6) rfl) rfl (v := .int ((I 2) 0 0)) rfl dX5_isKept_13 ?_
      refine lv_if_le (pc := 16) (tgt := 23) hx hb dX5_isKept_16 (by decide) (fun h1 => ?_) (fun h1 => ?_)
      · have hf := br_y h1 hf
        exact b_23  H locs ls hf hP hD hS (lv_sub hl [] rfl)
      · have hf := br_n h1 hf
        refine lv_iconst (pc := 19) (v := (1 : Int32)) hx hb dX5_isKept_19 (by decide) ?_
        refine lv_goto (pc := 20) (tgt := 24) hx hb dX5_isKept_20 (by decide) ?_
        exact b_24 _ H locs ls hf hP hD hS (lv_sub hl [] rfl)
    · refine wgetN (pc := 13) X (fun _ h9 => List.mem_cons_of_mem _ (List.mem_append_right _ h9)) hP 52 (at_Tw_52 G A I J) rfl 0 (by decide) (List.mem_of_getElem? (i := 6) rfl) rfl (v := .int ((I 3) 0 0)) rfl dX5_isKept_13 ?_
      refine lv_if_le (pc := 16) (tgt := 23) hx hb dX5_isKept_16 (by decide) (fun h2 => ?_) (fun h2 => ?_)
      · have hf := br_y h2 hf
        exact b_23  H locs ls hf hP hD hS (lv_sub hl [] rfl)
      · have hf := br_n h2 hf
        refine lv_iconst (pc := 19) (v := (1 : Int32)) hx hb dX5_isKept_19 (by decide) ?_
        refine lv_goto (pc := 20) (tgt := 24) hx hb dX5_isKept_20 (by decide) ?_
        exact b_24 _ H locs ls hf hP hD hS (lv_sub hl [] rfl)
    · refine wgetN (pc := 13) X (fun _ h9 => List.mem_cons_of_mem _ (List.mem_append_right _ h9)) hP 62 (at_Tw_62 G A I J) rfl 0 (by decide) (List.mem_of_getElem? (i := 6) rfl) rfl (v := .int ((I 4) 0 0)) rfl dX5_isKept_13 ?_
      refine lv_if_le (pc := 16) (tgt := 23) hx hb dX5_isKept_16 (by decide) (fun h3 => ?_) (fun h3 => ?_)
      · have hf := br_y h3 hf
        exact b_23  H locs ls hf hP hD hS (lv_sub hl [] rfl)
      · have hf := br_n h3 hf
        refine lv_iconst (pc := 19) (v := (1 : Int32)) hx hb dX5_isKept_19 (by decide) ?_
        refine lv_goto (pc := 20) (tgt := 24) hx hb dX5_isKept_20 (by decide) ?_
        exact b_24 _ H locs ls hf hP hD hS (lv_sub hl [] rfl)
def r_X5_keptChains : Room := { frames := 2, cells := 0, slots := 0, locals := 41 }
set_option maxHeartbeats 4000000 in
set_option maxRecDepth 100000 in
theorem c_X5_keptChains (G : GT) (l : Launch) (A : Nat → Nat) (sz : Nat) (I : Nat → CS) (J : Nat → JS) (r : Int32) (hf : f_X5_keptChains I J = some r) : MTi l yX5_keptChains wsX5_keptChains r_X5_keptChains [.ref (A 0)] G (w_Tw G A I J) (w_Tw G A I J) sz r := by
  refine MTi.of (cc := cX5_keptChains) (maxL := 3) (by decide +kernel) rfl (Nat.le_of_ble_eq_true rfl) (fun p e s m av below meth cd Q B H locs ls X hret hl hP hD hS => ?_)
  have hx := X.1.1
  have hb := X.1.2.1
  have hl : lv_has ls 3 [(0, .ref (A 0))] := hl
  have l_4 : ∀ (n4 : Nat), ∀ (x1 : Int32) (x2 : Int32) (H : Heap) (locs : List Loc) (ls : Array Slot), f_X5_keptChains_4 n4 x1 x2 I J = some r → va_P G.1 vwCl (w_Tw G A I J) H → va_D B (w_Tw G A I J) → va_S B s.heap H locs → lv_has ls 3 [(0, .ref (A 0)), (1, .int x1), (2, .int x2)] → W p l e r_X5_keptChains s m av below meth cd H locs 0 0 Q (F0 m 4 ls []) := by
    intro n4
    induction n4 with
    | zero =>
      intro x1 x2 H locs ls hf hP hD hS hl
      rw [f_X5_keptChains_4] at hf
      cases hf
    | succ n4 ih4 =>
      have b_20 : ∀ (x1 : Int32) (x2 : Int32) (H : Heap) (locs : List Loc) (ls : Array Slot), f_X5_keptChains_20 (f_X5_keptChains_4 n4) x1 x2 I J = some r → va_P G.1 vwCl (w_Tw G A I J) H → va_D B (w_Tw G A I J) → va_S B s.heap H locs → lv_has ls 3 [(0, .ref (A 0)), (1, .int x1), (2, .int x2)] → W p l e r_X5_keptChains s m av below meth cd H locs 0 0 Q (F0 m 20 ls []) := by
        intro x1 x2 H locs ls hf hP hD hS hl
        unfold f_X5_keptChains_20 at hf
        refine lv_iinc (pc := 20) (v := (x2 + (1 : Int32))) (lv' := [(2, .int (x2 + (1 : Int32))), (0, .ref (A 0)), (1, .int x1)]) hx hb dX5_keptChains_20 hl (k := 2) rfl rfl (by decide) rfl (fun ls hl => ?_)
        refine lv_goto (pc := 23) (tgt := 4) hx hb dX5_keptChains_23 (by decide) ?_
        exact ih4 _ _ H locs ls hf hP hD hS (lv_sub hl [1, 2, 0] rfl)
      intro x1 x2 H locs ls hf hP hD hS hl
      rw [f_X5_keptChains_4] at hf
      refine lv_iload_n (pc := 4) hx hb dX5_keptChains_4 rfl (lv_at hl 2 rfl) ?_
      refine lv_iconst (pc := 5) (v := (3 : Int32)) hx hb dX5_keptChains_5 (by decide) ?_
      refine lv_icmp_ge (pc := 6) (tgt := 26) hx hb dX5_keptChains_6 (by decide) (fun h2 => ?_) (fun h2 => ?_)
      · have hf := br_y h2 hf
        refine lv_iload_n (pc := 26) hx hb dX5_keptChains_26 rfl (lv_at hl 1 rfl) ?_
        cases hf
        exact hret _ _ _ _ dX5_keptChains_27 hP hD hS
      · have hf := br_n h2 hf
        refine lv_aload_n (pc := 9) hx hb dX5_keptChains_9 rfl (lv_at hl 0 rfl) ?_
        refine lv_iload_n (pc := 10) hx hb dX5_keptChains_10 rfl (lv_at hl 2 rfl) ?_
        obtain ⟨r1, hc1, hf⟩ := ob1_some hf
        refine endi X.2.2.2.2 (runV (pc := 11) (As := [.int x2]) (rest := []) X (c_X5_isKept G l A H.size I J x2 r1 hc1) gX5_keptChains_X5_isKept k_X5_isKept ⟨rfl, rfl⟩ ⟨Nat.le_of_ble_eq_true rfl, Nat.le_of_ble_eq_true rfl⟩ (EM.all (w_Tw G A I J) (w_Tw G A I J)) hP hD hS (ci := 5) rfl rfl (at_Tw_0 G A I J) rfl hl.1 rfl (Nat.le_of_ble_eq_true rfl) ⟨Nat.zero_le _, Nat.zero_le _⟩ dX5_keptChains_11) (EM.all (w_Tw G A I J) (w_Tw G A I J)) hP hD hS (fun H locs hP hD hS => ?_)
        refine lv_if_eq (pc := 14) (tgt := 20) hx hb dX5_keptChains_14 (by decide) (fun h1 => ?_) (fun h1 => ?_)
        · have hf := br_y h1 hf
          exact b_20 _ _ H locs ls hf hP hD hS (lv_sub hl [0, 1, 2] rfl)
        · have hf := br_n h1 hf
          refine lv_iinc (pc := 17) (v := (x1 + (1 : Int32))) (lv' := [(1, .int (x1 + (1 : Int32))), (0, .ref (A 0)), (2, .int x2)]) hx hb dX5_keptChains_17 hl (k := 1) rfl rfl (by decide) rfl (fun ls hl => ?_)
          exact b_20 _ _ H locs ls hf hP hD hS (lv_sub hl [1, 0, 2] rfl)
  unfold f_X5_keptChains at hf
  refine lv_iconst (pc := 0) (v := (0 : Int32)) hx hb dX5_keptChains_0 (by decide) ?_
  refine lv_istore_n (pc := 1) (lv' := [(1, .int (0 : Int32)), (0, .ref (A 0))]) hx hb dX5_keptChains_1 rfl hl (by decide) rfl (fun ls hl => ?_)
  refine lv_iconst (pc := 2) (v := (0 : Int32)) hx hb dX5_keptChains_2 (by decide) ?_
  refine lv_istore_n (pc := 3) (lv' := [(2, .int (0 : Int32)), (1, .int (0 : Int32)), (0, .ref (A 0))]) hx hb dX5_keptChains_3 rfl hl (by decide) rfl (fun ls hl => ?_)
  exact l_4 FU _ _ H locs ls hf hP hD hS (lv_sub hl [2, 1, 0] rfl)
def r_X5_howMany : Room := { frames := 3, cells := 0, slots := 0, locals := 67 }
set_option maxHeartbeats 4000000 in
set_option maxRecDepth 100000 in
theorem c_X5_howMany (G : GT) (l : Launch) (A : Nat → Nat) (sz : Nat) (I : Nat → CS) (J : Nat → JS) (x1 : Int32) (r : Int32) (hf : f_X5_howMany I J x1 = some r) : MTi l yX5_howMany wsX5_howMany r_X5_howMany [.ref (A 0), .int x1] G (w_Tw G A I J) (w_Tw G A I J) sz r := by
  refine MTi.of (cc := cX5_howMany) (maxL := 2) (by decide +kernel) rfl (Nat.le_of_ble_eq_true rfl) (fun p e s m av below meth cd Q B H locs ls X hret hl hP hD hS => ?_)
  have hx := X.1.1
  have hb := X.1.2.1
  have hl : lv_has ls 2 [(0, .ref (A 0)), (1, .int x1)] := hl
  unfold f_X5_howMany at hf
  refine lv_iload_n (pc := 0) hx hb dX5_howMany_0 rfl (lv_at hl 1 rfl) ?_
  by_cases h1 : x1 = (0 : Int32)
  · have hf := br_y h1 hf
    refine lv_tableIn (pc := 1) (off := 47) (tgt := 48) hx hb dX5_howMany_1 (by rw [h1]; decide) (by rw [h1]; decide) (by rw [h1]; rfl) (by decide) ?_
    refine lv_aload_n (pc := 48) hx hb dX5_howMany_48 rfl (lv_at hl 0 rfl) ?_
    refine wget (pc := 49) X (fun _ h9 => List.mem_cons_of_mem _ (List.mem_append_left _ (List.mem_append_left _ (List.mem_append_right _ h9)))) hP 0 (at_Tw_0 G A I J) rfl 5 (by decide) (List.mem_cons_of_mem _ (List.mem_append_left _ (List.mem_append_left _ (List.mem_append_left _ (List.mem_append_left _ (List.mem_of_getElem? (i := 0) rfl)))))) rfl (v := .ref (A 31)) rfl dX5_howMany_49 ?_
    refine wgetN (pc := 52) X (fun _ h9 => List.mem_cons_of_mem _ (List.mem_append_left _ (List.mem_append_right _ h9))) hP 31 (at_Tw_31 G A I J) rfl 0 (by decide) (List.mem_of_getElem? (i := 6) rfl) rfl (v := .int ((I 0) 0 0)) rfl dX5_howMany_52 ?_
    cases hf
    exact hret _ _ _ _ dX5_howMany_55 hP hD hS
  · have hf := br_n h1 hf
    by_cases h2 : x1 = (1 : Int32)
    · have hf := br_y h2 hf
      refine lv_tableIn (pc := 1) (off := 55) (tgt := 56) hx hb dX5_howMany_1 (by rw [h2]; decide) (by rw [h2]; decide) (by rw [h2]; rfl) (by decide) ?_
      refine lv_aload_n (pc := 56) hx hb dX5_howMany_56 rfl (lv_at hl 0 rfl) ?_
      refine wget (pc := 57) X (fun _ h9 => List.mem_cons_of_mem _ (List.mem_append_left _ (List.mem_append_left _ (List.mem_append_right _ h9)))) hP 0 (at_Tw_0 G A I J) rfl 5 (by decide) (List.mem_cons_of_mem _ (List.mem_append_left _ (List.mem_append_left _ (List.mem_append_left _ (List.mem_append_left _ (List.mem_of_getElem? (i := 0) rfl)))))) rfl (v := .ref (A 31)) rfl dX5_howMany_57 ?_
      refine wgetN (pc := 60) X (fun _ h9 => List.mem_cons_of_mem _ (List.mem_append_left _ (List.mem_append_right _ h9))) hP 31 (at_Tw_31 G A I J) rfl 1 (by decide) (List.mem_of_getElem? (i := 8) rfl) rfl (v := .int ((I 0) 1 0)) rfl dX5_howMany_60 ?_
      cases hf
      exact hret _ _ _ _ dX5_howMany_63 hP hD hS
    · have hf := br_n h2 hf
      by_cases h3 : x1 = (2 : Int32)
      · have hf := br_y h3 hf
        refine lv_tableIn (pc := 1) (off := 63) (tgt := 64) hx hb dX5_howMany_1 (by rw [h3]; decide) (by rw [h3]; decide) (by rw [h3]; rfl) (by decide) ?_
        refine lv_aload_n (pc := 64) hx hb dX5_howMany_64 rfl (lv_at hl 0 rfl) ?_
        refine wget (pc := 65) X (fun _ h9 => List.mem_cons_of_mem _ (List.mem_append_left _ (List.mem_append_left _ (List.mem_append_right _ h9)))) hP 0 (at_Tw_0 G A I J) rfl 5 (by decide) (List.mem_cons_of_mem _ (List.mem_append_left _ (List.mem_append_left _ (List.mem_append_left _ (List.mem_append_left _ (List.mem_of_getElem? (i := 0) rfl)))))) rfl (v := .ref (A 31)) rfl dX5_howMany_65 ?_
        refine wgetN (pc := 68) X (fun _ h9 => List.mem_cons_of_mem _ (List.mem_append_left _ (List.mem_append_right _ h9))) hP 31 (at_Tw_31 G A I J) rfl 2 (by decide) (List.mem_of_getElem? (i := 9) rfl) rfl (v := .int ((I 0) 2 0)) rfl dX5_howMany_68 ?_
        obtain ⟨r1, hc1, hf⟩ := ob1_some hf
        refine endi X.2.2.2.2 (runS (pc := 71) (As := [.int ((I 0) 2 0)]) (rest := []) X (c_J6_bitCount_0f7a4 G l  H.size ((I 0) 2 0) r1 hc1) gX5_howMany_J6_bitCount_0f7a4 k_J6_bitCount_0f7a4 ⟨rfl, rfl⟩ ⟨Nat.le_of_ble_eq_true rfl, Nat.le_of_ble_eq_true rfl⟩ (EM.nil (w_Tw G A I J)) hP hD hS rfl hl.1 rfl (Nat.le_of_ble_eq_true rfl) ⟨Nat.zero_le _, Nat.zero_le _⟩ dX5_howMany_71) (EM.nil (w_Tw G A I J)) hP hD hS (fun H locs hP hD hS => ?_)
        cases hf
        exact hret _ _ _ _ dX5_howMany_74 hP hD hS
      · have hf := br_n h3 hf
        by_cases h4 : x1 = (3 : Int32)
        · have hf := br_y h4 hf
          refine lv_tableIn (pc := 1) (off := 74) (tgt := 75) hx hb dX5_howMany_1 (by rw [h4]; decide) (by rw [h4]; decide) (by rw [h4]; rfl) (by decide) ?_
          refine lv_aload_n (pc := 75) hx hb dX5_howMany_75 rfl (lv_at hl 0 rfl) ?_
          refine wget (pc := 76) X (fun _ h9 => List.mem_cons_of_mem _ (List.mem_append_left _ (List.mem_append_left _ (List.mem_append_right _ h9)))) hP 0 (at_Tw_0 G A I J) rfl 5 (by decide) (List.mem_cons_of_mem _ (List.mem_append_left _ (List.mem_append_left _ (List.mem_append_left _ (List.mem_append_left _ (List.mem_of_getElem? (i := 0) rfl)))))) rfl (v := .ref (A 31)) rfl dX5_howMany_76 ?_
          refine wgetN (pc := 79) X (fun _ h9 => List.mem_cons_of_mem _ (List.mem_append_left _ (List.mem_append_right _ h9))) hP 31 (at_Tw_31 G A I J) rfl 3 (by decide) (List.mem_of_getElem? (i := 10) rfl) rfl (v := .int ((I 0) 3 0)) rfl dX5_howMany_79 ?_
          cases hf
          exact hret _ _ _ _ dX5_howMany_82 hP hD hS
        · have hf := br_n h4 hf
          by_cases h5 : x1 = (4 : Int32)
          · have hf := br_y h5 hf
            refine lv_tableIn (pc := 1) (off := 82) (tgt := 83) hx hb dX5_howMany_1 (by rw [h5]; decide) (by rw [h5]; decide) (by rw [h5]; rfl) (by decide) ?_
            refine lv_aload_n (pc := 83) hx hb dX5_howMany_83 rfl (lv_at hl 0 rfl) ?_
            refine wget (pc := 84) X (fun _ h9 => List.mem_cons_of_mem _ (List.mem_append_left _ (List.mem_append_left _ (List.mem_append_right _ h9)))) hP 0 (at_Tw_0 G A I J) rfl 5 (by decide) (List.mem_cons_of_mem _ (List.mem_append_left _ (List.mem_append_left _ (List.mem_append_left _ (List.mem_append_left _ (List.mem_of_getElem? (i := 0) rfl)))))) rfl (v := .ref (A 31)) rfl dX5_howMany_84 ?_
            refine wgetN (pc := 87) X (fun _ h9 => List.mem_cons_of_mem _ (List.mem_append_left _ (List.mem_append_right _ h9))) hP 31 (at_Tw_31 G A I J) rfl 4 (by decide) (List.mem_of_getElem? (i := 11) rfl) rfl (v := .int ((I 0) 4 0)) rfl dX5_howMany_87 ?_
            cases hf
            exact hret _ _ _ _ dX5_howMany_90 hP hD hS
          · have hf := br_n h5 hf
            by_cases h6 : x1 = (5 : Int32)
            · have hf := br_y h6 hf
              refine lv_tableIn (pc := 1) (off := 90) (tgt := 91) hx hb dX5_howMany_1 (by rw [h6]; decide) (by rw [h6]; decide) (by rw [h6]; rfl) (by decide) ?_
              refine lv_aload_n (pc := 91) hx hb dX5_howMany_91 rfl (lv_at hl 0 rfl) ?_
              refine wget (pc := 92) X (fun _ h9 => List.mem_cons_of_mem _ (List.mem_append_left _ (List.mem_append_left _ (List.mem_append_right _ h9)))) hP 0 (at_Tw_0 G A I J) rfl 5 (by decide) (List.mem_cons_of_mem _ (List.mem_append_left _ (List.mem_append_left _ (List.mem_append_left _ (List.mem_append_left _ (List.mem_of_getElem? (i := 0) rfl)))))) rfl (v := .ref (A 31)) rfl dX5_howMany_92 ?_
              obtain ⟨r2, hc2, hf⟩ := ob1_some hf
              refine endi X.2.2.2.2 (runV (pc := 95) (As := []) (rest := []) X (c_X0_drifters G l (fun k => A (31 + k)) H.size (I 0) r2 hc2) gX5_howMany_X0_drifters k_X0_drifters ⟨rfl, rfl⟩ ⟨Nat.le_of_ble_eq_true rfl, Nat.le_of_ble_eq_true rfl⟩ (em_Tw_Ch_31 G A I J ) hP hD hS (ci := 0) rfl rfl (at_Ch_0 G (fun k => A (31 + k)) (I 0)) rfl hl.1 rfl (Nat.le_of_ble_eq_true rfl) ⟨Nat.zero_le _, Nat.zero_le _⟩ dX5_howMany_95) (em_Tw_Ch_31 G A I J ) hP hD hS (fun H locs hP hD hS => ?_)
              cases hf
              exact hret _ _ _ _ dX5_howMany_98 hP hD hS
            · have hf := br_n h6 hf
              by_cases h7 : x1 = (6 : Int32)
              · have hf := br_y h7 hf
                refine lv_tableIn (pc := 1) (off := 98) (tgt := 99) hx hb dX5_howMany_1 (by rw [h7]; decide) (by rw [h7]; decide) (by rw [h7]; rfl) (by decide) ?_
                refine lv_aload_n (pc := 99) hx hb dX5_howMany_99 rfl (lv_at hl 0 rfl) ?_
                refine wget (pc := 100) X (fun _ h9 => List.mem_cons_of_mem _ (List.mem_append_left _ (List.mem_append_left _ (List.mem_append_right _ h9)))) hP 0 (at_Tw_0 G A I J) rfl 0 (by decide) (List.mem_cons_of_mem _ (List.mem_append_left _ (List.mem_append_left _ (List.mem_append_left _ (List.mem_append_left _ (List.mem_of_getElem? (i := 1) rfl)))))) rfl (v := .ref (A 1)) rfl dX5_howMany_100 ?_
                obtain ⟨r3, hc3, hf⟩ := ob1_some hf
                refine endi X.2.2.2.2 (runV (pc := 103) (As := []) (rest := []) X (c_X3_howManyThere_r G l (fun k => A (1 + k)) H.size (I 5) r3 hc3) gX5_howMany_X3_howManyThere k_X3_howManyThere ⟨rfl, rfl⟩ ⟨Nat.le_of_ble_eq_true rfl, Nat.le_of_ble_eq_true rfl⟩ (em_Tw_S6_1 G A I J ) hP hD hS (ci := 3) rfl rfl (at_S6_0 G (fun k => A (1 + k)) (I 5)) rfl hl.1 rfl (Nat.le_of_ble_eq_true rfl) ⟨Nat.zero_le _, Nat.zero_le _⟩ dX5_howMany_103) (em_Tw_S6_1 G A I J ) hP hD hS (fun H locs hP hD hS => ?_)
                cases hf
                exact hret _ _ _ _ dX5_howMany_106 hP hD hS
              · have hf := br_n h7 hf
                by_cases h8 : x1 = (7 : Int32)
                · have hf := br_y h8 hf
                  refine lv_tableIn (pc := 1) (off := 106) (tgt := 107) hx hb dX5_howMany_1 (by rw [h8]; decide) (by rw [h8]; decide) (by rw [h8]; rfl) (by decide) ?_
                  refine lv_aload_n (pc := 107) hx hb dX5_howMany_107 rfl (lv_at hl 0 rfl) ?_
                  refine wget (pc := 108) X (fun _ h9 => List.mem_cons_of_mem _ (List.mem_append_left _ (List.mem_append_left _ (List.mem_append_right _ h9)))) hP 0 (at_Tw_0 G A I J) rfl 1 (by decide) (List.mem_cons_of_mem _ (List.mem_append_left _ (List.mem_append_left _ (List.mem_append_left _ (List.mem_append_left _ (List.mem_of_getElem? (i := 2) rfl)))))) rfl (v := .ref (A 10)) rfl dX5_howMany_108 ?_
                  obtain ⟨r4, hc4, hf⟩ := ob1_some hf
                  refine endi X.2.2.2.2 (runV (pc := 111) (As := []) (rest := []) X (c_X3_howManyThere_t G l (fun k => A (10 + k)) H.size (I 6) r4 hc4) gX5_howMany_X3_howManyThere k_X3_howManyThere ⟨rfl, rfl⟩ ⟨Nat.le_of_ble_eq_true rfl, Nat.le_of_ble_eq_true rfl⟩ (em_Tw_S4_10 G A I J ) hP hD hS (ci := 3) rfl rfl (at_S4_0 G (fun k => A (10 + k)) (I 6)) rfl hl.1 rfl (Nat.le_of_ble_eq_true rfl) ⟨Nat.zero_le _, Nat.zero_le _⟩ dX5_howMany_111) (em_Tw_S4_10 G A I J ) hP hD hS (fun H locs hP hD hS => ?_)
                  cases hf
                  exact hret _ _ _ _ dX5_howMany_114 hP hD hS
                · have hf := br_n h8 hf
                  refine lv_tableOut (pc := 1) (tgt := 115) hx hb dX5_howMany_1 (by have := sw_ne (k := 0) (by decide) h1; have := sw_ne (k := 1) (by decide) h2; have := sw_ne (k := 2) (by decide) h3; have := sw_ne (k := 3) (by decide) h4; have := sw_ne (k := 4) (by decide) h5; have := sw_ne (k := 5) (by decide) h6; have := sw_ne (k := 6) (by decide) h7; have := sw_ne (k := 7) (by decide) h8; omega) (by decide) ?_
                  refine lv_aload_n (pc := 115) hx hb dX5_howMany_115 rfl (lv_at hl 0 rfl) ?_
                  obtain ⟨r5, hc5, hf⟩ := ob1_some hf
                  refine endi X.2.2.2.2 (runV (pc := 116) (As := []) (rest := []) X (c_X5_keptChains G l A H.size I J r5 hc5) gX5_howMany_X5_keptChains k_X5_keptChains ⟨rfl, rfl⟩ ⟨Nat.le_of_ble_eq_true rfl, Nat.le_of_ble_eq_true rfl⟩ (EM.all (w_Tw G A I J) (w_Tw G A I J)) hP hD hS (ci := 5) rfl rfl (at_Tw_0 G A I J) rfl hl.1 rfl (Nat.le_of_ble_eq_true rfl) ⟨Nat.zero_le _, Nat.zero_le _⟩ dX5_howMany_116) (EM.all (w_Tw G A I J) (w_Tw G A I J)) hP hD hS (fun H locs hP hD hS => ?_)
                  cases hf
                  exact hret _ _ _ _ dX5_howMany_119 hP hD hS
def r_X5_count : Room := { frames := 4, cells := 0, slots := 0, locals := 88 }
set_option maxHeartbeats 4000000 in
set_option maxRecDepth 100000 in
theorem c_X5_count (G : GT) (l : Launch) (A : Nat → Nat) (sz : Nat) (I : Nat → CS) (J : Nat → JS) (x1 : Int32) (r : Int32) (hf : f_X5_count I J x1 = some r) : MTi l yX5_count wsX5_count r_X5_count [.ref (A 0), .int x1] G (w_Tw G A I J) (w_Tw G A I J) sz r := by
  refine MTi.of (cc := cX5_count) (maxL := 2) (by decide +kernel) rfl (Nat.le_of_ble_eq_true rfl) (fun p e s m av below meth cd Q B H locs ls X hret hl hP hD hS => ?_)
  have hx := X.1.1
  have hb := X.1.2.1
  have hl : lv_has ls 2 [(0, .ref (A 0)), (1, .int x1)] := hl
  have b_10 : ∀  (H : Heap) (locs : List Loc) (ls : Array Slot), f_X5_count_10 I J = some r → va_P G.1 vwCl (w_Tw G A I J) H → va_D B (w_Tw G A I J) → va_S B s.heap H locs → lv_has ls 2 [] → W p l e r_X5_count s m av below meth cd H locs 0 0 Q (F0 m 10 ls []) := by
    intro  H locs ls hf hP hD hS hl
    unfold f_X5_count_10 at hf
    refine lv_iconst (pc := 10) (v := (-1 : Int32)) hx hb dX5_count_10 (by decide) ?_
    cases hf
    exact hret _ _ _ _ dX5_count_11 hP hD hS
  unfold f_X5_count at hf
  refine lv_iload_n (pc := 0) hx hb dX5_count_0 rfl (lv_at hl 1 rfl) ?_
  refine lv_if_lt (pc := 1) (tgt := 10) hx hb dX5_count_1 (by decide) (fun h2 => ?_) (fun h2 => ?_)
  · have hf := br_y h2 hf
    exact b_10  H locs ls hf hP hD hS (lv_sub hl [] rfl)
  · have hf := br_n h2 hf
    refine lv_iload_n (pc := 4) hx hb dX5_count_4 rfl (lv_at hl 1 rfl) ?_
    refine lv_bipush (pc := 5) (v := (9 : Int32)) hx hb dX5_count_5 (by decide) ?_
    refine lv_icmp_lt (pc := 7) (tgt := 12) hx hb dX5_count_7 (by decide) (fun h1 => ?_) (fun h1 => ?_)
    · have hf := br_y h1 hf
      refine lv_aload_n (pc := 12) hx hb dX5_count_12 rfl (lv_at hl 0 rfl) ?_
      refine lv_iload_n (pc := 13) hx hb dX5_count_13 rfl (lv_at hl 1 rfl) ?_
      obtain ⟨r1, hc1, hf⟩ := ob1_some hf
      refine endi X.2.2.2.2 (runV (pc := 14) (As := [.int x1]) (rest := []) X (c_X5_howMany G l A H.size I J x1 r1 hc1) gX5_count_X5_howMany k_X5_howMany ⟨rfl, rfl⟩ ⟨Nat.le_of_ble_eq_true rfl, Nat.le_of_ble_eq_true rfl⟩ (EM.all (w_Tw G A I J) (w_Tw G A I J)) hP hD hS (ci := 5) rfl rfl (at_Tw_0 G A I J) rfl hl.1 rfl (Nat.le_of_ble_eq_true rfl) ⟨Nat.zero_le _, Nat.zero_le _⟩ dX5_count_14) (EM.all (w_Tw G A I J) (w_Tw G A I J)) hP hD hS (fun H locs hP hD hS => ?_)
      cases hf
      exact hret _ _ _ _ dX5_count_17 hP hD hS
    · have hf := br_n h1 hf
      exact b_10  H locs ls hf hP hD hS (lv_sub hl [] rfl)
def r_X5_day : Room := { frames := 2, cells := 0, slots := 0, locals := 41 }
set_option maxHeartbeats 4000000 in
set_option maxRecDepth 100000 in
theorem c_X5_day (G : GT) (l : Launch) (A : Nat → Nat) (sz : Nat) (I : Nat → CS) (J : Nat → JS) (r : Int32) (I' : Nat → CS) (hf : f_X5_day I J = some (r, I')) : MTi l yX5_day wsX5_day r_X5_day [.ref (A 0)] G (w_Tw G A I J) (w_Tw G A I' J) sz r := by
  refine MTi.of (cc := cX5_day) (maxL := 1) (by decide +kernel) rfl (Nat.le_of_ble_eq_true rfl) (fun p e s m av below meth cd Q B H locs ls X hret hl hP hD hS => ?_)
  have hx := X.1.1
  have hb := X.1.2.1
  have hl : lv_has ls 1 [(0, .ref (A 0))] := hl
  have b_22 : ∀ (I : Nat → CS) (H : Heap) (locs : List Loc) (ls : Array Slot), f_X5_day_22 I J = some (r, I') → va_P G.1 vwCl (w_Tw G A I J) H → va_D B (w_Tw G A I J) → va_S B s.heap H locs → lv_has ls 1 [] → W p l e r_X5_day s m av below meth cd H locs 0 0 Q (F0 m 22 ls []) := by
    intro I H locs ls hf hP hD hS hl
    unfold f_X5_day_22 at hf
    refine lv_bipush (pc := 22) (v := (-4 : Int32)) hx hb dX5_day_22 (by decide) ?_
    cases hf
    exact hret _ _ _ _ dX5_day_24 hP hD hS
  unfold f_X5_day at hf
  refine lv_aload_n (pc := 0) hx hb dX5_day_0 rfl (lv_at hl 0 rfl) ?_
  refine wget (pc := 1) X (fun _ h9 => List.mem_cons_of_mem _ (List.mem_append_left _ (List.mem_append_right _ h9))) hP 0 (at_Tw_0 G A I J) rfl 5 (by decide) (List.mem_cons_of_mem _ (List.mem_append_left _ (List.mem_append_left _ (List.mem_of_getElem? (i := 0) rfl)))) rfl (v := .ref (A 31)) rfl dX5_day_1 ?_
  refine wgetN (pc := 4) X (fun _ h9 => List.mem_cons_of_mem _ (List.mem_append_right _ h9)) hP 31 (at_Tw_31 G A I J) rfl 0 (by decide) (List.mem_of_getElem? (i := 6) rfl) rfl (v := .int ((I 0) 0 0)) rfl dX5_day_4 ?_
  refine lv_if_eq (pc := 7) (tgt := 22) hx hb dX5_day_7 (by decide) (fun h3 => ?_) (fun h3 => ?_)
  · have hf := br_y h3 hf
    exact b_22 _ H locs ls hf hP hD hS (lv_sub hl [] rfl)
  · have hf := br_n h3 hf
    refine lv_aload_n (pc := 10) hx hb dX5_day_10 rfl (lv_at hl 0 rfl) ?_
    refine wget (pc := 11) X (fun _ h9 => List.mem_cons_of_mem _ (List.mem_append_left _ (List.mem_append_right _ h9))) hP 0 (at_Tw_0 G A I J) rfl 5 (by decide) (List.mem_cons_of_mem _ (List.mem_append_left _ (List.mem_append_left _ (List.mem_of_getElem? (i := 0) rfl)))) rfl (v := .ref (A 31)) rfl dX5_day_11 ?_
    refine wgetN (pc := 14) X (fun _ h9 => List.mem_cons_of_mem _ (List.mem_append_right _ h9)) hP 31 (at_Tw_31 G A I J) rfl 3 (by decide) (List.mem_of_getElem? (i := 10) rfl) rfl (v := .int ((I 0) 3 0)) rfl dX5_day_14 ?_
    refine lv_bipush (pc := 17) (v := (19 : Int32)) hx hb dX5_day_17 (by decide) ?_
    refine lv_icmp_lt (pc := 19) (tgt := 25) hx hb dX5_day_19 (by decide) (fun h2 => ?_) (fun h2 => ?_)
    · have hf := br_y h2 hf
      refine lv_aload_n (pc := 25) hx hb dX5_day_25 rfl (lv_at hl 0 rfl) ?_
      refine wget (pc := 26) X (fun _ h9 => List.mem_cons_of_mem _ (List.mem_append_left _ (List.mem_append_right _ h9))) hP 0 (at_Tw_0 G A I J) rfl 5 (by decide) (List.mem_cons_of_mem _ (List.mem_append_left _ (List.mem_append_left _ (List.mem_of_getElem? (i := 0) rfl)))) rfl (v := .ref (A 31)) rfl dX5_day_26 ?_
      refine lv_iconst (pc := 29) (v := (1 : Int32)) hx hb dX5_day_29 (by decide) ?_
      obtain ⟨r1, hc1, hf⟩ := ob1_some hf
      refine endi X.2.2.2.2 (runV (pc := 30) (As := [.int (1 : Int32)]) (rest := []) X (c_X0_hasTurnsLeft G l (fun k => A (31 + k)) H.size (I 0) (1 : Int32) r1 hc1) gX5_day_X0_hasTurnsLeft k_X0_hasTurnsLeft ⟨rfl, rfl⟩ ⟨Nat.le_of_ble_eq_true rfl, Nat.le_of_ble_eq_true rfl⟩ (em_Tw_Ch_31 G A I J ) hP hD hS (ci := 0) rfl rfl (at_Ch_0 G (fun k => A (31 + k)) (I 0)) rfl hl.1 rfl (Nat.le_of_ble_eq_true rfl) ⟨Nat.zero_le _, Nat.zero_le _⟩ dX5_day_30) (em_Tw_Ch_31 G A I J ) hP hD hS (fun H locs hP hD hS => ?_)
      refine lv_if_ne (pc := 33) (tgt := 39) hx hb dX5_day_33 (by decide) (fun h1 => ?_) (fun h1 => ?_)
      · have hf := br_n h1 hf
        refine lv_aload_n (pc := 39) hx hb dX5_day_39 rfl (lv_at hl 0 rfl) ?_
        refine wget (pc := 40) X (fun _ h9 => List.mem_cons_of_mem _ (List.mem_append_left _ (List.mem_append_right _ h9))) hP 0 (at_Tw_0 G A I J) rfl 5 (by decide) (List.mem_cons_of_mem _ (List.mem_append_left _ (List.mem_append_left _ (List.mem_of_getElem? (i := 0) rfl)))) rfl (v := .ref (A 31)) rfl dX5_day_40 ?_
        obtain ⟨c2, hc2, hf⟩ := ob1_some hf
        refine endv X.2.2.2.2 (runV (pc := 43) (As := []) (rest := []) X (c_X0_turnDay G l (fun k => A (31 + k)) H.size (I 0) c2 hc2) gX5_day_X0_turnDay k_X0_turnDay ⟨rfl, rfl⟩ ⟨Nat.le_of_ble_eq_true rfl, Nat.le_of_ble_eq_true rfl⟩ (em_Tw_Ch_31_c G A I J c2) hP hD hS (ci := 0) rfl rfl (at_Ch_0 G (fun k => A (31 + k)) (I 0)) rfl hl.1 rfl (Nat.le_of_ble_eq_true rfl) ⟨Nat.zero_le _, Nat.zero_le _⟩ dX5_day_43) (em_Tw_Ch_31_c G A I J c2) hP hD hS (fun H locs hP hD hS => ?_)
        refine lv_aload_n (pc := 46) hx hb dX5_day_46 rfl (lv_at hl 0 rfl) ?_
        refine wget (pc := 47) X (fun _ h9 => List.mem_cons_of_mem _ (List.mem_append_left _ (List.mem_append_right _ h9))) hP 0 (at_Tw_0 G A (gset I 0 c2) J) rfl 5 (by decide) (List.mem_cons_of_mem _ (List.mem_append_left _ (List.mem_append_left _ (List.mem_of_getElem? (i := 0) rfl)))) rfl (v := .ref (A 31)) rfl dX5_day_47 ?_
        refine wgetN (pc := 50) X (fun _ h9 => List.mem_cons_of_mem _ (List.mem_append_right _ h9)) hP 31 (at_Tw_31 G A (gset I 0 c2) J) rfl 3 (by decide) (List.mem_of_getElem? (i := 10) rfl) rfl (v := .int (c2 3 0)) rfl dX5_day_50 ?_
        cases hf
        exact hret _ _ _ _ dX5_day_53 hP hD hS
      · have hf := br_y h1 hf
        refine lv_bipush (pc := 36) (v := (-2 : Int32)) hx hb dX5_day_36 (by decide) ?_
        cases hf
        exact hret _ _ _ _ dX5_day_38 hP hD hS
    · have hf := br_n h2 hf
      exact b_22 _ H locs ls hf hP hD hS (lv_sub hl [] rfl)
def r_X5_differ : Room := { frames := 5, cells := 0, slots := 0, locals := 126 }
set_option maxHeartbeats 4000000 in
set_option maxRecDepth 100000 in
theorem c_X5_differ (G : GT) (l : Launch) (A : Nat → Nat) (sz : Nat) (I : Nat → CS) (J : Nat → JS) (x1 : Int32) (x2 : Int32) (x3 : Int32) (r : Int32) (I' : Nat → CS) (hf : f_X5_differ I J x1 x2 x3 = some (r, I')) : MTi l yX5_differ wsX5_differ r_X5_differ [.ref (A 0), .int x1, .int x2, .int x3] G (w_Tw G A I J) (w_Tw G A I' J) sz r := by
  refine MTi.of (cc := cX5_differ) (maxL := 4) (by decide +kernel) rfl (Nat.le_of_ble_eq_true rfl) (fun p e s m av below meth cd Q B H locs ls X hret hl hP hD hS => ?_)
  have hx := X.1.1
  have hb := X.1.2.1
  have hl : lv_has ls 4 [(0, .ref (A 0)), (1, .int x1), (2, .int x2), (3, .int x3)] := hl
  have b_20 : ∀ (I : Nat → CS) (H : Heap) (locs : List Loc) (ls : Array Slot), f_X5_differ_20 I J = some (r, I') → va_P G.1 vwCl (w_Tw G A I J) H → va_D B (w_Tw G A I J) → va_S B s.heap H locs → lv_has ls 4 [] → W p l e r_X5_differ s m av below meth cd H locs 0 0 Q (F0 m 20 ls []) := by
    intro I H locs ls hf hP hD hS hl
    unfold f_X5_differ_20 at hf
    refine lv_iconst (pc := 20) (v := (-1 : Int32)) hx hb dX5_differ_20 (by decide) ?_
    cases hf
    exact hret _ _ _ _ dX5_differ_21 hP hD hS
  unfold f_X5_differ at hf
  refine lv_iload_n (pc := 0) hx hb dX5_differ_0 rfl (lv_at hl 1 rfl) ?_
  refine lv_iload_n (pc := 1) hx hb dX5_differ_1 rfl (lv_at hl 2 rfl) ?_
  obtain ⟨r1, hc1, hf⟩ := ob1_some hf
  refine endi X.2.2.2.2 (runS (pc := 2) (As := [.int x1, .int x2]) (rest := []) X (c_X5_arePair G l  H.size x1 x2 r1 hc1) gX5_differ_X5_arePair k_X5_arePair ⟨rfl, rfl⟩ ⟨Nat.le_of_ble_eq_true rfl, Nat.le_of_ble_eq_true rfl⟩ (EM.nil (w_Tw G A I J)) hP hD hS rfl hl.1 rfl (Nat.le_of_ble_eq_true rfl) ⟨Nat.zero_le _, Nat.zero_le _⟩ dX5_differ_2) (EM.nil (w_Tw G A I J)) hP hD hS (fun H locs hP hD hS => ?_)
  refine lv_if_eq (pc := 5) (tgt := 20) hx hb dX5_differ_5 (by decide) (fun h3 => ?_) (fun h3 => ?_)
  · have hf := br_y h3 hf
    exact b_20 _ H locs ls hf hP hD hS (lv_sub hl [] rfl)
  · have hf := br_n h3 hf
    refine lv_iload_n (pc := 8) hx hb dX5_differ_8 rfl (lv_at hl 3 rfl) ?_
    obtain ⟨r2, hc2, hf⟩ := ob1_some hf
    refine endi X.2.2.2.2 (runS (pc := 9) (As := [.int x3]) (rest := []) X (c_X5_isDay G l  H.size x3 r2 hc2) gX5_differ_X5_isDay k_X5_isDay ⟨rfl, rfl⟩ ⟨Nat.le_of_ble_eq_true rfl, Nat.le_of_ble_eq_true rfl⟩ (EM.nil (w_Tw G A I J)) hP hD hS rfl hl.1 rfl (Nat.le_of_ble_eq_true rfl) ⟨Nat.zero_le _, Nat.zero_le _⟩ dX5_differ_9) (EM.nil (w_Tw G A I J)) hP hD hS (fun H locs hP hD hS => ?_)
    refine lv_if_eq (pc := 12) (tgt := 20) hx hb dX5_differ_12 (by decide) (fun h2 => ?_) (fun h2 => ?_)
    · have hf := br_y h2 hf
      exact b_20 _ H locs ls hf hP hD hS (lv_sub hl [] rfl)
    · have hf := br_n h2 hf
      refine lv_iload_n (pc := 15) hx hb dX5_differ_15 rfl (lv_at hl 3 rfl) ?_
      refine lv_iload_n (pc := 16) hx hb dX5_differ_16 rfl (lv_at hl 2 rfl) ?_
      refine lv_icmp_ge (pc := 17) (tgt := 22) hx hb dX5_differ_17 (by decide) (fun h1 => ?_) (fun h1 => ?_)
      · have hf := br_y h1 hf
        refine lv_aload_n (pc := 22) hx hb dX5_differ_22 rfl (lv_at hl 0 rfl) ?_
        refine wget (pc := 23) X (fun _ h9 => List.mem_cons_of_mem _ (List.mem_append_left _ (List.mem_append_right _ h9))) hP 0 (at_Tw_0 G A I J) rfl 5 (by decide) (List.mem_cons_of_mem _ (List.mem_append_left _ (List.mem_append_left _ (List.mem_append_left _ (List.mem_of_getElem? (i := 0) rfl))))) rfl (v := .ref (A 31)) rfl dX5_differ_23 ?_
        refine lv_iload_n (pc := 26) hx hb dX5_differ_26 rfl (lv_at hl 1 rfl) ?_
        refine lv_iload_n (pc := 27) hx hb dX5_differ_27 rfl (lv_at hl 2 rfl) ?_
        refine lv_iload_n (pc := 28) hx hb dX5_differ_28 rfl (lv_at hl 3 rfl) ?_
        obtain ⟨r3, c3, hc3, hf⟩ := ob2_some hf
        refine endi X.2.2.2.2 (runV (pc := 29) (As := [.int x1, .int x2, .int x3]) (rest := []) X (c_X0_differing G l (fun k => A (31 + k)) H.size (I 0) x1 x2 x3 r3 c3 hc3) gX5_differ_X0_differing k_X0_differing ⟨rfl, rfl⟩ ⟨Nat.le_of_ble_eq_true rfl, Nat.le_of_ble_eq_true rfl⟩ (em_Tw_Ch_31_c G A I J c3) hP hD hS (ci := 0) rfl rfl (at_Ch_0 G (fun k => A (31 + k)) (I 0)) rfl hl.1 rfl (Nat.le_of_ble_eq_true rfl) ⟨Nat.zero_le _, Nat.zero_le _⟩ dX5_differ_29) (em_Tw_Ch_31_c G A I J c3) hP hD hS (fun H locs hP hD hS => ?_)
        cases hf
        exact hret _ _ _ _ dX5_differ_32 hP hD hS
      · have hf := br_n h1 hf
        exact b_20 _ H locs ls hf hP hD hS (lv_sub hl [] rfl)
