def r_X0_takeFrom : Room := { frames := 1, cells := 0, slots := 0, locals := 60 }
set_option maxHeartbeats 4000000 in
set_option maxRecDepth 100000 in
theorem c_X0_takeFrom (G : GT) (l : Launch) (A : Nat → Nat) (sz : Nat) (c : CS) (d : CS) (c' : CS) (hf : f_X0_takeFrom c d = some c') : MTv l yX0_takeFrom wsX0_takeFrom r_X0_takeFrom [.ref (A 0), .ref (A 10)] G (w_CC G A c d) (w_CC G A c' d) sz := by
  refine MTv.of (cc := cX0_takeFrom) (maxL := 2) (by decide +kernel) rfl (Nat.le_of_ble_eq_true rfl) (fun p e s m av below meth cd Q B H locs ls X hret hl hP hD hS => ?_)
  have hx := X.1.1
  have hb := X.1.2.1
  have hl : lv_has ls 2 [(0, .ref (A 0)), (1, .ref (A 10))] := hl
  unfold f_X0_takeFrom at hf
  refine lv_aload_n (pc := 0) hx hb dX0_takeFrom_0 rfl (lv_at hl 1 rfl) ?_
  refine lv_ifnonnull (pc := 1) (tgt := 5) hx hb dX0_takeFrom_1 (by decide) ?_
  refine lv_aload_n (pc := 5) hx hb dX0_takeFrom_5 rfl (lv_at hl 0 rfl) ?_
  refine lv_aload_n (pc := 6) hx hb dX0_takeFrom_6 rfl (lv_at hl 1 rfl) ?_
  refine wget (pc := 7) X (fun _ h9 => List.mem_cons_of_mem _ (List.mem_append_right _ h9)) hP 10 (at_CC_10 G A c d) rfl 0 (by decide) (List.mem_cons_of_mem _ (List.mem_append_left _ (List.mem_of_getElem? (i := 0) rfl))) rfl (v := .int (d 0 0)) rfl dX0_takeFrom_7 ?_
  refine wput (pc := 10) X (fun _ h9 => List.mem_cons_of_mem _ (List.mem_append_right _ h9)) tyX0 tyX0_ok nmX0 hP hD hS 0 (at_CC_0 G A c d) rfl 0 (by decide) (List.mem_cons_of_mem _ (List.mem_append_left _ (List.mem_of_getElem? (i := 0) rfl))) rfl rfl (ty := .int) (v := .int (d 0 0)) rfl rfl rfl (Nat.le_of_ble_eq_true rfl) (st_CC_0_0 G A c d (d 0 0)) dX0_takeFrom_10 (fun H locs hP hD hS => ?_)
  refine lv_aload_n (pc := 13) hx hb dX0_takeFrom_13 rfl (lv_at hl 0 rfl) ?_
  refine lv_aload_n (pc := 14) hx hb dX0_takeFrom_14 rfl (lv_at hl 1 rfl) ?_
  refine wget (pc := 15) X (fun _ h9 => List.mem_cons_of_mem _ (List.mem_append_right _ h9)) hP 10 (at_CC_10 G A (cset c 0 0 (d 0 0)) d) rfl 1 (by decide) (List.mem_cons_of_mem _ (List.mem_append_left _ (List.mem_of_getElem? (i := 1) rfl))) rfl (v := .int (d 1 0)) rfl dX0_takeFrom_15 ?_
  refine wput (pc := 18) X (fun _ h9 => List.mem_cons_of_mem _ (List.mem_append_right _ h9)) tyX0 tyX0_ok nmX0 hP hD hS 0 (at_CC_0 G A (cset c 0 0 (d 0 0)) d) rfl 1 (by decide) (List.mem_cons_of_mem _ (List.mem_append_left _ (List.mem_of_getElem? (i := 1) rfl))) rfl rfl (ty := .int) (v := .int (d 1 0)) rfl rfl rfl (Nat.le_of_ble_eq_true rfl) (st_CC_0_1 G A (cset c 0 0 (d 0 0)) d (d 1 0)) dX0_takeFrom_18 (fun H locs hP hD hS => ?_)
  refine lv_aload_n (pc := 21) hx hb dX0_takeFrom_21 rfl (lv_at hl 0 rfl) ?_
  refine lv_aload_n (pc := 22) hx hb dX0_takeFrom_22 rfl (lv_at hl 1 rfl) ?_
  refine wget (pc := 23) X (fun _ h9 => List.mem_cons_of_mem _ (List.mem_append_right _ h9)) hP 10 (at_CC_10 G A (cset (cset c 0 0 (d 0 0)) 1 0 (d 1 0)) d) rfl 2 (by decide) (List.mem_cons_of_mem _ (List.mem_append_left _ (List.mem_of_getElem? (i := 2) rfl))) rfl (v := .int (d 2 0)) rfl dX0_takeFrom_23 ?_
  refine wput (pc := 26) X (fun _ h9 => List.mem_cons_of_mem _ (List.mem_append_right _ h9)) tyX0 tyX0_ok nmX0 hP hD hS 0 (at_CC_0 G A (cset (cset c 0 0 (d 0 0)) 1 0 (d 1 0)) d) rfl 2 (by decide) (List.mem_cons_of_mem _ (List.mem_append_left _ (List.mem_of_getElem? (i := 2) rfl))) rfl rfl (ty := .int) (v := .int (d 2 0)) rfl rfl rfl (Nat.le_of_ble_eq_true rfl) (st_CC_0_2 G A (cset (cset c 0 0 (d 0 0)) 1 0 (d 1 0)) d (d 2 0)) dX0_takeFrom_26 (fun H locs hP hD hS => ?_)
  refine lv_aload_n (pc := 29) hx hb dX0_takeFrom_29 rfl (lv_at hl 0 rfl) ?_
  refine lv_aload_n (pc := 30) hx hb dX0_takeFrom_30 rfl (lv_at hl 1 rfl) ?_
  refine wget (pc := 31) X (fun _ h9 => List.mem_cons_of_mem _ (List.mem_append_right _ h9)) hP 10 (at_CC_10 G A (cset (cset (cset c 0 0 (d 0 0)) 1 0 (d 1 0)) 2 0 (d 2 0)) d) rfl 3 (by decide) (List.mem_cons_of_mem _ (List.mem_append_left _ (List.mem_of_getElem? (i := 3) rfl))) rfl (v := .int (d 3 0)) rfl dX0_takeFrom_31 ?_
  refine wput (pc := 34) X (fun _ h9 => List.mem_cons_of_mem _ (List.mem_append_right _ h9)) tyX0 tyX0_ok nmX0 hP hD hS 0 (at_CC_0 G A (cset (cset (cset c 0 0 (d 0 0)) 1 0 (d 1 0)) 2 0 (d 2 0)) d) rfl 3 (by decide) (List.mem_cons_of_mem _ (List.mem_append_left _ (List.mem_of_getElem? (i := 3) rfl))) rfl rfl (ty := .int) (v := .int (d 3 0)) rfl rfl rfl (Nat.le_of_ble_eq_true rfl) (st_CC_0_3 G A (cset (cset (cset c 0 0 (d 0 0)) 1 0 (d 1 0)) 2 0 (d 2 0)) d (d 3 0)) dX0_takeFrom_34 (fun H locs hP hD hS => ?_)
  refine lv_aload_n (pc := 37) hx hb dX0_takeFrom_37 rfl (lv_at hl 0 rfl) ?_
  refine lv_aload_n (pc := 38) hx hb dX0_takeFrom_38 rfl (lv_at hl 1 rfl) ?_
  refine wget (pc := 39) X (fun _ h9 => List.mem_cons_of_mem _ (List.mem_append_right _ h9)) hP 10 (at_CC_10 G A (cset (cset (cset (cset c 0 0 (d 0 0)) 1 0 (d 1 0)) 2 0 (d 2 0)) 3 0 (d 3 0)) d) rfl 4 (by decide) (List.mem_cons_of_mem _ (List.mem_append_left _ (List.mem_of_getElem? (i := 4) rfl))) rfl (v := .int (d 4 0)) rfl dX0_takeFrom_39 ?_
  refine wput (pc := 42) X (fun _ h9 => List.mem_cons_of_mem _ (List.mem_append_right _ h9)) tyX0 tyX0_ok nmX0 hP hD hS 0 (at_CC_0 G A (cset (cset (cset (cset c 0 0 (d 0 0)) 1 0 (d 1 0)) 2 0 (d 2 0)) 3 0 (d 3 0)) d) rfl 4 (by decide) (List.mem_cons_of_mem _ (List.mem_append_left _ (List.mem_of_getElem? (i := 4) rfl))) rfl rfl (ty := .int) (v := .int (d 4 0)) rfl rfl rfl (Nat.le_of_ble_eq_true rfl) (st_CC_0_4 G A (cset (cset (cset (cset c 0 0 (d 0 0)) 1 0 (d 1 0)) 2 0 (d 2 0)) 3 0 (d 3 0)) d (d 4 0)) dX0_takeFrom_42 (fun H locs hP hD hS => ?_)
  refine lv_aload_n (pc := 45) hx hb dX0_takeFrom_45 rfl (lv_at hl 1 rfl) ?_
  refine wget (pc := 46) X (fun _ h9 => List.mem_cons_of_mem _ (List.mem_append_right _ h9)) hP 10 (at_CC_10 G A (cset (cset (cset (cset (cset c 0 0 (d 0 0)) 1 0 (d 1 0)) 2 0 (d 2 0)) 3 0 (d 3 0)) 4 0 (d 4 0)) d) rfl 5 (by decide) (List.mem_cons_of_mem _ (List.mem_append_left _ (List.mem_of_getElem? (i := 5) rfl))) rfl (v := .ref (A 11)) rfl dX0_takeFrom_46 ?_
  refine lv_iconst (pc := 49) (v := (0 : Int32)) hx hb dX0_takeFrom_49 (by decide) ?_
  refine lv_aload_n (pc := 50) hx hb dX0_takeFrom_50 rfl (lv_at hl 0 rfl) ?_
  refine wget (pc := 51) X (fun _ h9 => List.mem_cons_of_mem _ (List.mem_append_right _ h9)) hP 0 (at_CC_0 G A (cset (cset (cset (cset (cset c 0 0 (d 0 0)) 1 0 (d 1 0)) 2 0 (d 2 0)) 3 0 (d 3 0)) 4 0 (d 4 0)) d) rfl 5 (by decide) (List.mem_cons_of_mem _ (List.mem_append_left _ (List.mem_of_getElem? (i := 5) rfl))) rfl (v := .ref (A 1)) rfl dX0_takeFrom_51 ?_
  refine lv_iconst (pc := 54) (v := (0 : Int32)) hx hb dX0_takeFrom_54 (by decide) ?_
  refine lv_iconst (pc := 55) (v := (5 : Int32)) hx hb dX0_takeFrom_55 (by decide) ?_
  refine wcopy (pc := 56) X hl.1 (List.mem_cons_of_mem _ (List.mem_append_left _ (List.mem_of_getElem? (i := 6) rfl))) (List.mem_cons_of_mem _ (List.mem_append_left _ (List.mem_of_getElem? (i := 7) rfl))) (List.mem_cons_of_mem _ (List.mem_append_left _ (List.mem_of_getElem? (i := 8) rfl))) (List.mem_cons_of_mem _ (List.mem_append_left _ (List.mem_of_getElem? (i := 9) rfl))) hP hD hS 11 1 (at_CC_11 G A (cset (cset (cset (cset (cset c 0 0 (d 0 0)) 1 0 (d 1 0)) 2 0 (d 2 0)) 3 0 (d 3 0)) 4 0 (d 4 0)) d) (at_CC_1 G A (cset (cset (cset (cset (cset c 0 0 (d 0 0)) 1 0 (d 1 0)) 2 0 (d 2 0)) 3 0 (d 3 0)) 4 0 (d 4 0)) d) (by decide) (by decide) (Nat.le_of_ble_eq_true rfl) (Nat.le_of_ble_eq_true rfl) (sa_CC_1 G A (cset (cset (cset (cset (cset c 0 0 (d 0 0)) 1 0 (d 1 0)) 2 0 (d 2 0)) 3 0 (d 3 0)) 4 0 (d 4 0)) d _) dX0_takeFrom_56 (fun H locs hP hD hS => ?_)
  have hP : va_P G.1 vwCl (w_CC G A (csetA (cset (cset (cset (cset (cset c 0 0 (d 0 0)) 1 0 (d 1 0)) 2 0 (d 2 0)) 3 0 (d 3 0)) 4 0 (d 4 0)) 5 (va_cpy (d 5) (c 5) 0 0 5)) d) H := hP
  have hD : va_D B (w_CC G A (csetA (cset (cset (cset (cset (cset c 0 0 (d 0 0)) 1 0 (d 1 0)) 2 0 (d 2 0)) 3 0 (d 3 0)) 4 0 (d 4 0)) 5 (va_cpy (d 5) (c 5) 0 0 5)) d) := hD
  refine lv_aload_n (pc := 59) hx hb dX0_takeFrom_59 rfl (lv_at hl 1 rfl) ?_
  refine wget (pc := 60) X (fun _ h9 => List.mem_cons_of_mem _ (List.mem_append_right _ h9)) hP 10 (at_CC_10 G A (csetA (cset (cset (cset (cset (cset c 0 0 (d 0 0)) 1 0 (d 1 0)) 2 0 (d 2 0)) 3 0 (d 3 0)) 4 0 (d 4 0)) 5 (va_cpy (d 5) (c 5) 0 0 5)) d) rfl 6 (by decide) (List.mem_cons_of_mem _ (List.mem_append_left _ (List.mem_of_getElem? (i := 10) rfl))) rfl (v := .ref (A 12)) rfl dX0_takeFrom_60 ?_
  refine lv_iconst (pc := 63) (v := (0 : Int32)) hx hb dX0_takeFrom_63 (by decide) ?_
  refine lv_aload_n (pc := 64) hx hb dX0_takeFrom_64 rfl (lv_at hl 0 rfl) ?_
  refine wget (pc := 65) X (fun _ h9 => List.mem_cons_of_mem _ (List.mem_append_right _ h9)) hP 0 (at_CC_0 G A (csetA (cset (cset (cset (cset (cset c 0 0 (d 0 0)) 1 0 (d 1 0)) 2 0 (d 2 0)) 3 0 (d 3 0)) 4 0 (d 4 0)) 5 (va_cpy (d 5) (c 5) 0 0 5)) d) rfl 6 (by decide) (List.mem_cons_of_mem _ (List.mem_append_left _ (List.mem_of_getElem? (i := 10) rfl))) rfl (v := .ref (A 2)) rfl dX0_takeFrom_65 ?_
  refine lv_iconst (pc := 68) (v := (0 : Int32)) hx hb dX0_takeFrom_68 (by decide) ?_
  refine lv_iconst (pc := 69) (v := (5 : Int32)) hx hb dX0_takeFrom_69 (by decide) ?_
  refine wcopy (pc := 70) X hl.1 (List.mem_cons_of_mem _ (List.mem_append_left _ (List.mem_of_getElem? (i := 6) rfl))) (List.mem_cons_of_mem _ (List.mem_append_left _ (List.mem_of_getElem? (i := 7) rfl))) (List.mem_cons_of_mem _ (List.mem_append_left _ (List.mem_of_getElem? (i := 8) rfl))) (List.mem_cons_of_mem _ (List.mem_append_left _ (List.mem_of_getElem? (i := 9) rfl))) hP hD hS 12 2 (at_CC_12 G A (csetA (cset (cset (cset (cset (cset c 0 0 (d 0 0)) 1 0 (d 1 0)) 2 0 (d 2 0)) 3 0 (d 3 0)) 4 0 (d 4 0)) 5 (va_cpy (d 5) (c 5) 0 0 5)) d) (at_CC_2 G A (csetA (cset (cset (cset (cset (cset c 0 0 (d 0 0)) 1 0 (d 1 0)) 2 0 (d 2 0)) 3 0 (d 3 0)) 4 0 (d 4 0)) 5 (va_cpy (d 5) (c 5) 0 0 5)) d) (by decide) (by decide) (Nat.le_of_ble_eq_true rfl) (Nat.le_of_ble_eq_true rfl) (sa_CC_2 G A (csetA (cset (cset (cset (cset (cset c 0 0 (d 0 0)) 1 0 (d 1 0)) 2 0 (d 2 0)) 3 0 (d 3 0)) 4 0 (d 4 0)) 5 (va_cpy (d 5) (c 5) 0 0 5)) d _) dX0_takeFrom_70 (fun H locs hP hD hS => ?_)
  have hP : va_P G.1 vwCl (w_CC G A (csetA (csetA (cset (cset (cset (cset (cset c 0 0 (d 0 0)) 1 0 (d 1 0)) 2 0 (d 2 0)) 3 0 (d 3 0)) 4 0 (d 4 0)) 5 (va_cpy (d 5) (c 5) 0 0 5)) 6 (va_cpy (d 6) (c 6) 0 0 5)) d) H := hP
  have hD : va_D B (w_CC G A (csetA (csetA (cset (cset (cset (cset (cset c 0 0 (d 0 0)) 1 0 (d 1 0)) 2 0 (d 2 0)) 3 0 (d 3 0)) 4 0 (d 4 0)) 5 (va_cpy (d 5) (c 5) 0 0 5)) 6 (va_cpy (d 6) (c 6) 0 0 5)) d) := hD
  refine lv_aload_n (pc := 73) hx hb dX0_takeFrom_73 rfl (lv_at hl 1 rfl) ?_
  refine wget (pc := 74) X (fun _ h9 => List.mem_cons_of_mem _ (List.mem_append_right _ h9)) hP 10 (at_CC_10 G A (csetA (csetA (cset (cset (cset (cset (cset c 0 0 (d 0 0)) 1 0 (d 1 0)) 2 0 (d 2 0)) 3 0 (d 3 0)) 4 0 (d 4 0)) 5 (va_cpy (d 5) (c 5) 0 0 5)) 6 (va_cpy (d 6) (c 6) 0 0 5)) d) rfl 7 (by decide) (List.mem_cons_of_mem _ (List.mem_append_left _ (List.mem_of_getElem? (i := 11) rfl))) rfl (v := .ref (A 13)) rfl dX0_takeFrom_74 ?_
  refine lv_iconst (pc := 77) (v := (0 : Int32)) hx hb dX0_takeFrom_77 (by decide) ?_
  refine lv_aload_n (pc := 78) hx hb dX0_takeFrom_78 rfl (lv_at hl 0 rfl) ?_
  refine wget (pc := 79) X (fun _ h9 => List.mem_cons_of_mem _ (List.mem_append_right _ h9)) hP 0 (at_CC_0 G A (csetA (csetA (cset (cset (cset (cset (cset c 0 0 (d 0 0)) 1 0 (d 1 0)) 2 0 (d 2 0)) 3 0 (d 3 0)) 4 0 (d 4 0)) 5 (va_cpy (d 5) (c 5) 0 0 5)) 6 (va_cpy (d 6) (c 6) 0 0 5)) d) rfl 7 (by decide) (List.mem_cons_of_mem _ (List.mem_append_left _ (List.mem_of_getElem? (i := 11) rfl))) rfl (v := .ref (A 3)) rfl dX0_takeFrom_79 ?_
  refine lv_iconst (pc := 82) (v := (0 : Int32)) hx hb dX0_takeFrom_82 (by decide) ?_
  refine lv_iconst (pc := 83) (v := (5 : Int32)) hx hb dX0_takeFrom_83 (by decide) ?_
  refine wcopy (pc := 84) X hl.1 (List.mem_cons_of_mem _ (List.mem_append_left _ (List.mem_of_getElem? (i := 6) rfl))) (List.mem_cons_of_mem _ (List.mem_append_left _ (List.mem_of_getElem? (i := 7) rfl))) (List.mem_cons_of_mem _ (List.mem_append_left _ (List.mem_of_getElem? (i := 8) rfl))) (List.mem_cons_of_mem _ (List.mem_append_left _ (List.mem_of_getElem? (i := 9) rfl))) hP hD hS 13 3 (at_CC_13 G A (csetA (csetA (cset (cset (cset (cset (cset c 0 0 (d 0 0)) 1 0 (d 1 0)) 2 0 (d 2 0)) 3 0 (d 3 0)) 4 0 (d 4 0)) 5 (va_cpy (d 5) (c 5) 0 0 5)) 6 (va_cpy (d 6) (c 6) 0 0 5)) d) (at_CC_3 G A (csetA (csetA (cset (cset (cset (cset (cset c 0 0 (d 0 0)) 1 0 (d 1 0)) 2 0 (d 2 0)) 3 0 (d 3 0)) 4 0 (d 4 0)) 5 (va_cpy (d 5) (c 5) 0 0 5)) 6 (va_cpy (d 6) (c 6) 0 0 5)) d) (by decide) (by decide) (Nat.le_of_ble_eq_true rfl) (Nat.le_of_ble_eq_true rfl) (sa_CC_3 G A (csetA (csetA (cset (cset (cset (cset (cset c 0 0 (d 0 0)) 1 0 (d 1 0)) 2 0 (d 2 0)) 3 0 (d 3 0)) 4 0 (d 4 0)) 5 (va_cpy (d 5) (c 5) 0 0 5)) 6 (va_cpy (d 6) (c 6) 0 0 5)) d _) dX0_takeFrom_84 (fun H locs hP hD hS => ?_)
  have hP : va_P G.1 vwCl (w_CC G A (csetA (csetA (csetA (cset (cset (cset (cset (cset c 0 0 (d 0 0)) 1 0 (d 1 0)) 2 0 (d 2 0)) 3 0 (d 3 0)) 4 0 (d 4 0)) 5 (va_cpy (d 5) (c 5) 0 0 5)) 6 (va_cpy (d 6) (c 6) 0 0 5)) 7 (va_cpy (d 7) (c 7) 0 0 5)) d) H := hP
  have hD : va_D B (w_CC G A (csetA (csetA (csetA (cset (cset (cset (cset (cset c 0 0 (d 0 0)) 1 0 (d 1 0)) 2 0 (d 2 0)) 3 0 (d 3 0)) 4 0 (d 4 0)) 5 (va_cpy (d 5) (c 5) 0 0 5)) 6 (va_cpy (d 6) (c 6) 0 0 5)) 7 (va_cpy (d 7) (c 7) 0 0 5)) d) := hD
  refine lv_aload_n (pc := 87) hx hb dX0_takeFrom_87 rfl (lv_at hl 1 rfl) ?_
  refine wget (pc := 88) X (fun _ h9 => List.mem_cons_of_mem _ (List.mem_append_right _ h9)) hP 10 (at_CC_10 G A (csetA (csetA (csetA (cset (cset (cset (cset (cset c 0 0 (d 0 0)) 1 0 (d 1 0)) 2 0 (d 2 0)) 3 0 (d 3 0)) 4 0 (d 4 0)) 5 (va_cpy (d 5) (c 5) 0 0 5)) 6 (va_cpy (d 6) (c 6) 0 0 5)) 7 (va_cpy (d 7) (c 7) 0 0 5)) d) rfl 8 (by decide) (List.mem_cons_of_mem _ (List.mem_append_left _ (List.mem_of_getElem? (i := 12) rfl))) rfl (v := .ref (A 14)) rfl dX0_takeFrom_88 ?_
  refine lv_iconst (pc := 91) (v := (0 : Int32)) hx hb dX0_takeFrom_91 (by decide) ?_
  refine lv_aload_n (pc := 92) hx hb dX0_takeFrom_92 rfl (lv_at hl 0 rfl) ?_
  refine wget (pc := 93) X (fun _ h9 => List.mem_cons_of_mem _ (List.mem_append_right _ h9)) hP 0 (at_CC_0 G A (csetA (csetA (csetA (cset (cset (cset (cset (cset c 0 0 (d 0 0)) 1 0 (d 1 0)) 2 0 (d 2 0)) 3 0 (d 3 0)) 4 0 (d 4 0)) 5 (va_cpy (d 5) (c 5) 0 0 5)) 6 (va_cpy (d 6) (c 6) 0 0 5)) 7 (va_cpy (d 7) (c 7) 0 0 5)) d) rfl 8 (by decide) (List.mem_cons_of_mem _ (List.mem_append_left _ (List.mem_of_getElem? (i := 12) rfl))) rfl (v := .ref (A 4)) rfl dX0_takeFrom_93 ?_
  refine lv_iconst (pc := 96) (v := (0 : Int32)) hx hb dX0_takeFrom_96 (by decide) ?_
  refine lv_bipush (pc := 97) (v := (12 : Int32)) hx hb dX0_takeFrom_97 (by decide) ?_
  refine wcopy (pc := 99) X hl.1 (List.mem_cons_of_mem _ (List.mem_append_left _ (List.mem_of_getElem? (i := 6) rfl))) (List.mem_cons_of_mem _ (List.mem_append_left _ (List.mem_of_getElem? (i := 7) rfl))) (List.mem_cons_of_mem _ (List.mem_append_left _ (List.mem_of_getElem? (i := 8) rfl))) (List.mem_cons_of_mem _ (List.mem_append_left _ (List.mem_of_getElem? (i := 9) rfl))) hP hD hS 14 4 (at_CC_14 G A (csetA (csetA (csetA (cset (cset (cset (cset (cset c 0 0 (d 0 0)) 1 0 (d 1 0)) 2 0 (d 2 0)) 3 0 (d 3 0)) 4 0 (d 4 0)) 5 (va_cpy (d 5) (c 5) 0 0 5)) 6 (va_cpy (d 6) (c 6) 0 0 5)) 7 (va_cpy (d 7) (c 7) 0 0 5)) d) (at_CC_4 G A (csetA (csetA (csetA (cset (cset (cset (cset (cset c 0 0 (d 0 0)) 1 0 (d 1 0)) 2 0 (d 2 0)) 3 0 (d 3 0)) 4 0 (d 4 0)) 5 (va_cpy (d 5) (c 5) 0 0 5)) 6 (va_cpy (d 6) (c 6) 0 0 5)) 7 (va_cpy (d 7) (c 7) 0 0 5)) d) (by decide) (by decide) (Nat.le_of_ble_eq_true rfl) (Nat.le_of_ble_eq_true rfl) (sa_CC_4 G A (csetA (csetA (csetA (cset (cset (cset (cset (cset c 0 0 (d 0 0)) 1 0 (d 1 0)) 2 0 (d 2 0)) 3 0 (d 3 0)) 4 0 (d 4 0)) 5 (va_cpy (d 5) (c 5) 0 0 5)) 6 (va_cpy (d 6) (c 6) 0 0 5)) 7 (va_cpy (d 7) (c 7) 0 0 5)) d _) dX0_takeFrom_99 (fun H locs hP hD hS => ?_)
  have hP : va_P G.1 vwCl (w_CC G A (csetA (csetA (csetA (csetA (cset (cset (cset (cset (cset c 0 0 (d 0 0)) 1 0 (d 1 0)) 2 0 (d 2 0)) 3 0 (d 3 0)) 4 0 (d 4 0)) 5 (va_cpy (d 5) (c 5) 0 0 5)) 6 (va_cpy (d 6) (c 6) 0 0 5)) 7 (va_cpy (d 7) (c 7) 0 0 5)) 8 (va_cpy (d 8) (c 8) 0 0 12)) d) H := hP
  have hD : va_D B (w_CC G A (csetA (csetA (csetA (csetA (cset (cset (cset (cset (cset c 0 0 (d 0 0)) 1 0 (d 1 0)) 2 0 (d 2 0)) 3 0 (d 3 0)) 4 0 (d 4 0)) 5 (va_cpy (d 5) (c 5) 0 0 5)) 6 (va_cpy (d 6) (c 6) 0 0 5)) 7 (va_cpy (d 7) (c 7) 0 0 5)) 8 (va_cpy (d 8) (c 8) 0 0 12)) d) := hD
  refine lv_aload_n (pc := 102) hx hb dX0_takeFrom_102 rfl (lv_at hl 1 rfl) ?_
  refine wget (pc := 103) X (fun _ h9 => List.mem_cons_of_mem _ (List.mem_append_right _ h9)) hP 10 (at_CC_10 G A (csetA (csetA (csetA (csetA (cset (cset (cset (cset (cset c 0 0 (d 0 0)) 1 0 (d 1 0)) 2 0 (d 2 0)) 3 0 (d 3 0)) 4 0 (d 4 0)) 5 (va_cpy (d 5) (c 5) 0 0 5)) 6 (va_cpy (d 6) (c 6) 0 0 5)) 7 (va_cpy (d 7) (c 7) 0 0 5)) 8 (va_cpy (d 8) (c 8) 0 0 12)) d) rfl 9 (by decide) (List.mem_cons_of_mem _ (List.mem_append_left _ (List.mem_of_getElem? (i := 13) rfl))) rfl (v := .ref (A 15)) rfl dX0_takeFrom_103 ?_
  refine lv_iconst (pc := 106) (v := (0 : Int32)) hx hb dX0_takeFrom_106 (by decide) ?_
  refine lv_aload_n (pc := 107) hx hb dX0_takeFrom_107 rfl (lv_at hl 0 rfl) ?_
  refine wget (pc := 108) X (fun _ h9 => List.mem_cons_of_mem _ (List.mem_append_right _ h9)) hP 0 (at_CC_0 G A (csetA (csetA (csetA (csetA (cset (cset (cset (cset (cset c 0 0 (d 0 0)) 1 0 (d 1 0)) 2 0 (d 2 0)) 3 0 (d 3 0)) 4 0 (d 4 0)) 5 (va_cpy (d 5) (c 5) 0 0 5)) 6 (va_cpy (d 6) (c 6) 0 0 5)) 7 (va_cpy (d 7) (c 7) 0 0 5)) 8 (va_cpy (d 8) (c 8) 0 0 12)) d) rfl 9 (by decide) (List.mem_cons_of_mem _ (List.mem_append_left _ (List.mem_of_getElem? (i := 13) rfl))) rfl (v := .ref (A 5)) rfl dX0_takeFrom_108 ?_
  refine lv_iconst (pc := 111) (v := (0 : Int32)) hx hb dX0_takeFrom_111 (by decide) ?_
  refine lv_bipush (pc := 112) (v := (12 : Int32)) hx hb dX0_takeFrom_112 (by decide) ?_
  refine wcopy (pc := 114) X hl.1 (List.mem_cons_of_mem _ (List.mem_append_left _ (List.mem_of_getElem? (i := 6) rfl))) (List.mem_cons_of_mem _ (List.mem_append_left _ (List.mem_of_getElem? (i := 7) rfl))) (List.mem_cons_of_mem _ (List.mem_append_left _ (List.mem_of_getElem? (i := 8) rfl))) (List.mem_cons_of_mem _ (List.mem_append_left _ (List.mem_of_getElem? (i := 9) rfl))) hP hD hS 15 5 (at_CC_15 G A (csetA (csetA (csetA (csetA (cset (cset (cset (cset (cset c 0 0 (d 0 0)) 1 0 (d 1 0)) 2 0 (d 2 0)) 3 0 (d 3 0)) 4 0 (d 4 0)) 5 (va_cpy (d 5) (c 5) 0 0 5)) 6 (va_cpy (d 6) (c 6) 0 0 5)) 7 (va_cpy (d 7) (c 7) 0 0 5)) 8 (va_cpy (d 8) (c 8) 0 0 12)) d) (at_CC_5 G A (csetA (csetA (csetA (csetA (cset (cset (cset (cset (cset c 0 0 (d 0 0)) 1 0 (d 1 0)) 2 0 (d 2 0)) 3 0 (d 3 0)) 4 0 (d 4 0)) 5 (va_cpy (d 5) (c 5) 0 0 5)) 6 (va_cpy (d 6) (c 6) 0 0 5)) 7 (va_cpy (d 7) (c 7) 0 0 5)) 8 (va_cpy (d 8) (c 8) 0 0 12)) d) (by decide) (by decide) (Nat.le_of_ble_eq_true rfl) (Nat.le_of_ble_eq_true rfl) (sa_CC_5 G A (csetA (csetA (csetA (csetA (cset (cset (cset (cset (cset c 0 0 (d 0 0)) 1 0 (d 1 0)) 2 0 (d 2 0)) 3 0 (d 3 0)) 4 0 (d 4 0)) 5 (va_cpy (d 5) (c 5) 0 0 5)) 6 (va_cpy (d 6) (c 6) 0 0 5)) 7 (va_cpy (d 7) (c 7) 0 0 5)) 8 (va_cpy (d 8) (c 8) 0 0 12)) d _) dX0_takeFrom_114 (fun H locs hP hD hS => ?_)
  have hP : va_P G.1 vwCl (w_CC G A (csetA (csetA (csetA (csetA (csetA (cset (cset (cset (cset (cset c 0 0 (d 0 0)) 1 0 (d 1 0)) 2 0 (d 2 0)) 3 0 (d 3 0)) 4 0 (d 4 0)) 5 (va_cpy (d 5) (c 5) 0 0 5)) 6 (va_cpy (d 6) (c 6) 0 0 5)) 7 (va_cpy (d 7) (c 7) 0 0 5)) 8 (va_cpy (d 8) (c 8) 0 0 12)) 9 (va_cpy (d 9) (c 9) 0 0 12)) d) H := hP
  have hD : va_D B (w_CC G A (csetA (csetA (csetA (csetA (csetA (cset (cset (cset (cset (cset c 0 0 (d 0 0)) 1 0 (d 1 0)) 2 0 (d 2 0)) 3 0 (d 3 0)) 4 0 (d 4 0)) 5 (va_cpy (d 5) (c 5) 0 0 5)) 6 (va_cpy (d 6) (c 6) 0 0 5)) 7 (va_cpy (d 7) (c 7) 0 0 5)) 8 (va_cpy (d 8) (c 8) 0 0 12)) 9 (va_cpy (d 9) (c 9) 0 0 12)) d) := hD
  refine lv_aload_n (pc := 117) hx hb dX0_takeFrom_117 rfl (lv_at hl 1 rfl) ?_
  refine wget (pc := 118) X (fun _ h9 => List.mem_cons_of_mem _ (List.mem_append_right _ h9)) hP 10 (at_CC_10 G A (csetA (csetA (csetA (csetA (csetA (cset (cset (cset (cset (cset c 0 0 (d 0 0)) 1 0 (d 1 0)) 2 0 (d 2 0)) 3 0 (d 3 0)) 4 0 (d 4 0)) 5 (va_cpy (d 5) (c 5) 0 0 5)) 6 (va_cpy (d 6) (c 6) 0 0 5)) 7 (va_cpy (d 7) (c 7) 0 0 5)) 8 (va_cpy (d 8) (c 8) 0 0 12)) 9 (va_cpy (d 9) (c 9) 0 0 12)) d) rfl 10 (by decide) (List.mem_cons_of_mem _ (List.mem_append_left _ (List.mem_of_getElem? (i := 14) rfl))) rfl (v := .ref (A 16)) rfl dX0_takeFrom_118 ?_
  refine lv_iconst (pc := 121) (v := (0 : Int32)) hx hb dX0_takeFrom_121 (by decide) ?_
  refine lv_aload_n (pc := 122) hx hb dX0_takeFrom_122 rfl (lv_at hl 0 rfl) ?_
  refine wget (pc := 123) X (fun _ h9 => List.mem_cons_of_mem _ (List.mem_append_right _ h9)) hP 0 (at_CC_0 G A (csetA (csetA (csetA (csetA (csetA (cset (cset (cset (cset (cset c 0 0 (d 0 0)) 1 0 (d 1 0)) 2 0 (d 2 0)) 3 0 (d 3 0)) 4 0 (d 4 0)) 5 (va_cpy (d 5) (c 5) 0 0 5)) 6 (va_cpy (d 6) (c 6) 0 0 5)) 7 (va_cpy (d 7) (c 7) 0 0 5)) 8 (va_cpy (d 8) (c 8) 0 0 12)) 9 (va_cpy (d 9) (c 9) 0 0 12)) d) rfl 10 (by decide) (List.mem_cons_of_mem _ (List.mem_append_left _ (List.mem_of_getElem? (i := 14) rfl))) rfl (v := .ref (A 6)) rfl dX0_takeFrom_123 ?_
  refine lv_iconst (pc := 126) (v := (0 : Int32)) hx hb dX0_takeFrom_126 (by decide) ?_
  refine lv_bipush (pc := 127) (v := (12 : Int32)) hx hb dX0_takeFrom_127 (by decide) ?_
  refine wcopy (pc := 129) X hl.1 (List.mem_cons_of_mem _ (List.mem_append_left _ (List.mem_of_getElem? (i := 6) rfl))) (List.mem_cons_of_mem _ (List.mem_append_left _ (List.mem_of_getElem? (i := 7) rfl))) (List.mem_cons_of_mem _ (List.mem_append_left _ (List.mem_of_getElem? (i := 8) rfl))) (List.mem_cons_of_mem _ (List.mem_append_left _ (List.mem_of_getElem? (i := 9) rfl))) hP hD hS 16 6 (at_CC_16 G A (csetA (csetA (csetA (csetA (csetA (cset (cset (cset (cset (cset c 0 0 (d 0 0)) 1 0 (d 1 0)) 2 0 (d 2 0)) 3 0 (d 3 0)) 4 0 (d 4 0)) 5 (va_cpy (d 5) (c 5) 0 0 5)) 6 (va_cpy (d 6) (c 6) 0 0 5)) 7 (va_cpy (d 7) (c 7) 0 0 5)) 8 (va_cpy (d 8) (c 8) 0 0 12)) 9 (va_cpy (d 9) (c 9) 0 0 12)) d) (at_CC_6 G A (csetA (csetA (csetA (csetA (csetA (cset (cset (cset (cset (cset c 0 0 (d 0 0)) 1 0 (d 1 0)) 2 0 (d 2 0)) 3 0 (d 3 0)) 4 0 (d 4 0)) 5 (va_cpy (d 5) (c 5) 0 0 5)) 6 (va_cpy (d 6) (c 6) 0 0 5)) 7 (va_cpy (d 7) (c 7) 0 0 5)) 8 (va_cpy (d 8) (c 8) 0 0 12)) 9 (va_cpy (d 9) (c 9) 0 0 12)) d) (by decide) (by decide) (Nat.le_of_ble_eq_true rfl) (Nat.le_of_ble_eq_true rfl) (sa_CC_6 G A (csetA (csetA (csetA (csetA (csetA (cset (cset (cset (cset (cset c 0 0 (d 0 0)) 1 0 (d 1 0)) 2 0 (d 2 0)) 3 0 (d 3 0)) 4 0 (d 4 0)) 5 (va_cpy (d 5) (c 5) 0 0 5)) 6 (va_cpy (d 6) (c 6) 0 0 5)) 7 (va_cpy (d 7) (c 7) 0 0 5)) 8 (va_cpy (d 8) (c 8) 0 0 12)) 9 (va_cpy (d 9) (c 9) 0 0 12)) d _) dX0_takeFrom_129 (fun H locs hP hD hS => ?_)
  have hP : va_P G.1 vwCl (w_CC G A (csetA (csetA (csetA (csetA (csetA (csetA (cset (cset (cset (cset (cset c 0 0 (d 0 0)) 1 0 (d 1 0)) 2 0 (d 2 0)) 3 0 (d 3 0)) 4 0 (d 4 0)) 5 (va_cpy (d 5) (c 5) 0 0 5)) 6 (va_cpy (d 6) (c 6) 0 0 5)) 7 (va_cpy (d 7) (c 7) 0 0 5)) 8 (va_cpy (d 8) (c 8) 0 0 12)) 9 (va_cpy (d 9) (c 9) 0 0 12)) 10 (va_cpy (d 10) (c 10) 0 0 12)) d) H := hP
  have hD : va_D B (w_CC G A (csetA (csetA (csetA (csetA (csetA (csetA (cset (cset (cset (cset (cset c 0 0 (d 0 0)) 1 0 (d 1 0)) 2 0 (d 2 0)) 3 0 (d 3 0)) 4 0 (d 4 0)) 5 (va_cpy (d 5) (c 5) 0 0 5)) 6 (va_cpy (d 6) (c 6) 0 0 5)) 7 (va_cpy (d 7) (c 7) 0 0 5)) 8 (va_cpy (d 8) (c 8) 0 0 12)) 9 (va_cpy (d 9) (c 9) 0 0 12)) 10 (va_cpy (d 10) (c 10) 0 0 12)) d) := hD
  refine lv_aload_n (pc := 132) hx hb dX0_takeFrom_132 rfl (lv_at hl 1 rfl) ?_
  refine wget (pc := 133) X (fun _ h9 => List.mem_cons_of_mem _ (List.mem_append_right _ h9)) hP 10 (at_CC_10 G A (csetA (csetA (csetA (csetA (csetA (csetA (cset (cset (cset (cset (cset c 0 0 (d 0 0)) 1 0 (d 1 0)) 2 0 (d 2 0)) 3 0 (d 3 0)) 4 0 (d 4 0)) 5 (va_cpy (d 5) (c 5) 0 0 5)) 6 (va_cpy (d 6) (c 6) 0 0 5)) 7 (va_cpy (d 7) (c 7) 0 0 5)) 8 (va_cpy (d 8) (c 8) 0 0 12)) 9 (va_cpy (d 9) (c 9) 0 0 12)) 10 (va_cpy (d 10) (c 10) 0 0 12)) d) rfl 11 (by decide) (List.mem_cons_of_mem _ (List.mem_append_left _ (List.mem_of_getElem? (i := 15) rfl))) rfl (v := .ref (A 17)) rfl dX0_takeFrom_133 ?_
  refine lv_iconst (pc := 136) (v := (0 : Int32)) hx hb dX0_takeFrom_136 (by decide) ?_
  refine lv_aload_n (pc := 137) hx hb dX0_takeFrom_137 rfl (lv_at hl 0 rfl) ?_
  refine wget (pc := 138) X (fun _ h9 => List.mem_cons_of_mem _ (List.mem_append_right _ h9)) hP 0 (at_CC_0 G A (csetA (csetA (csetA (csetA (csetA (csetA (cset (cset (cset (cset (cset c 0 0 (d 0 0)) 1 0 (d 1 0)) 2 0 (d 2 0)) 3 0 (d 3 0)) 4 0 (d 4 0)) 5 (va_cpy (d 5) (c 5) 0 0 5)) 6 (va_cpy (d 6) (c 6) 0 0 5)) 7 (va_cpy (d 7) (c 7) 0 0 5)) 8 (va_cpy (d 8) (c 8) 0 0 12)) 9 (va_cpy (d 9) (c 9) 0 0 12)) 10 (va_cpy (d 10) (c 10) 0 0 12)) d) rfl 11 (by decide) (List.mem_cons_of_mem _ (List.mem_append_left _ (List.mem_of_getElem? (i := 15) rfl))) rfl (v := .ref (A 7)) rfl dX0_takeFrom_138 ?_
  refine lv_iconst (pc := 141) (v := (0 : Int32)) hx hb dX0_takeFrom_141 (by decide) ?_
  refine lv_bipush (pc := 142) (v := (12 : Int32)) hx hb dX0_takeFrom_142 (by decide) ?_
  refine wcopy (pc := 144) X hl.1 (List.mem_cons_of_mem _ (List.mem_append_left _ (List.mem_of_getElem? (i := 6) rfl))) (List.mem_cons_of_mem _ (List.mem_append_left _ (List.mem_of_getElem? (i := 7) rfl))) (List.mem_cons_of_mem _ (List.mem_append_left _ (List.mem_of_getElem? (i := 8) rfl))) (List.mem_cons_of_mem _ (List.mem_append_left _ (List.mem_of_getElem? (i := 9) rfl))) hP hD hS 17 7 (at_CC_17 G A (csetA (csetA (csetA (csetA (csetA (csetA (cset (cset (cset (cset (cset c 0 0 (d 0 0)) 1 0 (d 1 0)) 2 0 (d 2 0)) 3 0 (d 3 0)) 4 0 (d 4 0)) 5 (va_cpy (d 5) (c 5) 0 0 5)) 6 (va_cpy (d 6) (c 6) 0 0 5)) 7 (va_cpy (d 7) (c 7) 0 0 5)) 8 (va_cpy (d 8) (c 8) 0 0 12)) 9 (va_cpy (d 9) (c 9) 0 0 12)) 10 (va_cpy (d 10) (c 10) 0 0 12)) d) (at_CC_7 G A (csetA (csetA (csetA (csetA (csetA (csetA (cset (cset (cset (cset (cset c 0 0 (d 0 0)) 1 0 (d 1 0)) 2 0 (d 2 0)) 3 0 (d 3 0)) 4 0 (d 4 0)) 5 (va_cpy (d 5) (c 5) 0 0 5)) 6 (va_cpy (d 6) (c 6) 0 0 5)) 7 (va_cpy (d 7) (c 7) 0 0 5)) 8 (va_cpy (d 8) (c 8) 0 0 12)) 9 (va_cpy (d 9) (c 9) 0 0 12)) 10 (va_cpy (d 10) (c 10) 0 0 12)) d) (by decide) (by decide) (Nat.le_of_ble_eq_true rfl) (Nat.le_of_ble_eq_true rfl) (sa_CC_7 G A (csetA (csetA (csetA (csetA (csetA (csetA (cset (cset (cset (cset (cset c 0 0 (d 0 0)) 1 0 (d 1 0)) 2 0 (d 2 0)) 3 0 (d 3 0)) 4 0 (d 4 0)) 5 (va_cpy (d 5) (c 5) 0 0 5)) 6 (va_cpy (d 6) (c 6) 0 0 5)) 7 (va_cpy (d 7) (c 7) 0 0 5)) 8 (va_cpy (d 8) (c 8) 0 0 12)) 9 (va_cpy (d 9) (c 9) 0 0 12)) 10 (va_cpy (d 10) (c 10) 0 0 12)) d _) dX0_takeFrom_144 (fun H locs hP hD hS => ?_)
  have hP : va_P G.1 vwCl (w_CC G A (csetA (csetA (csetA (csetA (csetA (csetA (csetA (cset (cset (cset (cset (cset c 0 0 (d 0 0)) 1 0 (d 1 0)) 2 0 (d 2 0)) 3 0 (d 3 0)) 4 0 (d 4 0)) 5 (va_cpy (d 5) (c 5) 0 0 5)) 6 (va_cpy (d 6) (c 6) 0 0 5)) 7 (va_cpy (d 7) (c 7) 0 0 5)) 8 (va_cpy (d 8) (c 8) 0 0 12)) 9 (va_cpy (d 9) (c 9) 0 0 12)) 10 (va_cpy (d 10) (c 10) 0 0 12)) 11 (va_cpy (d 11) (c 11) 0 0 12)) d) H := hP
  have hD : va_D B (w_CC G A (csetA (csetA (csetA (csetA (csetA (csetA (csetA (cset (cset (cset (cset (cset c 0 0 (d 0 0)) 1 0 (d 1 0)) 2 0 (d 2 0)) 3 0 (d 3 0)) 4 0 (d 4 0)) 5 (va_cpy (d 5) (c 5) 0 0 5)) 6 (va_cpy (d 6) (c 6) 0 0 5)) 7 (va_cpy (d 7) (c 7) 0 0 5)) 8 (va_cpy (d 8) (c 8) 0 0 12)) 9 (va_cpy (d 9) (c 9) 0 0 12)) 10 (va_cpy (d 10) (c 10) 0 0 12)) 11 (va_cpy (d 11) (c 11) 0 0 12)) d) := hD
  refine lv_aload_n (pc := 147) hx hb dX0_takeFrom_147 rfl (lv_at hl 1 rfl) ?_
  refine wget (pc := 148) X (fun _ h9 => List.mem_cons_of_mem _ (List.mem_append_right _ h9)) hP 10 (at_CC_10 G A (csetA (csetA (csetA (csetA (csetA (csetA (csetA (cset (cset (cset (cset (cset c 0 0 (d 0 0)) 1 0 (d 1 0)) 2 0 (d 2 0)) 3 0 (d 3 0)) 4 0 (d 4 0)) 5 (va_cpy (d 5) (c 5) 0 0 5)) 6 (va_cpy (d 6) (c 6) 0 0 5)) 7 (va_cpy (d 7) (c 7) 0 0 5)) 8 (va_cpy (d 8) (c 8) 0 0 12)) 9 (va_cpy (d 9) (c 9) 0 0 12)) 10 (va_cpy (d 10) (c 10) 0 0 12)) 11 (va_cpy (d 11) (c 11) 0 0 12)) d) rfl 12 (by decide) (List.mem_cons_of_mem _ (List.mem_append_left _ (List.mem_of_getElem? (i := 16) rfl))) rfl (v := .ref (A 18)) rfl dX0_takeFrom_148 ?_
  refine lv_iconst (pc := 151) (v := (0 : Int32)) hx hb dX0_takeFrom_151 (by decide) ?_
  refine lv_aload_n (pc := 152) hx hb dX0_takeFrom_152 rfl (lv_at hl 0 rfl) ?_
  refine wget (pc := 153) X (fun _ h9 => List.mem_cons_of_mem _ (List.mem_append_right _ h9)) hP 0 (at_CC_0 G A (csetA (csetA (csetA (csetA (csetA (csetA (csetA (cset (cset (cset (cset (cset c 0 0 (d 0 0)) 1 0 (d 1 0)) 2 0 (d 2 0)) 3 0 (d 3 0)) 4 0 (d 4 0)) 5 (va_cpy (d 5) (c 5) 0 0 5)) 6 (va_cpy (d 6) (c 6) 0 0 5)) 7 (va_cpy (d 7) (c 7) 0 0 5)) 8 (va_cpy (d 8) (c 8) 0 0 12)) 9 (va_cpy (d 9) (c 9) 0 0 12)) 10 (va_cpy (d 10) (c 10) 0 0 12)) 11 (va_cpy (d 11) (c 11) 0 0 12)) d) rfl 12 (by decide) (List.mem_cons_of_mem _ (List.mem_append_left _ (List.mem_of_getElem? (i := 16) rfl))) rfl (v := .ref (A 8)) rfl dX0_takeFrom_153 ?_
  refine lv_iconst (pc := 156) (v := (0 : Int32)) hx hb dX0_takeFrom_156 (by decide) ?_
  refine lv_bipush (pc := 157) (v := (40 : Int32)) hx hb dX0_takeFrom_157 (by decide) ?_
  refine wcopy (pc := 159) X hl.1 (List.mem_cons_of_mem _ (List.mem_append_left _ (List.mem_of_getElem? (i := 6) rfl))) (List.mem_cons_of_mem _ (List.mem_append_left _ (List.mem_of_getElem? (i := 7) rfl))) (List.mem_cons_of_mem _ (List.mem_append_left _ (List.mem_of_getElem? (i := 8) rfl))) (List.mem_cons_of_mem _ (List.mem_append_left _ (List.mem_of_getElem? (i := 9) rfl))) hP hD hS 18 8 (at_CC_18 G A (csetA (csetA (csetA (csetA (csetA (csetA (csetA (cset (cset (cset (cset (cset c 0 0 (d 0 0)) 1 0 (d 1 0)) 2 0 (d 2 0)) 3 0 (d 3 0)) 4 0 (d 4 0)) 5 (va_cpy (d 5) (c 5) 0 0 5)) 6 (va_cpy (d 6) (c 6) 0 0 5)) 7 (va_cpy (d 7) (c 7) 0 0 5)) 8 (va_cpy (d 8) (c 8) 0 0 12)) 9 (va_cpy (d 9) (c 9) 0 0 12)) 10 (va_cpy (d 10) (c 10) 0 0 12)) 11 (va_cpy (d 11) (c 11) 0 0 12)) d) (at_CC_8 G A (csetA (csetA (csetA (csetA (csetA (csetA (csetA (cset (cset (cset (cset (cset c 0 0 (d 0 0)) 1 0 (d 1 0)) 2 0 (d 2 0)) 3 0 (d 3 0)) 4 0 (d 4 0)) 5 (va_cpy (d 5) (c 5) 0 0 5)) 6 (va_cpy (d 6) (c 6) 0 0 5)) 7 (va_cpy (d 7) (c 7) 0 0 5)) 8 (va_cpy (d 8) (c 8) 0 0 12)) 9 (va_cpy (d 9) (c 9) 0 0 12)) 10 (va_cpy (d 10) (c 10) 0 0 12)) 11 (va_cpy (d 11) (c 11) 0 0 12)) d) (by decide) (by decide) (Nat.le_of_ble_eq_true rfl) (Nat.le_of_ble_eq_true rfl) (sa_CC_8 G A (csetA (csetA (csetA (csetA (csetA (csetA (csetA (cset (cset (cset (cset (cset c 0 0 (d 0 0)) 1 0 (d 1 0)) 2 0 (d 2 0)) 3 0 (d 3 0)) 4 0 (d 4 0)) 5 (va_cpy (d 5) (c 5) 0 0 5)) 6 (va_cpy (d 6) (c 6) 0 0 5)) 7 (va_cpy (d 7) (c 7) 0 0 5)) 8 (va_cpy (d 8) (c 8) 0 0 12)) 9 (va_cpy (d 9) (c 9) 0 0 12)) 10 (va_cpy (d 10) (c 10) 0 0 12)) 11 (va_cpy (d 11) (c 11) 0 0 12)) d _) dX0_takeFrom_159 (fun H locs hP hD hS => ?_)
  have hP : va_P G.1 vwCl (w_CC G A (csetA (csetA (csetA (csetA (csetA (csetA (csetA (csetA (cset (cset (cset (cset (cset c 0 0 (d 0 0)) 1 0 (d 1 0)) 2 0 (d 2 0)) 3 0 (d 3 0)) 4 0 (d 4 0)) 5 (va_cpy (d 5) (c 5) 0 0 5)) 6 (va_cpy (d 6) (c 6) 0 0 5)) 7 (va_cpy (d 7) (c 7) 0 0 5)) 8 (va_cpy (d 8) (c 8) 0 0 12)) 9 (va_cpy (d 9) (c 9) 0 0 12)) 10 (va_cpy (d 10) (c 10) 0 0 12)) 11 (va_cpy (d 11) (c 11) 0 0 12)) 12 (va_cpy (d 12) (c 12) 0 0 40)) d) H := hP
  have hD : va_D B (w_CC G A (csetA (csetA (csetA (csetA (csetA (csetA (csetA (csetA (cset (cset (cset (cset (cset c 0 0 (d 0 0)) 1 0 (d 1 0)) 2 0 (d 2 0)) 3 0 (d 3 0)) 4 0 (d 4 0)) 5 (va_cpy (d 5) (c 5) 0 0 5)) 6 (va_cpy (d 6) (c 6) 0 0 5)) 7 (va_cpy (d 7) (c 7) 0 0 5)) 8 (va_cpy (d 8) (c 8) 0 0 12)) 9 (va_cpy (d 9) (c 9) 0 0 12)) 10 (va_cpy (d 10) (c 10) 0 0 12)) 11 (va_cpy (d 11) (c 11) 0 0 12)) 12 (va_cpy (d 12) (c 12) 0 0 40)) d) := hD
  cases hf
  exact hret _ _ _ _ dX0_takeFrom_162 hP hD hS
def r_X0_turnBack : Room := { frames := 0, cells := 0, slots := 0, locals := 0 }
set_option maxHeartbeats 4000000 in
set_option maxRecDepth 100000 in
theorem c_X0_turnBack (G : GT) (l : Launch) (A : Nat → Nat) (sz : Nat) (c : CS) (c' : CS) (hf : f_X0_turnBack c = some c') : MTv l yX0_turnBack wsX0_turnBack r_X0_turnBack [.ref (A 0)] G (w_Ch G A c) (w_Ch G A c') sz := by
  refine MTv.of (cc := cX0_turnBack) (maxL := 2) (by decide +kernel) rfl (Nat.le_of_ble_eq_true rfl) (fun p e s m av below meth cd Q B H locs ls X hret hl hP hD hS => ?_)
  have hx := X.1.1
  have hb := X.1.2.1
  have hl : lv_has ls 2 [(0, .ref (A 0))] := hl
  have b_78 : ∀ (c : CS) (H : Heap) (locs : List Loc) (ls : Array Slot), f_X0_turnBack_78 c = some c' → va_P G.1 vwCl (w_Ch G A c) H → va_D B (w_Ch G A c) → va_S B s.heap H locs → lv_has ls 2 [] → W p l e r_X0_turnBack s m av below meth cd H locs 0 0 Q (F0 m 78 ls []) := by
    intro c H locs ls hf hP hD hS hl
    unfold f_X0_turnBack_78 at hf
    cases hf
    exact hret _ _ _ _ dX0_turnBack_78 hP hD hS
  unfold f_X0_turnBack at hf
  refine lv_aload_n (pc := 0) hx hb dX0_turnBack_0 rfl (lv_at hl 0 rfl) ?_
  refine wget (pc := 1) X (fun _ h9 => List.mem_cons_of_mem _ (List.mem_append_right _ h9)) hP 0 (at_Ch_0 G A c) rfl 4 (by decide) (List.mem_cons_of_mem _ (List.mem_append_left _ (List.mem_of_getElem? (i := 0) rfl))) rfl (v := .int (c 4 0)) rfl dX0_turnBack_1 ?_
  refine lv_iconst (pc := 4) (v := (1 : Int32)) hx hb dX0_turnBack_4 (by decide) ?_
  refine lv_icmp_ge (pc := 5) (tgt := 9) hx hb dX0_turnBack_5 (by decide) (fun h3 => ?_) (fun h3 => ?_)
  · have hf := br_y h3 hf
    refine lv_aload_n (pc := 9) hx hb dX0_turnBack_9 rfl (lv_at hl 0 rfl) ?_
    refine lv_dup (pc := 10) hx hb dX0_turnBack_10 rfl ?_
    refine wget (pc := 11) X (fun _ h9 => List.mem_cons_of_mem _ (List.mem_append_right _ h9)) hP 0 (at_Ch_0 G A c) rfl 4 (by decide) (List.mem_cons_of_mem _ (List.mem_append_left _ (List.mem_of_getElem? (i := 0) rfl))) rfl (v := .int (c 4 0)) rfl dX0_turnBack_11 ?_
    refine lv_iconst (pc := 14) (v := (1 : Int32)) hx hb dX0_turnBack_14 (by decide) ?_
    refine lv_isub (pc := 15) hx hb dX0_turnBack_15 ?_
    refine wput (pc := 16) X (fun _ h9 => List.mem_cons_of_mem _ (List.mem_append_right _ h9)) tyX0 tyX0_ok nmX0 hP hD hS 0 (at_Ch_0 G A c) rfl 4 (by decide) (List.mem_cons_of_mem _ (List.mem_append_left _ (List.mem_of_getElem? (i := 0) rfl))) rfl rfl (ty := .int) (v := .int ((c 4 0) - (1 : Int32))) rfl rfl rfl (Nat.le_of_ble_eq_true rfl) (st_Ch_0_4 G A c ((c 4 0) - (1 : Int32))) dX0_turnBack_16 (fun H locs hP hD hS => ?_)
    refine lv_aload_n (pc := 19) hx hb dX0_turnBack_19 rfl (lv_at hl 0 rfl) ?_
    refine wget (pc := 20) X (fun _ h9 => List.mem_cons_of_mem _ (List.mem_append_right _ h9)) hP 0 (at_Ch_0 G A (cset c 4 0 ((c 4 0) - (1 : Int32)))) rfl 12 (by decide) (List.mem_cons_of_mem _ (List.mem_append_left _ (List.mem_of_getElem? (i := 1) rfl))) rfl (v := .ref (A 8)) rfl dX0_turnBack_20 ?_
    refine lv_aload_n (pc := 23) hx hb dX0_turnBack_23 rfl (lv_at hl 0 rfl) ?_
    refine wget (pc := 24) X (fun _ h9 => List.mem_cons_of_mem _ (List.mem_append_right _ h9)) hP 0 (at_Ch_0 G A (cset c 4 0 ((c 4 0) - (1 : Int32)))) rfl 4 (by decide) (List.mem_cons_of_mem _ (List.mem_append_left _ (List.mem_of_getElem? (i := 0) rfl))) rfl (v := .int ((c 4 0) - (1 : Int32))) rfl dX0_turnBack_24 ?_
    obtain ⟨hi, hf⟩ := ck_some hf
    refine wiald (pc := 27) X hP 8 (at_Ch_8 G A (cset c 4 0 ((c 4 0) - (1 : Int32)))) hi rfl dX0_turnBack_27 ?_
    refine lv_istore_n (pc := 28) (lv' := [(1, .int ((c 12) ((c 4 0) - (1 : Int32)).toNatClampNeg)), (0, .ref (A 0))]) hx hb dX0_turnBack_28 rfl hl (by decide) rfl (fun ls hl => ?_)
    refine lv_iload_n (pc := 29) hx hb dX0_turnBack_29 rfl (lv_at hl 0 rfl) ?_
    refine lv_iconst (pc := 30) (v := (-1 : Int32)) hx hb dX0_turnBack_30 (by decide) ?_
    refine lv_icmp_ne (pc := 31) (tgt := 47) hx hb dX0_turnBack_31 (by decide) (fun h2 => ?_) (fun h2 => ?_)
    · have hf := br_n h2 hf
      refine lv_iload_n (pc := 47) hx hb dX0_turnBack_47 rfl (lv_at hl 0 rfl) ?_
      refine lv_bipush (pc := 48) (v := (-2 : Int32)) hx hb dX0_turnBack_48 (by decide) ?_
      refine lv_icmp_ne (pc := 50) (tgt := 66) hx hb dX0_turnBack_50 (by decide) (fun h1 => ?_) (fun h1 => ?_)
      · have hf := br_n h1 hf
        refine lv_aload_n (pc := 66) hx hb dX0_turnBack_66 rfl (lv_at hl 1 rfl) ?_
        refine lv_dup (pc := 67) hx hb dX0_turnBack_67 rfl ?_
        refine wget (pc := 68) X (fun _ h9 => List.mem_cons_of_mem _ (List.mem_append_right _ h9)) hP 0 (at_Ch_0 G A (cset c 4 0 ((c 4 0) - (1 : Int32)))) rfl 2 (by decide) (List.mem_cons_of_mem _ (List.mem_append_left _ (List.mem_of_getElem? (i := 4) rfl))) rfl (v := .int (c 2 0)) rfl dX0_turnBack_68 ?_
        refine lv_iconst (pc := 71) (v := (1 : Int32)) hx hb dX0_turnBack_71 (by decide) ?_
        refine lv_iload_n (pc := 72) hx hb dX0_turnBack_72 rfl (lv_at hl 0 rfl) ?_
        refine lv_ishl (pc := 73) hx hb dX0_turnBack_73 ?_
        refine lv_ixor (pc := 74) hx hb dX0_turnBack_74 ?_
        refine wput (pc := 75) X (fun _ h9 => List.mem_cons_of_mem _ (List.mem_append_right _ h9)) tyX0 tyX0_ok nmX0 hP hD hS 0 (at_Ch_0 G A (cset c 4 0 ((c 4 0) - (1 : Int32)))) rfl 2 (by decide) (List.mem_cons_of_mem _ (List.mem_append_left _ (List.mem_of_getElem? (i := 4) rfl))) rfl rfl (ty := .int) (v := .int ((c 2 0) ^^^ ((1 : Int32) <<< (((c 12) ((c 4 0) - (1 : Int32)).toNatClampNeg) &&& 31)))) rfl rfl rfl (Nat.le_of_ble_eq_true rfl) (st_Ch_0_2 G A (cset c 4 0 ((c 4 0) - (1 : Int32))) ((c 2 0) ^^^ ((1 : Int32) <<< (((c 12) ((c 4 0) - (1 : Int32)).toNatClampNeg) &&& 31)))) dX0_turnBack_75 (fun H locs hP hD hS => ?_)
        exact b_78 _ H locs ls hf hP hD hS (lv_sub hl [] rfl)
      · have hf := br_y h1 hf
        refine lv_aload_n (pc := 53) hx hb dX0_turnBack_53 rfl (lv_at hl 1 rfl) ?_
        refine lv_dup (pc := 54) hx hb dX0_turnBack_54 rfl ?_
        refine wget (pc := 55) X (fun _ h9 => List.mem_cons_of_mem _ (List.mem_append_right _ h9)) hP 0 (at_Ch_0 G A (cset c 4 0 ((c 4 0) - (1 : Int32)))) rfl 1 (by decide) (List.mem_cons_of_mem _ (List.mem_append_left _ (List.mem_of_getElem? (i := 3) rfl))) rfl (v := .int (c 1 0)) rfl dX0_turnBack_55 ?_
        refine lv_iconst (pc := 58) (v := (1 : Int32)) hx hb dX0_turnBack_58 (by decide) ?_
        refine lv_isub (pc := 59) hx hb dX0_turnBack_59 ?_
        refine wput (pc := 60) X (fun _ h9 => List.mem_cons_of_mem _ (List.mem_append_right _ h9)) tyX0 tyX0_ok nmX0 hP hD hS 0 (at_Ch_0 G A (cset c 4 0 ((c 4 0) - (1 : Int32)))) rfl 1 (by decide) (List.mem_cons_of_mem _ (List.mem_append_left _ (List.mem_of_getElem? (i := 3) rfl))) rfl rfl (ty := .int) (v := .int ((c 1 0) - (1 : Int32))) rfl rfl rfl (Nat.le_of_ble_eq_true rfl) (st_Ch_0_1 G A (cset c 4 0 ((c 4 0) - (1 : Int32))) ((c 1 0) - (1 : Int32))) dX0_turnBack_60 (fun H locs hP hD hS => ?_)
        refine lv_goto (pc := 63) (tgt := 78) hx hb dX0_turnBack_63 (by decide) ?_
        exact b_78 _ H locs ls hf hP hD hS (lv_sub hl [] rfl)
    · have hf := br_y h2 hf
      refine lv_aload_n (pc := 34) hx hb dX0_turnBack_34 rfl (lv_at hl 1 rfl) ?_
      refine lv_dup (pc := 35) hx hb dX0_turnBack_35 rfl ?_
      refine wget (pc := 36) X (fun _ h9 => List.mem_cons_of_mem _ (List.mem_append_right _ h9)) hP 0 (at_Ch_0 G A (cset c 4 0 ((c 4 0) - (1 : Int32)))) rfl 3 (by decide) (List.mem_cons_of_mem _ (List.mem_append_left _ (List.mem_of_getElem? (i := 2) rfl))) rfl (v := .int (c 3 0)) rfl dX0_turnBack_36 ?_
      refine lv_iconst (pc := 39) (v := (1 : Int32)) hx hb dX0_turnBack_39 (by decide) ?_
      refine lv_isub (pc := 40) hx hb dX0_turnBack_40 ?_
      refine wput (pc := 41) X (fun _ h9 => List.mem_cons_of_mem _ (List.mem_append_right _ h9)) tyX0 tyX0_ok nmX0 hP hD hS 0 (at_Ch_0 G A (cset c 4 0 ((c 4 0) - (1 : Int32)))) rfl 3 (by decide) (List.mem_cons_of_mem _ (List.mem_append_left _ (List.mem_of_getElem? (i := 2) rfl))) rfl rfl (ty := .int) (v := .int ((c 3 0) - (1 : Int32))) rfl rfl rfl (Nat.le_of_ble_eq_true rfl) (st_Ch_0_3 G A (cset c 4 0 ((c 4 0) - (1 : Int32))) ((c 3 0) - (1 : Int32))) dX0_turnBack_41 (fun H locs hP hD hS => ?_)
      refine lv_goto (pc := 44) (tgt := 78) hx hb dX0_turnBack_44 (by decide) ?_
      exact b_78 _ H locs ls hf hP hD hS (lv_sub hl [] rfl)
  · have hf := br_n h3 hf
    cases hf
    exact hret _ _ _ _ dX0_turnBack_8 hP hD hS
def r_X0_turnDay : Room := { frames := 1, cells := 0, slots := 0, locals := 21 }
set_option maxHeartbeats 4000000 in
set_option maxRecDepth 100000 in
theorem c_X0_turnDay (G : GT) (l : Launch) (A : Nat → Nat) (sz : Nat) (c : CS) (c' : CS) (hf : f_X0_turnDay c = some c') : MTv l yX0_turnDay wsX0_turnDay r_X0_turnDay [.ref (A 0)] G (w_Ch G A c) (w_Ch G A c') sz := by
  refine MTv.of (cc := cX0_turnDay) (maxL := 1) (by decide +kernel) rfl (Nat.le_of_ble_eq_true rfl) (fun p e s m av below meth cd Q B H locs ls X hret hl hP hD hS => ?_)
  have hx := X.1.1
  have hb := X.1.2.1
  have hl : lv_has ls 1 [(0, .ref (A 0))] := hl
  unfold f_X0_turnDay at hf
  refine lv_aload_n (pc := 0) hx hb dX0_turnDay_0 rfl (lv_at hl 0 rfl) ?_
  refine lv_dup (pc := 1) hx hb dX0_turnDay_1 rfl ?_
  refine wget (pc := 2) X (fun _ h9 => List.mem_cons_of_mem _ (List.mem_append_right _ h9)) hP 0 (at_Ch_0 G A c) rfl 3 (by decide) (List.mem_cons_of_mem _ (List.mem_append_left _ (List.mem_of_getElem? (i := 0) rfl))) rfl (v := .int (c 3 0)) rfl dX0_turnDay_2 ?_
  refine lv_iconst (pc := 5) (v := (1 : Int32)) hx hb dX0_turnDay_5 (by decide) ?_
  refine lv_iadd (pc := 6) hx hb dX0_turnDay_6 ?_
  refine wput (pc := 7) X (fun _ h9 => List.mem_cons_of_mem _ (List.mem_append_right _ h9)) tyX0 tyX0_ok nmX0 hP hD hS 0 (at_Ch_0 G A c) rfl 3 (by decide) (List.mem_cons_of_mem _ (List.mem_append_left _ (List.mem_of_getElem? (i := 0) rfl))) rfl rfl (ty := .int) (v := .int ((c 3 0) + (1 : Int32))) rfl rfl rfl (Nat.le_of_ble_eq_true rfl) (st_Ch_0_3 G A c ((c 3 0) + (1 : Int32))) dX0_turnDay_7 (fun H locs hP hD hS => ?_)
  refine lv_aload_n (pc := 10) hx hb dX0_turnDay_10 rfl (lv_at hl 0 rfl) ?_
  refine lv_iconst (pc := 11) (v := (-1 : Int32)) hx hb dX0_turnDay_11 (by decide) ?_
  obtain ⟨c1, hc1, hf⟩ := ob1_some hf
  refine endv X.2.2.2.2 (runV (pc := 12) (As := [.int (-1 : Int32)]) (rest := []) X (c_X0_addTurn G l A H.size (cset c 3 0 ((c 3 0) + (1 : Int32))) (-1 : Int32) c1 hc1) gX0_turnDay_X0_addTurn k_X0_addTurn ⟨rfl, rfl⟩ ⟨Nat.le_of_ble_eq_true rfl, Nat.le_of_ble_eq_true rfl⟩ (EM.all (w_Ch G A (cset c 3 0 ((c 3 0) + (1 : Int32)))) (w_Ch G A c1)) hP hD hS (ci := 0) rfl rfl (at_Ch_0 G A (cset c 3 0 ((c 3 0) + (1 : Int32)))) rfl hl.1 rfl (Nat.le_of_ble_eq_true rfl) ⟨Nat.zero_le _, Nat.zero_le _⟩ dX0_turnDay_12) (EM.all (w_Ch G A (cset c 3 0 ((c 3 0) + (1 : Int32)))) (w_Ch G A c1)) hP hD hS (fun H locs hP hD hS => ?_)
  cases hf
  exact hret _ _ _ _ dX0_turnDay_15 hP hD hS
def r_X0_turnErred : Room := { frames := 1, cells := 0, slots := 0, locals := 24 }
set_option maxHeartbeats 4000000 in
set_option maxRecDepth 100000 in
theorem c_X0_turnErred (G : GT) (l : Launch) (A : Nat → Nat) (sz : Nat) (c : CS) (x1 : Int32) (x2 : Int32) (x3 : Int32) (x4 : Int32) (c' : CS) (hf : f_X0_turnErred c x1 x2 x3 x4 = some c') : MTv l yX0_turnErred wsX0_turnErred r_X0_turnErred [.ref (A 0), .int x1, .int x2, .int x3, .int x4] G (w_Ch G A c) (w_Ch G A c') sz := by
  refine MTv.of (cc := cX0_turnErred) (maxL := 5) (by decide +kernel) rfl (Nat.le_of_ble_eq_true rfl) (fun p e s m av below meth cd Q B H locs ls X hret hl hP hD hS => ?_)
  have hx := X.1.1
  have hb := X.1.2.1
  have hl : lv_has ls 5 [(0, .ref (A 0)), (1, .int x1), (2, .int x2), (3, .int x3), (4, .int x4)] := hl
  unfold f_X0_turnErred at hf
  refine lv_aload_n (pc := 0) hx hb dX0_turnErred_0 rfl (lv_at hl 0 rfl) ?_
  refine lv_iload_n (pc := 1) hx hb dX0_turnErred_1 rfl (lv_at hl 1 rfl) ?_
  refine lv_iload_n (pc := 2) hx hb dX0_turnErred_2 rfl (lv_at hl 2 rfl) ?_
  refine lv_iload_n (pc := 3) hx hb dX0_turnErred_3 rfl (lv_at hl 3 rfl) ?_
  refine lv_iload (pc := 4) hx hb dX0_turnErred_4 (lv_at hl 4 rfl) ?_
  obtain ⟨c1, hc1, hf⟩ := ob1_some hf
  refine endv X.2.2.2.2 (runV (pc := 6) (As := [.int x1, .int x2, .int x3, .int x4]) (rest := []) X (c_X0_addError G l A H.size c x1 x2 x3 x4 c1 hc1) gX0_turnErred_X0_addError k_X0_addError ⟨rfl, rfl⟩ ⟨Nat.le_of_ble_eq_true rfl, Nat.le_of_ble_eq_true rfl⟩ (EM.all (w_Ch G A c) (w_Ch G A c1)) hP hD hS (ci := 0) rfl rfl (at_Ch_0 G A c) rfl hl.1 rfl (Nat.le_of_ble_eq_true rfl) ⟨Nat.zero_le _, Nat.zero_le _⟩ dX0_turnErred_6) (EM.all (w_Ch G A c) (w_Ch G A c1)) hP hD hS (fun H locs hP hD hS => ?_)
  refine lv_aload_n (pc := 9) hx hb dX0_turnErred_9 rfl (lv_at hl 0 rfl) ?_
  refine lv_bipush (pc := 10) (v := (-2 : Int32)) hx hb dX0_turnErred_10 (by decide) ?_
  obtain ⟨c2, hc2, hf⟩ := ob1_some hf
  refine endv X.2.2.2.2 (runV (pc := 12) (As := [.int (-2 : Int32)]) (rest := []) X (c_X0_addTurn G l A H.size c1 (-2 : Int32) c2 hc2) gX0_turnErred_X0_addTurn k_X0_addTurn ⟨rfl, rfl⟩ ⟨Nat.le_of_ble_eq_true rfl, Nat.le_of_ble_eq_true rfl⟩ (EM.all (w_Ch G A c1) (w_Ch G A c2)) hP hD hS (ci := 0) rfl rfl (at_Ch_0 G A c1) rfl hl.1 rfl (Nat.le_of_ble_eq_true rfl) ⟨Nat.zero_le _, Nat.zero_le _⟩ dX0_turnErred_12) (EM.all (w_Ch G A c1) (w_Ch G A c2)) hP hD hS (fun H locs hP hD hS => ?_)
  cases hf
  exact hret _ _ _ _ dX0_turnErred_15 hP hD hS
def r_X0_turnMended : Room := { frames := 1, cells := 0, slots := 0, locals := 21 }
set_option maxHeartbeats 4000000 in
set_option maxRecDepth 100000 in
theorem c_X0_turnMended (G : GT) (l : Launch) (A : Nat → Nat) (sz : Nat) (c : CS) (x1 : Int32) (c' : CS) (hf : f_X0_turnMended c x1 = some c') : MTv l yX0_turnMended wsX0_turnMended r_X0_turnMended [.ref (A 0), .int x1] G (w_Ch G A c) (w_Ch G A c') sz := by
  refine MTv.of (cc := cX0_turnMended) (maxL := 2) (by decide +kernel) rfl (Nat.le_of_ble_eq_true rfl) (fun p e s m av below meth cd Q B H locs ls X hret hl hP hD hS => ?_)
  have hx := X.1.1
  have hb := X.1.2.1
  have hl : lv_has ls 2 [(0, .ref (A 0)), (1, .int x1)] := hl
  unfold f_X0_turnMended at hf
  refine lv_aload_n (pc := 0) hx hb dX0_turnMended_0 rfl (lv_at hl 0 rfl) ?_
  refine lv_dup (pc := 1) hx hb dX0_turnMended_1 rfl ?_
  refine wget (pc := 2) X (fun _ h9 => List.mem_cons_of_mem _ (List.mem_append_right _ h9)) hP 0 (at_Ch_0 G A c) rfl 2 (by decide) (List.mem_cons_of_mem _ (List.mem_append_left _ (List.mem_of_getElem? (i := 0) rfl))) rfl (v := .int (c 2 0)) rfl dX0_turnMended_2 ?_
  refine lv_iconst (pc := 5) (v := (1 : Int32)) hx hb dX0_turnMended_5 (by decide) ?_
  refine lv_iload_n (pc := 6) hx hb dX0_turnMended_6 rfl (lv_at hl 1 rfl) ?_
  refine lv_ishl (pc := 7) hx hb dX0_turnMended_7 ?_
  refine lv_ixor (pc := 8) hx hb dX0_turnMended_8 ?_
  refine wput (pc := 9) X (fun _ h9 => List.mem_cons_of_mem _ (List.mem_append_right _ h9)) tyX0 tyX0_ok nmX0 hP hD hS 0 (at_Ch_0 G A c) rfl 2 (by decide) (List.mem_cons_of_mem _ (List.mem_append_left _ (List.mem_of_getElem? (i := 0) rfl))) rfl rfl (ty := .int) (v := .int ((c 2 0) ^^^ ((1 : Int32) <<< (x1 &&& 31)))) rfl rfl rfl (Nat.le_of_ble_eq_true rfl) (st_Ch_0_2 G A c ((c 2 0) ^^^ ((1 : Int32) <<< (x1 &&& 31)))) dX0_turnMended_9 (fun H locs hP hD hS => ?_)
  refine lv_aload_n (pc := 12) hx hb dX0_turnMended_12 rfl (lv_at hl 0 rfl) ?_
  refine lv_iload_n (pc := 13) hx hb dX0_turnMended_13 rfl (lv_at hl 1 rfl) ?_
  obtain ⟨c1, hc1, hf⟩ := ob1_some hf
  refine endv X.2.2.2.2 (runV (pc := 14) (As := [.int x1]) (rest := []) X (c_X0_addTurn G l A H.size (cset c 2 0 ((c 2 0) ^^^ ((1 : Int32) <<< (x1 &&& 31)))) x1 c1 hc1) gX0_turnMended_X0_addTurn k_X0_addTurn ⟨rfl, rfl⟩ ⟨Nat.le_of_ble_eq_true rfl, Nat.le_of_ble_eq_true rfl⟩ (EM.all (w_Ch G A (cset c 2 0 ((c 2 0) ^^^ ((1 : Int32) <<< (x1 &&& 31))))) (w_Ch G A c1)) hP hD hS (ci := 0) rfl rfl (at_Ch_0 G A (cset c 2 0 ((c 2 0) ^^^ ((1 : Int32) <<< (x1 &&& 31))))) rfl hl.1 rfl (Nat.le_of_ble_eq_true rfl) ⟨Nat.zero_le _, Nat.zero_le _⟩ dX0_turnMended_14) (EM.all (w_Ch G A (cset c 2 0 ((c 2 0) ^^^ ((1 : Int32) <<< (x1 &&& 31))))) (w_Ch G A c1)) hP hD hS (fun H locs hP hD hS => ?_)
  cases hf
  exact hret _ _ _ _ dX0_turnMended_17 hP hD hS
