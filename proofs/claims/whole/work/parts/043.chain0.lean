def r_X0_addError : Room := { frames := 0, cells := 0, slots := 0, locals := 0 }
set_option maxHeartbeats 4000000 in
set_option maxRecDepth 100000 in
theorem c_X0_addError (G : GT) (l : Launch) (A : Nat → Nat) (sz : Nat) (c : CS) (x1 : Int32) (x2 : Int32) (x3 : Int32) (x4 : Int32) (c' : CS) (hf : f_X0_addError c x1 x2 x3 x4 = some c') : MTv l yX0_addError wsX0_addError r_X0_addError [.ref (A 0), .int x1, .int x2, .int x3, .int x4] G (w_Ch G A c) (w_Ch G A c') sz := by
  refine MTv.of (cc := cX0_addError) (maxL := 5) (by decide +kernel) rfl (Nat.le_of_ble_eq_true rfl) (fun p e s m av below meth cd Q B H locs ls X hret hl hP hD hS => ?_)
  have hx := X.1.1
  have hb := X.1.2.1
  have hl : lv_has ls 5 [(0, .ref (A 0)), (1, .int x1), (2, .int x2), (3, .int x3), (4, .int x4)] := hl
  unfold f_X0_addError at hf
  refine lv_aload_n (pc := 0) hx hb dX0_addError_0 rfl (lv_at hl 0 rfl) ?_
  refine wget (pc := 1) X (fun _ h9 => List.mem_cons_of_mem _ (List.mem_append_right _ h9)) hP 0 (at_Ch_0 G A c) rfl 1 (by decide) (List.mem_cons_of_mem _ (List.mem_append_left _ (List.mem_of_getElem? (i := 0) rfl))) rfl (v := .int (c 1 0)) rfl dX0_addError_1 ?_
  refine lv_bipush (pc := 4) (v := (12 : Int32)) hx hb dX0_addError_4 (by decide) ?_
  refine lv_icmp_lt (pc := 6) (tgt := 10) hx hb dX0_addError_6 (by decide) (fun h1 => ?_) (fun h1 => ?_)
  · have hf := br_y h1 hf
    refine lv_aload_n (pc := 10) hx hb dX0_addError_10 rfl (lv_at hl 0 rfl) ?_
    refine wget (pc := 11) X (fun _ h9 => List.mem_cons_of_mem _ (List.mem_append_right _ h9)) hP 0 (at_Ch_0 G A c) rfl 8 (by decide) (List.mem_cons_of_mem _ (List.mem_append_left _ (List.mem_of_getElem? (i := 1) rfl))) rfl (v := .ref (A 4)) rfl dX0_addError_11 ?_
    refine lv_aload_n (pc := 14) hx hb dX0_addError_14 rfl (lv_at hl 0 rfl) ?_
    refine wget (pc := 15) X (fun _ h9 => List.mem_cons_of_mem _ (List.mem_append_right _ h9)) hP 0 (at_Ch_0 G A c) rfl 1 (by decide) (List.mem_cons_of_mem _ (List.mem_append_left _ (List.mem_of_getElem? (i := 0) rfl))) rfl (v := .int (c 1 0)) rfl dX0_addError_15 ?_
    refine lv_iload_n (pc := 18) hx hb dX0_addError_18 rfl (lv_at hl 1 rfl) ?_
    obtain ⟨hi, hf⟩ := ck_some hf
    refine wiast (pc := 19) X hP hD hS 4 (at_Ch_4 G A c) hi rfl (sa_Ch_4 G A c _) dX0_addError_19 (fun H locs hP hD hS => ?_)
    have hP : va_P G.1 vwCl (w_Ch G A (cset c 8 (c 1 0).toNatClampNeg x1)) H := hP
    have hD : va_D B (w_Ch G A (cset c 8 (c 1 0).toNatClampNeg x1)) := hD
    refine lv_aload_n (pc := 20) hx hb dX0_addError_20 rfl (lv_at hl 0 rfl) ?_
    refine wget (pc := 21) X (fun _ h9 => List.mem_cons_of_mem _ (List.mem_append_right _ h9)) hP 0 (at_Ch_0 G A (cset c 8 (c 1 0).toNatClampNeg x1)) rfl 9 (by decide) (List.mem_cons_of_mem _ (List.mem_append_left _ (List.mem_of_getElem? (i := 2) rfl))) rfl (v := .ref (A 5)) rfl dX0_addError_21 ?_
    refine lv_aload_n (pc := 24) hx hb dX0_addError_24 rfl (lv_at hl 0 rfl) ?_
    refine wget (pc := 25) X (fun _ h9 => List.mem_cons_of_mem _ (List.mem_append_right _ h9)) hP 0 (at_Ch_0 G A (cset c 8 (c 1 0).toNatClampNeg x1)) rfl 1 (by decide) (List.mem_cons_of_mem _ (List.mem_append_left _ (List.mem_of_getElem? (i := 0) rfl))) rfl (v := .int (c 1 0)) rfl dX0_addError_25 ?_
    refine lv_iload_n (pc := 28) hx hb dX0_addError_28 rfl (lv_at hl 2 rfl) ?_
    obtain ⟨hi, hf⟩ := ck_some hf
    refine wiast (pc := 29) X hP hD hS 5 (at_Ch_5 G A (cset c 8 (c 1 0).toNatClampNeg x1)) hi rfl (sa_Ch_5 G A (cset c 8 (c 1 0).toNatClampNeg x1) _) dX0_addError_29 (fun H locs hP hD hS => ?_)
    have hP : va_P G.1 vwCl (w_Ch G A (cset (cset c 8 (c 1 0).toNatClampNeg x1) 9 (c 1 0).toNatClampNeg x2)) H := hP
    have hD : va_D B (w_Ch G A (cset (cset c 8 (c 1 0).toNatClampNeg x1) 9 (c 1 0).toNatClampNeg x2)) := hD
    refine lv_aload_n (pc := 30) hx hb dX0_addError_30 rfl (lv_at hl 0 rfl) ?_
    refine wget (pc := 31) X (fun _ h9 => List.mem_cons_of_mem _ (List.mem_append_right _ h9)) hP 0 (at_Ch_0 G A (cset (cset c 8 (c 1 0).toNatClampNeg x1) 9 (c 1 0).toNatClampNeg x2)) rfl 10 (by decide) (List.mem_cons_of_mem _ (List.mem_append_left _ (List.mem_of_getElem? (i := 3) rfl))) rfl (v := .ref (A 6)) rfl dX0_addError_31 ?_
    refine lv_aload_n (pc := 34) hx hb dX0_addError_34 rfl (lv_at hl 0 rfl) ?_
    refine wget (pc := 35) X (fun _ h9 => List.mem_cons_of_mem _ (List.mem_append_right _ h9)) hP 0 (at_Ch_0 G A (cset (cset c 8 (c 1 0).toNatClampNeg x1) 9 (c 1 0).toNatClampNeg x2)) rfl 1 (by decide) (List.mem_cons_of_mem _ (List.mem_append_left _ (List.mem_of_getElem? (i := 0) rfl))) rfl (v := .int (c 1 0)) rfl dX0_addError_35 ?_
    refine lv_iload_n (pc := 38) hx hb dX0_addError_38 rfl (lv_at hl 3 rfl) ?_
    obtain ⟨hi, hf⟩ := ck_some hf
    refine wiast (pc := 39) X hP hD hS 6 (at_Ch_6 G A (cset (cset c 8 (c 1 0).toNatClampNeg x1) 9 (c 1 0).toNatClampNeg x2)) hi rfl (sa_Ch_6 G A (cset (cset c 8 (c 1 0).toNatClampNeg x1) 9 (c 1 0).toNatClampNeg x2) _) dX0_addError_39 (fun H locs hP hD hS => ?_)
    have hP : va_P G.1 vwCl (w_Ch G A (cset (cset (cset c 8 (c 1 0).toNatClampNeg x1) 9 (c 1 0).toNatClampNeg x2) 10 (c 1 0).toNatClampNeg x3)) H := hP
    have hD : va_D B (w_Ch G A (cset (cset (cset c 8 (c 1 0).toNatClampNeg x1) 9 (c 1 0).toNatClampNeg x2) 10 (c 1 0).toNatClampNeg x3)) := hD
    refine lv_aload_n (pc := 40) hx hb dX0_addError_40 rfl (lv_at hl 0 rfl) ?_
    refine wget (pc := 41) X (fun _ h9 => List.mem_cons_of_mem _ (List.mem_append_right _ h9)) hP 0 (at_Ch_0 G A (cset (cset (cset c 8 (c 1 0).toNatClampNeg x1) 9 (c 1 0).toNatClampNeg x2) 10 (c 1 0).toNatClampNeg x3)) rfl 11 (by decide) (List.mem_cons_of_mem _ (List.mem_append_left _ (List.mem_of_getElem? (i := 4) rfl))) rfl (v := .ref (A 7)) rfl dX0_addError_41 ?_
    refine lv_aload_n (pc := 44) hx hb dX0_addError_44 rfl (lv_at hl 0 rfl) ?_
    refine wget (pc := 45) X (fun _ h9 => List.mem_cons_of_mem _ (List.mem_append_right _ h9)) hP 0 (at_Ch_0 G A (cset (cset (cset c 8 (c 1 0).toNatClampNeg x1) 9 (c 1 0).toNatClampNeg x2) 10 (c 1 0).toNatClampNeg x3)) rfl 1 (by decide) (List.mem_cons_of_mem _ (List.mem_append_left _ (List.mem_of_getElem? (i := 0) rfl))) rfl (v := .int (c 1 0)) rfl dX0_addError_45 ?_
    refine lv_iload (pc := 48) hx hb dX0_addError_48 (lv_at hl 4 rfl) ?_
    obtain ⟨hi, hf⟩ := ck_some hf
    refine wiast (pc := 50) X hP hD hS 7 (at_Ch_7 G A (cset (cset (cset c 8 (c 1 0).toNatClampNeg x1) 9 (c 1 0).toNatClampNeg x2) 10 (c 1 0).toNatClampNeg x3)) hi rfl (sa_Ch_7 G A (cset (cset (cset c 8 (c 1 0).toNatClampNeg x1) 9 (c 1 0).toNatClampNeg x2) 10 (c 1 0).toNatClampNeg x3) _) dX0_addError_50 (fun H locs hP hD hS => ?_)
    have hP : va_P G.1 vwCl (w_Ch G A (cset (cset (cset (cset c 8 (c 1 0).toNatClampNeg x1) 9 (c 1 0).toNatClampNeg x2) 10 (c 1 0).toNatClampNeg x3) 11 (c 1 0).toNatClampNeg x4)) H := hP
    have hD : va_D B (w_Ch G A (cset (cset (cset (cset c 8 (c 1 0).toNatClampNeg x1) 9 (c 1 0).toNatClampNeg x2) 10 (c 1 0).toNatClampNeg x3) 11 (c 1 0).toNatClampNeg x4)) := hD
    refine lv_aload_n (pc := 51) hx hb dX0_addError_51 rfl (lv_at hl 0 rfl) ?_
    refine lv_dup (pc := 52) hx hb dX0_addError_52 rfl ?_
    refine wget (pc := 53) X (fun _ h9 => List.mem_cons_of_mem _ (List.mem_append_right _ h9)) hP 0 (at_Ch_0 G A (cset (cset (cset (cset c 8 (c 1 0).toNatClampNeg x1) 9 (c 1 0).toNatClampNeg x2) 10 (c 1 0).toNatClampNeg x3) 11 (c 1 0).toNatClampNeg x4)) rfl 1 (by decide) (List.mem_cons_of_mem _ (List.mem_append_left _ (List.mem_of_getElem? (i := 0) rfl))) rfl (v := .int (c 1 0)) rfl dX0_addError_53 ?_
    refine lv_iconst (pc := 56) (v := (1 : Int32)) hx hb dX0_addError_56 (by decide) ?_
    refine lv_iadd (pc := 57) hx hb dX0_addError_57 ?_
    refine wput (pc := 58) X (fun _ h9 => List.mem_cons_of_mem _ (List.mem_append_right _ h9)) tyX0 tyX0_ok nmX0 hP hD hS 0 (at_Ch_0 G A (cset (cset (cset (cset c 8 (c 1 0).toNatClampNeg x1) 9 (c 1 0).toNatClampNeg x2) 10 (c 1 0).toNatClampNeg x3) 11 (c 1 0).toNatClampNeg x4)) rfl 1 (by decide) (List.mem_cons_of_mem _ (List.mem_append_left _ (List.mem_of_getElem? (i := 0) rfl))) rfl rfl (ty := .int) (v := .int ((c 1 0) + (1 : Int32))) rfl rfl rfl (Nat.le_of_ble_eq_true rfl) (st_Ch_0_1 G A (cset (cset (cset (cset c 8 (c 1 0).toNatClampNeg x1) 9 (c 1 0).toNatClampNeg x2) 10 (c 1 0).toNatClampNeg x3) 11 (c 1 0).toNatClampNeg x4) ((c 1 0) + (1 : Int32))) dX0_addError_58 (fun H locs hP hD hS => ?_)
    cases hf
    exact hret _ _ _ _ dX0_addError_61 hP hD hS
  · have hf := br_n h1 hf
    cases hf
    exact hret _ _ _ _ dX0_addError_9 hP hD hS
def r_X0_addPerson : Room := { frames := 0, cells := 0, slots := 0, locals := 0 }
set_option maxHeartbeats 4000000 in
set_option maxRecDepth 100000 in
theorem c_X0_addPerson (G : GT) (l : Launch) (A : Nat → Nat) (sz : Nat) (c : CS) (x1 : Int32) (x2 : Int32) (x3 : Int32) (c' : CS) (hf : f_X0_addPerson c x1 x2 x3 = some c') : MTv l yX0_addPerson wsX0_addPerson r_X0_addPerson [.ref (A 0), .int x1, .int x2, .int x3] G (w_Ch G A c) (w_Ch G A c') sz := by
  refine MTv.of (cc := cX0_addPerson) (maxL := 4) (by decide +kernel) rfl (Nat.le_of_ble_eq_true rfl) (fun p e s m av below meth cd Q B H locs ls X hret hl hP hD hS => ?_)
  have hx := X.1.1
  have hb := X.1.2.1
  have hl : lv_has ls 4 [(0, .ref (A 0)), (1, .int x1), (2, .int x2), (3, .int x3)] := hl
  unfold f_X0_addPerson at hf
  refine lv_aload_n (pc := 0) hx hb dX0_addPerson_0 rfl (lv_at hl 0 rfl) ?_
  refine wget (pc := 1) X (fun _ h9 => List.mem_cons_of_mem _ (List.mem_append_right _ h9)) hP 0 (at_Ch_0 G A c) rfl 0 (by decide) (List.mem_cons_of_mem _ (List.mem_append_left _ (List.mem_of_getElem? (i := 0) rfl))) rfl (v := .int (c 0 0)) rfl dX0_addPerson_1 ?_
  refine lv_iconst (pc := 4) (v := (5 : Int32)) hx hb dX0_addPerson_4 (by decide) ?_
  refine lv_icmp_lt (pc := 5) (tgt := 9) hx hb dX0_addPerson_5 (by decide) (fun h1 => ?_) (fun h1 => ?_)
  · have hf := br_y h1 hf
    refine lv_aload_n (pc := 9) hx hb dX0_addPerson_9 rfl (lv_at hl 0 rfl) ?_
    refine wget (pc := 10) X (fun _ h9 => List.mem_cons_of_mem _ (List.mem_append_right _ h9)) hP 0 (at_Ch_0 G A c) rfl 5 (by decide) (List.mem_cons_of_mem _ (List.mem_append_left _ (List.mem_of_getElem? (i := 1) rfl))) rfl (v := .ref (A 1)) rfl dX0_addPerson_10 ?_
    refine lv_aload_n (pc := 13) hx hb dX0_addPerson_13 rfl (lv_at hl 0 rfl) ?_
    refine wget (pc := 14) X (fun _ h9 => List.mem_cons_of_mem _ (List.mem_append_right _ h9)) hP 0 (at_Ch_0 G A c) rfl 0 (by decide) (List.mem_cons_of_mem _ (List.mem_append_left _ (List.mem_of_getElem? (i := 0) rfl))) rfl (v := .int (c 0 0)) rfl dX0_addPerson_14 ?_
    refine lv_iload_n (pc := 17) hx hb dX0_addPerson_17 rfl (lv_at hl 1 rfl) ?_
    obtain ⟨hi, hf⟩ := ck_some hf
    refine wiast (pc := 18) X hP hD hS 1 (at_Ch_1 G A c) hi rfl (sa_Ch_1 G A c _) dX0_addPerson_18 (fun H locs hP hD hS => ?_)
    have hP : va_P G.1 vwCl (w_Ch G A (cset c 5 (c 0 0).toNatClampNeg x1)) H := hP
    have hD : va_D B (w_Ch G A (cset c 5 (c 0 0).toNatClampNeg x1)) := hD
    refine lv_aload_n (pc := 19) hx hb dX0_addPerson_19 rfl (lv_at hl 0 rfl) ?_
    refine wget (pc := 20) X (fun _ h9 => List.mem_cons_of_mem _ (List.mem_append_right _ h9)) hP 0 (at_Ch_0 G A (cset c 5 (c 0 0).toNatClampNeg x1)) rfl 6 (by decide) (List.mem_cons_of_mem _ (List.mem_append_left _ (List.mem_of_getElem? (i := 2) rfl))) rfl (v := .ref (A 2)) rfl dX0_addPerson_20 ?_
    refine lv_aload_n (pc := 23) hx hb dX0_addPerson_23 rfl (lv_at hl 0 rfl) ?_
    refine wget (pc := 24) X (fun _ h9 => List.mem_cons_of_mem _ (List.mem_append_right _ h9)) hP 0 (at_Ch_0 G A (cset c 5 (c 0 0).toNatClampNeg x1)) rfl 0 (by decide) (List.mem_cons_of_mem _ (List.mem_append_left _ (List.mem_of_getElem? (i := 0) rfl))) rfl (v := .int (c 0 0)) rfl dX0_addPerson_24 ?_
    refine lv_iload_n (pc := 27) hx hb dX0_addPerson_27 rfl (lv_at hl 2 rfl) ?_
    obtain ⟨hi, hf⟩ := ck_some hf
    refine wiast (pc := 28) X hP hD hS 2 (at_Ch_2 G A (cset c 5 (c 0 0).toNatClampNeg x1)) hi rfl (sa_Ch_2 G A (cset c 5 (c 0 0).toNatClampNeg x1) _) dX0_addPerson_28 (fun H locs hP hD hS => ?_)
    have hP : va_P G.1 vwCl (w_Ch G A (cset (cset c 5 (c 0 0).toNatClampNeg x1) 6 (c 0 0).toNatClampNeg x2)) H := hP
    have hD : va_D B (w_Ch G A (cset (cset c 5 (c 0 0).toNatClampNeg x1) 6 (c 0 0).toNatClampNeg x2)) := hD
    refine lv_aload_n (pc := 29) hx hb dX0_addPerson_29 rfl (lv_at hl 0 rfl) ?_
    refine wget (pc := 30) X (fun _ h9 => List.mem_cons_of_mem _ (List.mem_append_right _ h9)) hP 0 (at_Ch_0 G A (cset (cset c 5 (c 0 0).toNatClampNeg x1) 6 (c 0 0).toNatClampNeg x2)) rfl 7 (by decide) (List.mem_cons_of_mem _ (List.mem_append_left _ (List.mem_of_getElem? (i := 3) rfl))) rfl (v := .ref (A 3)) rfl dX0_addPerson_30 ?_
    refine lv_aload_n (pc := 33) hx hb dX0_addPerson_33 rfl (lv_at hl 0 rfl) ?_
    refine wget (pc := 34) X (fun _ h9 => List.mem_cons_of_mem _ (List.mem_append_right _ h9)) hP 0 (at_Ch_0 G A (cset (cset c 5 (c 0 0).toNatClampNeg x1) 6 (c 0 0).toNatClampNeg x2)) rfl 0 (by decide) (List.mem_cons_of_mem _ (List.mem_append_left _ (List.mem_of_getElem? (i := 0) rfl))) rfl (v := .int (c 0 0)) rfl dX0_addPerson_34 ?_
    refine lv_iload_n (pc := 37) hx hb dX0_addPerson_37 rfl (lv_at hl 3 rfl) ?_
    obtain ⟨hi, hf⟩ := ck_some hf
    refine wiast (pc := 38) X hP hD hS 3 (at_Ch_3 G A (cset (cset c 5 (c 0 0).toNatClampNeg x1) 6 (c 0 0).toNatClampNeg x2)) hi rfl (sa_Ch_3 G A (cset (cset c 5 (c 0 0).toNatClampNeg x1) 6 (c 0 0).toNatClampNeg x2) _) dX0_addPerson_38 (fun H locs hP hD hS => ?_)
    have hP : va_P G.1 vwCl (w_Ch G A (cset (cset (cset c 5 (c 0 0).toNatClampNeg x1) 6 (c 0 0).toNatClampNeg x2) 7 (c 0 0).toNatClampNeg x3)) H := hP
    have hD : va_D B (w_Ch G A (cset (cset (cset c 5 (c 0 0).toNatClampNeg x1) 6 (c 0 0).toNatClampNeg x2) 7 (c 0 0).toNatClampNeg x3)) := hD
    refine lv_aload_n (pc := 39) hx hb dX0_addPerson_39 rfl (lv_at hl 0 rfl) ?_
    refine lv_dup (pc := 40) hx hb dX0_addPerson_40 rfl ?_
    refine wget (pc := 41) X (fun _ h9 => List.mem_cons_of_mem _ (List.mem_append_right _ h9)) hP 0 (at_Ch_0 G A (cset (cset (cset c 5 (c 0 0).toNatClampNeg x1) 6 (c 0 0).toNatClampNeg x2) 7 (c 0 0).toNatClampNeg x3)) rfl 0 (by decide) (List.mem_cons_of_mem _ (List.mem_append_left _ (List.mem_of_getElem? (i := 0) rfl))) rfl (v := .int (c 0 0)) rfl dX0_addPerson_41 ?_
    refine lv_iconst (pc := 44) (v := (1 : Int32)) hx hb dX0_addPerson_44 (by decide) ?_
    refine lv_iadd (pc := 45) hx hb dX0_addPerson_45 ?_
    refine wput (pc := 46) X (fun _ h9 => List.mem_cons_of_mem _ (List.mem_append_right _ h9)) tyX0 tyX0_ok nmX0 hP hD hS 0 (at_Ch_0 G A (cset (cset (cset c 5 (c 0 0).toNatClampNeg x1) 6 (c 0 0).toNatClampNeg x2) 7 (c 0 0).toNatClampNeg x3)) rfl 0 (by decide) (List.mem_cons_of_mem _ (List.mem_append_left _ (List.mem_of_getElem? (i := 0) rfl))) rfl rfl (ty := .int) (v := .int ((c 0 0) + (1 : Int32))) rfl rfl rfl (Nat.le_of_ble_eq_true rfl) (st_Ch_0_0 G A (cset (cset (cset c 5 (c 0 0).toNatClampNeg x1) 6 (c 0 0).toNatClampNeg x2) 7 (c 0 0).toNatClampNeg x3) ((c 0 0) + (1 : Int32))) dX0_addPerson_46 (fun H locs hP hD hS => ?_)
    cases hf
    exact hret _ _ _ _ dX0_addPerson_49 hP hD hS
  · have hf := br_n h1 hf
    cases hf
    exact hret _ _ _ _ dX0_addPerson_8 hP hD hS
def r_X0_addTurn : Room := { frames := 0, cells := 0, slots := 0, locals := 0 }
set_option maxHeartbeats 4000000 in
set_option maxRecDepth 100000 in
theorem c_X0_addTurn (G : GT) (l : Launch) (A : Nat → Nat) (sz : Nat) (c : CS) (x1 : Int32) (c' : CS) (hf : f_X0_addTurn c x1 = some c') : MTv l yX0_addTurn wsX0_addTurn r_X0_addTurn [.ref (A 0), .int x1] G (w_Ch G A c) (w_Ch G A c') sz := by
  refine MTv.of (cc := cX0_addTurn) (maxL := 2) (by decide +kernel) rfl (Nat.le_of_ble_eq_true rfl) (fun p e s m av below meth cd Q B H locs ls X hret hl hP hD hS => ?_)
  have hx := X.1.1
  have hb := X.1.2.1
  have hl : lv_has ls 2 [(0, .ref (A 0)), (1, .int x1)] := hl
  have b_29 : ∀ (c : CS) (H : Heap) (locs : List Loc) (ls : Array Slot), f_X0_addTurn_29 c = some c' → va_P G.1 vwCl (w_Ch G A c) H → va_D B (w_Ch G A c) → va_S B s.heap H locs → lv_has ls 2 [] → W p l e r_X0_addTurn s m av below meth cd H locs 0 0 Q (F0 m 29 ls []) := by
    intro c H locs ls hf hP hD hS hl
    unfold f_X0_addTurn_29 at hf
    cases hf
    exact hret _ _ _ _ dX0_addTurn_29 hP hD hS
  unfold f_X0_addTurn at hf
  refine lv_aload_n (pc := 0) hx hb dX0_addTurn_0 rfl (lv_at hl 0 rfl) ?_
  refine wget (pc := 1) X (fun _ h9 => List.mem_cons_of_mem _ (List.mem_append_right _ h9)) hP 0 (at_Ch_0 G A c) rfl 4 (by decide) (List.mem_cons_of_mem _ (List.mem_append_left _ (List.mem_of_getElem? (i := 0) rfl))) rfl (v := .int (c 4 0)) rfl dX0_addTurn_1 ?_
  refine lv_bipush (pc := 4) (v := (40 : Int32)) hx hb dX0_addTurn_4 (by decide) ?_
  refine lv_icmp_ge (pc := 6) (tgt := 29) hx hb dX0_addTurn_6 (by decide) (fun h1 => ?_) (fun h1 => ?_)
  · have hf := br_y h1 hf
    exact b_29 _ H locs ls hf hP hD hS (lv_sub hl [] rfl)
  · have hf := br_n h1 hf
    refine lv_aload_n (pc := 9) hx hb dX0_addTurn_9 rfl (lv_at hl 0 rfl) ?_
    refine wget (pc := 10) X (fun _ h9 => List.mem_cons_of_mem _ (List.mem_append_right _ h9)) hP 0 (at_Ch_0 G A c) rfl 12 (by decide) (List.mem_cons_of_mem _ (List.mem_append_left _ (List.mem_of_getElem? (i := 1) rfl))) rfl (v := .ref (A 8)) rfl dX0_addTurn_10 ?_
    refine lv_aload_n (pc := 13) hx hb dX0_addTurn_13 rfl (lv_at hl 0 rfl) ?_
    refine wget (pc := 14) X (fun _ h9 => List.mem_cons_of_mem _ (List.mem_append_right _ h9)) hP 0 (at_Ch_0 G A c) rfl 4 (by decide) (List.mem_cons_of_mem _ (List.mem_append_left _ (List.mem_of_getElem? (i := 0) rfl))) rfl (v := .int (c 4 0)) rfl dX0_addTurn_14 ?_
    refine lv_iload_n (pc := 17) hx hb dX0_addTurn_17 rfl (lv_at hl 1 rfl) ?_
    obtain ⟨hi, hf⟩ := ck_some hf
    refine wiast (pc := 18) X hP hD hS 8 (at_Ch_8 G A c) hi rfl (sa_Ch_8 G A c _) dX0_addTurn_18 (fun H locs hP hD hS => ?_)
    have hP : va_P G.1 vwCl (w_Ch G A (cset c 12 (c 4 0).toNatClampNeg x1)) H := hP
    have hD : va_D B (w_Ch G A (cset c 12 (c 4 0).toNatClampNeg x1)) := hD
    refine lv_aload_n (pc := 19) hx hb dX0_addTurn_19 rfl (lv_at hl 0 rfl) ?_
    refine lv_dup (pc := 20) hx hb dX0_addTurn_20 rfl ?_
    refine wget (pc := 21) X (fun _ h9 => List.mem_cons_of_mem _ (List.mem_append_right _ h9)) hP 0 (at_Ch_0 G A (cset c 12 (c 4 0).toNatClampNeg x1)) rfl 4 (by decide) (List.mem_cons_of_mem _ (List.mem_append_left _ (List.mem_of_getElem? (i := 0) rfl))) rfl (v := .int (c 4 0)) rfl dX0_addTurn_21 ?_
    refine lv_iconst (pc := 24) (v := (1 : Int32)) hx hb dX0_addTurn_24 (by decide) ?_
    refine lv_iadd (pc := 25) hx hb dX0_addTurn_25 ?_
    refine wput (pc := 26) X (fun _ h9 => List.mem_cons_of_mem _ (List.mem_append_right _ h9)) tyX0 tyX0_ok nmX0 hP hD hS 0 (at_Ch_0 G A (cset c 12 (c 4 0).toNatClampNeg x1)) rfl 4 (by decide) (List.mem_cons_of_mem _ (List.mem_append_left _ (List.mem_of_getElem? (i := 0) rfl))) rfl rfl (ty := .int) (v := .int ((c 4 0) + (1 : Int32))) rfl rfl rfl (Nat.le_of_ble_eq_true rfl) (st_Ch_0_4 G A (cset c 12 (c 4 0).toNatClampNeg x1) ((c 4 0) + (1 : Int32))) dX0_addTurn_26 (fun H locs hP hD hS => ?_)
    exact b_29 _ H locs ls hf hP hD hS (lv_sub hl [] rfl)
def r_X0_isAlso : Room := { frames := 0, cells := 0, slots := 0, locals := 0 }
set_option maxHeartbeats 4000000 in
set_option maxRecDepth 100000 in
theorem c_X0_isAlso (G : GT) (l : Launch) (sz : Nat) (x0 : Int32) (x1 : Int32) (r : Int32) (hf : f_X0_isAlso x0 x1 = some r) : MTi l yX0_isAlso wsX0_isAlso r_X0_isAlso [.int x0, .int x1] G [] [] sz r := by
  refine MTz.of (cc := cX0_isAlso) (maxL := 4) (by decide +kernel) rfl (Nat.le_of_ble_eq_true rfl) (fun p e s m av below meth cd Q B H locs ls X hret hl hP hD hS => ?_)
  have hx := X.1.1
  have hb := X.1.2.1
  have hl : lv_has ls 4 [(0, .int x0), (1, .int x1)] := hl
  have b_39 : ∀  (H : Heap) (locs : List Loc) (ls : Array Slot), f_X0_isAlso_39 = some r → va_P G.1 vwCl [] H → va_D B [] → va_S B s.heap H locs → lv_has ls 4 [] → W p l e r_X0_isAlso s m av below meth cd H locs 0 0 Q (F0 m 39 ls []) := by
    intro  H locs ls hf hP hD hS hl
    unfold f_X0_isAlso_39 at hf
    refine lv_iconst (pc := 39) (v := (0 : Int32)) hx hb dX0_isAlso_39 (by decide) ?_
    cases hf
    exact hret _ _ _ _ (by decide) dX0_isAlso_40 hP hD hS
  have l_4 : ∀ (n4 : Nat), ∀ (x1 : Int32) (x2 : Int32) (x3 : Int32) (H : Heap) (locs : List Loc) (ls : Array Slot), f_X0_isAlso_4 n4 x1 x2 x3 = some r → va_P G.1 vwCl [] H → va_D B [] → va_S B s.heap H locs → lv_has ls 4 [(1, .int x1), (2, .int x2), (3, .int x3)] → W p l e r_X0_isAlso s m av below meth cd H locs 0 0 Q (F0 m 4 ls []) := by
    intro n4
    induction n4 with
    | zero =>
      intro x1 x2 x3 H locs ls hf hP hD hS hl
      rw [f_X0_isAlso_4] at hf
      cases hf
    | succ n4 ih4 =>
      intro x1 x2 x3 H locs ls hf hP hD hS hl
      rw [f_X0_isAlso_4] at hf
      refine lv_iload_n (pc := 4) hx hb dX0_isAlso_4 rfl (lv_at hl 2 rfl) ?_
      refine lv_bipush (pc := 5) (v := (6 : Int32)) hx hb dX0_isAlso_5 (by decide) ?_
      refine lv_icmp_ge (pc := 7) (tgt := 39) hx hb dX0_isAlso_7 (by decide) (fun h4 => ?_) (fun h4 => ?_)
      · have hf := br_y h4 hf
        exact b_39  H locs ls hf hP hD hS (lv_sub hl [] rfl)
      · have hf := br_n h4 hf
        refine lv_iload_n (pc := 10) hx hb dX0_isAlso_10 rfl (lv_at hl 1 rfl) ?_
        refine lv_if_lt (pc := 11) (tgt := 39) hx hb dX0_isAlso_11 (by decide) (fun h3 => ?_) (fun h3 => ?_)
        · have hf := br_y h3 hf
          exact b_39  H locs ls hf hP hD hS (lv_sub hl [] rfl)
        · have hf := br_n h3 hf
          refine lv_iload_n (pc := 14) hx hb dX0_isAlso_14 rfl (lv_at hl 1 rfl) ?_
          refine lv_bipush (pc := 15) (v := (6 : Int32)) hx hb dX0_isAlso_15 (by decide) ?_
          refine lv_icmp_ge (pc := 17) (tgt := 39) hx hb dX0_isAlso_17 (by decide) (fun h2 => ?_) (fun h2 => ?_)
          · have hf := br_y h2 hf
            exact b_39  H locs ls hf hP hD hS (lv_sub hl [] rfl)
          · have hf := br_n h2 hf
            refine lv_iload_n (pc := 20) hx hb dX0_isAlso_20 rfl (lv_at hl 1 rfl) ?_
            refine lv_iload_n (pc := 21) hx hb dX0_isAlso_21 rfl (lv_at hl 0 rfl) ?_
            refine lv_icmp_ne (pc := 22) (tgt := 27) hx hb dX0_isAlso_22 (by decide) (fun h1 => ?_) (fun h1 => ?_)
            · have hf := br_n h1 hf
              refine wgsA (pc := 27) X hS (List.mem_of_getElem? (i := 19) rfl) dX0_isAlso_27 ?_
              refine lv_iload_n (pc := 30) hx hb dX0_isAlso_30 rfl (lv_at hl 1 rfl) ?_
              obtain ⟨hi, hf⟩ := ck_some hf
              refine wtiA (pc := 31) X hS hi dX0_isAlso_31 ?_
              refine lv_istore_n (pc := 32) (lv' := [(2, .int (alsoI x2.toNatClampNeg)), (1, .int x1), (3, .int x3)]) hx hb dX0_isAlso_32 rfl hl (by decide) rfl (fun ls hl => ?_)
              refine lv_iinc (pc := 33) (v := (x3 + (1 : Int32))) (lv' := [(3, .int (x3 + (1 : Int32))), (2, .int (alsoI x2.toNatClampNeg)), (1, .int x1)]) hx hb dX0_isAlso_33 hl (k := 2) rfl rfl (by decide) rfl (fun ls hl => ?_)
              refine lv_goto (pc := 36) (tgt := 4) hx hb dX0_isAlso_36 (by decide) ?_
              exact ih4 _ _ _ H locs ls hf hP hD hS (lv_sub hl [2, 1, 0] rfl)
            · have hf := br_y h1 hf
              refine lv_iconst (pc := 25) (v := (1 : Int32)) hx hb dX0_isAlso_25 (by decide) ?_
              cases hf
              exact hret _ _ _ _ (by decide) dX0_isAlso_26 hP hD hS
  unfold f_X0_isAlso at hf
  refine lv_iload_n (pc := 0) hx hb dX0_isAlso_0 rfl (lv_at hl 0 rfl) ?_
  refine lv_istore_n (pc := 1) (lv' := [(2, .int x0), (0, .int x0), (1, .int x1)]) hx hb dX0_isAlso_1 rfl hl (by decide) rfl (fun ls hl => ?_)
  refine lv_iconst (pc := 2) (v := (0 : Int32)) hx hb dX0_isAlso_2 (by decide) ?_
  refine lv_istore_n (pc := 3) (lv' := [(3, .int (0 : Int32)), (2, .int x0), (0, .int x0), (1, .int x1)]) hx hb dX0_isAlso_3 rfl hl (by decide) rfl (fun ls hl => ?_)
  exact l_4 FU _ _ _ H locs ls hf hP hD hS (lv_sub hl [3, 1, 0] rfl)
def r_X0_repeated : Room := { frames := 0, cells := 0, slots := 0, locals := 0 }
set_option maxHeartbeats 4000000 in
set_option maxRecDepth 100000 in
theorem c_X0_repeated (G : GT) (l : Launch) (sz : Nat) (x0 : Int32) (x1 : Int32) (x2 : Int32) (r : Int32) (hf : f_X0_repeated x0 x1 x2 = some r) : MTi l yX0_repeated wsX0_repeated r_X0_repeated [.int x0, .int x1, .int x2] G [] [] sz r := by
  refine MTi.of (cc := cX0_repeated) (maxL := 3) (by decide +kernel) rfl (Nat.le_of_ble_eq_true rfl) (fun p e s m av below meth cd Q B H locs ls X hret hl hP hD hS => ?_)
  have hx := X.1.1
  have hb := X.1.2.1
  have hl : lv_has ls 3 [(0, .int x0), (1, .int x1), (2, .int x2)] := hl
  have b_60 : ∀ (t0 : Int32) (H : Heap) (locs : List Loc) (ls : Array Slot), f_X0_repeated_60 t0 = some r → va_P G.1 vwCl [] H → va_D B [] → va_S B s.heap H locs → lv_has ls 3 [] → W p l e r_X0_repeated s m av below meth cd H locs 0 0 Q (F0 m 60 ls [.int t0]) := by
    intro t0 H locs ls hf hP hD hS hl
    unfold f_X0_repeated_60 at hf
    cases hf
    exact hret _ _ _ _ dX0_repeated_60 hP hD hS
  have b_70 : ∀ (t0 : Int32) (H : Heap) (locs : List Loc) (ls : Array Slot), f_X0_repeated_70 t0 = some r → va_P G.1 vwCl [] H → va_D B [] → va_S B s.heap H locs → lv_has ls 3 [] → W p l e r_X0_repeated s m av below meth cd H locs 0 0 Q (F0 m 70 ls [.int t0]) := by
    intro t0 H locs ls hf hP hD hS hl
    unfold f_X0_repeated_70 at hf
    cases hf
    exact hret _ _ _ _ dX0_repeated_70 hP hD hS
  have b_71 : ∀ (x1 : Int32) (H : Heap) (locs : List Loc) (ls : Array Slot), f_X0_repeated_71 x1 = some r → va_P G.1 vwCl [] H → va_D B [] → va_S B s.heap H locs → lv_has ls 3 [(1, .int x1)] → W p l e r_X0_repeated s m av below meth cd H locs 0 0 Q (F0 m 71 ls []) := by
    intro x1 H locs ls hf hP hD hS hl
    unfold f_X0_repeated_71 at hf
    refine lv_iload_n (pc := 71) hx hb dX0_repeated_71 rfl (lv_at hl 0 rfl) ?_
    cases hf
    exact hret _ _ _ _ dX0_repeated_72 hP hD hS
  unfold f_X0_repeated at hf
  refine lv_iload_n (pc := 0) hx hb dX0_repeated_0 rfl (lv_at hl 0 rfl) ?_
  by_cases h3 : x0 = (1 : Int32)
  · have hf := br_y h3 hf
    refine lv_tableIn (pc := 1) (off := 35) (tgt := 36) hx hb dX0_repeated_1 (by rw [h3]; decide) (by rw [h3]; decide) (by rw [h3]; rfl) (by decide) ?_
    refine lv_iload_n (pc := 36) hx hb dX0_repeated_36 rfl (lv_at hl 1 rfl) ?_
    refine lv_iconst (pc := 37) (v := (1 : Int32)) hx hb dX0_repeated_37 (by decide) ?_
    refine lv_iadd (pc := 38) hx hb dX0_repeated_38 ?_
    cases hf
    exact hret _ _ _ _ dX0_repeated_39 hP hD hS
  · have hf := br_n h3 hf
    by_cases h4 : x0 = (2 : Int32)
    · have hf := br_y h4 hf
      refine lv_tableIn (pc := 1) (off := 70) (tgt := 71) hx hb dX0_repeated_1 (by rw [h4]; decide) (by rw [h4]; decide) (by rw [h4]; rfl) (by decide) ?_
      exact b_71 _ H locs ls hf hP hD hS (lv_sub hl [1] rfl)
    · have hf := br_n h4 hf
      by_cases h5 : x0 = (3 : Int32)
      · have hf := br_y h5 hf
        refine lv_tableIn (pc := 1) (off := 39) (tgt := 40) hx hb dX0_repeated_1 (by rw [h5]; decide) (by rw [h5]; decide) (by rw [h5]; rfl) (by decide) ?_
        refine lv_bipush (pc := 40) (v := (9 : Int32)) hx hb dX0_repeated_40 (by decide) ?_
        refine lv_iload_n (pc := 42) hx hb dX0_repeated_42 rfl (lv_at hl 1 rfl) ?_
        refine lv_isub (pc := 43) hx hb dX0_repeated_43 ?_
        cases hf
        exact hret _ _ _ _ dX0_repeated_44 hP hD hS
      · have hf := br_n h5 hf
        by_cases h6 : x0 = (4 : Int32)
        · have hf := br_y h6 hf
          refine lv_tableIn (pc := 1) (off := 44) (tgt := 45) hx hb dX0_repeated_1 (by rw [h6]; decide) (by rw [h6]; decide) (by rw [h6]; rfl) (by decide) ?_
          refine lv_iload_n (pc := 45) hx hb dX0_repeated_45 rfl (lv_at hl 2 rfl) ?_
          refine lv_iconst (pc := 46) (v := (3 : Int32)) hx hb dX0_repeated_46 (by decide) ?_
          refine wirem (pc := 47) hx hb dX0_repeated_47 (by decide) ?_
          refine lv_if_ne (pc := 48) (tgt := 57) hx hb dX0_repeated_48 (by decide) (fun h1 => ?_) (fun h1 => ?_)
          · have hf := br_n h1 hf
            refine lv_iload_n (pc := 57) hx hb dX0_repeated_57 rfl (lv_at hl 1 rfl) ?_
            refine lv_iconst (pc := 58) (v := (1 : Int32)) hx hb dX0_repeated_58 (by decide) ?_
            refine lv_iadd (pc := 59) hx hb dX0_repeated_59 ?_
            exact b_60 _ H locs ls hf hP hD hS (lv_sub hl [] rfl)
          · have hf := br_y h1 hf
            refine lv_iload_n (pc := 51) hx hb dX0_repeated_51 rfl (lv_at hl 1 rfl) ?_
            refine lv_iconst (pc := 52) (v := (2 : Int32)) hx hb dX0_repeated_52 (by decide) ?_
            refine lv_iadd (pc := 53) hx hb dX0_repeated_53 ?_
            refine lv_goto (pc := 54) (tgt := 60) hx hb dX0_repeated_54 (by decide) ?_
            exact b_60 _ H locs ls hf hP hD hS (lv_sub hl [] rfl)
        · have hf := br_n h6 hf
          by_cases h7 : x0 = (5 : Int32)
          · have hf := br_y h7 hf
            refine lv_tableIn (pc := 1) (off := 60) (tgt := 61) hx hb dX0_repeated_1 (by rw [h7]; decide) (by rw [h7]; decide) (by rw [h7]; rfl) (by decide) ?_
            refine lv_iload_n (pc := 61) hx hb dX0_repeated_61 rfl (lv_at hl 1 rfl) ?_
            refine lv_if_ne (pc := 62) (tgt := 69) hx hb dX0_repeated_62 (by decide) (fun h2 => ?_) (fun h2 => ?_)
            · have hf := br_n h2 hf
              refine lv_iload_n (pc := 69) hx hb dX0_repeated_69 rfl (lv_at hl 1 rfl) ?_
              exact b_70 _ H locs ls hf hP hD hS (lv_sub hl [] rfl)
            · have hf := br_y h2 hf
              refine lv_iconst (pc := 65) (v := (5 : Int32)) hx hb dX0_repeated_65 (by decide) ?_
              refine lv_goto (pc := 66) (tgt := 70) hx hb dX0_repeated_66 (by decide) ?_
              exact b_70 _ H locs ls hf hP hD hS (lv_sub hl [] rfl)
          · have hf := br_n h7 hf
            refine lv_tableOut (pc := 1) (tgt := 71) hx hb dX0_repeated_1 (by have := sw_ne (k := 1) (by decide) h3; have := sw_ne (k := 2) (by decide) h4; have := sw_ne (k := 3) (by decide) h5; have := sw_ne (k := 4) (by decide) h6; have := sw_ne (k := 5) (by decide) h7; omega) (by decide) ?_
            exact b_71 _ H locs ls hf hP hD hS (lv_sub hl [1] rfl)
def r_X0_arrive : Room := { frames := 1, cells := 0, slots := 0, locals := 23 }
set_option maxHeartbeats 4000000 in
set_option maxRecDepth 100000 in
theorem c_X0_arrive (G : GT) (l : Launch) (A : Nat → Nat) (sz : Nat) (c : CS) (x1 : Int32) (x2 : Int32) (x3 : Int32) (r : Int32) (hf : f_X0_arrive c x1 x2 x3 = some r) : MTi l yX0_arrive wsX0_arrive r_X0_arrive [.ref (A 0), .int x1, .int x2, .int x3] G (w_Ch G A c) (w_Ch G A c) sz r := by
  refine MTi.of (cc := cX0_arrive) (maxL := 8) (by decide +kernel) rfl (Nat.le_of_ble_eq_true rfl) (fun p e s m av below meth cd Q B H locs ls X hret hl hP hD hS => ?_)
  have hx := X.1.1
  have hb := X.1.2.1
  have hl : lv_has ls 8 [(0, .ref (A 0)), (1, .int x1), (2, .int x2), (3, .int x3)] := hl
  have l_60 : ∀ (n60 : Nat), ∀ (x1 : Int32) (x3 : Int32) (x4 : Int32) (x6 : Int32) (x7 : Int32) (H : Heap) (locs : List Loc) (ls : Array Slot), f_X0_arrive_60 n60 x1 x3 x4 x6 x7 c = some r → va_P G.1 vwCl (w_Ch G A c) H → va_D B (w_Ch G A c) → va_S B s.heap H locs → lv_has ls 8 [(0, .ref (A 0)), (1, .int x1), (3, .int x3), (4, .int x4), (6, .int x6), (7, .int x7)] → W p l e r_X0_arrive s m av below meth cd H locs 0 0 Q (F0 m 60 ls []) := by
    intro n60
    induction n60 with
    | zero =>
      intro x1 x3 x4 x6 x7 H locs ls hf hP hD hS hl
      rw [f_X0_arrive_60] at hf
      cases hf
    | succ n60 ih60 =>
      intro x1 x3 x4 x6 x7 H locs ls hf hP hD hS hl
      rw [f_X0_arrive_60] at hf
      refine lv_iload (pc := 60) hx hb dX0_arrive_60 (lv_at hl 5 rfl) ?_
      refine lv_iload_n (pc := 62) hx hb dX0_arrive_62 rfl (lv_at hl 1 rfl) ?_
      refine lv_icmp_gt (pc := 63) (tgt := 101) hx hb dX0_arrive_63 (by decide) (fun h1 => ?_) (fun h1 => ?_)
      · have hf := br_y h1 hf
        refine lv_iload (pc := 101) hx hb dX0_arrive_101 (lv_at hl 4 rfl) ?_
        cases hf
        exact hret _ _ _ _ dX0_arrive_103 hP hD hS
      · have hf := br_n h1 hf
        refine lv_aload_n (pc := 66) hx hb dX0_arrive_66 rfl (lv_at hl 0 rfl) ?_
        refine wget (pc := 67) X (fun _ h9 => List.mem_cons_of_mem _ (List.mem_append_right _ h9)) hP 0 (at_Ch_0 G A c) rfl 5 (by decide) (List.mem_cons_of_mem _ (List.mem_append_left _ (List.mem_of_getElem? (i := 0) rfl))) rfl (v := .ref (A 1)) rfl dX0_arrive_67 ?_
        refine lv_iload_n (pc := 70) hx hb dX0_arrive_70 rfl (lv_at hl 2 rfl) ?_
        obtain ⟨hi, hf⟩ := ck_some hf
        refine wiald (pc := 71) X hP 1 (at_Ch_1 G A c) hi rfl dX0_arrive_71 ?_
        refine lv_iload (pc := 72) hx hb dX0_arrive_72 (lv_at hl 4 rfl) ?_
        refine lv_iload (pc := 74) hx hb dX0_arrive_74 (lv_at hl 3 rfl) ?_
        refine lv_iload (pc := 76) hx hb dX0_arrive_76 (lv_at hl 5 rfl) ?_
        refine lv_iadd (pc := 78) hx hb dX0_arrive_78 ?_
        obtain ⟨r1, hc1, hf⟩ := ob1_some hf
        refine endi X.2.2.2.2 (runS (pc := 79) (As := [.int ((c 5) x3.toNatClampNeg), .int x6, .int (x4 + x7)]) (rest := []) X (c_X0_repeated G l  H.size ((c 5) x3.toNatClampNeg) x6 (x4 + x7) r1 hc1) gX0_arrive_X0_repeated k_X0_repeated ⟨rfl, rfl⟩ ⟨Nat.le_of_ble_eq_true rfl, Nat.le_of_ble_eq_true rfl⟩ (EM.nil (w_Ch G A c)) hP hD hS rfl hl.1 rfl (Nat.le_of_ble_eq_true rfl) ⟨Nat.zero_le _, Nat.zero_le _⟩ dX0_arrive_79) (EM.nil (w_Ch G A c)) hP hD hS (fun H locs hP hD hS => ?_)
        refine lv_aload_n (pc := 82) hx hb dX0_arrive_82 rfl (lv_at hl 0 rfl) ?_
        refine wget (pc := 83) X (fun _ h9 => List.mem_cons_of_mem _ (List.mem_append_right _ h9)) hP 0 (at_Ch_0 G A c) rfl 13 (by decide) (List.mem_cons_of_mem _ (List.mem_append_left _ (List.mem_of_getElem? (i := 3) rfl))) rfl (v := .ref (A 9)) rfl dX0_arrive_83 ?_
        refine lv_iload (pc := 86) hx hb dX0_arrive_86 (lv_at hl 5 rfl) ?_
        obtain ⟨hi, hf⟩ := ck_some hf
        refine wiald (pc := 88) X hP 9 (at_Ch_9 G A c) hi rfl dX0_arrive_88 ?_
        refine lv_iadd (pc := 89) hx hb dX0_arrive_89 ?_
        refine lv_bipush (pc := 90) (v := (10 : Int32)) hx hb dX0_arrive_90 (by decide) ?_
        refine wirem (pc := 92) hx hb dX0_arrive_92 (by decide) ?_
        refine lv_istore (pc := 93) (lv' := [(6, .int (jrem (r1 + ((c 13) x7.toNatClampNeg)) (10 : Int32))), (0, .ref (A 0)), (1, .int x1), (3, .int x3), (4, .int x4), (7, .int x7)]) hx hb dX0_arrive_93 hl (by decide) rfl (fun ls hl => ?_)
        refine lv_iinc (pc := 95) (v := (x7 + (1 : Int32))) (lv' := [(7, .int (x7 + (1 : Int32))), (6, .int (jrem (r1 + ((c 13) x7.toNatClampNeg)) (10 : Int32))), (0, .ref (A 0)), (1, .int x1), (3, .int x3), (4, .int x4)]) hx hb dX0_arrive_95 hl (k := 5) rfl rfl (by decide) rfl (fun ls hl => ?_)
        refine lv_goto (pc := 98) (tgt := 60) hx hb dX0_arrive_98 (by decide) ?_
        exact ih60 _ _ _ _ _ H locs ls hf hP hD hS (lv_sub hl [2, 3, 4, 5, 1, 0] rfl)
  have b_27 : ∀ (x1 : Int32) (x3 : Int32) (x4 : Int32) (t0 : Int32) (H : Heap) (locs : List Loc) (ls : Array Slot), f_X0_arrive_27 x1 x3 x4 t0 c = some r → va_P G.1 vwCl (w_Ch G A c) H → va_D B (w_Ch G A c) → va_S B s.heap H locs → lv_has ls 8 [(0, .ref (A 0)), (1, .int x1), (3, .int x3), (4, .int x4)] → W p l e r_X0_arrive s m av below meth cd H locs 0 0 Q (F0 m 27 ls [.int t0]) := by
    intro x1 x3 x4 t0 H locs ls hf hP hD hS hl
    unfold f_X0_arrive_27 at hf
    refine lv_istore (pc := 27) (lv' := [(5, .int t0), (0, .ref (A 0)), (1, .int x1), (3, .int x3), (4, .int x4)]) hx hb dX0_arrive_27 hl (by decide) rfl (fun ls hl => ?_)
    refine lv_aload_n (pc := 29) hx hb dX0_arrive_29 rfl (lv_at hl 1 rfl) ?_
    refine wget (pc := 30) X (fun _ h9 => List.mem_cons_of_mem _ (List.mem_append_right _ h9)) hP 0 (at_Ch_0 G A c) rfl 6 (by decide) (List.mem_cons_of_mem _ (List.mem_append_left _ (List.mem_of_getElem? (i := 1) rfl))) rfl (v := .ref (A 2)) rfl dX0_arrive_30 ?_
    refine lv_iload_n (pc := 33) hx hb dX0_arrive_33 rfl (lv_at hl 3 rfl) ?_
    obtain ⟨hi, hf⟩ := ck_some hf
    refine wiald (pc := 34) X hP 2 (at_Ch_2 G A c) hi rfl dX0_arrive_34 ?_
    refine lv_iload (pc := 35) hx hb dX0_arrive_35 (lv_at hl 0 rfl) ?_
    refine lv_aload_n (pc := 37) hx hb dX0_arrive_37 rfl (lv_at hl 1 rfl) ?_
    refine wget (pc := 38) X (fun _ h9 => List.mem_cons_of_mem _ (List.mem_append_right _ h9)) hP 0 (at_Ch_0 G A c) rfl 7 (by decide) (List.mem_cons_of_mem _ (List.mem_append_left _ (List.mem_of_getElem? (i := 2) rfl))) rfl (v := .ref (A 3)) rfl dX0_arrive_38 ?_
    refine lv_iload_n (pc := 41) hx hb dX0_arrive_41 rfl (lv_at hl 3 rfl) ?_
    obtain ⟨hi, hf⟩ := ck_some hf
    refine wiald (pc := 42) X hP 3 (at_Ch_3 G A c) hi rfl dX0_arrive_42 ?_
    refine lv_imul (pc := 43) hx hb dX0_arrive_43 ?_
    refine lv_iadd (pc := 44) hx hb dX0_arrive_44 ?_
    refine lv_aload_n (pc := 45) hx hb dX0_arrive_45 rfl (lv_at hl 1 rfl) ?_
    refine wget (pc := 46) X (fun _ h9 => List.mem_cons_of_mem _ (List.mem_append_right _ h9)) hP 0 (at_Ch_0 G A c) rfl 13 (by decide) (List.mem_cons_of_mem _ (List.mem_append_left _ (List.mem_of_getElem? (i := 3) rfl))) rfl (v := .ref (A 9)) rfl dX0_arrive_46 ?_
    refine lv_iconst (pc := 49) (v := (0 : Int32)) hx hb dX0_arrive_49 (by decide) ?_
    refine wiald (pc := 50) X hP 9 (at_Ch_9 G A c) (by decide) (j := 0) (by decide) dX0_arrive_50 ?_
    refine lv_iadd (pc := 51) hx hb dX0_arrive_51 ?_
    refine lv_bipush (pc := 52) (v := (10 : Int32)) hx hb dX0_arrive_52 (by decide) ?_
    refine wirem (pc := 54) hx hb dX0_arrive_54 (by decide) ?_
    refine lv_istore (pc := 55) (lv' := [(6, .int (jrem ((((c 6) x3.toNatClampNeg) + (t0 * ((c 7) x3.toNatClampNeg))) + ((c 13) 0)) (10 : Int32))), (5, .int t0), (0, .ref (A 0)), (1, .int x1), (3, .int x3), (4, .int x4)]) hx hb dX0_arrive_55 hl (by decide) rfl (fun ls hl => ?_)
    refine lv_iconst (pc := 57) (v := (1 : Int32)) hx hb dX0_arrive_57 (by decide) ?_
    refine lv_istore (pc := 58) (lv' := [(7, .int (1 : Int32)), (6, .int (jrem ((((c 6) x3.toNatClampNeg) + (t0 * ((c 7) x3.toNatClampNeg))) + ((c 13) 0)) (10 : Int32))), (5, .int t0), (0, .ref (A 0)), (1, .int x1), (3, .int x3), (4, .int x4)]) hx hb dX0_arrive_58 hl (by decide) rfl (fun ls hl => ?_)
    exact l_60 FU _ _ _ _ _ H locs ls hf hP hD hS (lv_sub hl [3, 4, 5, 6, 1, 0] rfl)
  unfold f_X0_arrive at hf
  refine lv_iload_n (pc := 0) hx hb dX0_arrive_0 rfl (lv_at hl 2 rfl) ?_
  refine lv_iload_n (pc := 1) hx hb dX0_arrive_1 rfl (lv_at hl 1 rfl) ?_
  refine lv_isub (pc := 2) hx hb dX0_arrive_2 ?_
  refine lv_istore (pc := 3) (lv' := [(4, .int (x2 - x1)), (0, .ref (A 0)), (1, .int x1), (2, .int x2), (3, .int x3)]) hx hb dX0_arrive_3 hl (by decide) rfl (fun ls hl => ?_)
  refine lv_aload_n (pc := 5) hx hb dX0_arrive_5 rfl (lv_at hl 1 rfl) ?_
  refine wget (pc := 6) X (fun _ h9 => List.mem_cons_of_mem _ (List.mem_append_right _ h9)) hP 0 (at_Ch_0 G A c) rfl 5 (by decide) (List.mem_cons_of_mem _ (List.mem_append_left _ (List.mem_of_getElem? (i := 0) rfl))) rfl (v := .ref (A 1)) rfl dX0_arrive_6 ?_
  refine lv_iload_n (pc := 9) hx hb dX0_arrive_9 rfl (lv_at hl 4 rfl) ?_
  obtain ⟨hi, hf⟩ := ck_some hf
  refine wiald (pc := 10) X hP 1 (at_Ch_1 G A c) hi rfl dX0_arrive_10 ?_
  refine lv_iconst (pc := 11) (v := (2 : Int32)) hx hb dX0_arrive_11 (by decide) ?_
  obtain ⟨r1, hc1, hf⟩ := ob1_some hf
  refine endi X.2.2.2.2 (runS (pc := 12) (As := [.int ((c 5) x3.toNatClampNeg), .int (2 : Int32)]) (rest := []) X (c_X0_isAlso G l  H.size ((c 5) x3.toNatClampNeg) (2 : Int32) r1 hc1) gX0_arrive_X0_isAlso k_X0_isAlso ⟨rfl, rfl⟩ ⟨Nat.le_of_ble_eq_true rfl, Nat.le_of_ble_eq_true rfl⟩ (EM.nil (w_Ch G A c)) hP hD hS rfl hl.1 rfl (Nat.le_of_ble_eq_true rfl) ⟨Nat.zero_le _, Nat.zero_le _⟩ dX0_arrive_12) (EM.nil (w_Ch G A c)) hP hD hS (fun H locs hP hD hS => ?_)
  refine lv_if_eq (pc := 15) (tgt := 25) hx hb dX0_arrive_15 (by decide) (fun h2 => ?_) (fun h2 => ?_)
  · have hf := br_y h2 hf
    refine lv_iload (pc := 25) hx hb dX0_arrive_25 (lv_at hl 0 rfl) ?_
    exact b_27 _ _ _ _ H locs ls hf hP hD hS (lv_sub hl [1, 2, 4, 0] rfl)
  · have hf := br_n h2 hf
    refine lv_iload (pc := 18) hx hb dX0_arrive_18 (lv_at hl 0 rfl) ?_
    refine lv_iconst (pc := 20) (v := (2 : Int32)) hx hb dX0_arrive_20 (by decide) ?_
    refine lv_idiv (pc := 21) hx hb dX0_arrive_21 (by decide) ?_
    refine lv_goto (pc := 22) (tgt := 27) hx hb dX0_arrive_22 (by decide) ?_
    exact b_27 _ _ _ _ H locs ls hf hP hD hS (lv_sub hl [1, 2, 4, 0] rfl)
def r_X0_clear : Room := { frames := 0, cells := 0, slots := 0, locals := 0 }
set_option maxHeartbeats 4000000 in
set_option maxRecDepth 100000 in
theorem c_X0_clear (G : GT) (l : Launch) (A : Nat → Nat) (sz : Nat) (c : CS) (c' : CS) (hf : f_X0_clear c = some c') : MTv l yX0_clear wsX0_clear r_X0_clear [.ref (A 0)] G (w_Ch G A c) (w_Ch G A c') sz := by
  refine MTv.of (cc := cX0_clear) (maxL := 1) (by decide +kernel) rfl (Nat.le_of_ble_eq_true rfl) (fun p e s m av below meth cd Q B H locs ls X hret hl hP hD hS => ?_)
  have hx := X.1.1
  have hb := X.1.2.1
  have hl : lv_has ls 1 [(0, .ref (A 0))] := hl
  unfold f_X0_clear at hf
  refine lv_aload_n (pc := 0) hx hb dX0_clear_0 rfl (lv_at hl 0 rfl) ?_
  refine lv_iconst (pc := 1) (v := (0 : Int32)) hx hb dX0_clear_1 (by decide) ?_
  refine wput (pc := 2) X (fun _ h9 => List.mem_cons_of_mem _ (List.mem_append_right _ h9)) tyX0 tyX0_ok nmX0 hP hD hS 0 (at_Ch_0 G A c) rfl 0 (by decide) (List.mem_cons_of_mem _ (List.mem_append_left _ (List.mem_of_getElem? (i := 0) rfl))) rfl rfl (ty := .int) (v := .int (0 : Int32)) rfl rfl rfl (Nat.le_of_ble_eq_true rfl) (st_Ch_0_0 G A c (0 : Int32)) dX0_clear_2 (fun H locs hP hD hS => ?_)
  refine lv_aload_n (pc := 5) hx hb dX0_clear_5 rfl (lv_at hl 0 rfl) ?_
  refine lv_iconst (pc := 6) (v := (0 : Int32)) hx hb dX0_clear_6 (by decide) ?_
  refine wput (pc := 7) X (fun _ h9 => List.mem_cons_of_mem _ (List.mem_append_right _ h9)) tyX0 tyX0_ok nmX0 hP hD hS 0 (at_Ch_0 G A (cset c 0 0 (0 : Int32))) rfl 1 (by decide) (List.mem_cons_of_mem _ (List.mem_append_left _ (List.mem_of_getElem? (i := 1) rfl))) rfl rfl (ty := .int) (v := .int (0 : Int32)) rfl rfl rfl (Nat.le_of_ble_eq_true rfl) (st_Ch_0_1 G A (cset c 0 0 (0 : Int32)) (0 : Int32)) dX0_clear_7 (fun H locs hP hD hS => ?_)
  refine lv_aload_n (pc := 10) hx hb dX0_clear_10 rfl (lv_at hl 0 rfl) ?_
  refine lv_iconst (pc := 11) (v := (0 : Int32)) hx hb dX0_clear_11 (by decide) ?_
  refine wput (pc := 12) X (fun _ h9 => List.mem_cons_of_mem _ (List.mem_append_right _ h9)) tyX0 tyX0_ok nmX0 hP hD hS 0 (at_Ch_0 G A (cset (cset c 0 0 (0 : Int32)) 1 0 (0 : Int32))) rfl 2 (by decide) (List.mem_cons_of_mem _ (List.mem_append_left _ (List.mem_of_getElem? (i := 2) rfl))) rfl rfl (ty := .int) (v := .int (0 : Int32)) rfl rfl rfl (Nat.le_of_ble_eq_true rfl) (st_Ch_0_2 G A (cset (cset c 0 0 (0 : Int32)) 1 0 (0 : Int32)) (0 : Int32)) dX0_clear_12 (fun H locs hP hD hS => ?_)
  refine lv_aload_n (pc := 15) hx hb dX0_clear_15 rfl (lv_at hl 0 rfl) ?_
  refine lv_iconst (pc := 16) (v := (0 : Int32)) hx hb dX0_clear_16 (by decide) ?_
  refine wput (pc := 17) X (fun _ h9 => List.mem_cons_of_mem _ (List.mem_append_right _ h9)) tyX0 tyX0_ok nmX0 hP hD hS 0 (at_Ch_0 G A (cset (cset (cset c 0 0 (0 : Int32)) 1 0 (0 : Int32)) 2 0 (0 : Int32))) rfl 3 (by decide) (List.mem_cons_of_mem _ (List.mem_append_left _ (List.mem_of_getElem? (i := 3) rfl))) rfl rfl (ty := .int) (v := .int (0 : Int32)) rfl rfl rfl (Nat.le_of_ble_eq_true rfl) (st_Ch_0_3 G A (cset (cset (cset c 0 0 (0 : Int32)) 1 0 (0 : Int32)) 2 0 (0 : Int32)) (0 : Int32)) dX0_clear_17 (fun H locs hP hD hS => ?_)
  refine lv_aload_n (pc := 20) hx hb dX0_clear_20 rfl (lv_at hl 0 rfl) ?_
  refine lv_iconst (pc := 21) (v := (0 : Int32)) hx hb dX0_clear_21 (by decide) ?_
  refine wput (pc := 22) X (fun _ h9 => List.mem_cons_of_mem _ (List.mem_append_right _ h9)) tyX0 tyX0_ok nmX0 hP hD hS 0 (at_Ch_0 G A (cset (cset (cset (cset c 0 0 (0 : Int32)) 1 0 (0 : Int32)) 2 0 (0 : Int32)) 3 0 (0 : Int32))) rfl 4 (by decide) (List.mem_cons_of_mem _ (List.mem_append_left _ (List.mem_of_getElem? (i := 4) rfl))) rfl rfl (ty := .int) (v := .int (0 : Int32)) rfl rfl rfl (Nat.le_of_ble_eq_true rfl) (st_Ch_0_4 G A (cset (cset (cset (cset c 0 0 (0 : Int32)) 1 0 (0 : Int32)) 2 0 (0 : Int32)) 3 0 (0 : Int32)) (0 : Int32)) dX0_clear_22 (fun H locs hP hD hS => ?_)
  cases hf
  exact hret _ _ _ _ dX0_clear_25 hP hD hS
def r_X0_meets : Room := { frames := 0, cells := 0, slots := 0, locals := 0 }
set_option maxHeartbeats 4000000 in
set_option maxRecDepth 100000 in
theorem c_X0_meets (G : GT) (l : Launch) (A : Nat → Nat) (sz : Nat) (c : CS) (x1 : Int32) (x2 : Int32) (x3 : Int32) (x4 : Int32) (r : Int32) (hf : f_X0_meets c x1 x2 x3 x4 = some r) : MTi l yX0_meets wsX0_meets r_X0_meets [.ref (A 0), .int x1, .int x2, .int x3, .int x4] G (w_Ch G A c) (w_Ch G A c) sz r := by
  refine MTi.of (cc := cX0_meets) (maxL := 7) (by decide +kernel) rfl (Nat.le_of_ble_eq_true rfl) (fun p e s m av below meth cd Q B H locs ls X hret hl hP hD hS => ?_)
  have hx := X.1.1
  have hb := X.1.2.1
  have hl : lv_has ls 7 [(0, .ref (A 0)), (1, .int x1), (2, .int x2), (3, .int x3), (4, .int x4)] := hl
  have b_21 : ∀  (H : Heap) (locs : List Loc) (ls : Array Slot), f_X0_meets_21 c = some r → va_P G.1 vwCl (w_Ch G A c) H → va_D B (w_Ch G A c) → va_S B s.heap H locs → lv_has ls 7 [] → W p l e r_X0_meets s m av below meth cd H locs 0 0 Q (F0 m 21 ls []) := by
    intro  H locs ls hf hP hD hS hl
    unfold f_X0_meets_21 at hf
    refine lv_bipush (pc := 21) (v := (-9 : Int32)) hx hb dX0_meets_21 (by decide) ?_
    cases hf
    exact hret _ _ _ _ dX0_meets_23 hP hD hS
  have b_54 : ∀ (t0 : Int32) (H : Heap) (locs : List Loc) (ls : Array Slot), f_X0_meets_54 t0 c = some r → va_P G.1 vwCl (w_Ch G A c) H → va_D B (w_Ch G A c) → va_S B s.heap H locs → lv_has ls 7 [] → W p l e r_X0_meets s m av below meth cd H locs 0 0 Q (F0 m 54 ls [.int t0]) := by
    intro t0 H locs ls hf hP hD hS hl
    unfold f_X0_meets_54 at hf
    cases hf
    exact hret _ _ _ _ dX0_meets_54 hP hD hS
  have b_82 : ∀ (t0 : Int32) (H : Heap) (locs : List Loc) (ls : Array Slot), f_X0_meets_82 t0 c = some r → va_P G.1 vwCl (w_Ch G A c) H → va_D B (w_Ch G A c) → va_S B s.heap H locs → lv_has ls 7 [] → W p l e r_X0_meets s m av below meth cd H locs 0 0 Q (F0 m 82 ls [.int t0]) := by
    intro t0 H locs ls hf hP hD hS hl
    unfold f_X0_meets_82 at hf
    cases hf
    exact hret _ _ _ _ dX0_meets_82 hP hD hS
  have b_80 : ∀  (H : Heap) (locs : List Loc) (ls : Array Slot), f_X0_meets_80 c = some r → va_P G.1 vwCl (w_Ch G A c) H → va_D B (w_Ch G A c) → va_S B s.heap H locs → lv_has ls 7 [] → W p l e r_X0_meets s m av below meth cd H locs 0 0 Q (F0 m 80 ls []) := by
    intro  H locs ls hf hP hD hS hl
    unfold f_X0_meets_80 at hf
    refine lv_bipush (pc := 80) (v := (-9 : Int32)) hx hb dX0_meets_80 (by decide) ?_
    exact b_82 _ H locs ls hf hP hD hS (lv_sub hl [] rfl)
  unfold f_X0_meets at hf
  refine lv_iload_n (pc := 0) hx hb dX0_meets_0 rfl (lv_at hl 3 rfl) ?_
  refine lv_iload_n (pc := 1) hx hb dX0_meets_1 rfl (lv_at hl 2 rfl) ?_
  refine lv_isub (pc := 2) hx hb dX0_meets_2 ?_
  refine lv_istore (pc := 3) (lv' := [(5, .int (x3 - x2)), (0, .ref (A 0)), (1, .int x1), (2, .int x2), (3, .int x3), (4, .int x4)]) hx hb dX0_meets_3 hl (by decide) rfl (fun ls hl => ?_)
  refine lv_iload (pc := 5) hx hb dX0_meets_5 (lv_at hl 0 rfl) ?_
  refine lv_if_lt (pc := 7) (tgt := 21) hx hb dX0_meets_7 (by decide) (fun h6 => ?_) (fun h6 => ?_)
  · have hf := br_y h6 hf
    exact b_21  H locs ls hf hP hD hS (lv_sub hl [] rfl)
  · have hf := br_n h6 hf
    refine lv_aload_n (pc := 10) hx hb dX0_meets_10 rfl (lv_at hl 1 rfl) ?_
    refine wget (pc := 11) X (fun _ h9 => List.mem_cons_of_mem _ (List.mem_append_right _ h9)) hP 0 (at_Ch_0 G A c) rfl 10 (by decide) (List.mem_cons_of_mem _ (List.mem_append_left _ (List.mem_of_getElem? (i := 0) rfl))) rfl (v := .ref (A 6)) rfl dX0_meets_11 ?_
    refine lv_iload_n (pc := 14) hx hb dX0_meets_14 rfl (lv_at hl 2 rfl) ?_
    obtain ⟨hi, hf⟩ := ck_some hf
    refine wiald (pc := 15) X hP 6 (at_Ch_6 G A c) hi rfl dX0_meets_15 ?_
    refine lv_iload (pc := 16) hx hb dX0_meets_16 (lv_at hl 5 rfl) ?_
    refine lv_icmp_eq (pc := 18) (tgt := 24) hx hb dX0_meets_18 (by decide) (fun h5 => ?_) (fun h5 => ?_)
    · have hf := br_y h5 hf
      refine lv_aload_n (pc := 24) hx hb dX0_meets_24 rfl (lv_at hl 1 rfl) ?_
      refine wget (pc := 25) X (fun _ h9 => List.mem_cons_of_mem _ (List.mem_append_right _ h9)) hP 0 (at_Ch_0 G A c) rfl 8 (by decide) (List.mem_cons_of_mem _ (List.mem_append_left _ (List.mem_of_getElem? (i := 1) rfl))) rfl (v := .ref (A 4)) rfl dX0_meets_25 ?_
      refine lv_iload_n (pc := 28) hx hb dX0_meets_28 rfl (lv_at hl 2 rfl) ?_
      obtain ⟨hi, hf⟩ := ck_some hf
      refine wiald (pc := 29) X hP 4 (at_Ch_4 G A c) hi rfl dX0_meets_29 ?_
      refine lv_istore (pc := 30) (lv' := [(6, .int ((c 8) x1.toNatClampNeg)), (5, .int (x3 - x2)), (0, .ref (A 0)), (1, .int x1), (2, .int x2), (3, .int x3), (4, .int x4)]) hx hb dX0_meets_30 hl (by decide) rfl (fun ls hl => ?_)
      refine lv_iload (pc := 32) hx hb dX0_meets_32 (lv_at hl 0 rfl) ?_
      refine lv_if_ne (pc := 34) (tgt := 55) hx hb dX0_meets_34 (by decide) (fun h4 => ?_) (fun h4 => ?_)
      · have hf := br_n h4 hf
        refine lv_iload (pc := 55) hx hb dX0_meets_55 (lv_at hl 0 rfl) ?_
        refine lv_iload_n (pc := 57) hx hb dX0_meets_57 rfl (lv_at hl 4 rfl) ?_
        refine lv_icmp_gt (pc := 58) (tgt := 80) hx hb dX0_meets_58 (by decide) (fun h2 => ?_) (fun h2 => ?_)
        · have hf := br_y h2 hf
          exact b_80  H locs ls hf hP hD hS (lv_sub hl [] rfl)
        · have hf := br_n h2 hf
          refine lv_aload_n (pc := 61) hx hb dX0_meets_61 rfl (lv_at hl 2 rfl) ?_
          refine wget (pc := 62) X (fun _ h9 => List.mem_cons_of_mem _ (List.mem_append_right _ h9)) hP 0 (at_Ch_0 G A c) rfl 9 (by decide) (List.mem_cons_of_mem _ (List.mem_append_left _ (List.mem_of_getElem? (i := 2) rfl))) rfl (v := .ref (A 5)) rfl dX0_meets_62 ?_
          refine lv_iload_n (pc := 65) hx hb dX0_meets_65 rfl (lv_at hl 3 rfl) ?_
          obtain ⟨hi, hf⟩ := ck_some hf
          refine wiald (pc := 66) X hP 5 (at_Ch_5 G A c) hi rfl dX0_meets_66 ?_
          refine lv_iload (pc := 67) hx hb dX0_meets_67 (lv_at hl 0 rfl) ?_
          refine lv_isub (pc := 69) hx hb dX0_meets_69 ?_
          refine lv_iload (pc := 70) hx hb dX0_meets_70 (lv_at hl 1 rfl) ?_
          refine lv_icmp_ne (pc := 72) (tgt := 80) hx hb dX0_meets_72 (by decide) (fun h1 => ?_) (fun h1 => ?_)
          · have hf := br_n h1 hf
            exact b_80  H locs ls hf hP hD hS (lv_sub hl [] rfl)
          · have hf := br_y h1 hf
            refine lv_iload (pc := 75) hx hb dX0_meets_75 (lv_at hl 0 rfl) ?_
            refine lv_goto (pc := 77) (tgt := 82) hx hb dX0_meets_77 (by decide) ?_
            exact b_82 _ H locs ls hf hP hD hS (lv_sub hl [] rfl)
      · have hf := br_y h4 hf
        refine lv_aload_n (pc := 37) hx hb dX0_meets_37 rfl (lv_at hl 2 rfl) ?_
        refine wget (pc := 38) X (fun _ h9 => List.mem_cons_of_mem _ (List.mem_append_right _ h9)) hP 0 (at_Ch_0 G A c) rfl 9 (by decide) (List.mem_cons_of_mem _ (List.mem_append_left _ (List.mem_of_getElem? (i := 2) rfl))) rfl (v := .ref (A 5)) rfl dX0_meets_38 ?_
        refine lv_iload_n (pc := 41) hx hb dX0_meets_41 rfl (lv_at hl 3 rfl) ?_
        obtain ⟨hi, hf⟩ := ck_some hf
        refine wiald (pc := 42) X hP 5 (at_Ch_5 G A c) hi rfl dX0_meets_42 ?_
        refine lv_iload (pc := 43) hx hb dX0_meets_43 (lv_at hl 1 rfl) ?_
        refine lv_icmp_gt (pc := 45) (tgt := 52) hx hb dX0_meets_45 (by decide) (fun h3 => ?_) (fun h3 => ?_)
        · have hf := br_y h3 hf
          refine lv_bipush (pc := 52) (v := (-9 : Int32)) hx hb dX0_meets_52 (by decide) ?_
          exact b_54 _ H locs ls hf hP hD hS (lv_sub hl [] rfl)
        · have hf := br_n h3 hf
          refine lv_iconst (pc := 48) (v := (0 : Int32)) hx hb dX0_meets_48 (by decide) ?_
          refine lv_goto (pc := 49) (tgt := 54) hx hb dX0_meets_49 (by decide) ?_
          exact b_54 _ H locs ls hf hP hD hS (lv_sub hl [] rfl)
    · have hf := br_n h5 hf
      exact b_21  H locs ls hf hP hD hS (lv_sub hl [] rfl)
def r_X0_gather : Room := { frames := 1, cells := 0, slots := 0, locals := 26 }
set_option maxHeartbeats 4000000 in
set_option maxRecDepth 100000 in
theorem c_X0_gather (G : GT) (l : Launch) (A : Nat → Nat) (sz : Nat) (c : CS) (x1 : Int32) (x2 : Int32) (x3 : Int32) (x4 : Int32) (c' : CS) (hf : f_X0_gather c x1 x2 x3 x4 = some c') : MTv l yX0_gather wsX0_gather r_X0_gather [.ref (A 0), .int x1, .int x2, .int x3, .int x4] G (w_Ch G A c) (w_Ch G A c') sz := by
  refine MTv.of (cc := cX0_gather) (maxL := 7) (by decide +kernel) rfl (Nat.le_of_ble_eq_true rfl) (fun p e s m av below meth cd Q B H locs ls X hret hl hP hD hS => ?_)
  have hx := X.1.1
  have hb := X.1.2.1
  have hl : lv_has ls 7 [(0, .ref (A 0)), (1, .int x1), (2, .int x2), (3, .int x3), (4, .int x4)] := hl
  have l_26 : ∀ (n26 : Nat), ∀ (x1 : Int32) (x2 : Int32) (x3 : Int32) (x4 : Int32) (x5 : Int32) (c : CS) (H : Heap) (locs : List Loc) (ls : Array Slot), f_X0_gather_26 n26 x1 x2 x3 x4 x5 c = some c' → va_P G.1 vwCl (w_Ch G A c) H → va_D B (w_Ch G A c) → va_S B s.heap H locs → lv_has ls 7 [(0, .ref (A 0)), (1, .int x1), (2, .int x2), (3, .int x3), (4, .int x4), (5, .int x5)] → W p l e r_X0_gather s m av below meth cd H locs 0 0 Q (F0 m 26 ls []) := by
    intro n26
    induction n26 with
    | zero =>
      intro x1 x2 x3 x4 x5 c H locs ls hf hP hD hS hl
      rw [f_X0_gather_26] at hf
      cases hf
    | succ n26 ih26 =>
      have b_89 : ∀ (x1 : Int32) (x2 : Int32) (x3 : Int32) (x4 : Int32) (x5 : Int32) (c : CS) (H : Heap) (locs : List Loc) (ls : Array Slot), f_X0_gather_89 (f_X0_gather_26 n26) x1 x2 x3 x4 x5 c = some c' → va_P G.1 vwCl (w_Ch G A c) H → va_D B (w_Ch G A c) → va_S B s.heap H locs → lv_has ls 7 [(0, .ref (A 0)), (1, .int x1), (2, .int x2), (3, .int x3), (4, .int x4), (5, .int x5)] → W p l e r_X0_gather s m av below meth cd H locs 0 0 Q (F0 m 89 ls []) := by
        intro x1 x2 x3 x4 x5 c H locs ls hf hP hD hS hl
        unfold f_X0_gather_89 at hf
        refine lv_iinc (pc := 89) (v := (x5 + (1 : Int32))) (lv' := [(5, .int (x5 + (1 : Int32))), (0, .ref (A 0)), (1, .int x1), (2, .int x2), (3, .int x3), (4, .int x4)]) hx hb dX0_gather_89 hl (k := 5) rfl rfl (by decide) rfl (fun ls hl => ?_)
        refine lv_goto (pc := 92) (tgt := 26) hx hb dX0_gather_92 (by decide) ?_
        exact ih26 _ _ _ _ _ _ H locs ls hf hP hD hS (lv_sub hl [1, 2, 3, 4, 5, 0] rfl)
      have b_59 : ∀ (x1 : Int32) (x2 : Int32) (x3 : Int32) (x4 : Int32) (x5 : Int32) (t0 : Int32) (c : CS) (H : Heap) (locs : List Loc) (ls : Array Slot), f_X0_gather_59 (f_X0_gather_26 n26) x1 x2 x3 x4 x5 t0 c = some c' → va_P G.1 vwCl (w_Ch G A c) H → va_D B (w_Ch G A c) → va_S B s.heap H locs → lv_has ls 7 [(0, .ref (A 0)), (1, .int x1), (2, .int x2), (3, .int x3), (4, .int x4), (5, .int x5)] → W p l e r_X0_gather s m av below meth cd H locs 0 0 Q (F0 m 59 ls [.int t0]) := by
        intro x1 x2 x3 x4 x5 t0 c H locs ls hf hP hD hS hl
        unfold f_X0_gather_59 at hf
        refine lv_istore (pc := 59) (lv' := [(6, .int t0), (0, .ref (A 0)), (1, .int x1), (2, .int x2), (3, .int x3), (4, .int x4), (5, .int x5)]) hx hb dX0_gather_59 hl (by decide) rfl (fun ls hl => ?_)
        refine lv_iload (pc := 61) hx hb dX0_gather_61 (lv_at hl 0 rfl) ?_
        refine lv_if_lt (pc := 63) (tgt := 89) hx hb dX0_gather_63 (by decide) (fun h2 => ?_) (fun h2 => ?_)
        · have hf := br_y h2 hf
          exact b_89 _ _ _ _ _ _ H locs ls hf hP hD hS (lv_sub hl [1, 2, 3, 4, 5, 6] rfl)
        · have hf := br_n h2 hf
          refine lv_iload (pc := 66) hx hb dX0_gather_66 (lv_at hl 0 rfl) ?_
          refine lv_iconst (pc := 68) (v := (5 : Int32)) hx hb dX0_gather_68 (by decide) ?_
          refine lv_icmp_ge (pc := 69) (tgt := 89) hx hb dX0_gather_69 (by decide) (fun h1 => ?_) (fun h1 => ?_)
          · have hf := br_y h1 hf
            exact b_89 _ _ _ _ _ _ H locs ls hf hP hD hS (lv_sub hl [1, 2, 3, 4, 5, 6] rfl)
          · have hf := br_n h1 hf
            refine lv_aload_n (pc := 72) hx hb dX0_gather_72 rfl (lv_at hl 1 rfl) ?_
            refine wget (pc := 73) X (fun _ h9 => List.mem_cons_of_mem _ (List.mem_append_right _ h9)) hP 0 (at_Ch_0 G A c) rfl 13 (by decide) (List.mem_cons_of_mem _ (List.mem_append_left _ (List.mem_of_getElem? (i := 0) rfl))) rfl (v := .ref (A 9)) rfl dX0_gather_73 ?_
            refine lv_iload (pc := 76) hx hb dX0_gather_76 (lv_at hl 0 rfl) ?_
            refine lv_dup2_11 (pc := 78) hx hb dX0_gather_78 rfl rfl ?_
            obtain ⟨hi, hf⟩ := ck_some hf
            refine wiald (pc := 79) X hP 9 (at_Ch_9 G A c) hi rfl dX0_gather_79 ?_
            refine lv_aload_n (pc := 80) hx hb dX0_gather_80 rfl (lv_at hl 1 rfl) ?_
            refine wget (pc := 81) X (fun _ h9 => List.mem_cons_of_mem _ (List.mem_append_right _ h9)) hP 0 (at_Ch_0 G A c) rfl 11 (by decide) (List.mem_cons_of_mem _ (List.mem_append_left _ (List.mem_of_getElem? (i := 2) rfl))) rfl (v := .ref (A 7)) rfl dX0_gather_81 ?_
            refine lv_iload (pc := 84) hx hb dX0_gather_84 (lv_at hl 6 rfl) ?_
            obtain ⟨hi, hf⟩ := ck_some hf
            refine wiald (pc := 86) X hP 7 (at_Ch_7 G A c) hi rfl dX0_gather_86 ?_
            refine lv_iadd (pc := 87) hx hb dX0_gather_87 ?_
            obtain ⟨hi, hf⟩ := ck_some hf
            refine wiast (pc := 88) X hP hD hS 9 (at_Ch_9 G A c) hi rfl (sa_Ch_9 G A c _) dX0_gather_88 (fun H locs hP hD hS => ?_)
            have hP : va_P G.1 vwCl (w_Ch G A (cset c 13 t0.toNatClampNeg (((c 13) t0.toNatClampNeg) + ((c 11) x5.toNatClampNeg)))) H := hP
            have hD : va_D B (w_Ch G A (cset c 13 t0.toNatClampNeg (((c 13) t0.toNatClampNeg) + ((c 11) x5.toNatClampNeg)))) := hD
            exact b_89 _ _ _ _ _ _ H locs ls hf hP hD hS (lv_sub hl [1, 2, 3, 4, 5, 6] rfl)
      intro x1 x2 x3 x4 x5 c H locs ls hf hP hD hS hl
      rw [f_X0_gather_26] at hf
      refine lv_iload (pc := 26) hx hb dX0_gather_26 (lv_at hl 5 rfl) ?_
      refine lv_aload_n (pc := 28) hx hb dX0_gather_28 rfl (lv_at hl 0 rfl) ?_
      refine wget (pc := 29) X (fun _ h9 => List.mem_cons_of_mem _ (List.mem_append_right _ h9)) hP 0 (at_Ch_0 G A c) rfl 1 (by decide) (List.mem_cons_of_mem _ (List.mem_append_left _ (List.mem_of_getElem? (i := 1) rfl))) rfl (v := .int (c 1 0)) rfl dX0_gather_29 ?_
      refine lv_icmp_ge (pc := 32) (tgt := 95) hx hb dX0_gather_32 (by decide) (fun h4 => ?_) (fun h4 => ?_)
      · have hf := br_y h4 hf
        cases hf
        exact hret _ _ _ _ dX0_gather_95 hP hD hS
      · have hf := br_n h4 hf
        refine lv_iload (pc := 35) hx hb dX0_gather_35 (lv_at hl 4 rfl) ?_
        refine lv_iload (pc := 37) hx hb dX0_gather_37 (lv_at hl 5 rfl) ?_
        refine lv_ishr (pc := 39) hx hb dX0_gather_39 ?_
        refine lv_iconst (pc := 40) (v := (1 : Int32)) hx hb dX0_gather_40 (by decide) ?_
        refine lv_iand (pc := 41) hx hb dX0_gather_41 ?_
        refine lv_if_ne (pc := 42) (tgt := 50) hx hb dX0_gather_42 (by decide) (fun h3 => ?_) (fun h3 => ?_)
        · have hf := br_n h3 hf
          refine lv_aload_n (pc := 50) hx hb dX0_gather_50 rfl (lv_at hl 0 rfl) ?_
          refine lv_iload (pc := 51) hx hb dX0_gather_51 (lv_at hl 5 rfl) ?_
          refine lv_iload_n (pc := 53) hx hb dX0_gather_53 rfl (lv_at hl 1 rfl) ?_
          refine lv_iload_n (pc := 54) hx hb dX0_gather_54 rfl (lv_at hl 2 rfl) ?_
          refine lv_iload_n (pc := 55) hx hb dX0_gather_55 rfl (lv_at hl 3 rfl) ?_
          obtain ⟨r1, hc1, hf⟩ := ob1_some hf
          refine endi X.2.2.2.2 (runV (pc := 56) (As := [.int x5, .int x1, .int x2, .int x3]) (rest := []) X (c_X0_meets G l A H.size c x5 x1 x2 x3 r1 hc1) gX0_gather_X0_meets k_X0_meets ⟨rfl, rfl⟩ ⟨Nat.le_of_ble_eq_true rfl, Nat.le_of_ble_eq_true rfl⟩ (EM.all (w_Ch G A c) (w_Ch G A c)) hP hD hS (ci := 0) rfl rfl (at_Ch_0 G A c) rfl hl.1 rfl (Nat.le_of_ble_eq_true rfl) ⟨Nat.zero_le _, Nat.zero_le _⟩ dX0_gather_56) (EM.all (w_Ch G A c) (w_Ch G A c)) hP hD hS (fun H locs hP hD hS => ?_)
          exact b_59 _ _ _ _ _ _ _ H locs ls hf hP hD hS (lv_sub hl [0, 1, 2, 3, 4, 5] rfl)
        · have hf := br_y h3 hf
          refine lv_bipush (pc := 45) (v := (-9 : Int32)) hx hb dX0_gather_45 (by decide) ?_
          refine lv_goto (pc := 47) (tgt := 59) hx hb dX0_gather_47 (by decide) ?_
          exact b_59 _ _ _ _ _ _ _ H locs ls hf hP hD hS (lv_sub hl [0, 1, 2, 3, 4, 5] rfl)
  have l_3 : ∀ (n3 : Nat), ∀ (x1 : Int32) (x2 : Int32) (x3 : Int32) (x4 : Int32) (x5 : Int32) (c : CS) (H : Heap) (locs : List Loc) (ls : Array Slot), f_X0_gather_3 n3 x1 x2 x3 x4 x5 c = some c' → va_P G.1 vwCl (w_Ch G A c) H → va_D B (w_Ch G A c) → va_S B s.heap H locs → lv_has ls 7 [(0, .ref (A 0)), (1, .int x1), (2, .int x2), (3, .int x3), (4, .int x4), (5, .int x5)] → W p l e r_X0_gather s m av below meth cd H locs 0 0 Q (F0 m 3 ls []) := by
    intro n3
    induction n3 with
    | zero =>
      intro x1 x2 x3 x4 x5 c H locs ls hf hP hD hS hl
      rw [f_X0_gather_3] at hf
      cases hf
    | succ n3 ih3 =>
      intro x1 x2 x3 x4 x5 c H locs ls hf hP hD hS hl
      rw [f_X0_gather_3] at hf
      refine lv_iload (pc := 3) hx hb dX0_gather_3 (lv_at hl 5 rfl) ?_
      refine lv_iconst (pc := 5) (v := (5 : Int32)) hx hb dX0_gather_5 (by decide) ?_
      refine lv_icmp_ge (pc := 6) (tgt := 23) hx hb dX0_gather_6 (by decide) (fun h5 => ?_) (fun h5 => ?_)
      · have hf := br_y h5 hf
        refine lv_iconst (pc := 23) (v := (0 : Int32)) hx hb dX0_gather_23 (by decide) ?_
        refine lv_istore (pc := 24) (lv' := [(5, .int (0 : Int32)), (0, .ref (A 0)), (1, .int x1), (2, .int x2), (3, .int x3), (4, .int x4)]) hx hb dX0_gather_24 hl (by decide) rfl (fun ls hl => ?_)
        exact l_26 FU _ _ _ _ _ _ H locs ls hf hP hD hS (lv_sub hl [1, 2, 3, 4, 5, 0] rfl)
      · have hf := br_n h5 hf
        refine lv_aload_n (pc := 9) hx hb dX0_gather_9 rfl (lv_at hl 0 rfl) ?_
        refine wget (pc := 10) X (fun _ h9 => List.mem_cons_of_mem _ (List.mem_append_right _ h9)) hP 0 (at_Ch_0 G A c) rfl 13 (by decide) (List.mem_cons_of_mem _ (List.mem_append_left _ (List.mem_of_getElem? (i := 0) rfl))) rfl (v := .ref (A 9)) rfl dX0_gather_10 ?_
        refine lv_iload (pc := 13) hx hb dX0_gather_13 (lv_at hl 5 rfl) ?_
        refine lv_iconst (pc := 15) (v := (0 : Int32)) hx hb dX0_gather_15 (by decide) ?_
        obtain ⟨hi, hf⟩ := ck_some hf
        refine wiast (pc := 16) X hP hD hS 9 (at_Ch_9 G A c) hi rfl (sa_Ch_9 G A c _) dX0_gather_16 (fun H locs hP hD hS => ?_)
        have hP : va_P G.1 vwCl (w_Ch G A (cset c 13 x5.toNatClampNeg (0 : Int32))) H := hP
        have hD : va_D B (w_Ch G A (cset c 13 x5.toNatClampNeg (0 : Int32))) := hD
        refine lv_iinc (pc := 17) (v := (x5 + (1 : Int32))) (lv' := [(5, .int (x5 + (1 : Int32))), (0, .ref (A 0)), (1, .int x1), (2, .int x2), (3, .int x3), (4, .int x4)]) hx hb dX0_gather_17 hl (k := 5) rfl rfl (by decide) rfl (fun ls hl => ?_)
        refine lv_goto (pc := 20) (tgt := 3) hx hb dX0_gather_20 (by decide) ?_
        exact ih3 _ _ _ _ _ _ H locs ls hf hP hD hS (lv_sub hl [1, 2, 3, 4, 5, 0] rfl)
  unfold f_X0_gather at hf
  refine lv_iconst (pc := 0) (v := (0 : Int32)) hx hb dX0_gather_0 (by decide) ?_
  refine lv_istore (pc := 1) (lv' := [(5, .int (0 : Int32)), (0, .ref (A 0)), (1, .int x1), (2, .int x2), (3, .int x3), (4, .int x4)]) hx hb dX0_gather_1 hl (by decide) rfl (fun ls hl => ?_)
  exact l_3 FU _ _ _ _ _ _ H locs ls hf hP hD hS (lv_sub hl [1, 2, 3, 4, 5, 0] rfl)
def r_X0_isPerson : Room := { frames := 0, cells := 0, slots := 0, locals := 0 }
set_option maxHeartbeats 4000000 in
set_option maxRecDepth 100000 in
theorem c_X0_isPerson (G : GT) (l : Launch) (A : Nat → Nat) (sz : Nat) (c : CS) (x1 : Int32) (r : Int32) (hf : f_X0_isPerson c x1 = some r) : MTi l yX0_isPerson wsX0_isPerson r_X0_isPerson [.ref (A 0), .int x1] G (w_Ch G A c) (w_Ch G A c) sz r := by
  refine MTz.of (cc := cX0_isPerson) (maxL := 2) (by decide +kernel) rfl (Nat.le_of_ble_eq_true rfl) (fun p e s m av below meth cd Q B H locs ls X hret hl hP hD hS => ?_)
  have hx := X.1.1
  have hb := X.1.2.1
  have hl : lv_has ls 2 [(0, .ref (A 0)), (1, .int x1)] := hl
  have b_17 : ∀ (t0 : Int32) (H : Heap) (locs : List Loc) (ls : Array Slot), f_X0_isPerson_17 t0 c = some r → va_P G.1 vwCl (w_Ch G A c) H → va_D B (w_Ch G A c) → va_S B s.heap H locs → lv_has ls 2 [] → W p l e r_X0_isPerson s m av below meth cd H locs 0 0 Q (F0 m 17 ls [.int t0]) := by
    intro t0 H locs ls hf hP hD hS hl
    unfold f_X0_isPerson_17 at hf
    obtain ⟨hz, hf⟩ := ck_some hf
    cases hf
    exact hret _ _ _ _ (isb_or hz) dX0_isPerson_17 hP hD hS
  have b_16 : ∀  (H : Heap) (locs : List Loc) (ls : Array Slot), f_X0_isPerson_16 c = some r → va_P G.1 vwCl (w_Ch G A c) H → va_D B (w_Ch G A c) → va_S B s.heap H locs → lv_has ls 2 [] → W p l e r_X0_isPerson s m av below meth cd H locs 0 0 Q (F0 m 16 ls []) := by
    intro  H locs ls hf hP hD hS hl
    unfold f_X0_isPerson_16 at hf
    refine lv_iconst (pc := 16) (v := (0 : Int32)) hx hb dX0_isPerson_16 (by decide) ?_
    exact b_17 _ H locs ls hf hP hD hS (lv_sub hl [] rfl)
  unfold f_X0_isPerson at hf
  refine lv_iload_n (pc := 0) hx hb dX0_isPerson_0 rfl (lv_at hl 1 rfl) ?_
  refine lv_if_lt (pc := 1) (tgt := 16) hx hb dX0_isPerson_1 (by decide) (fun h2 => ?_) (fun h2 => ?_)
  · have hf := br_y h2 hf
    exact b_16  H locs ls hf hP hD hS (lv_sub hl [] rfl)
  · have hf := br_n h2 hf
    refine lv_iload_n (pc := 4) hx hb dX0_isPerson_4 rfl (lv_at hl 1 rfl) ?_
    refine lv_aload_n (pc := 5) hx hb dX0_isPerson_5 rfl (lv_at hl 0 rfl) ?_
    refine wget (pc := 6) X (fun _ h9 => List.mem_cons_of_mem _ (List.mem_append_right _ h9)) hP 0 (at_Ch_0 G A c) rfl 0 (by decide) (List.mem_cons_of_mem _ (List.mem_append_left _ (List.mem_of_getElem? (i := 0) rfl))) rfl (v := .int (c 0 0)) rfl dX0_isPerson_6 ?_
    refine lv_icmp_ge (pc := 9) (tgt := 16) hx hb dX0_isPerson_9 (by decide) (fun h1 => ?_) (fun h1 => ?_)
    · have hf := br_y h1 hf
      exact b_16  H locs ls hf hP hD hS (lv_sub hl [] rfl)
    · have hf := br_n h1 hf
      refine lv_iconst (pc := 12) (v := (1 : Int32)) hx hb dX0_isPerson_12 (by decide) ?_
      refine lv_goto (pc := 13) (tgt := 17) hx hb dX0_isPerson_13 (by decide) ?_
      exact b_17 _ H locs ls hf hP hD hS (lv_sub hl [] rfl)
def r_X0_isReached : Room := { frames := 1, cells := 0, slots := 0, locals := 21 }
set_option maxHeartbeats 4000000 in
set_option maxRecDepth 100000 in
theorem c_X0_isReached (G : GT) (l : Launch) (A : Nat → Nat) (sz : Nat) (c : CS) (x1 : Int32) (x2 : Int32) (x3 : Int32) (r : Int32) (hf : f_X0_isReached c x1 x2 x3 = some r) : MTi l yX0_isReached wsX0_isReached r_X0_isReached [.ref (A 0), .int x1, .int x2, .int x3] G (w_Ch G A c) (w_Ch G A c) sz r := by
  refine MTz.of (cc := cX0_isReached) (maxL := 4) (by decide +kernel) rfl (Nat.le_of_ble_eq_true rfl) (fun p e s m av below meth cd Q B H locs ls X hret hl hP hD hS => ?_)
  have hx := X.1.1
  have hb := X.1.2.1
  have hl : lv_has ls 4 [(0, .ref (A 0)), (1, .int x1), (2, .int x2), (3, .int x3)] := hl
  have b_32 : ∀ (t0 : Int32) (H : Heap) (locs : List Loc) (ls : Array Slot), f_X0_isReached_32 t0 c = some r → va_P G.1 vwCl (w_Ch G A c) H → va_D B (w_Ch G A c) → va_S B s.heap H locs → lv_has ls 4 [] → W p l e r_X0_isReached s m av below meth cd H locs 0 0 Q (F0 m 32 ls [.int t0]) := by
    intro t0 H locs ls hf hP hD hS hl
    unfold f_X0_isReached_32 at hf
    obtain ⟨hz, hf⟩ := ck_some hf
    cases hf
    exact hret _ _ _ _ (isb_or hz) dX0_isReached_32 hP hD hS
  have b_31 : ∀  (H : Heap) (locs : List Loc) (ls : Array Slot), f_X0_isReached_31 c = some r → va_P G.1 vwCl (w_Ch G A c) H → va_D B (w_Ch G A c) → va_S B s.heap H locs → lv_has ls 4 [] → W p l e r_X0_isReached s m av below meth cd H locs 0 0 Q (F0 m 31 ls []) := by
    intro  H locs ls hf hP hD hS hl
    unfold f_X0_isReached_31 at hf
    refine lv_iconst (pc := 31) (v := (0 : Int32)) hx hb dX0_isReached_31 (by decide) ?_
    exact b_32 _ H locs ls hf hP hD hS (lv_sub hl [] rfl)
  unfold f_X0_isReached at hf
  refine lv_iload_n (pc := 0) hx hb dX0_isReached_0 rfl (lv_at hl 1 rfl) ?_
  obtain ⟨r1, hc1, hf⟩ := ob1_some hf
  refine endi X.2.2.2.2 (runN (pc := 1) (As := [.int x1]) (rest := []) X (c_X5_isTown G l  H.size x1 r1 hc1) gX0_isReached_X5_isTown_n120 k_X5_isTown (List.mem_of_getElem? (i := 5) rfl) (List.mem_cons_of_mem _ (List.mem_append_left _ (List.mem_of_getElem? (i := 1) rfl))) (List.mem_cons_of_mem _ (List.mem_append_left _ (List.mem_of_getElem? (i := 0) rfl))) ⟨rfl, rfl⟩ ⟨Nat.le_of_ble_eq_true rfl, Nat.le_of_ble_eq_true rfl⟩ (EM.nil (w_Ch G A c)) hP hD hS rfl hl.1 rfl (Nat.le_of_ble_eq_true rfl) ⟨Nat.zero_le _, Nat.zero_le _⟩ dX0_isReached_1) (EM.nil (w_Ch G A c)) hP hD hS (fun H locs hP hD hS => ?_)
  refine lv_if_eq (pc := 4) (tgt := 31) hx hb dX0_isReached_4 (by decide) (fun h4 => ?_) (fun h4 => ?_)
  · have hf := br_y h4 hf
    exact b_31  H locs ls hf hP hD hS (lv_sub hl [] rfl)
  · have hf := br_n h4 hf
    refine lv_iload_n (pc := 7) hx hb dX0_isReached_7 rfl (lv_at hl 2 rfl) ?_
    obtain ⟨r2, hc2, hf⟩ := ob1_some hf
    refine endi X.2.2.2.2 (runN (pc := 8) (As := [.int x2]) (rest := []) X (c_X5_isDay G l  H.size x2 r2 hc2) gX0_isReached_X5_isDay_n123 k_X5_isDay (List.mem_of_getElem? (i := 6) rfl) (List.mem_cons_of_mem _ (List.mem_append_left _ (List.mem_of_getElem? (i := 1) rfl))) (List.mem_cons_of_mem _ (List.mem_append_left _ (List.mem_of_getElem? (i := 3) rfl))) ⟨rfl, rfl⟩ ⟨Nat.le_of_ble_eq_true rfl, Nat.le_of_ble_eq_true rfl⟩ (EM.nil (w_Ch G A c)) hP hD hS rfl hl.1 rfl (Nat.le_of_ble_eq_true rfl) ⟨Nat.zero_le _, Nat.zero_le _⟩ dX0_isReached_8) (EM.nil (w_Ch G A c)) hP hD hS (fun H locs hP hD hS => ?_)
    refine lv_if_eq (pc := 11) (tgt := 31) hx hb dX0_isReached_11 (by decide) (fun h3 => ?_) (fun h3 => ?_)
    · have hf := br_y h3 hf
      exact b_31  H locs ls hf hP hD hS (lv_sub hl [] rfl)
    · have hf := br_n h3 hf
      refine lv_iload_n (pc := 14) hx hb dX0_isReached_14 rfl (lv_at hl 2 rfl) ?_
      refine lv_iload_n (pc := 15) hx hb dX0_isReached_15 rfl (lv_at hl 1 rfl) ?_
      refine lv_icmp_lt (pc := 16) (tgt := 31) hx hb dX0_isReached_16 (by decide) (fun h2 => ?_) (fun h2 => ?_)
      · have hf := br_y h2 hf
        exact b_31  H locs ls hf hP hD hS (lv_sub hl [] rfl)
      · have hf := br_n h2 hf
        refine lv_aload_n (pc := 19) hx hb dX0_isReached_19 rfl (lv_at hl 0 rfl) ?_
        refine lv_iload_n (pc := 20) hx hb dX0_isReached_20 rfl (lv_at hl 3 rfl) ?_
        obtain ⟨r3, hc3, hf⟩ := ob1_some hf
        refine endi X.2.2.2.2 (runV (pc := 21) (As := [.int x3]) (rest := []) X (c_X0_isPerson G l A H.size c x3 r3 hc3) gX0_isReached_X0_isPerson k_X0_isPerson ⟨rfl, rfl⟩ ⟨Nat.le_of_ble_eq_true rfl, Nat.le_of_ble_eq_true rfl⟩ (EM.all (w_Ch G A c) (w_Ch G A c)) hP hD hS (ci := 0) rfl rfl (at_Ch_0 G A c) rfl hl.1 rfl (Nat.le_of_ble_eq_true rfl) ⟨Nat.zero_le _, Nat.zero_le _⟩ dX0_isReached_21) (EM.all (w_Ch G A c) (w_Ch G A c)) hP hD hS (fun H locs hP hD hS => ?_)
        refine lv_if_eq (pc := 24) (tgt := 31) hx hb dX0_isReached_24 (by decide) (fun h1 => ?_) (fun h1 => ?_)
        · have hf := br_y h1 hf
          exact b_31  H locs ls hf hP hD hS (lv_sub hl [] rfl)
        · have hf := br_n h1 hf
          refine lv_iconst (pc := 27) (v := (1 : Int32)) hx hb dX0_isReached_27 (by decide) ?_
          refine lv_goto (pc := 28) (tgt := 32) hx hb dX0_isReached_28 (by decide) ?_
          exact b_32 _ H locs ls hf hP hD hS (lv_sub hl [] rfl)
def r_X0_doneIf : Room := { frames := 2, cells := 0, slots := 0, locals := 52 }
set_option maxHeartbeats 4000000 in
set_option maxRecDepth 100000 in
theorem c_X0_doneIf (G : GT) (l : Launch) (A : Nat → Nat) (sz : Nat) (c : CS) (x1 : Int32) (x2 : Int32) (x3 : Int32) (x4 : Int32) (r : Int32) (c' : CS) (hf : f_X0_doneIf c x1 x2 x3 x4 = some (r, c')) : MTi l yX0_doneIf wsX0_doneIf r_X0_doneIf [.ref (A 0), .int x1, .int x2, .int x3, .int x4] G (w_Ch G A c) (w_Ch G A c') sz r := by
  refine MTi.of (cc := cX0_doneIf) (maxL := 5) (by decide +kernel) rfl (Nat.le_of_ble_eq_true rfl) (fun p e s m av below meth cd Q B H locs ls X hret hl hP hD hS => ?_)
  have hx := X.1.1
  have hb := X.1.2.1
  have hl : lv_has ls 5 [(0, .ref (A 0)), (1, .int x1), (2, .int x2), (3, .int x3), (4, .int x4)] := hl
  unfold f_X0_doneIf at hf
  refine lv_aload_n (pc := 0) hx hb dX0_doneIf_0 rfl (lv_at hl 0 rfl) ?_
  refine lv_iload_n (pc := 1) hx hb dX0_doneIf_1 rfl (lv_at hl 1 rfl) ?_
  refine lv_iload_n (pc := 2) hx hb dX0_doneIf_2 rfl (lv_at hl 2 rfl) ?_
  refine lv_iload_n (pc := 3) hx hb dX0_doneIf_3 rfl (lv_at hl 3 rfl) ?_
  obtain ⟨r1, hc1, hf⟩ := ob1_some hf
  refine endi X.2.2.2.2 (runV (pc := 4) (As := [.int x1, .int x2, .int x3]) (rest := []) X (c_X0_isReached G l A H.size c x1 x2 x3 r1 hc1) gX0_doneIf_X0_isReached k_X0_isReached ⟨rfl, rfl⟩ ⟨Nat.le_of_ble_eq_true rfl, Nat.le_of_ble_eq_true rfl⟩ (EM.all (w_Ch G A c) (w_Ch G A c)) hP hD hS (ci := 0) rfl rfl (at_Ch_0 G A c) rfl hl.1 rfl (Nat.le_of_ble_eq_true rfl) ⟨Nat.zero_le _, Nat.zero_le _⟩ dX0_doneIf_4) (EM.all (w_Ch G A c) (w_Ch G A c)) hP hD hS (fun H locs hP hD hS => ?_)
  refine lv_if_ne (pc := 7) (tgt := 13) hx hb dX0_doneIf_7 (by decide) (fun h1 => ?_) (fun h1 => ?_)
  · have hf := br_n h1 hf
    refine lv_aload_n (pc := 13) hx hb dX0_doneIf_13 rfl (lv_at hl 0 rfl) ?_
    refine lv_iload_n (pc := 14) hx hb dX0_doneIf_14 rfl (lv_at hl 1 rfl) ?_
    refine lv_iload_n (pc := 15) hx hb dX0_doneIf_15 rfl (lv_at hl 2 rfl) ?_
    refine lv_iload_n (pc := 16) hx hb dX0_doneIf_16 rfl (lv_at hl 3 rfl) ?_
    refine lv_iload (pc := 17) hx hb dX0_doneIf_17 (lv_at hl 4 rfl) ?_
    obtain ⟨c2, hc2, hf⟩ := ob1_some hf
    refine endv X.2.2.2.2 (runV (pc := 19) (As := [.int x1, .int x2, .int x3, .int x4]) (rest := []) X (c_X0_gather G l A H.size c x1 x2 x3 x4 c2 hc2) gX0_doneIf_X0_gather k_X0_gather ⟨rfl, rfl⟩ ⟨Nat.le_of_ble_eq_true rfl, Nat.le_of_ble_eq_true rfl⟩ (EM.all (w_Ch G A c) (w_Ch G A c2)) hP hD hS (ci := 0) rfl rfl (at_Ch_0 G A c) rfl hl.1 rfl (Nat.le_of_ble_eq_true rfl) ⟨Nat.zero_le _, Nat.zero_le _⟩ dX0_doneIf_19) (EM.all (w_Ch G A c) (w_Ch G A c2)) hP hD hS (fun H locs hP hD hS => ?_)
    refine lv_aload_n (pc := 22) hx hb dX0_doneIf_22 rfl (lv_at hl 0 rfl) ?_
    refine lv_iload_n (pc := 23) hx hb dX0_doneIf_23 rfl (lv_at hl 1 rfl) ?_
    refine lv_iload_n (pc := 24) hx hb dX0_doneIf_24 rfl (lv_at hl 2 rfl) ?_
    refine lv_iload_n (pc := 25) hx hb dX0_doneIf_25 rfl (lv_at hl 3 rfl) ?_
    obtain ⟨r3, hc3, hf⟩ := ob1_some hf
    refine endi X.2.2.2.2 (runV (pc := 26) (As := [.int x1, .int x2, .int x3]) (rest := []) X (c_X0_arrive G l A H.size c2 x1 x2 x3 r3 hc3) gX0_doneIf_X0_arrive k_X0_arrive ⟨rfl, rfl⟩ ⟨Nat.le_of_ble_eq_true rfl, Nat.le_of_ble_eq_true rfl⟩ (EM.all (w_Ch G A c2) (w_Ch G A c2)) hP hD hS (ci := 0) rfl rfl (at_Ch_0 G A c2) rfl hl.1 rfl (Nat.le_of_ble_eq_true rfl) ⟨Nat.zero_le _, Nat.zero_le _⟩ dX0_doneIf_26) (EM.all (w_Ch G A c2) (w_Ch G A c2)) hP hD hS (fun H locs hP hD hS => ?_)
    cases hf
    exact hret _ _ _ _ dX0_doneIf_29 hP hD hS
  · have hf := br_y h1 hf
    refine lv_bipush (pc := 10) (v := (-9 : Int32)) hx hb dX0_doneIf_10 (by decide) ?_
    cases hf
    exact hret _ _ _ _ dX0_doneIf_12 hP hD hS
def r_X0_differs : Room := { frames := 3, cells := 0, slots := 0, locals := 76 }
set_option maxHeartbeats 4000000 in
set_option maxRecDepth 100000 in
theorem c_X0_differs (G : GT) (l : Launch) (A : Nat → Nat) (sz : Nat) (c : CS) (x1 : Int32) (x2 : Int32) (x3 : Int32) (x4 : Int32) (x5 : Int32) (r : Int32) (c' : CS) (hf : f_X0_differs c x1 x2 x3 x4 x5 = some (r, c')) : MTi l yX0_differs wsX0_differs r_X0_differs [.ref (A 0), .int x1, .int x2, .int x3, .int x4, .int x5] G (w_Ch G A c) (w_Ch G A c') sz r := by
  refine MTz.of (cc := cX0_differs) (maxL := 6) (by decide +kernel) rfl (Nat.le_of_ble_eq_true rfl) (fun p e s m av below meth cd Q B H locs ls X hret hl hP hD hS => ?_)
  have hx := X.1.1
  have hb := X.1.2.1
  have hl : lv_has ls 6 [(0, .ref (A 0)), (1, .int x1), (2, .int x2), (3, .int x3), (4, .int x4), (5, .int x5)] := hl
  have b_32 : ∀ (t0 : Int32) (c : CS) (H : Heap) (locs : List Loc) (ls : Array Slot), f_X0_differs_32 t0 c = some (r, c') → va_P G.1 vwCl (w_Ch G A c) H → va_D B (w_Ch G A c) → va_S B s.heap H locs → lv_has ls 6 [] → W p l e r_X0_differs s m av below meth cd H locs 0 0 Q (F0 m 32 ls [.int t0]) := by
    intro t0 c H locs ls hf hP hD hS hl
    unfold f_X0_differs_32 at hf
    obtain ⟨hz, hf⟩ := ck_some hf
    cases hf
    exact hret _ _ _ _ (isb_or hz) dX0_differs_32 hP hD hS
  unfold f_X0_differs at hf
  refine lv_aload_n (pc := 0) hx hb dX0_differs_0 rfl (lv_at hl 0 rfl) ?_
  refine lv_iload_n (pc := 1) hx hb dX0_differs_1 rfl (lv_at hl 2 rfl) ?_
  refine lv_iload_n (pc := 2) hx hb dX0_differs_2 rfl (lv_at hl 3 rfl) ?_
  refine lv_iload (pc := 3) hx hb dX0_differs_3 (lv_at hl 4 rfl) ?_
  refine lv_iload (pc := 5) hx hb dX0_differs_5 (lv_at hl 5 rfl) ?_
  obtain ⟨r1, c1, hc1, hf⟩ := ob2_some hf
  refine endi X.2.2.2.2 (runV (pc := 7) (As := [.int x2, .int x3, .int x4, .int x5]) (rest := []) X (c_X0_doneIf G l A H.size c x2 x3 x4 x5 r1 c1 hc1) gX0_differs_X0_doneIf k_X0_doneIf ⟨rfl, rfl⟩ ⟨Nat.le_of_ble_eq_true rfl, Nat.le_of_ble_eq_true rfl⟩ (EM.all (w_Ch G A c) (w_Ch G A c1)) hP hD hS (ci := 0) rfl rfl (at_Ch_0 G A c) rfl hl.1 rfl (Nat.le_of_ble_eq_true rfl) ⟨Nat.zero_le _, Nat.zero_le _⟩ dX0_differs_7) (EM.all (w_Ch G A c) (w_Ch G A c1)) hP hD hS (fun H locs hP hD hS => ?_)
  refine lv_aload_n (pc := 10) hx hb dX0_differs_10 rfl (lv_at hl 0 rfl) ?_
  refine lv_iload_n (pc := 11) hx hb dX0_differs_11 rfl (lv_at hl 1 rfl) ?_
  refine lv_iload_n (pc := 12) hx hb dX0_differs_12 rfl (lv_at hl 3 rfl) ?_
  refine lv_iload_n (pc := 13) hx hb dX0_differs_13 rfl (lv_at hl 2 rfl) ?_
  refine lv_iload_n (pc := 14) hx hb dX0_differs_14 rfl (lv_at hl 1 rfl) ?_
  refine lv_isub (pc := 15) hx hb dX0_differs_15 ?_
  refine lv_isub (pc := 16) hx hb dX0_differs_16 ?_
  refine lv_iload (pc := 17) hx hb dX0_differs_17 (lv_at hl 4 rfl) ?_
  refine lv_iload (pc := 19) hx hb dX0_differs_19 (lv_at hl 5 rfl) ?_
  obtain ⟨r2, c2, hc2, hf⟩ := ob2_some hf
  refine endi X.2.2.2.2 (runV (pc := 21) (As := [.int x1, .int (x3 - (x2 - x1)), .int x4, .int x5]) (rest := [.int r1]) X (c_X0_doneIf G l A H.size c1 x1 (x3 - (x2 - x1)) x4 x5 r2 c2 hc2) gX0_differs_X0_doneIf k_X0_doneIf ⟨rfl, rfl⟩ ⟨Nat.le_of_ble_eq_true rfl, Nat.le_of_ble_eq_true rfl⟩ (EM.all (w_Ch G A c1) (w_Ch G A c2)) hP hD hS (ci := 0) rfl rfl (at_Ch_0 G A c1) rfl hl.1 rfl (Nat.le_of_ble_eq_true rfl) ⟨Nat.zero_le _, Nat.zero_le _⟩ dX0_differs_21) (EM.all (w_Ch G A c1) (w_Ch G A c2)) hP hD hS (fun H locs hP hD hS => ?_)
  refine lv_icmp_eq (pc := 24) (tgt := 31) hx hb dX0_differs_24 (by decide) (fun h1 => ?_) (fun h1 => ?_)
  · have hf := br_y h1 hf
    refine lv_iconst (pc := 31) (v := (0 : Int32)) hx hb dX0_differs_31 (by decide) ?_
    exact b_32 _ _ H locs ls hf hP hD hS (lv_sub hl [] rfl)
  · have hf := br_n h1 hf
    refine lv_iconst (pc := 27) (v := (1 : Int32)) hx hb dX0_differs_27 (by decide) ?_
    refine lv_goto (pc := 28) (tgt := 32) hx hb dX0_differs_28 (by decide) ?_
    exact b_32 _ _ H locs ls hf hP hD hS (lv_sub hl [] rfl)
def r_X0_unmended : Room := { frames := 0, cells := 0, slots := 0, locals := 0 }
set_option maxHeartbeats 4000000 in
set_option maxRecDepth 100000 in
theorem c_X0_unmended (G : GT) (l : Launch) (A : Nat → Nat) (sz : Nat) (c : CS) (r : Int32) (hf : f_X0_unmended c = some r) : MTi l yX0_unmended wsX0_unmended r_X0_unmended [.ref (A 0)] G (w_Ch G A c) (w_Ch G A c) sz r := by
  refine MTi.of (cc := cX0_unmended) (maxL := 1) (by decide +kernel) rfl (Nat.le_of_ble_eq_true rfl) (fun p e s m av below meth cd Q B H locs ls X hret hl hP hD hS => ?_)
  have hx := X.1.1
  have hb := X.1.2.1
  have hl : lv_has ls 1 [(0, .ref (A 0))] := hl
  unfold f_X0_unmended at hf
  refine lv_iconst (pc := 0) (v := (1 : Int32)) hx hb dX0_unmended_0 (by decide) ?_
  refine lv_aload_n (pc := 1) hx hb dX0_unmended_1 rfl (lv_at hl 0 rfl) ?_
  refine wget (pc := 2) X (fun _ h9 => List.mem_cons_of_mem _ (List.mem_append_right _ h9)) hP 0 (at_Ch_0 G A c) rfl 1 (by decide) (List.mem_cons_of_mem _ (List.mem_append_left _ (List.mem_of_getElem? (i := 0) rfl))) rfl (v := .int (c 1 0)) rfl dX0_unmended_2 ?_
  refine lv_ishl (pc := 5) hx hb dX0_unmended_5 ?_
  refine lv_iconst (pc := 6) (v := (1 : Int32)) hx hb dX0_unmended_6 (by decide) ?_
  refine lv_isub (pc := 7) hx hb dX0_unmended_7 ?_
  refine lv_aload_n (pc := 8) hx hb dX0_unmended_8 rfl (lv_at hl 0 rfl) ?_
  refine wget (pc := 9) X (fun _ h9 => List.mem_cons_of_mem _ (List.mem_append_right _ h9)) hP 0 (at_Ch_0 G A c) rfl 2 (by decide) (List.mem_cons_of_mem _ (List.mem_append_left _ (List.mem_of_getElem? (i := 1) rfl))) rfl (v := .int (c 2 0)) rfl dX0_unmended_9 ?_
  refine lv_iconst (pc := 12) (v := (-1 : Int32)) hx hb dX0_unmended_12 (by decide) ?_
  refine lv_ixor (pc := 13) hx hb dX0_unmended_13 ?_
  refine lv_iand (pc := 14) hx hb dX0_unmended_14 ?_
  cases hf
  exact hret _ _ _ _ dX0_unmended_15 hP hD hS
def r_X0_differing : Room := { frames := 4, cells := 0, slots := 0, locals := 101 }
set_option maxHeartbeats 4000000 in
set_option maxRecDepth 100000 in
theorem c_X0_differing (G : GT) (l : Launch) (A : Nat → Nat) (sz : Nat) (c : CS) (x1 : Int32) (x2 : Int32) (x3 : Int32) (r : Int32) (c' : CS) (hf : f_X0_differing c x1 x2 x3 = some (r, c')) : MTi l yX0_differing wsX0_differing r_X0_differing [.ref (A 0), .int x1, .int x2, .int x3] G (w_Ch G A c) (w_Ch G A c') sz r := by
  refine MTi.of (cc := cX0_differing) (maxL := 6) (by decide +kernel) rfl (Nat.le_of_ble_eq_true rfl) (fun p e s m av below meth cd Q B H locs ls X hret hl hP hD hS => ?_)
  have hx := X.1.1
  have hb := X.1.2.1
  have hl : lv_has ls 6 [(0, .ref (A 0)), (1, .int x1), (2, .int x2), (3, .int x3)] := hl
  have l_6 : ∀ (n6 : Nat), ∀ (x1 : Int32) (x2 : Int32) (x3 : Int32) (x4 : Int32) (x5 : Int32) (c : CS) (H : Heap) (locs : List Loc) (ls : Array Slot), f_X0_differing_6 n6 x1 x2 x3 x4 x5 c = some (r, c') → va_P G.1 vwCl (w_Ch G A c) H → va_D B (w_Ch G A c) → va_S B s.heap H locs → lv_has ls 6 [(0, .ref (A 0)), (1, .int x1), (2, .int x2), (3, .int x3), (4, .int x4), (5, .int x5)] → W p l e r_X0_differing s m av below meth cd H locs 0 0 Q (F0 m 6 ls []) := by
    intro n6
    induction n6 with
    | zero =>
      intro x1 x2 x3 x4 x5 c H locs ls hf hP hD hS hl
      rw [f_X0_differing_6] at hf
      cases hf
    | succ n6 ih6 =>
      have b_40 : ∀ (x1 : Int32) (x2 : Int32) (x3 : Int32) (x4 : Int32) (x5 : Int32) (c : CS) (H : Heap) (locs : List Loc) (ls : Array Slot), f_X0_differing_40 (f_X0_differing_6 n6) x1 x2 x3 x4 x5 c = some (r, c') → va_P G.1 vwCl (w_Ch G A c) H → va_D B (w_Ch G A c) → va_S B s.heap H locs → lv_has ls 6 [(0, .ref (A 0)), (1, .int x1), (2, .int x2), (3, .int x3), (4, .int x4), (5, .int x5)] → W p l e r_X0_differing s m av below meth cd H locs 0 0 Q (F0 m 40 ls []) := by
        intro x1 x2 x3 x4 x5 c H locs ls hf hP hD hS hl
        unfold f_X0_differing_40 at hf
        refine lv_iinc (pc := 40) (v := (x5 + (1 : Int32))) (lv' := [(5, .int (x5 + (1 : Int32))), (0, .ref (A 0)), (1, .int x1), (2, .int x2), (3, .int x3), (4, .int x4)]) hx hb dX0_differing_40 hl (k := 5) rfl rfl (by decide) rfl (fun ls hl => ?_)
        refine lv_goto (pc := 43) (tgt := 6) hx hb dX0_differing_43 (by decide) ?_
        exact ih6 _ _ _ _ _ _ H locs ls hf hP hD hS (lv_sub hl [1, 2, 3, 4, 5, 0] rfl)
      intro x1 x2 x3 x4 x5 c H locs ls hf hP hD hS hl
      rw [f_X0_differing_6] at hf
      refine lv_iload (pc := 6) hx hb dX0_differing_6 (lv_at hl 5 rfl) ?_
      refine lv_aload_n (pc := 8) hx hb dX0_differing_8 rfl (lv_at hl 0 rfl) ?_
      refine wget (pc := 9) X (fun _ h9 => List.mem_cons_of_mem _ (List.mem_append_right _ h9)) hP 0 (at_Ch_0 G A c) rfl 0 (by decide) (List.mem_cons_of_mem _ (List.mem_append_left _ (List.mem_append_left _ (List.mem_of_getElem? (i := 0) rfl)))) rfl (v := .int (c 0 0)) rfl dX0_differing_9 ?_
      refine lv_icmp_ge (pc := 12) (tgt := 46) hx hb dX0_differing_12 (by decide) (fun h2 => ?_) (fun h2 => ?_)
      · have hf := br_y h2 hf
        refine lv_iload (pc := 46) hx hb dX0_differing_46 (lv_at hl 4 rfl) ?_
        cases hf
        exact hret _ _ _ _ dX0_differing_48 hP hD hS
      · have hf := br_n h2 hf
        refine lv_aload_n (pc := 15) hx hb dX0_differing_15 rfl (lv_at hl 0 rfl) ?_
        refine lv_iload_n (pc := 16) hx hb dX0_differing_16 rfl (lv_at hl 1 rfl) ?_
        refine lv_iload_n (pc := 17) hx hb dX0_differing_17 rfl (lv_at hl 2 rfl) ?_
        refine lv_iload_n (pc := 18) hx hb dX0_differing_18 rfl (lv_at hl 3 rfl) ?_
        refine lv_iload (pc := 19) hx hb dX0_differing_19 (lv_at hl 5 rfl) ?_
        refine lv_aload_n (pc := 21) hx hb dX0_differing_21 rfl (lv_at hl 0 rfl) ?_
        obtain ⟨r1, hc1, hf⟩ := ob1_some hf
        refine endi X.2.2.2.2 (runV (pc := 22) (As := []) (rest := [.int x5, .int x3, .int x2, .int x1, .ref (A 0)]) X (c_X0_unmended G l A H.size c r1 hc1) gX0_differing_X0_unmended k_X0_unmended ⟨rfl, rfl⟩ ⟨Nat.le_of_ble_eq_true rfl, Nat.le_of_ble_eq_true rfl⟩ (EM.all (w_Ch G A c) (w_Ch G A c)) hP hD hS (ci := 0) rfl rfl (at_Ch_0 G A c) rfl hl.1 rfl (Nat.le_of_ble_eq_true rfl) ⟨Nat.zero_le _, Nat.zero_le _⟩ dX0_differing_22) (EM.all (w_Ch G A c) (w_Ch G A c)) hP hD hS (fun H locs hP hD hS => ?_)
        obtain ⟨r2, c2, hc2, hf⟩ := ob2_some hf
        refine endi X.2.2.2.2 (runV (pc := 25) (As := [.int x1, .int x2, .int x3, .int x5, .int r1]) (rest := []) X (c_X0_differs G l A H.size c x1 x2 x3 x5 r1 r2 c2 hc2) gX0_differing_X0_differs k_X0_differs ⟨rfl, rfl⟩ ⟨Nat.le_of_ble_eq_true rfl, Nat.le_of_ble_eq_true rfl⟩ (EM.all (w_Ch G A c) (w_Ch G A c2)) hP hD hS (ci := 0) rfl rfl (at_Ch_0 G A c) rfl hl.1 rfl (Nat.le_of_ble_eq_true rfl) ⟨Nat.zero_le _, Nat.zero_le _⟩ dX0_differing_25) (EM.all (w_Ch G A c) (w_Ch G A c2)) hP hD hS (fun H locs hP hD hS => ?_)
        refine lv_if_eq (pc := 28) (tgt := 40) hx hb dX0_differing_28 (by decide) (fun h1 => ?_) (fun h1 => ?_)
        · have hf := br_y h1 hf
          exact b_40 _ _ _ _ _ _ H locs ls hf hP hD hS (lv_sub hl [0, 1, 2, 3, 4, 5] rfl)
        · have hf := br_n h1 hf
          refine lv_iload (pc := 31) hx hb dX0_differing_31 (lv_at hl 4 rfl) ?_
          refine lv_iconst (pc := 33) (v := (1 : Int32)) hx hb dX0_differing_33 (by decide) ?_
          refine lv_iload (pc := 34) hx hb dX0_differing_34 (lv_at hl 5 rfl) ?_
          refine lv_ishl (pc := 36) hx hb dX0_differing_36 ?_
          refine lv_ior (pc := 37) hx hb dX0_differing_37 ?_
          refine lv_istore (pc := 38) (lv' := [(4, .int (x4 ||| ((1 : Int32) <<< (x5 &&& 31)))), (0, .ref (A 0)), (1, .int x1), (2, .int x2), (3, .int x3), (5, .int x5)]) hx hb dX0_differing_38 hl (by decide) rfl (fun ls hl => ?_)
          exact b_40 _ _ _ _ _ _ H locs ls hf hP hD hS (lv_sub hl [1, 2, 3, 4, 0, 5] rfl)
  unfold f_X0_differing at hf
  refine lv_iconst (pc := 0) (v := (0 : Int32)) hx hb dX0_differing_0 (by decide) ?_
  refine lv_istore (pc := 1) (lv' := [(4, .int (0 : Int32)), (0, .ref (A 0)), (1, .int x1), (2, .int x2), (3, .int x3)]) hx hb dX0_differing_1 hl (by decide) rfl (fun ls hl => ?_)
  refine lv_iconst (pc := 3) (v := (0 : Int32)) hx hb dX0_differing_3 (by decide) ?_
  refine lv_istore (pc := 4) (lv' := [(5, .int (0 : Int32)), (4, .int (0 : Int32)), (0, .ref (A 0)), (1, .int x1), (2, .int x2), (3, .int x3)]) hx hb dX0_differing_4 hl (by decide) rfl (fun ls hl => ?_)
  exact l_6 FU _ _ _ _ _ _ H locs ls hf hP hD hS (lv_sub hl [2, 3, 4, 5, 1, 0] rfl)
def r_X0_isError : Room := { frames := 0, cells := 0, slots := 0, locals := 0 }
set_option maxHeartbeats 4000000 in
set_option maxRecDepth 100000 in
theorem c_X0_isError (G : GT) (l : Launch) (A : Nat → Nat) (sz : Nat) (c : CS) (x1 : Int32) (r : Int32) (hf : f_X0_isError c x1 = some r) : MTi l yX0_isError wsX0_isError r_X0_isError [.ref (A 0), .int x1] G (w_Ch G A c) (w_Ch G A c) sz r := by
  refine MTz.of (cc := cX0_isError) (maxL := 2) (by decide +kernel) rfl (Nat.le_of_ble_eq_true rfl) (fun p e s m av below meth cd Q B H locs ls X hret hl hP hD hS => ?_)
  have hx := X.1.1
  have hb := X.1.2.1
  have hl : lv_has ls 2 [(0, .ref (A 0)), (1, .int x1)] := hl
  have b_17 : ∀ (t0 : Int32) (H : Heap) (locs : List Loc) (ls : Array Slot), f_X0_isError_17 t0 c = some r → va_P G.1 vwCl (w_Ch G A c) H → va_D B (w_Ch G A c) → va_S B s.heap H locs → lv_has ls 2 [] → W p l e r_X0_isError s m av below meth cd H locs 0 0 Q (F0 m 17 ls [.int t0]) := by
    intro t0 H locs ls hf hP hD hS hl
    unfold f_X0_isError_17 at hf
    obtain ⟨hz, hf⟩ := ck_some hf
    cases hf
    exact hret _ _ _ _ (isb_or hz) dX0_isError_17 hP hD hS
  have b_16 : ∀  (H : Heap) (locs : List Loc) (ls : Array Slot), f_X0_isError_16 c = some r → va_P G.1 vwCl (w_Ch G A c) H → va_D B (w_Ch G A c) → va_S B s.heap H locs → lv_has ls 2 [] → W p l e r_X0_isError s m av below meth cd H locs 0 0 Q (F0 m 16 ls []) := by
    intro  H locs ls hf hP hD hS hl
    unfold f_X0_isError_16 at hf
    refine lv_iconst (pc := 16) (v := (0 : Int32)) hx hb dX0_isError_16 (by decide) ?_
    exact b_17 _ H locs ls hf hP hD hS (lv_sub hl [] rfl)
  unfold f_X0_isError at hf
  refine lv_iload_n (pc := 0) hx hb dX0_isError_0 rfl (lv_at hl 1 rfl) ?_
  refine lv_if_lt (pc := 1) (tgt := 16) hx hb dX0_isError_1 (by decide) (fun h2 => ?_) (fun h2 => ?_)
  · have hf := br_y h2 hf
    exact b_16  H locs ls hf hP hD hS (lv_sub hl [] rfl)
  · have hf := br_n h2 hf
    refine lv_iload_n (pc := 4) hx hb dX0_isError_4 rfl (lv_at hl 1 rfl) ?_
    refine lv_aload_n (pc := 5) hx hb dX0_isError_5 rfl (lv_at hl 0 rfl) ?_
    refine wget (pc := 6) X (fun _ h9 => List.mem_cons_of_mem _ (List.mem_append_right _ h9)) hP 0 (at_Ch_0 G A c) rfl 1 (by decide) (List.mem_cons_of_mem _ (List.mem_append_left _ (List.mem_of_getElem? (i := 0) rfl))) rfl (v := .int (c 1 0)) rfl dX0_isError_6 ?_
    refine lv_icmp_ge (pc := 9) (tgt := 16) hx hb dX0_isError_9 (by decide) (fun h1 => ?_) (fun h1 => ?_)
    · have hf := br_y h1 hf
      exact b_16  H locs ls hf hP hD hS (lv_sub hl [] rfl)
    · have hf := br_n h1 hf
      refine lv_iconst (pc := 12) (v := (1 : Int32)) hx hb dX0_isError_12 (by decide) ?_
      refine lv_goto (pc := 13) (tgt := 17) hx hb dX0_isError_13 (by decide) ?_
      exact b_17 _ H locs ls hf hP hD hS (lv_sub hl [] rfl)
