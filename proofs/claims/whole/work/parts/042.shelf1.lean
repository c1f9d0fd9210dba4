def r_X3_copyRun_t : Room := { frames := 3, cells := 0, slots := 0, locals := 65 }
set_option maxHeartbeats 4000000 in
set_option maxRecDepth 100000 in
theorem c_X3_copyRun_t (G : GT) (l : Launch) (A : Nat → Nat) (sz : Nat) (b : CS) (x1 : Int32) (x2 : Int32) (x3 : Int32) (x4 : Int32) (x5 : Int32) (b' : CS) (hf : f_X3_copyRun_t b x1 x2 x3 x4 x5 = some b') : MTv l yX3_copyRun wsX3_copyRun r_X3_copyRun_t [.ref (A 0), .int x1, .int x2, .int x3, .int x4, .int x5] G (w_S4 G A b) (w_S4 G A b') sz := by
  refine MTv.of (cc := cX3_copyRun) (maxL := 6) (by decide +kernel) rfl (Nat.le_of_ble_eq_true rfl) (fun p e s m av below meth cd Q B H locs ls X hret hl hP hD hS => ?_)
  have hx := X.1.1
  have hb := X.1.2.1
  have hl : lv_has ls 6 [(0, .ref (A 0)), (1, .int x1), (2, .int x2), (3, .int x3), (4, .int x4), (5, .int x5)] := hl
  have b_43 : ∀ (b : CS) (H : Heap) (locs : List Loc) (ls : Array Slot), f_X3_copyRun_t_43 b = some b' → va_P G.1 vwCl (w_S4 G A b) H → va_D B (w_S4 G A b) → va_S B s.heap H locs → lv_has ls 6 [] → W p l e r_X3_copyRun_t s m av below meth cd H locs 0 0 Q (F0 m 43 ls []) := by
    intro b H locs ls hf hP hD hS hl
    unfold f_X3_copyRun_t_43 at hf
    cases hf
    exact hret _ _ _ _ dX3_copyRun_43 hP hD hS
  unfold f_X3_copyRun_t at hf
  refine lv_aload_n (pc := 0) hx hb dX3_copyRun_0 rfl (lv_at hl 0 rfl) ?_
  refine lv_iload_n (pc := 1) hx hb dX3_copyRun_1 rfl (lv_at hl 1 rfl) ?_
  refine lv_iload_n (pc := 2) hx hb dX3_copyRun_2 rfl (lv_at hl 2 rfl) ?_
  refine lv_iload (pc := 3) hx hb dX3_copyRun_3 (lv_at hl 5 rfl) ?_
  obtain ⟨r1, hc1, hf⟩ := ob1_some hf
  refine endi X.2.2.2.2 (runV (pc := 5) (As := [.int x1, .int x2, .int x5]) (rest := []) X (c_X3_holdsRun_t G l A H.size b x1 x2 x5 r1 hc1) gX3_copyRun_X3_holdsRun k_X3_holdsRun ⟨rfl, rfl⟩ ⟨Nat.le_of_ble_eq_true rfl, Nat.le_of_ble_eq_true rfl⟩ (EM.all (w_S4 G A b) (w_S4 G A b)) hP hD hS (ci := 3) rfl rfl (at_S4_0 G A b) rfl hl.1 rfl (Nat.le_of_ble_eq_true rfl) ⟨Nat.zero_le _, Nat.zero_le _⟩ dX3_copyRun_5) (EM.all (w_S4 G A b) (w_S4 G A b)) hP hD hS (fun H locs hP hD hS => ?_)
  refine lv_if_eq (pc := 8) (tgt := 43) hx hb dX3_copyRun_8 (by decide) (fun h2 => ?_) (fun h2 => ?_)
  · have hf := br_y h2 hf
    exact b_43 _ H locs ls hf hP hD hS (lv_sub hl [] rfl)
  · have hf := br_n h2 hf
    refine lv_aload_n (pc := 11) hx hb dX3_copyRun_11 rfl (lv_at hl 0 rfl) ?_
    refine lv_iload_n (pc := 12) hx hb dX3_copyRun_12 rfl (lv_at hl 3 rfl) ?_
    refine lv_iload (pc := 13) hx hb dX3_copyRun_13 (lv_at hl 4 rfl) ?_
    refine lv_iload (pc := 15) hx hb dX3_copyRun_15 (lv_at hl 5 rfl) ?_
    obtain ⟨r2, hc2, hf⟩ := ob1_some hf
    refine endi X.2.2.2.2 (runV (pc := 17) (As := [.int x3, .int x4, .int x5]) (rest := []) X (c_X3_holdsRun_t G l A H.size b x3 x4 x5 r2 hc2) gX3_copyRun_X3_holdsRun k_X3_holdsRun ⟨rfl, rfl⟩ ⟨Nat.le_of_ble_eq_true rfl, Nat.le_of_ble_eq_true rfl⟩ (EM.all (w_S4 G A b) (w_S4 G A b)) hP hD hS (ci := 3) rfl rfl (at_S4_0 G A b) rfl hl.1 rfl (Nat.le_of_ble_eq_true rfl) ⟨Nat.zero_le _, Nat.zero_le _⟩ dX3_copyRun_17) (EM.all (w_S4 G A b) (w_S4 G A b)) hP hD hS (fun H locs hP hD hS => ?_)
    refine lv_if_eq (pc := 20) (tgt := 43) hx hb dX3_copyRun_20 (by decide) (fun h1 => ?_) (fun h1 => ?_)
    · have hf := br_y h1 hf
      exact b_43 _ H locs ls hf hP hD hS (lv_sub hl [] rfl)
    · have hf := br_n h1 hf
      refine lv_aload_n (pc := 23) hx hb dX3_copyRun_23 rfl (lv_at hl 0 rfl) ?_
      refine wget (pc := 24) X (fun _ h9 => List.mem_cons_of_mem _ (List.mem_append_right _ h9)) hP 0 (at_S4_0 G A b) rfl 0 (by decide) (List.mem_cons_of_mem _ (List.mem_append_left _ (List.mem_of_getElem? (i := 0) rfl))) rfl (v := .ref (A 1)) rfl dX3_copyRun_24 ?_
      refine lv_iload_n (pc := 27) hx hb dX3_copyRun_27 rfl (lv_at hl 1 rfl) ?_
      obtain ⟨hi, hf⟩ := ck_some hf
      refine waaldI (pc := 28) X hP 1 (at_S4_1 G A b) hi (B := fun i => A (3 + i)) (fun i h => by rcases (show i = 0 ∨ i = 1 ∨ i = 2 ∨ i = 3 by omega) with rfl | rfl | rfl | rfl <;> rfl) dX3_copyRun_28 ?_
      have hj := inb_lt hi
      generalize x1.toNatClampNeg = jj at hf hj ⊢
      rcases (show jj = 0 ∨ jj = 1 ∨ jj = 2 ∨ jj = 3 by omega) with rfl | rfl | rfl | rfl
      · refine lv_iload_n (pc := 29) hx hb dX3_copyRun_29 rfl (lv_at hl 2 rfl) ?_
        refine lv_aload_n (pc := 30) hx hb dX3_copyRun_30 rfl (lv_at hl 0 rfl) ?_
        refine wget (pc := 31) X (fun _ h9 => List.mem_cons_of_mem _ (List.mem_append_right _ h9)) hP 0 (at_S4_0 G A b) rfl 0 (by decide) (List.mem_cons_of_mem _ (List.mem_append_left _ (List.mem_of_getElem? (i := 0) rfl))) rfl (v := .ref (A 1)) rfl dX3_copyRun_31 ?_
        refine lv_iload_n (pc := 34) hx hb dX3_copyRun_34 rfl (lv_at hl 3 rfl) ?_
        obtain ⟨hi, hf⟩ := ck_some hf
        refine waaldI (pc := 35) X hP 1 (at_S4_1 G A b) hi (B := fun i => A (3 + i)) (fun i h => by rcases (show i = 0 ∨ i = 1 ∨ i = 2 ∨ i = 3 by omega) with rfl | rfl | rfl | rfl <;> rfl) dX3_copyRun_35 ?_
        have hj := inb_lt hi
        generalize x3.toNatClampNeg = jj at hf hj ⊢
        rcases (show jj = 0 ∨ jj = 1 ∨ jj = 2 ∨ jj = 3 by omega) with rfl | rfl | rfl | rfl
        · refine lv_iload (pc := 36) hx hb dX3_copyRun_36 (lv_at hl 4 rfl) ?_
          refine lv_iload (pc := 38) hx hb dX3_copyRun_38 (lv_at hl 5 rfl) ?_
          obtain ⟨hc0, hf⟩ := ck_some hf
          obtain ⟨hc1, hf⟩ := ck_some hf
          refine wcopy (pc := 40) X hl.1 (List.mem_cons_of_mem _ (List.mem_append_left _ (List.mem_of_getElem? (i := 1) rfl))) (List.mem_cons_of_mem _ (List.mem_append_left _ (List.mem_of_getElem? (i := 2) rfl))) (List.mem_cons_of_mem _ (List.mem_append_left _ (List.mem_of_getElem? (i := 3) rfl))) (List.mem_cons_of_mem _ (List.mem_append_left _ (List.mem_of_getElem? (i := 4) rfl))) hP hD hS 3 3 (at_S4_3 G A b) (at_S4_3 G A b) hc0 hc1 (Nat.le_of_ble_eq_true rfl) (Nat.le_of_ble_eq_true rfl) (sa_S4_3 G A b _) dX3_copyRun_40 (fun H locs hP hD hS => ?_)
          have hP : va_P G.1 vwCl (w_S4 G A (csetA b 0 (va_cpy (b 0) (b 0) x2.toNatClampNeg x4.toNatClampNeg x5.toNatClampNeg))) H := hP
          have hD : va_D B (w_S4 G A (csetA b 0 (va_cpy (b 0) (b 0) x2.toNatClampNeg x4.toNatClampNeg x5.toNatClampNeg))) := hD
          exact b_43 _ H locs ls hf hP hD hS (lv_sub hl [] rfl)
        · refine lv_iload (pc := 36) hx hb dX3_copyRun_36 (lv_at hl 4 rfl) ?_
          refine lv_iload (pc := 38) hx hb dX3_copyRun_38 (lv_at hl 5 rfl) ?_
          obtain ⟨hc0, hf⟩ := ck_some hf
          obtain ⟨hc1, hf⟩ := ck_some hf
          refine wcopy (pc := 40) X hl.1 (List.mem_cons_of_mem _ (List.mem_append_left _ (List.mem_of_getElem? (i := 1) rfl))) (List.mem_cons_of_mem _ (List.mem_append_left _ (List.mem_of_getElem? (i := 2) rfl))) (List.mem_cons_of_mem _ (List.mem_append_left _ (List.mem_of_getElem? (i := 3) rfl))) (List.mem_cons_of_mem _ (List.mem_append_left _ (List.mem_of_getElem? (i := 4) rfl))) hP hD hS 3 4 (at_S4_3 G A b) (at_S4_4 G A b) hc0 hc1 (Nat.le_of_ble_eq_true rfl) (Nat.le_of_ble_eq_true rfl) (sa_S4_4 G A b _) dX3_copyRun_40 (fun H locs hP hD hS => ?_)
          have hP : va_P G.1 vwCl (w_S4 G A (csetA b 1 (va_cpy (b 0) (b 1) x2.toNatClampNeg x4.toNatClampNeg x5.toNatClampNeg))) H := hP
          have hD : va_D B (w_S4 G A (csetA b 1 (va_cpy (b 0) (b 1) x2.toNatClampNeg x4.toNatClampNeg x5.toNatClampNeg))) := hD
          exact b_43 _ H locs ls hf hP hD hS (lv_sub hl [] rfl)
        · refine lv_iload (pc := 36) hx hb dX3_copyRun_36 (lv_at hl 4 rfl) ?_
          refine lv_iload (pc := 38) hx hb dX3_copyRun_38 (lv_at hl 5 rfl) ?_
          obtain ⟨hc0, hf⟩ := ck_some hf
          obtain ⟨hc1, hf⟩ := ck_some hf
          refine wcopy (pc := 40) X hl.1 (List.mem_cons_of_mem _ (List.mem_append_left _ (List.mem_of_getElem? (i := 1) rfl))) (List.mem_cons_of_mem _ (List.mem_append_left _ (List.mem_of_getElem? (i := 2) rfl))) (List.mem_cons_of_mem _ (List.mem_append_left _ (List.mem_of_getElem? (i := 3) rfl))) (List.mem_cons_of_mem _ (List.mem_append_left _ (List.mem_of_getElem? (i := 4) rfl))) hP hD hS 3 5 (at_S4_3 G A b) (at_S4_5 G A b) hc0 hc1 (Nat.le_of_ble_eq_true rfl) (Nat.le_of_ble_eq_true rfl) (sa_S4_5 G A b _) dX3_copyRun_40 (fun H locs hP hD hS => ?_)
          have hP : va_P G.1 vwCl (w_S4 G A (csetA b 2 (va_cpy (b 0) (b 2) x2.toNatClampNeg x4.toNatClampNeg x5.toNatClampNeg))) H := hP
          have hD : va_D B (w_S4 G A (csetA b 2 (va_cpy (b 0) (b 2) x2.toNatClampNeg x4.toNatClampNeg x5.toNatClampNeg))) := hD
          exact b_43 _ H locs ls hf hP hD hS (lv_sub hl [] rfl)
        · refine lv_iload (pc := 36) hx hb dX3_copyRun_36 (lv_at hl 4 rfl) ?_
          refine lv_iload (pc := 38) hx hb dX3_copyRun_38 (lv_at hl 5 rfl) ?_
          obtain ⟨hc0, hf⟩ := ck_some hf
          obtain ⟨hc1, hf⟩ := ck_some hf
          refine wcopy (pc := 40) X hl.1 (List.mem_cons_of_mem _ (List.mem_append_left _ (List.mem_of_getElem? (i := 1) rfl))) (List.mem_cons_of_mem _ (List.mem_append_left _ (List.mem_of_getElem? (i := 2) rfl))) (List.mem_cons_of_mem _ (List.mem_append_left _ (List.mem_of_getElem? (i := 3) rfl))) (List.mem_cons_of_mem _ (List.mem_append_left _ (List.mem_of_getElem? (i := 4) rfl))) hP hD hS 3 6 (at_S4_3 G A b) (at_S4_6 G A b) hc0 hc1 (Nat.le_of_ble_eq_true rfl) (Nat.le_of_ble_eq_true rfl) (sa_S4_6 G A b _) dX3_copyRun_40 (fun H locs hP hD hS => ?_)
          have hP : va_P G.1 vwCl (w_S4 G A (csetA b 3 (va_cpy (b 0) (b 3) x2.toNatClampNeg x4.toNatClampNeg x5.toNatClampNeg))) H := hP
          have hD : va_D B (w_S4 G A (csetA b 3 (va_cpy (b 0) (b 3) x2.toNatClampNeg x4.toNatClampNeg x5.toNatClampNeg))) := hD
          exact b_43 _ H locs ls hf hP hD hS (lv_sub hl [] rfl)
      · refine lv_iload_n (pc := 29) hx hb dX3_copyRun_29 rfl (lv_at hl 2 rfl) ?_
        refine lv_aload_n (pc := 30) hx hb dX3_copyRun_30 rfl (lv_at hl 0 rfl) ?_
        refine wget (pc := 31) X (fun _ h9 => List.mem_cons_of_mem _ (List.mem_append_right _ h9)) hP 0 (at_S4_0 G A b) rfl 0 (by decide) (List.mem_cons_of_mem _ (List.mem_append_left _ (List.mem_of_getElem? (i := 0) rfl))) rfl (v := .ref (A 1)) rfl dX3_copyRun_31 ?_
        refine lv_iload_n (pc := 34) hx hb dX3_copyRun_34 rfl (lv_at hl 3 rfl) ?_
        obtain ⟨hi, hf⟩ := ck_some hf
        refine waaldI (pc := 35) X hP 1 (at_S4_1 G A b) hi (B := fun i => A (3 + i)) (fun i h => by rcases (show i = 0 ∨ i = 1 ∨ i = 2 ∨ i = 3 by omega) with rfl | rfl | rfl | rfl <;> rfl) dX3_copyRun_35 ?_
        have hj := inb_lt hi
        generalize x3.toNatClampNeg = jj at hf hj ⊢
        rcases (show jj = 0 ∨ jj = 1 ∨ jj = 2 ∨ jj = 3 by omega) with rfl | rfl | rfl | rfl
        · refine lv_iload (pc := 36) hx hb dX3_copyRun_36 (lv_at hl 4 rfl) ?_
          refine lv_iload (pc := 38) hx hb dX3_copyRun_38 (lv_at hl 5 rfl) ?_
          obtain ⟨hc0, hf⟩ := ck_some hf
          obtain ⟨hc1, hf⟩ := ck_some hf
          refine wcopy (pc := 40) X hl.1 (List.mem_cons_of_mem _ (List.mem_append_left _ (List.mem_of_getElem? (i := 1) rfl))) (List.mem_cons_of_mem _ (List.mem_append_left _ (List.mem_of_getElem? (i := 2) rfl))) (List.mem_cons_of_mem _ (List.mem_append_left _ (List.mem_of_getElem? (i := 3) rfl))) (List.mem_cons_of_mem _ (List.mem_append_left _ (List.mem_of_getElem? (i := 4) rfl))) hP hD hS 4 3 (at_S4_4 G A b) (at_S4_3 G A b) hc0 hc1 (Nat.le_of_ble_eq_true rfl) (Nat.le_of_ble_eq_true rfl) (sa_S4_3 G A b _) dX3_copyRun_40 (fun H locs hP hD hS => ?_)
          have hP : va_P G.1 vwCl (w_S4 G A (csetA b 0 (va_cpy (b 1) (b 0) x2.toNatClampNeg x4.toNatClampNeg x5.toNatClampNeg))) H := hP
          have hD : va_D B (w_S4 G A (csetA b 0 (va_cpy (b 1) (b 0) x2.toNatClampNeg x4.toNatClampNeg x5.toNatClampNeg))) := hD
          exact b_43 _ H locs ls hf hP hD hS (lv_sub hl [] rfl)
        · refine lv_iload (pc := 36) hx hb dX3_copyRun_36 (lv_at hl 4 rfl) ?_
          refine lv_iload (pc := 38) hx hb dX3_copyRun_38 (lv_at hl 5 rfl) ?_
          obtain ⟨hc0, hf⟩ := ck_some hf
          obtain ⟨hc1, hf⟩ := ck_some hf
          refine wcopy (pc := 40) X hl.1 (List.mem_cons_of_mem _ (List.mem_append_left _ (List.mem_of_getElem? (i := 1) rfl))) (List.mem_cons_of_mem _ (List.mem_append_left _ (List.mem_of_getElem? (i := 2) rfl))) (List.mem_cons_of_mem _ (List.mem_append_left _ (List.mem_of_getElem? (i := 3) rfl))) (List.mem_cons_of_mem _ (List.mem_append_left _ (List.mem_of_getElem? (i := 4) rfl))) hP hD hS 4 4 (at_S4_4 G A b) (at_S4_4 G A b) hc0 hc1 (Nat.le_of_ble_eq_true rfl) (Nat.le_of_ble_eq_true rfl) (sa_S4_4 G A b _) dX3_copyRun_40 (fun H locs hP hD hS => ?_)
          have hP : va_P G.1 vwCl (w_S4 G A (csetA b 1 (va_cpy (b 1) (b 1) x2.toNatClampNeg x4.toNatClampNeg x5.toNatClampNeg))) H := hP
          have hD : va_D B (w_S4 G A (csetA b 1 (va_cpy (b 1) (b 1) x2.toNatClampNeg x4.toNatClampNeg x5.toNatClampNeg))) := hD
          exact b_43 _ H locs ls hf hP hD hS (lv_sub hl [] rfl)
        · refine lv_iload (pc := 36) hx hb dX3_copyRun_36 (lv_at hl 4 rfl) ?_
          refine lv_iload (pc := 38) hx hb dX3_copyRun_38 (lv_at hl 5 rfl) ?_
          obtain ⟨hc0, hf⟩ := ck_some hf
          obtain ⟨hc1, hf⟩ := ck_some hf
          refine wcopy (pc := 40) X hl.1 (List.mem_cons_of_mem _ (List.mem_append_left _ (List.mem_of_getElem? (i := 1) rfl))) (List.mem_cons_of_mem _ (List.mem_append_left _ (List.mem_of_getElem? (i := 2) rfl))) (List.mem_cons_of_mem _ (List.mem_append_left _ (List.mem_of_getElem? (i := 3) rfl))) (List.mem_cons_of_mem _ (List.mem_append_left _ (List.mem_of_getElem? (i := 4) rfl))) hP hD hS 4 5 (at_S4_4 G A b) (at_S4_5 G A b) hc0 hc1 (Nat.le_of_ble_eq_true rfl) (Nat.le_of_ble_eq_true rfl) (sa_S4_5 G A b _) dX3_copyRun_40 (fun H locs hP hD hS => ?_)
          have hP : va_P G.1 vwCl (w_S4 G A (csetA b 2 (va_cpy (b 1) (b 2) x2.toNatClampNeg x4.toNatClampNeg x5.toNatClampNeg))) H := hP
          have hD : va_D B (w_S4 G A (csetA b 2 (va_cpy (b 1) (b 2) x2.toNatClampNeg x4.toNatClampNeg x5.toNatClampNeg))) := hD
          exact b_43 _ H locs ls hf hP hD hS (lv_sub hl [] rfl)
        · refine lv_iload (pc := 36) hx hb dX3_copyRun_36 (lv_at hl 4 rfl) ?_
          refine lv_iload (pc := 38) hx hb dX3_copyRun_38 (lv_at hl 5 rfl) ?_
          obtain ⟨hc0, hf⟩ := ck_some hf
          obtain ⟨hc1, hf⟩ := ck_some hf
          refine wcopy (pc := 40) X hl.1 (List.mem_cons_of_mem _ (List.mem_append_left _ (List.mem_of_getElem? (i := 1) rfl))) (List.mem_cons_of_mem _ (List.mem_append_left _ (List.mem_of_getElem? (i := 2) rfl))) (List.mem_cons_of_mem _ (List.mem_append_left _ (List.mem_of_getElem? (i := 3) rfl))) (List.mem_cons_of_mem _ (List.mem_append_left _ (List.mem_of_getElem? (i := 4) rfl))) hP hD hS 4 6 (at_S4_4 G A b) (at_S4_6 G A b) hc0 hc1 (Nat.le_of_ble_eq_true rfl) (Nat.le_of_ble_eq_true rfl) (sa_S4_6 G A b _) dX3_copyRun_40 (fun H locs hP hD hS => ?_)
          have hP : va_P G.1 vwCl (w_S4 G A (csetA b 3 (va_cpy (b 1) (b 3) x2.toNatClampNeg x4.toNatClampNeg x5.toNatClampNeg))) H := hP
          have hD : va_D B (w_S4 G A (csetA b 3 (va_cpy (b 1) (b 3) x2.toNatClampNeg x4.toNatClampNeg x5.toNatClampNeg))) := hD
          exact b_43 _ H locs ls hf hP hD hS (lv_sub hl [] rfl)
      · refine lv_iload_n (pc := 29) hx hb dX3_copyRun_29 rfl (lv_at hl 2 rfl) ?_
        refine lv_aload_n (pc := 30) hx hb dX3_copyRun_30 rfl (lv_at hl 0 rfl) ?_
        refine wget (pc := 31) X (fun _ h9 => List.mem_cons_of_mem _ (List.mem_append_right _ h9)) hP 0 (at_S4_0 G A b) rfl 0 (by decide) (List.mem_cons_of_mem _ (List.mem_append_left _ (List.mem_of_getElem? (i := 0) rfl))) rfl (v := .ref (A 1)) rfl dX3_copyRun_31 ?_
        refine lv_iload_n (pc := 34) hx hb dX3_copyRun_34 rfl (lv_at hl 3 rfl) ?_
        obtain ⟨hi, hf⟩ := ck_some hf
        refine waaldI (pc := 35) X hP 1 (at_S4_1 G A b) hi (B := fun i => A (3 + i)) (fun i h => by rcases (show i = 0 ∨ i = 1 ∨ i = 2 ∨ i = 3 by omega) with rfl | rfl | rfl | rfl <;> rfl) dX3_copyRun_35 ?_
        have hj := inb_lt hi
        generalize x3.toNatClampNeg = jj at hf hj ⊢
        rcases (show jj = 0 ∨ jj = 1 ∨ jj = 2 ∨ jj = 3 by omega) with rfl | rfl | rfl | rfl
        · refine lv_iload (pc := 36) hx hb dX3_copyRun_36 (lv_at hl 4 rfl) ?_
          refine lv_iload (pc := 38) hx hb dX3_copyRun_38 (lv_at hl 5 rfl) ?_
          obtain ⟨hc0, hf⟩ := ck_some hf
          obtain ⟨hc1, hf⟩ := ck_some hf
          refine wcopy (pc := 40) X hl.1 (List.mem_cons_of_mem _ (List.mem_append_left _ (List.mem_of_getElem? (i := 1) rfl))) (List.mem_cons_of_mem _ (List.mem_append_left _ (List.mem_of_getElem? (i := 2) rfl))) (List.mem_cons_of_mem _ (List.mem_append_left _ (List.mem_of_getElem? (i := 3) rfl))) (List.mem_cons_of_mem _ (List.mem_append_left _ (List.mem_of_getElem? (i := 4) rfl))) hP hD hS 5 3 (at_S4_5 G A b) (at_S4_3 G A b) hc0 hc1 (Nat.le_of_ble_eq_true rfl) (Nat.le_of_ble_eq_true rfl) (sa_S4_3 G A b _) dX3_copyRun_40 (fun H locs hP hD hS => ?_)
          have hP : va_P G.1 vwCl (w_S4 G A (csetA b 0 (va_cpy (b 2) (b 0) x2.toNatClampNeg x4.toNatClampNeg x5.toNatClampNeg))) H := hP
          have hD : va_D B (w_S4 G A (csetA b 0 (va_cpy (b 2) (b 0) x2.toNatClampNeg x4.toNatClampNeg x5.toNatClampNeg))) := hD
          exact b_43 _ H locs ls hf hP hD hS (lv_sub hl [] rfl)
        · refine lv_iload (pc := 36) hx hb dX3_copyRun_36 (lv_at hl 4 rfl) ?_
          refine lv_iload (pc := 38) hx hb dX3_copyRun_38 (lv_at hl 5 rfl) ?_
          obtain ⟨hc0, hf⟩ := ck_some hf
          obtain ⟨hc1, hf⟩ := ck_some hf
          refine wcopy (pc := 40) X hl.1 (List.mem_cons_of_mem _ (List.mem_append_left _ (List.mem_of_getElem? (i := 1) rfl))) (List.mem_cons_of_mem _ (List.mem_append_left _ (List.mem_of_getElem? (i := 2) rfl))) (List.mem_cons_of_mem _ (List.mem_append_left _ (List.mem_of_getElem? (i := 3) rfl))) (List.mem_cons_of_mem _ (List.mem_append_left _ (List.mem_of_getElem? (i := 4) rfl))) hP hD hS 5 4 (at_S4_5 G A b) (at_S4_4 G A b) hc0 hc1 (Nat.le_of_ble_eq_true rfl) (Nat.le_of_ble_eq_true rfl) (sa_S4_4 G A b _) dX3_copyRun_40 (fun H locs hP hD hS => ?_)
          have hP : va_P G.1 vwCl (w_S4 G A (csetA b 1 (va_cpy (b 2) (b 1) x2.toNatClampNeg x4.toNatClampNeg x5.toNatClampNeg))) H := hP
          have hD : va_D B (w_S4 G A (csetA b 1 (va_cpy (b 2) (b 1) x2.toNatClampNeg x4.toNatClampNeg x5.toNatClampNeg))) := hD
          exact b_43 _ H locs ls hf hP hD hS (lv_sub hl [] rfl)
        · refine lv_iload (pc := 36) hx hb dX3_copyRun_36 (lv_at hl 4 rfl) ?_
          refine lv_iload (pc := 38) hx hb dX3_copyRun_38 (lv_at hl 5 rfl) ?_
          obtain ⟨hc0, hf⟩ := ck_some hf
          obtain ⟨hc1, hf⟩ := ck_some hf
          refine wcopy (pc := 40) X hl.1 (List.mem_cons_of_mem _ (List.mem_append_left _ (List.mem_of_getElem? (i := 1) rfl))) (List.mem_cons_of_mem _ (List.mem_append_left _ (List.mem_of_getElem? (i := 2) rfl))) (List.mem_cons_of_mem _ (List.mem_append_left _ (List.mem_of_getElem? (i := 3) rfl))) (List.mem_cons_of_mem _ (List.mem_append_left _ (List.mem_of_getElem? (i := 4) rfl))) hP hD hS 5 5 (at_S4_5 G A b) (at_S4_5 G A b) hc0 hc1 (Nat.le_of_ble_eq_true rfl) (Nat.le_of_ble_eq_true rfl) (sa_S4_5 G A b _) dX3_copyRun_40 (fun H locs hP hD hS => ?_)
          have hP : va_P G.1 vwCl (w_S4 G A (csetA b 2 (va_cpy (b 2) (b 2) x2.toNatClampNeg x4.toNatClampNeg x5.toNatClampNeg))) H := hP
          have hD : va_D B (w_S4 G A (csetA b 2 (va_cpy (b 2) (b 2) x2.toNatClampNeg x4.toNatClampNeg x5.toNatClampNeg))) := hD
          exact b_43 _ H locs ls hf hP hD hS (lv_sub hl [] rfl)
        · refine lv_iload (pc := 36) hx hb dX3_copyRun_36 (lv_at hl 4 rfl) ?_
          refine lv_iload (pc := 38) hx hb dX3_copyRun_38 (lv_at hl 5 rfl) ?_
          obtain ⟨hc0, hf⟩ := ck_some hf
          obtain ⟨hc1, hf⟩ := ck_some hf
          refine wcopy (pc := 40) X hl.1 (List.mem_cons_of_mem _ (List.mem_append_left _ (List.mem_of_getElem? (i := 1) rfl))) (List.mem_cons_of_mem _ (List.mem_append_left _ (List.mem_of_getElem? (i := 2) rfl))) (List.mem_cons_of_mem _ (List.mem_append_left _ (List.mem_of_getElem? (i := 3) rfl))) (List.mem_cons_of_mem _ (List.mem_append_left _ (List.mem_of_getElem? (i := 4) rfl))) hP hD hS 5 6 (at_S4_5 G A b) (at_S4_6 G A b) hc0 hc1 (Nat.le_of_ble_eq_true rfl) (Nat.le_of_ble_eq_true rfl) (sa_S4_6 G A b _) dX3_copyRun_40 (fun H locs hP hD hS => ?_)
          have hP : va_P G.1 vwCl (w_S4 G A (csetA b 3 (va_cpy (b 2) (b 3) x2.toNatClampNeg x4.toNatClampNeg x5.toNatClampNeg))) H := hP
          have hD : va_D B (w_S4 G A (csetA b 3 (va_cpy (b 2) (b 3) x2.toNatClampNeg x4.toNatClampNeg x5.toNatClampNeg))) := hD
          exact b_43 _ H locs ls hf hP hD hS (lv_sub hl [] rfl)
      · refine lv_iload_n (pc := 29) hx hb dX3_copyRun_29 rfl (lv_at hl 2 rfl) ?_
        refine lv_aload_n (pc := 30) hx hb dX3_copyRun_30 rfl (lv_at hl 0 rfl) ?_
        refine wget (pc := 31) X (fun _ h9 => List.mem_cons_of_mem _ (List.mem_append_right _ h9)) hP 0 (at_S4_0 G A b) rfl 0 (by decide) (List.mem_cons_of_mem _ (List.mem_append_left _ (List.mem_of_getElem? (i := 0) rfl))) rfl (v := .ref (A 1)) rfl dX3_copyRun_31 ?_
        refine lv_iload_n (pc := 34) hx hb dX3_copyRun_34 rfl (lv_at hl 3 rfl) ?_
        obtain ⟨hi, hf⟩ := ck_some hf
        refine waaldI (pc := 35) X hP 1 (at_S4_1 G A b) hi (B := fun i => A (3 + i)) (fun i h => by rcases (show i = 0 ∨ i = 1 ∨ i = 2 ∨ i = 3 by omega) with rfl | rfl | rfl | rfl <;> rfl) dX3_copyRun_35 ?_
        have hj := inb_lt hi
        generalize x3.toNatClampNeg = jj at hf hj ⊢
        rcases (show jj = 0 ∨ jj = 1 ∨ jj = 2 ∨ jj = 3 by omega) with rfl | rfl | rfl | rfl
        · refine lv_iload (pc := 36) hx hb dX3_copyRun_36 (lv_at hl 4 rfl) ?_
          refine lv_iload (pc := 38) hx hb dX3_copyRun_38 (lv_at hl 5 rfl) ?_
          obtain ⟨hc0, hf⟩ := ck_some hf
          obtain ⟨hc1, hf⟩ := ck_some hf
          refine wcopy (pc := 40) X hl.1 (List.mem_cons_of_mem _ (List.mem_append_left _ (List.mem_of_getElem? (i := 1) rfl))) (List.mem_cons_of_mem _ (List.mem_append_left _ (List.mem_of_getElem? (i := 2) rfl))) (List.mem_cons_of_mem _ (List.mem_append_left _ (List.mem_of_getElem? (i := 3) rfl))) (List.mem_cons_of_mem _ (List.mem_append_left _ (List.mem_of_getElem? (i := 4) rfl))) hP hD hS 6 3 (at_S4_6 G A b) (at_S4_3 G A b) hc0 hc1 (Nat.le_of_ble_eq_true rfl) (Nat.le_of_ble_eq_true rfl) (sa_S4_3 G A b _) dX3_copyRun_40 (fun H locs hP hD hS => ?_)
          have hP : va_P G.1 vwCl (w_S4 G A (csetA b 0 (va_cpy (b 3) (b 0) x2.toNatClampNeg x4.toNatClampNeg x5.toNatClampNeg))) H := hP
          have hD : va_D B (w_S4 G A (csetA b 0 (va_cpy (b 3) (b 0) x2.toNatClampNeg x4.toNatClampNeg x5.toNatClampNeg))) := hD
          exact b_43 _ H locs ls hf hP hD hS (lv_sub hl [] rfl)
        · refine lv_iload (pc := 36) hx hb dX3_copyRun_36 (lv_at hl 4 rfl) ?_
          refine lv_iload (pc := 38) hx hb dX3_copyRun_38 (lv_at hl 5 rfl) ?_
          obtain ⟨hc0, hf⟩ := ck_some hf
          obtain ⟨hc1, hf⟩ := ck_some hf
          refine wcopy (pc := 40) X hl.1 (List.mem_cons_of_mem _ (List.mem_append_left _ (List.mem_of_getElem? (i := 1) rfl))) (List.mem_cons_of_mem _ (List.mem_append_left _ (List.mem_of_getElem? (i := 2) rfl))) (List.mem_cons_of_mem _ (List.mem_append_left _ (List.mem_of_getElem? (i := 3) rfl))) (List.mem_cons_of_mem _ (List.mem_append_left _ (List.mem_of_getElem? (i := 4) rfl))) hP hD hS 6 4 (at_S4_6 G A b) (at_S4_4 G A b) hc0 hc1 (Nat.le_of_ble_eq_true rfl) (Nat.le_of_ble_eq_true rfl) (sa_S4_4 G A b _) dX3_copyRun_40 (fun H locs hP hD hS => ?_)
          have hP : va_P G.1 vwCl (w_S4 G A (csetA b 1 (va_cpy (b 3) (b 1) x2.toNatClampNeg x4.toNatClampNeg x5.toNatClampNeg))) H := hP
          have hD : va_D B (w_S4 G A (csetA b 1 (va_cpy (b 3) (b 1) x2.toNatClampNeg x4.toNatClampNeg x5.toNatClampNeg))) := hD
          exact b_43 _ H locs ls hf hP hD hS (lv_sub hl [] rfl)
        · refine lv_iload (pc := 36) hx hb dX3_copyRun_36 (lv_at hl 4 rfl) ?_
          refine lv_iload (pc := 38) hx hb dX3_copyRun_38 (lv_at hl 5 rfl) ?_
          obtain ⟨hc0, hf⟩ := ck_some hf
          obtain ⟨hc1, hf⟩ := ck_some hf
          refine wcopy (pc := 40) X hl.1 (List.mem_cons_of_mem _ (List.mem_append_left _ (List.mem_of_getElem? (i := 1) rfl))) (List.mem_cons_of_mem _ (List.mem_append_left _ (List.mem_of_getElem? (i := 2) rfl))) (List.mem_cons_of_mem _ (List.mem_append_left _ (List.mem_of_getElem? (i := 3) rfl))) (List.mem_cons_of_mem _ (List.mem_append_left _ (List.mem_of_getElem? (i := 4) rfl))) hP hD hS 6 5 (at_S4_6 G A b) (at_S4_5 G A b) hc0 hc1 (Nat.le_of_ble_eq_true rfl) (Nat.le_of_ble_eq_true rfl) (sa_S4_5 G A b _) dX3_copyRun_40 (fun H locs hP hD hS => ?_)
          have hP : va_P G.1 vwCl (w_S4 G A (csetA b 2 (va_cpy (b 3) (b 2) x2.toNatClampNeg x4.toNatClampNeg x5.toNatClampNeg))) H := hP
          have hD : va_D B (w_S4 G A (csetA b 2 (va_cpy (b 3) (b 2) x2.toNatClampNeg x4.toNatClampNeg x5.toNatClampNeg))) := hD
          exact b_43 _ H locs ls hf hP hD hS (lv_sub hl [] rfl)
        · refine lv_iload (pc := 36) hx hb dX3_copyRun_36 (lv_at hl 4 rfl) ?_
          refine lv_iload (pc := 38) hx hb dX3_copyRun_38 (lv_at hl 5 rfl) ?_
          obtain ⟨hc0, hf⟩ := ck_some hf
          obtain ⟨hc1, hf⟩ := ck_some hf
          refine wcopy (pc := 40) X hl.1 (List.mem_cons_of_mem _ (List.mem_append_left _ (List.mem_of_getElem? (i := 1) rfl))) (List.mem_cons_of_mem _ (List.mem_append_left _ (List.mem_of_getElem? (i := 2) rfl))) (List.mem_cons_of_mem _ (List.mem_append_left _ (List.mem_of_getElem? (i := 3) rfl))) (List.mem_cons_of_mem _ (List.mem_append_left _ (List.mem_of_getElem? (i := 4) rfl))) hP hD hS 6 6 (at_S4_6 G A b) (at_S4_6 G A b) hc0 hc1 (Nat.le_of_ble_eq_true rfl) (Nat.le_of_ble_eq_true rfl) (sa_S4_6 G A b _) dX3_copyRun_40 (fun H locs hP hD hS => ?_)
          have hP : va_P G.1 vwCl (w_S4 G A (csetA b 3 (va_cpy (b 3) (b 3) x2.toNatClampNeg x4.toNatClampNeg x5.toNatClampNeg))) H := hP
          have hD : va_D B (w_S4 G A (csetA b 3 (va_cpy (b 3) (b 3) x2.toNatClampNeg x4.toNatClampNeg x5.toNatClampNeg))) := hD
          exact b_43 _ H locs ls hf hP hD hS (lv_sub hl [] rfl)
def r_X3_digestOn_r : Room := { frames := 3, cells := 0, slots := 0, locals := 65 }
set_option maxHeartbeats 4000000 in
set_option maxRecDepth 100000 in
theorem c_X3_digestOn_r (G : GT) (l : Launch) (A : Nat → Nat) (sz : Nat) (b : CS) (x1 : Int64) (r : Int64) (hf : f_X3_digestOn_r b x1 = some r) : MTl l yX3_digestOn wsX3_digestOn r_X3_digestOn_r [.ref (A 0), .long x1] G (w_S6 G A b) (w_S6 G A b) sz r := by
  refine MTl.of (cc := cX3_digestOn) (maxL := 7) (by decide +kernel) rfl (Nat.le_of_ble_eq_true rfl) (fun p e s m av below meth cd Q B H locs ls X hret hl hP hD hS => ?_)
  have hx := X.1.1
  have hb := X.1.2.1
  have hl : lv_has ls 7 [(0, .ref (A 0)), (1, .long x1)] := hl
  have l_5 : ∀ (n5 : Nat), ∀ (x3 : Int64) (x5 : Int32) (H : Heap) (locs : List Loc) (ls : Array Slot), f_X3_digestOn_r_5 n5 x3 x5 b = some r → va_P G.1 vwCl (w_S6 G A b) H → va_D B (w_S6 G A b) → va_S B s.heap H locs → lv_has ls 7 [(0, .ref (A 0)), (3, .long x3), (5, .int x5)] → W p l e r_X3_digestOn_r s m av below meth cd H locs 0 0 Q (F0 m 5 ls []) := by
    intro n5
    induction n5 with
    | zero =>
      intro x3 x5 H locs ls hf hP hD hS hl
      rw [f_X3_digestOn_r_5] at hf
      cases hf
    | succ n5 ih5 =>
      have l_33 : ∀ (n33 : Nat), ∀ (x3 : Int64) (x5 : Int32) (x6 : Int32) (H : Heap) (locs : List Loc) (ls : Array Slot), f_X3_digestOn_r_33 (f_X3_digestOn_r_5 n5) n33 x3 x5 x6 b = some r → va_P G.1 vwCl (w_S6 G A b) H → va_D B (w_S6 G A b) → va_S B s.heap H locs → lv_has ls 7 [(0, .ref (A 0)), (3, .long x3), (5, .int x5), (6, .int x6)] → W p l e r_X3_digestOn_r s m av below meth cd H locs 0 0 Q (F0 m 33 ls []) := by
        intro n33
        induction n33 with
        | zero =>
          intro x3 x5 x6 H locs ls hf hP hD hS hl
          rw [f_X3_digestOn_r_33] at hf
          cases hf
        | succ n33 ih33 =>
          intro x3 x5 x6 H locs ls hf hP hD hS hl
          rw [f_X3_digestOn_r_33] at hf
          refine lv_iload (pc := 33) hx hb dX3_digestOn_33 (lv_at hl 3 rfl) ?_
          refine lv_aload_n (pc := 35) hx hb dX3_digestOn_35 rfl (lv_at hl 0 rfl) ?_
          refine wget (pc := 36) X (fun _ h9 => List.mem_cons_of_mem _ (List.mem_append_right _ h9)) hP 0 (at_S6_0 G A b) rfl 1 (by decide) (List.mem_cons_of_mem _ (List.mem_append_left _ (List.mem_of_getElem? (i := 0) rfl))) rfl (v := .ref (A 2)) rfl dX3_digestOn_36 ?_
          refine lv_iload (pc := 39) hx hb dX3_digestOn_39 (lv_at hl 2 rfl) ?_
          obtain ⟨hi, hf⟩ := ck_some hf
          refine wiald (pc := 41) X hP 2 (at_S6_2 G A b) hi rfl dX3_digestOn_41 ?_
          refine lv_icmp_ge (pc := 42) (tgt := 67) hx hb dX3_digestOn_42 (by decide) (fun h1 => ?_) (fun h1 => ?_)
          · have hf := br_y h1 hf
            refine lv_iinc (pc := 67) (v := (x5 + (1 : Int32))) (lv' := [(5, .int (x5 + (1 : Int32))), (0, .ref (A 0)), (3, .long x3), (6, .int x6)]) hx hb dX3_digestOn_67 hl (k := 2) rfl rfl (by decide) rfl (fun ls hl => ?_)
            refine lv_goto (pc := 70) (tgt := 5) hx hb dX3_digestOn_70 (by decide) ?_
            exact ih5 _ _ H locs ls hf hP hD hS (lv_sub hl [1, 2, 0] rfl)
          · have hf := br_n h1 hf
            refine lv_ldc2 (pc := 45) (v := 31) hx hb X.1.2.2.2.1 (X.1.2.2.2.2 _ (List.mem_cons_of_mem _ (List.mem_append_left _ (List.mem_of_getElem? (i := 1) rfl)))) dX3_digestOn_45 ?_
            refine lv_lload_n (pc := 48) hx hb dX3_digestOn_48 rfl (lv_at hl 1 rfl) ?_
            refine lv_lmul (pc := 49) hx hb dX3_digestOn_49 ?_
            refine lv_aload_n (pc := 50) hx hb dX3_digestOn_50 rfl (lv_at hl 0 rfl) ?_
            refine lv_iload (pc := 51) hx hb dX3_digestOn_51 (lv_at hl 2 rfl) ?_
            refine lv_iload (pc := 53) hx hb dX3_digestOn_53 (lv_at hl 3 rfl) ?_
            obtain ⟨r1, hc1, hf⟩ := ob1_some hf
            refine endi X.2.2.2.2 (runV (pc := 55) (As := [.int x5, .int x6]) (rest := [.long ((31 : Int64) * x3)]) X (c_X3_get_r G l A H.size b x5 x6 r1 hc1) gX3_digestOn_X3_get k_X3_get ⟨rfl, rfl⟩ ⟨Nat.le_of_ble_eq_true rfl, Nat.le_of_ble_eq_true rfl⟩ (EM.all (w_S6 G A b) (w_S6 G A b)) hP hD hS (ci := 3) rfl rfl (at_S6_0 G A b) rfl hl.1 rfl (Nat.le_of_ble_eq_true rfl) ⟨Nat.zero_le _, Nat.zero_le _⟩ dX3_digestOn_55) (EM.all (w_S6 G A b) (w_S6 G A b)) hP hD hS (fun H locs hP hD hS => ?_)
            refine lv_i2l (pc := 58) (v := (r1).toInt64) hx hb dX3_digestOn_58 rfl ?_
            refine lv_ladd (pc := 59) hx hb dX3_digestOn_59 ?_
            refine lv_lstore_n (pc := 60) (lv' := [(3, .long (((31 : Int64) * x3) + ((r1).toInt64))), (0, .ref (A 0)), (5, .int x5), (6, .int x6)]) hx hb dX3_digestOn_60 rfl hl (by decide) rfl (fun ls hl => ?_)
            refine lv_iinc (pc := 61) (v := (x6 + (1 : Int32))) (lv' := [(6, .int (x6 + (1 : Int32))), (3, .long (((31 : Int64) * x3) + ((r1).toInt64))), (0, .ref (A 0)), (5, .int x5)]) hx hb dX3_digestOn_61 hl (k := 3) rfl rfl (by decide) rfl (fun ls hl => ?_)
            refine lv_goto (pc := 64) (tgt := 33) hx hb dX3_digestOn_64 (by decide) ?_
            exact ih33 _ _ _ H locs ls hf hP hD hS (lv_sub hl [2, 1, 3, 0] rfl)
      intro x3 x5 H locs ls hf hP hD hS hl
      rw [f_X3_digestOn_r_5] at hf
      refine lv_iload (pc := 5) hx hb dX3_digestOn_5 (lv_at hl 2 rfl) ?_
      refine lv_aload_n (pc := 7) hx hb dX3_digestOn_7 rfl (lv_at hl 0 rfl) ?_
      refine wget (pc := 8) X (fun _ h9 => List.mem_cons_of_mem _ (List.mem_append_right _ h9)) hP 0 (at_S6_0 G A b) rfl 1 (by decide) (List.mem_cons_of_mem _ (List.mem_append_left _ (List.mem_of_getElem? (i := 0) rfl))) rfl (v := .ref (A 2)) rfl dX3_digestOn_8 ?_
      refine walen (pc := 11) X hP 2 0 (at_S6_2 G A b) rfl (v := (6 : Int32)) rfl dX3_digestOn_11 ?_
      refine lv_icmp_ge (pc := 12) (tgt := 73) hx hb dX3_digestOn_12 (by decide) (fun h2 => ?_) (fun h2 => ?_)
      · have hf := br_y h2 hf
        refine lv_lload_n (pc := 73) hx hb dX3_digestOn_73 rfl (lv_at hl 1 rfl) ?_
        cases hf
        exact hret _ _ _ _ dX3_digestOn_74 hP hD hS
      · have hf := br_n h2 hf
        refine lv_ldc2 (pc := 15) (v := 31) hx hb X.1.2.2.2.1 (X.1.2.2.2.2 _ (List.mem_cons_of_mem _ (List.mem_append_left _ (List.mem_of_getElem? (i := 1) rfl)))) dX3_digestOn_15 ?_
        refine lv_lload_n (pc := 18) hx hb dX3_digestOn_18 rfl (lv_at hl 1 rfl) ?_
        refine lv_lmul (pc := 19) hx hb dX3_digestOn_19 ?_
        refine lv_aload_n (pc := 20) hx hb dX3_digestOn_20 rfl (lv_at hl 0 rfl) ?_
        refine wget (pc := 21) X (fun _ h9 => List.mem_cons_of_mem _ (List.mem_append_right _ h9)) hP 0 (at_S6_0 G A b) rfl 1 (by decide) (List.mem_cons_of_mem _ (List.mem_append_left _ (List.mem_of_getElem? (i := 0) rfl))) rfl (v := .ref (A 2)) rfl dX3_digestOn_21 ?_
        refine lv_iload (pc := 24) hx hb dX3_digestOn_24 (lv_at hl 2 rfl) ?_
        obtain ⟨hi, hf⟩ := ck_some hf
        refine wiald (pc := 26) X hP 2 (at_S6_2 G A b) hi rfl dX3_digestOn_26 ?_
        refine lv_i2l (pc := 27) (v := (((b 6) x5.toNatClampNeg)).toInt64) hx hb dX3_digestOn_27 rfl ?_
        refine lv_ladd (pc := 28) hx hb dX3_digestOn_28 ?_
        refine lv_lstore_n (pc := 29) (lv' := [(3, .long (((31 : Int64) * x3) + ((((b 6) x5.toNatClampNeg)).toInt64))), (0, .ref (A 0)), (5, .int x5)]) hx hb dX3_digestOn_29 rfl hl (by decide) rfl (fun ls hl => ?_)
        refine lv_iconst (pc := 30) (v := (0 : Int32)) hx hb dX3_digestOn_30 (by decide) ?_
        refine lv_istore (pc := 31) (lv' := [(6, .int (0 : Int32)), (3, .long (((31 : Int64) * x3) + ((((b 6) x5.toNatClampNeg)).toInt64))), (0, .ref (A 0)), (5, .int x5)]) hx hb dX3_digestOn_31 hl (by decide) rfl (fun ls hl => ?_)
        exact l_33 FU _ _ _ H locs ls hf hP hD hS (lv_sub hl [2, 1, 3, 0] rfl)
  unfold f_X3_digestOn_r at hf
  refine lv_lload_n (pc := 0) hx hb dX3_digestOn_0 rfl (lv_at hl 1 rfl) ?_
  refine lv_lstore_n (pc := 1) (lv' := [(3, .long x1), (0, .ref (A 0)), (1, .long x1)]) hx hb dX3_digestOn_1 rfl hl (by decide) rfl (fun ls hl => ?_)
  refine lv_iconst (pc := 2) (v := (0 : Int32)) hx hb dX3_digestOn_2 (by decide) ?_
  refine lv_istore (pc := 3) (lv' := [(5, .int (0 : Int32)), (3, .long x1), (0, .ref (A 0)), (1, .long x1)]) hx hb dX3_digestOn_3 hl (by decide) rfl (fun ls hl => ?_)
  exact l_5 FU _ _ H locs ls hf hP hD hS (lv_sub hl [2, 1, 0] rfl)
def r_X3_digestOn_t : Room := { frames := 3, cells := 0, slots := 0, locals := 65 }
set_option maxHeartbeats 4000000 in
set_option maxRecDepth 100000 in
theorem c_X3_digestOn_t (G : GT) (l : Launch) (A : Nat → Nat) (sz : Nat) (b : CS) (x1 : Int64) (r : Int64) (hf : f_X3_digestOn_t b x1 = some r) : MTl l yX3_digestOn wsX3_digestOn r_X3_digestOn_t [.ref (A 0), .long x1] G (w_S4 G A b) (w_S4 G A b) sz r := by
  refine MTl.of (cc := cX3_digestOn) (maxL := 7) (by decide +kernel) rfl (Nat.le_of_ble_eq_true rfl) (fun p e s m av below meth cd Q B H locs ls X hret hl hP hD hS => ?_)
  have hx := X.1.1
  have hb := X.1.2.1
  have hl : lv_has ls 7 [(0, .ref (A 0)), (1, .long x1)] := hl
  have l_5 : ∀ (n5 : Nat), ∀ (x3 : Int64) (x5 : Int32) (H : Heap) (locs : List Loc) (ls : Array Slot), f_X3_digestOn_t_5 n5 x3 x5 b = some r → va_P G.1 vwCl (w_S4 G A b) H → va_D B (w_S4 G A b) → va_S B s.heap H locs → lv_has ls 7 [(0, .ref (A 0)), (3, .long x3), (5, .int x5)] → W p l e r_X3_digestOn_t s m av below meth cd H locs 0 0 Q (F0 m 5 ls []) := by
    intro n5
    induction n5 with
    | zero =>
      intro x3 x5 H locs ls hf hP hD hS hl
      rw [f_X3_digestOn_t_5] at hf
      cases hf
    | succ n5 ih5 =>
      have l_33 : ∀ (n33 : Nat), ∀ (x3 : Int64) (x5 : Int32) (x6 : Int32) (H : Heap) (locs : List Loc) (ls : Array Slot), f_X3_digestOn_t_33 (f_X3_digestOn_t_5 n5) n33 x3 x5 x6 b = some r → va_P G.1 vwCl (w_S4 G A b) H → va_D B (w_S4 G A b) → va_S B s.heap H locs → lv_has ls 7 [(0, .ref (A 0)), (3, .long x3), (5, .int x5), (6, .int x6)] → W p l e r_X3_digestOn_t s m av below meth cd H locs 0 0 Q (F0 m 33 ls []) := by
        intro n33
        induction n33 with
        | zero =>
          intro x3 x5 x6 H locs ls hf hP hD hS hl
          rw [f_X3_digestOn_t_33] at hf
          cases hf
        | succ n33 ih33 =>
          intro x3 x5 x6 H locs ls hf hP hD hS hl
          rw [f_X3_digestOn_t_33] at hf
          refine lv_iload (pc := 33) hx hb dX3_digestOn_33 (lv_at hl 3 rfl) ?_
          refine lv_aload_n (pc := 35) hx hb dX3_digestOn_35 rfl (lv_at hl 0 rfl) ?_
          refine wget (pc := 36) X (fun _ h9 => List.mem_cons_of_mem _ (List.mem_append_right _ h9)) hP 0 (at_S4_0 G A b) rfl 1 (by decide) (List.mem_cons_of_mem _ (List.mem_append_left _ (List.mem_of_getElem? (i := 0) rfl))) rfl (v := .ref (A 2)) rfl dX3_digestOn_36 ?_
          refine lv_iload (pc := 39) hx hb dX3_digestOn_39 (lv_at hl 2 rfl) ?_
          obtain ⟨hi, hf⟩ := ck_some hf
          refine wiald (pc := 41) X hP 2 (at_S4_2 G A b) hi rfl dX3_digestOn_41 ?_
          refine lv_icmp_ge (pc := 42) (tgt := 67) hx hb dX3_digestOn_42 (by decide) (fun h1 => ?_) (fun h1 => ?_)
          · have hf := br_y h1 hf
            refine lv_iinc (pc := 67) (v := (x5 + (1 : Int32))) (lv' := [(5, .int (x5 + (1 : Int32))), (0, .ref (A 0)), (3, .long x3), (6, .int x6)]) hx hb dX3_digestOn_67 hl (k := 2) rfl rfl (by decide) rfl (fun ls hl => ?_)
            refine lv_goto (pc := 70) (tgt := 5) hx hb dX3_digestOn_70 (by decide) ?_
            exact ih5 _ _ H locs ls hf hP hD hS (lv_sub hl [1, 2, 0] rfl)
          · have hf := br_n h1 hf
            refine lv_ldc2 (pc := 45) (v := 31) hx hb X.1.2.2.2.1 (X.1.2.2.2.2 _ (List.mem_cons_of_mem _ (List.mem_append_left _ (List.mem_of_getElem? (i := 1) rfl)))) dX3_digestOn_45 ?_
            refine lv_lload_n (pc := 48) hx hb dX3_digestOn_48 rfl (lv_at hl 1 rfl) ?_
            refine lv_lmul (pc := 49) hx hb dX3_digestOn_49 ?_
            refine lv_aload_n (pc := 50) hx hb dX3_digestOn_50 rfl (lv_at hl 0 rfl) ?_
            refine lv_iload (pc := 51) hx hb dX3_digestOn_51 (lv_at hl 2 rfl) ?_
            refine lv_iload (pc := 53) hx hb dX3_digestOn_53 (lv_at hl 3 rfl) ?_
            obtain ⟨r1, hc1, hf⟩ := ob1_some hf
            refine endi X.2.2.2.2 (runV (pc := 55) (As := [.int x5, .int x6]) (rest := [.long ((31 : Int64) * x3)]) X (c_X3_get_t G l A H.size b x5 x6 r1 hc1) gX3_digestOn_X3_get k_X3_get ⟨rfl, rfl⟩ ⟨Nat.le_of_ble_eq_true rfl, Nat.le_of_ble_eq_true rfl⟩ (EM.all (w_S4 G A b) (w_S4 G A b)) hP hD hS (ci := 3) rfl rfl (at_S4_0 G A b) rfl hl.1 rfl (Nat.le_of_ble_eq_true rfl) ⟨Nat.zero_le _, Nat.zero_le _⟩ dX3_digestOn_55) (EM.all (w_S4 G A b) (w_S4 G A b)) hP hD hS (fun H locs hP hD hS => ?_)
            refine lv_i2l (pc := 58) (v := (r1).toInt64) hx hb dX3_digestOn_58 rfl ?_
            refine lv_ladd (pc := 59) hx hb dX3_digestOn_59 ?_
            refine lv_lstore_n (pc := 60) (lv' := [(3, .long (((31 : Int64) * x3) + ((r1).toInt64))), (0, .ref (A 0)), (5, .int x5), (6, .int x6)]) hx hb dX3_digestOn_60 rfl hl (by decide) rfl (fun ls hl => ?_)
            refine lv_iinc (pc := 61) (v := (x6 + (1 : Int32))) (lv' := [(6, .int (x6 + (1 : Int32))), (3, .long (((31 : Int64) * x3) + ((r1).toInt64))), (0, .ref (A 0)), (5, .int x5)]) hx hb dX3_digestOn_61 hl (k := 3) rfl rfl (by decide) rfl (fun ls hl => ?_)
            refine lv_goto (pc := 64) (tgt := 33) hx hb dX3_digestOn_64 (by decide) ?_
            exact ih33 _ _ _ H locs ls hf hP hD hS (lv_sub hl [2, 1, 3, 0] rfl)
      intro x3 x5 H locs ls hf hP hD hS hl
      rw [f_X3_digestOn_t_5] at hf
      refine lv_iload (pc := 5) hx hb dX3_digestOn_5 (lv_at hl 2 rfl) ?_
      refine lv_aload_n (pc := 7) hx hb dX3_digestOn_7 rfl (lv_at hl 0 rfl) ?_
      refine wget (pc := 8) X (fun _ h9 => List.mem_cons_of_mem _ (List.mem_append_right _ h9)) hP 0 (at_S4_0 G A b) rfl 1 (by decide) (List.mem_cons_of_mem _ (List.mem_append_left _ (List.mem_of_getElem? (i := 0) rfl))) rfl (v := .ref (A 2)) rfl dX3_digestOn_8 ?_
      refine walen (pc := 11) X hP 2 0 (at_S4_2 G A b) rfl (v := (4 : Int32)) rfl dX3_digestOn_11 ?_
      refine lv_icmp_ge (pc := 12) (tgt := 73) hx hb dX3_digestOn_12 (by decide) (fun h2 => ?_) (fun h2 => ?_)
      · have hf := br_y h2 hf
        refine lv_lload_n (pc := 73) hx hb dX3_digestOn_73 rfl (lv_at hl 1 rfl) ?_
        cases hf
        exact hret _ _ _ _ dX3_digestOn_74 hP hD hS
      · have hf := br_n h2 hf
        refine lv_ldc2 (pc := 15) (v := 31) hx hb X.1.2.2.2.1 (X.1.2.2.2.2 _ (List.mem_cons_of_mem _ (List.mem_append_left _ (List.mem_of_getElem? (i := 1) rfl)))) dX3_digestOn_15 ?_
        refine lv_lload_n (pc := 18) hx hb dX3_digestOn_18 rfl (lv_at hl 1 rfl) ?_
        refine lv_lmul (pc := 19) hx hb dX3_digestOn_19 ?_
        refine lv_aload_n (pc := 20) hx hb dX3_digestOn_20 rfl (lv_at hl 0 rfl) ?_
        refine wget (pc := 21) X (fun _ h9 => List.mem_cons_of_mem _ (List.mem_append_right _ h9)) hP 0 (at_S4_0 G A b) rfl 1 (by decide) (List.mem_cons_of_mem _ (List.mem_append_left _ (List.mem_of_getElem? (i := 0) rfl))) rfl (v := .ref (A 2)) rfl dX3_digestOn_21 ?_
        refine lv_iload (pc := 24) hx hb dX3_digestOn_24 (lv_at hl 2 rfl) ?_
        obtain ⟨hi, hf⟩ := ck_some hf
        refine wiald (pc := 26) X hP 2 (at_S4_2 G A b) hi rfl dX3_digestOn_26 ?_
        refine lv_i2l (pc := 27) (v := (((b 6) x5.toNatClampNeg)).toInt64) hx hb dX3_digestOn_27 rfl ?_
        refine lv_ladd (pc := 28) hx hb dX3_digestOn_28 ?_
        refine lv_lstore_n (pc := 29) (lv' := [(3, .long (((31 : Int64) * x3) + ((((b 6) x5.toNatClampNeg)).toInt64))), (0, .ref (A 0)), (5, .int x5)]) hx hb dX3_digestOn_29 rfl hl (by decide) rfl (fun ls hl => ?_)
        refine lv_iconst (pc := 30) (v := (0 : Int32)) hx hb dX3_digestOn_30 (by decide) ?_
        refine lv_istore (pc := 31) (lv' := [(6, .int (0 : Int32)), (3, .long (((31 : Int64) * x3) + ((((b 6) x5.toNatClampNeg)).toInt64))), (0, .ref (A 0)), (5, .int x5)]) hx hb dX3_digestOn_31 hl (by decide) rfl (fun ls hl => ?_)
        exact l_33 FU _ _ _ H locs ls hf hP hD hS (lv_sub hl [2, 1, 3, 0] rfl)
  unfold f_X3_digestOn_t at hf
  refine lv_lload_n (pc := 0) hx hb dX3_digestOn_0 rfl (lv_at hl 1 rfl) ?_
  refine lv_lstore_n (pc := 1) (lv' := [(3, .long x1), (0, .ref (A 0)), (1, .long x1)]) hx hb dX3_digestOn_1 rfl hl (by decide) rfl (fun ls hl => ?_)
  refine lv_iconst (pc := 2) (v := (0 : Int32)) hx hb dX3_digestOn_2 (by decide) ?_
  refine lv_istore (pc := 3) (lv' := [(5, .int (0 : Int32)), (3, .long x1), (0, .ref (A 0)), (1, .long x1)]) hx hb dX3_digestOn_3 hl (by decide) rfl (fun ls hl => ?_)
  exact l_5 FU _ _ H locs ls hf hP hD hS (lv_sub hl [2, 1, 0] rfl)
def r_X3_howManyThere_r : Room := { frames := 2, cells := 0, slots := 0, locals := 42 }
set_option maxHeartbeats 4000000 in
set_option maxRecDepth 100000 in
theorem c_X3_howManyThere_r (G : GT) (l : Launch) (A : Nat → Nat) (sz : Nat) (b : CS) (r : Int32) (hf : f_X3_howManyThere_r b = some r) : MTi l yX3_howManyThere wsX3_howManyThere r_X3_howManyThere_r [.ref (A 0)] G (w_S6 G A b) (w_S6 G A b) sz r := by
  refine MTi.of (cc := cX3_howManyThere) (maxL := 3) (by decide +kernel) rfl (Nat.le_of_ble_eq_true rfl) (fun p e s m av below meth cd Q B H locs ls X hret hl hP hD hS => ?_)
  have hx := X.1.1
  have hb := X.1.2.1
  have hl : lv_has ls 3 [(0, .ref (A 0))] := hl
  have l_4 : ∀ (n4 : Nat), ∀ (x1 : Int32) (x2 : Int32) (H : Heap) (locs : List Loc) (ls : Array Slot), f_X3_howManyThere_r_4 n4 x1 x2 b = some r → va_P G.1 vwCl (w_S6 G A b) H → va_D B (w_S6 G A b) → va_S B s.heap H locs → lv_has ls 3 [(0, .ref (A 0)), (1, .int x1), (2, .int x2)] → W p l e r_X3_howManyThere_r s m av below meth cd H locs 0 0 Q (F0 m 4 ls []) := by
    intro n4
    induction n4 with
    | zero =>
      intro x1 x2 H locs ls hf hP hD hS hl
      rw [f_X3_howManyThere_r_4] at hf
      cases hf
    | succ n4 ih4 =>
      have b_24 : ∀ (x1 : Int32) (x2 : Int32) (H : Heap) (locs : List Loc) (ls : Array Slot), f_X3_howManyThere_r_24 (f_X3_howManyThere_r_4 n4) x1 x2 b = some r → va_P G.1 vwCl (w_S6 G A b) H → va_D B (w_S6 G A b) → va_S B s.heap H locs → lv_has ls 3 [(0, .ref (A 0)), (1, .int x1), (2, .int x2)] → W p l e r_X3_howManyThere_r s m av below meth cd H locs 0 0 Q (F0 m 24 ls []) := by
        intro x1 x2 H locs ls hf hP hD hS hl
        unfold f_X3_howManyThere_r_24 at hf
        refine lv_iinc (pc := 24) (v := (x2 + (1 : Int32))) (lv' := [(2, .int (x2 + (1 : Int32))), (0, .ref (A 0)), (1, .int x1)]) hx hb dX3_howManyThere_24 hl (k := 2) rfl rfl (by decide) rfl (fun ls hl => ?_)
        refine lv_goto (pc := 27) (tgt := 4) hx hb dX3_howManyThere_27 (by decide) ?_
        exact ih4 _ _ H locs ls hf hP hD hS (lv_sub hl [1, 2, 0] rfl)
      intro x1 x2 H locs ls hf hP hD hS hl
      rw [f_X3_howManyThere_r_4] at hf
      refine lv_iload_n (pc := 4) hx hb dX3_howManyThere_4 rfl (lv_at hl 2 rfl) ?_
      refine lv_aload_n (pc := 5) hx hb dX3_howManyThere_5 rfl (lv_at hl 0 rfl) ?_
      refine wget (pc := 6) X (fun _ h9 => List.mem_cons_of_mem _ (List.mem_append_right _ h9)) hP 0 (at_S6_0 G A b) rfl 1 (by decide) (List.mem_cons_of_mem _ (List.mem_append_left _ (List.mem_of_getElem? (i := 0) rfl))) rfl (v := .ref (A 2)) rfl dX3_howManyThere_6 ?_
      refine walen (pc := 9) X hP 2 0 (at_S6_2 G A b) rfl (v := (6 : Int32)) rfl dX3_howManyThere_9 ?_
      refine lv_icmp_ge (pc := 10) (tgt := 30) hx hb dX3_howManyThere_10 (by decide) (fun h2 => ?_) (fun h2 => ?_)
      · have hf := br_y h2 hf
        refine lv_iload_n (pc := 30) hx hb dX3_howManyThere_30 rfl (lv_at hl 1 rfl) ?_
        cases hf
        exact hret _ _ _ _ dX3_howManyThere_31 hP hD hS
      · have hf := br_n h2 hf
        refine lv_aload_n (pc := 13) hx hb dX3_howManyThere_13 rfl (lv_at hl 0 rfl) ?_
        refine lv_iload_n (pc := 14) hx hb dX3_howManyThere_14 rfl (lv_at hl 2 rfl) ?_
        obtain ⟨r1, hc1, hf⟩ := ob1_some hf
        refine endi X.2.2.2.2 (runV (pc := 15) (As := [.int x2]) (rest := []) X (c_X3_isThere_r G l A H.size b x2 r1 hc1) gX3_howManyThere_X3_isThere k_X3_isThere ⟨rfl, rfl⟩ ⟨Nat.le_of_ble_eq_true rfl, Nat.le_of_ble_eq_true rfl⟩ (EM.all (w_S6 G A b) (w_S6 G A b)) hP hD hS (ci := 3) rfl rfl (at_S6_0 G A b) rfl hl.1 rfl (Nat.le_of_ble_eq_true rfl) ⟨Nat.zero_le _, Nat.zero_le _⟩ dX3_howManyThere_15) (EM.all (w_S6 G A b) (w_S6 G A b)) hP hD hS (fun H locs hP hD hS => ?_)
        refine lv_if_eq (pc := 18) (tgt := 24) hx hb dX3_howManyThere_18 (by decide) (fun h1 => ?_) (fun h1 => ?_)
        · have hf := br_y h1 hf
          exact b_24 _ _ H locs ls hf hP hD hS (lv_sub hl [0, 1, 2] rfl)
        · have hf := br_n h1 hf
          refine lv_iinc (pc := 21) (v := (x1 + (1 : Int32))) (lv' := [(1, .int (x1 + (1 : Int32))), (0, .ref (A 0)), (2, .int x2)]) hx hb dX3_howManyThere_21 hl (k := 1) rfl rfl (by decide) rfl (fun ls hl => ?_)
          exact b_24 _ _ H locs ls hf hP hD hS (lv_sub hl [1, 0, 2] rfl)
  unfold f_X3_howManyThere_r at hf
  refine lv_iconst (pc := 0) (v := (0 : Int32)) hx hb dX3_howManyThere_0 (by decide) ?_
  refine lv_istore_n (pc := 1) (lv' := [(1, .int (0 : Int32)), (0, .ref (A 0))]) hx hb dX3_howManyThere_1 rfl hl (by decide) rfl (fun ls hl => ?_)
  refine lv_iconst (pc := 2) (v := (0 : Int32)) hx hb dX3_howManyThere_2 (by decide) ?_
  refine lv_istore_n (pc := 3) (lv' := [(2, .int (0 : Int32)), (1, .int (0 : Int32)), (0, .ref (A 0))]) hx hb dX3_howManyThere_3 rfl hl (by decide) rfl (fun ls hl => ?_)
  exact l_4 FU _ _ H locs ls hf hP hD hS (lv_sub hl [2, 1, 0] rfl)
def r_X3_howManyThere_t : Room := { frames := 2, cells := 0, slots := 0, locals := 42 }
set_option maxHeartbeats 4000000 in
set_option maxRecDepth 100000 in
theorem c_X3_howManyThere_t (G : GT) (l : Launch) (A : Nat → Nat) (sz : Nat) (b : CS) (r : Int32) (hf : f_X3_howManyThere_t b = some r) : MTi l yX3_howManyThere wsX3_howManyThere r_X3_howManyThere_t [.ref (A 0)] G (w_S4 G A b) (w_S4 G A b) sz r := by
  refine MTi.of (cc := cX3_howManyThere) (maxL := 3) (by decide +kernel) rfl (Nat.le_of_ble_eq_true rfl) (fun p e s m av below meth cd Q B H locs ls X hret hl hP hD hS => ?_)
  have hx := X.1.1
  have hb := X.1.2.1
  have hl : lv_has ls 3 [(0, .ref (A 0))] := hl
  have l_4 : ∀ (n4 : Nat), ∀ (x1 : Int32) (x2 : Int32) (H : Heap) (locs : List Loc) (ls : Array Slot), f_X3_howManyThere_t_4 n4 x1 x2 b = some r → va_P G.1 vwCl (w_S4 G A b) H → va_D B (w_S4 G A b) → va_S B s.heap H locs → lv_has ls 3 [(0, .ref (A 0)), (1, .int x1), (2, .int x2)] → W p l e r_X3_howManyThere_t s m av below meth cd H locs 0 0 Q (F0 m 4 ls []) := by
    intro n4
    induction n4 with
    | zero =>
      intro x1 x2 H locs ls hf hP hD hS hl
      rw [f_X3_howManyThere_t_4] at hf
      cases hf
    | succ n4 ih4 =>
      have b_24 : ∀ (x1 : Int32) (x2 : Int32) (H : Heap) (locs : List Loc) (ls : Array Slot), f_X3_howManyThere_t_24 (f_X3_howManyThere_t_4 n4) x1 x2 b = some r → va_P G.1 vwCl (w_S4 G A b) H → va_D B (w_S4 G A b) → va_S B s.heap H locs → lv_has ls 3 [(0, .ref (A 0)), (1, .int x1), (2, .int x2)] → W p l e r_X3_howManyThere_t s m av below meth cd H locs 0 0 Q (F0 m 24 ls []) := by
        intro x1 x2 H locs ls hf hP hD hS hl
        unfold f_X3_howManyThere_t_24 at hf
        refine lv_iinc (pc := 24) (v := (x2 + (1 : Int32))) (lv' := [(2, .int (x2 + (1 : Int32))), (0, .ref (A 0)), (1, .int x1)]) hx hb dX3_howManyThere_24 hl (k := 2) rfl rfl (by decide) rfl (fun ls hl => ?_)
        refine lv_goto (pc := 27) (tgt := 4) hx hb dX3_howManyThere_27 (by decide) ?_
        exact ih4 _ _ H locs ls hf hP hD hS (lv_sub hl [1, 2, 0] rfl)
      intro x1 x2 H locs ls hf hP hD hS hl
      rw [f_X3_howManyThere_t_4] at hf
      refine lv_iload_n (pc := 4) hx hb dX3_howManyThere_4 rfl (lv_at hl 2 rfl) ?_
      refine lv_aload_n (pc := 5) hx hb dX3_howManyThere_5 rfl (lv_at hl 0 rfl) ?_
      refine wget (pc := 6) X (fun _ h9 => List.mem_cons_of_mem _ (List.mem_append_right _ h9)) hP 0 (at_S4_0 G A b) rfl 1 (by decide) (List.mem_cons_of_mem _ (List.mem_append_left _ (List.mem_of_getElem? (i := 0) rfl))) rfl (v := .ref (A 2)) rfl dX3_howManyThere_6 ?_
      refine walen (pc := 9) X hP 2 0 (at_S4_2 G A b) rfl (v := (4 : Int32)) rfl dX3_howManyThere_9 ?_
      refine lv_icmp_ge (pc := 10) (tgt := 30) hx hb dX3_howManyThere_10 (by decide) (fun h2 => ?_) (fun h2 => ?_)
      · have hf := br_y h2 hf
        refine lv_iload_n (pc := 30) hx hb dX3_howManyThere_30 rfl (lv_at hl 1 rfl) ?_
        cases hf
        exact hret _ _ _ _ dX3_howManyThere_31 hP hD hS
      · have hf := br_n h2 hf
        refine lv_aload_n (pc := 13) hx hb dX3_howManyThere_13 rfl (lv_at hl 0 rfl) ?_
        refine lv_iload_n (pc := 14) hx hb dX3_howManyThere_14 rfl (lv_at hl 2 rfl) ?_
        obtain ⟨r1, hc1, hf⟩ := ob1_some hf
        refine endi X.2.2.2.2 (runV (pc := 15) (As := [.int x2]) (rest := []) X (c_X3_isThere_t G l A H.size b x2 r1 hc1) gX3_howManyThere_X3_isThere k_X3_isThere ⟨rfl, rfl⟩ ⟨Nat.le_of_ble_eq_true rfl, Nat.le_of_ble_eq_true rfl⟩ (EM.all (w_S4 G A b) (w_S4 G A b)) hP hD hS (ci := 3) rfl rfl (at_S4_0 G A b) rfl hl.1 rfl (Nat.le_of_ble_eq_true rfl) ⟨Nat.zero_le _, Nat.zero_le _⟩ dX3_howManyThere_15) (EM.all (w_S4 G A b) (w_S4 G A b)) hP hD hS (fun H locs hP hD hS => ?_)
        refine lv_if_eq (pc := 18) (tgt := 24) hx hb dX3_howManyThere_18 (by decide) (fun h1 => ?_) (fun h1 => ?_)
        · have hf := br_y h1 hf
          exact b_24 _ _ H locs ls hf hP hD hS (lv_sub hl [0, 1, 2] rfl)
        · have hf := br_n h1 hf
          refine lv_iinc (pc := 21) (v := (x1 + (1 : Int32))) (lv' := [(1, .int (x1 + (1 : Int32))), (0, .ref (A 0)), (2, .int x2)]) hx hb dX3_howManyThere_21 hl (k := 1) rfl rfl (by decide) rfl (fun ls hl => ?_)
          exact b_24 _ _ H locs ls hf hP hD hS (lv_sub hl [1, 0, 2] rfl)
  unfold f_X3_howManyThere_t at hf
  refine lv_iconst (pc := 0) (v := (0 : Int32)) hx hb dX3_howManyThere_0 (by decide) ?_
  refine lv_istore_n (pc := 1) (lv' := [(1, .int (0 : Int32)), (0, .ref (A 0))]) hx hb dX3_howManyThere_1 rfl hl (by decide) rfl (fun ls hl => ?_)
  refine lv_iconst (pc := 2) (v := (0 : Int32)) hx hb dX3_howManyThere_2 (by decide) ?_
  refine lv_istore_n (pc := 3) (lv' := [(2, .int (0 : Int32)), (1, .int (0 : Int32)), (0, .ref (A 0))]) hx hb dX3_howManyThere_3 rfl hl (by decide) rfl (fun ls hl => ?_)
  exact l_4 FU _ _ H locs ls hf hP hD hS (lv_sub hl [2, 1, 0] rfl)
def r_X3_make_r : Room := { frames := 1, cells := 0, slots := 0, locals := 21 }
set_option maxHeartbeats 4000000 in
set_option maxRecDepth 100000 in
theorem c_X3_make_r (G : GT) (l : Launch) (A : Nat → Nat) (sz : Nat) (b : CS) (x1 : Int32) (x2 : Int32) (x3 : Int32) (b' : CS) (hf : f_X3_make_r b x1 x2 x3 = some b') : MTv l yX3_make wsX3_make r_X3_make_r [.ref (A 0), .int x1, .int x2, .int x3] G (w_S6 G A b) (w_S6 G A b') sz := by
  refine MTv.of (cc := cX3_make) (maxL := 5) (by decide +kernel) rfl (Nat.le_of_ble_eq_true rfl) (fun p e s m av below meth cd Q B H locs ls X hret hl hP hD hS => ?_)
  have hx := X.1.1
  have hb := X.1.2.1
  have hl : lv_has ls 5 [(0, .ref (A 0)), (1, .int x1), (2, .int x2), (3, .int x3)] := hl
  have b_20 : ∀ (b : CS) (H : Heap) (locs : List Loc) (ls : Array Slot), f_X3_make_r_20 b = some b' → va_P G.1 vwCl (w_S6 G A b) H → va_D B (w_S6 G A b) → va_S B s.heap H locs → lv_has ls 5 [] → W p l e r_X3_make_r s m av below meth cd H locs 0 0 Q (F0 m 20 ls []) := by
    intro b H locs ls hf hP hD hS hl
    unfold f_X3_make_r_20 at hf
    cases hf
    exact hret _ _ _ _ dX3_make_20 hP hD hS
  have l_31 : ∀ (n31 : Nat), ∀ (x1 : Int32) (x2 : Int32) (x3 : Int32) (x4 : Int32) (b : CS) (H : Heap) (locs : List Loc) (ls : Array Slot), f_X3_make_r_31 n31 x1 x2 x3 x4 b = some b' → va_P G.1 vwCl (w_S6 G A b) H → va_D B (w_S6 G A b) → va_S B s.heap H locs → lv_has ls 5 [(0, .ref (A 0)), (1, .int x1), (2, .int x2), (3, .int x3), (4, .int x4)] → W p l e r_X3_make_r s m av below meth cd H locs 0 0 Q (F0 m 31 ls []) := by
    intro n31
    induction n31 with
    | zero =>
      intro x1 x2 x3 x4 b H locs ls hf hP hD hS hl
      rw [f_X3_make_r_31] at hf
      cases hf
    | succ n31 ih31 =>
      intro x1 x2 x3 x4 b H locs ls hf hP hD hS hl
      rw [f_X3_make_r_31] at hf
      refine lv_iload (pc := 31) hx hb dX3_make_31 (lv_at hl 4 rfl) ?_
      refine lv_iload_n (pc := 33) hx hb dX3_make_33 rfl (lv_at hl 2 rfl) ?_
      refine lv_icmp_ge (pc := 34) (tgt := 53) hx hb dX3_make_34 (by decide) (fun h1 => ?_) (fun h1 => ?_)
      · have hf := br_y h1 hf
        cases hf
        exact hret _ _ _ _ dX3_make_53 hP hD hS
      · have hf := br_n h1 hf
        refine lv_aload_n (pc := 37) hx hb dX3_make_37 rfl (lv_at hl 0 rfl) ?_
        refine wget (pc := 38) X (fun _ h9 => List.mem_cons_of_mem _ (List.mem_append_right _ h9)) hP 0 (at_S6_0 G A b) rfl 0 (by decide) (List.mem_cons_of_mem _ (List.mem_append_left _ (List.mem_of_getElem? (i := 2) rfl))) rfl (v := .ref (A 1)) rfl dX3_make_38 ?_
        refine lv_iload_n (pc := 41) hx hb dX3_make_41 rfl (lv_at hl 1 rfl) ?_
        obtain ⟨hi, hf⟩ := ck_some hf
        refine waaldI (pc := 42) X hP 1 (at_S6_1 G A b) hi (B := fun i => A (3 + i)) (fun i h => by rcases (show i = 0 ∨ i = 1 ∨ i = 2 ∨ i = 3 ∨ i = 4 ∨ i = 5 by omega) with rfl | rfl | rfl | rfl | rfl | rfl <;> rfl) dX3_make_42 ?_
        have hj := inb_lt hi
        generalize x1.toNatClampNeg = jj at hf hj ⊢
        rcases (show jj = 0 ∨ jj = 1 ∨ jj = 2 ∨ jj = 3 ∨ jj = 4 ∨ jj = 5 by omega) with rfl | rfl | rfl | rfl | rfl | rfl
        · refine lv_iload (pc := 43) hx hb dX3_make_43 (lv_at hl 4 rfl) ?_
          refine lv_iload_n (pc := 45) hx hb dX3_make_45 rfl (lv_at hl 3 rfl) ?_
          obtain ⟨hi, hf⟩ := ck_some hf
          refine wiast (pc := 46) X hP hD hS 3 (at_S6_3 G A b) hi rfl (sa_S6_3 G A b _) dX3_make_46 (fun H locs hP hD hS => ?_)
          have hP : va_P G.1 vwCl (w_S6 G A (cset b 0 x4.toNatClampNeg x3)) H := hP
          have hD : va_D B (w_S6 G A (cset b 0 x4.toNatClampNeg x3)) := hD
          refine lv_iinc (pc := 47) (v := (x4 + (1 : Int32))) (lv' := [(4, .int (x4 + (1 : Int32))), (0, .ref (A 0)), (1, .int x1), (2, .int x2), (3, .int x3)]) hx hb dX3_make_47 hl (k := 4) rfl rfl (by decide) rfl (fun ls hl => ?_)
          refine lv_goto (pc := 50) (tgt := 31) hx hb dX3_make_50 (by decide) ?_
          exact ih31 _ _ _ _ _ H locs ls hf hP hD hS (lv_sub hl [1, 2, 3, 4, 0] rfl)
        · refine lv_iload (pc := 43) hx hb dX3_make_43 (lv_at hl 4 rfl) ?_
          refine lv_iload_n (pc := 45) hx hb dX3_make_45 rfl (lv_at hl 3 rfl) ?_
          obtain ⟨hi, hf⟩ := ck_some hf
          refine wiast (pc := 46) X hP hD hS 4 (at_S6_4 G A b) hi rfl (sa_S6_4 G A b _) dX3_make_46 (fun H locs hP hD hS => ?_)
          have hP : va_P G.1 vwCl (w_S6 G A (cset b 1 x4.toNatClampNeg x3)) H := hP
          have hD : va_D B (w_S6 G A (cset b 1 x4.toNatClampNeg x3)) := hD
          refine lv_iinc (pc := 47) (v := (x4 + (1 : Int32))) (lv' := [(4, .int (x4 + (1 : Int32))), (0, .ref (A 0)), (1, .int x1), (2, .int x2), (3, .int x3)]) hx hb dX3_make_47 hl (k := 4) rfl rfl (by decide) rfl (fun ls hl => ?_)
          refine lv_goto (pc := 50) (tgt := 31) hx hb dX3_make_50 (by decide) ?_
          exact ih31 _ _ _ _ _ H locs ls hf hP hD hS (lv_sub hl [1, 2, 3, 4, 0] rfl)
        · refine lv_iload (pc := 43) hx hb dX3_make_43 (lv_at hl 4 rfl) ?_
          refine lv_iload_n (pc := 45) hx hb dX3_make_45 rfl (lv_at hl 3 rfl) ?_
          obtain ⟨hi, hf⟩ := ck_some hf
          refine wiast (pc := 46) X hP hD hS 5 (at_S6_5 G A b) hi rfl (sa_S6_5 G A b _) dX3_make_46 (fun H locs hP hD hS => ?_)
          have hP : va_P G.1 vwCl (w_S6 G A (cset b 2 x4.toNatClampNeg x3)) H := hP
          have hD : va_D B (w_S6 G A (cset b 2 x4.toNatClampNeg x3)) := hD
          refine lv_iinc (pc := 47) (v := (x4 + (1 : Int32))) (lv' := [(4, .int (x4 + (1 : Int32))), (0, .ref (A 0)), (1, .int x1), (2, .int x2), (3, .int x3)]) hx hb dX3_make_47 hl (k := 4) rfl rfl (by decide) rfl (fun ls hl => ?_)
          refine lv_goto (pc := 50) (tgt := 31) hx hb dX3_make_50 (by decide) ?_
          exact ih31 _ _ _ _ _ H locs ls hf hP hD hS (lv_sub hl [1, 2, 3, 4, 0] rfl)
        · refine lv_iload (pc := 43) hx hb dX3_make_43 (lv_at hl 4 rfl) ?_
          refine lv_iload_n (pc := 45) hx hb dX3_make_45 rfl (lv_at hl 3 rfl) ?_
          obtain ⟨hi, hf⟩ := ck_some hf
          refine wiast (pc := 46) X hP hD hS 6 (at_S6_6 G A b) hi rfl (sa_S6_6 G A b _) dX3_make_46 (fun H locs hP hD hS => ?_)
          have hP : va_P G.1 vwCl (w_S6 G A (cset b 3 x4.toNatClampNeg x3)) H := hP
          have hD : va_D B (w_S6 G A (cset b 3 x4.toNatClampNeg x3)) := hD
          refine lv_iinc (pc := 47) (v := (x4 + (1 : Int32))) (lv' := [(4, .int (x4 + (1 : Int32))), (0, .ref (A 0)), (1, .int x1), (2, .int x2), (3, .int x3)]) hx hb dX3_make_47 hl (k := 4) rfl rfl (by decide) rfl (fun ls hl => ?_)
          refine lv_goto (pc := 50) (tgt := 31) hx hb dX3_make_50 (by decide) ?_
          exact ih31 _ _ _ _ _ H locs ls hf hP hD hS (lv_sub hl [1, 2, 3, 4, 0] rfl)
        · refine lv_iload (pc := 43) hx hb dX3_make_43 (lv_at hl 4 rfl) ?_
          refine lv_iload_n (pc := 45) hx hb dX3_make_45 rfl (lv_at hl 3 rfl) ?_
          obtain ⟨hi, hf⟩ := ck_some hf
          refine wiast (pc := 46) X hP hD hS 7 (at_S6_7 G A b) hi rfl (sa_S6_7 G A b _) dX3_make_46 (fun H locs hP hD hS => ?_)
          have hP : va_P G.1 vwCl (w_S6 G A (cset b 4 x4.toNatClampNeg x3)) H := hP
          have hD : va_D B (w_S6 G A (cset b 4 x4.toNatClampNeg x3)) := hD
          refine lv_iinc (pc := 47) (v := (x4 + (1 : Int32))) (lv' := [(4, .int (x4 + (1 : Int32))), (0, .ref (A 0)), (1, .int x1), (2, .int x2), (3, .int x3)]) hx hb dX3_make_47 hl (k := 4) rfl rfl (by decide) rfl (fun ls hl => ?_)
          refine lv_goto (pc := 50) (tgt := 31) hx hb dX3_make_50 (by decide) ?_
          exact ih31 _ _ _ _ _ H locs ls hf hP hD hS (lv_sub hl [1, 2, 3, 4, 0] rfl)
        · refine lv_iload (pc := 43) hx hb dX3_make_43 (lv_at hl 4 rfl) ?_
          refine lv_iload_n (pc := 45) hx hb dX3_make_45 rfl (lv_at hl 3 rfl) ?_
          obtain ⟨hi, hf⟩ := ck_some hf
          refine wiast (pc := 46) X hP hD hS 8 (at_S6_8 G A b) hi rfl (sa_S6_8 G A b _) dX3_make_46 (fun H locs hP hD hS => ?_)
          have hP : va_P G.1 vwCl (w_S6 G A (cset b 5 x4.toNatClampNeg x3)) H := hP
          have hD : va_D B (w_S6 G A (cset b 5 x4.toNatClampNeg x3)) := hD
          refine lv_iinc (pc := 47) (v := (x4 + (1 : Int32))) (lv' := [(4, .int (x4 + (1 : Int32))), (0, .ref (A 0)), (1, .int x1), (2, .int x2), (3, .int x3)]) hx hb dX3_make_47 hl (k := 4) rfl rfl (by decide) rfl (fun ls hl => ?_)
          refine lv_goto (pc := 50) (tgt := 31) hx hb dX3_make_50 (by decide) ?_
          exact ih31 _ _ _ _ _ H locs ls hf hP hD hS (lv_sub hl [1, 2, 3, 4, 0] rfl)
  unfold f_X3_make_r at hf
  refine lv_aload_n (pc := 0) hx hb dX3_make_0 rfl (lv_at hl 0 rfl) ?_
  refine lv_iload_n (pc := 1) hx hb dX3_make_1 rfl (lv_at hl 1 rfl) ?_
  obtain ⟨r1, hc1, hf⟩ := ob1_some hf
  refine endi X.2.2.2.2 (runV (pc := 2) (As := [.int x1]) (rest := []) X (c_X3_isNumber_r G l A H.size b x1 r1 hc1) gX3_make_X3_isNumber k_X3_isNumber ⟨rfl, rfl⟩ ⟨Nat.le_of_ble_eq_true rfl, Nat.le_of_ble_eq_true rfl⟩ (EM.all (w_S6 G A b) (w_S6 G A b)) hP hD hS (ci := 3) rfl rfl (at_S6_0 G A b) rfl hl.1 rfl (Nat.le_of_ble_eq_true rfl) ⟨Nat.zero_le _, Nat.zero_le _⟩ dX3_make_2) (EM.all (w_S6 G A b) (w_S6 G A b)) hP hD hS (fun H locs hP hD hS => ?_)
  refine lv_if_eq (pc := 5) (tgt := 20) hx hb dX3_make_5 (by decide) (fun h4 => ?_) (fun h4 => ?_)
  · have hf := br_y h4 hf
    exact b_20 _ H locs ls hf hP hD hS (lv_sub hl [] rfl)
  · have hf := br_n h4 hf
    refine lv_iload_n (pc := 8) hx hb dX3_make_8 rfl (lv_at hl 2 rfl) ?_
    refine lv_if_lt (pc := 9) (tgt := 20) hx hb dX3_make_9 (by decide) (fun h3 => ?_) (fun h3 => ?_)
    · have hf := br_y h3 hf
      exact b_20 _ H locs ls hf hP hD hS (lv_sub hl [] rfl)
    · have hf := br_n h3 hf
      refine lv_iload_n (pc := 12) hx hb dX3_make_12 rfl (lv_at hl 2 rfl) ?_
      refine lv_aload_n (pc := 13) hx hb dX3_make_13 rfl (lv_at hl 0 rfl) ?_
      refine wget (pc := 14) X (fun _ h9 => List.mem_cons_of_mem _ (List.mem_append_right _ h9)) hP 0 (at_S6_0 G A b) rfl 2 (by decide) (List.mem_cons_of_mem _ (List.mem_append_left _ (List.mem_of_getElem? (i := 0) rfl))) rfl (v := .int (40 : Int32)) rfl dX3_make_14 ?_
      refine lv_icmp_le (pc := 17) (tgt := 21) hx hb dX3_make_17 (by decide) (fun h2 => ?_) (fun h2 => ?_)
      · have hf := br_y h2 hf
        refine lv_aload_n (pc := 21) hx hb dX3_make_21 rfl (lv_at hl 0 rfl) ?_
        refine wget (pc := 22) X (fun _ h9 => List.mem_cons_of_mem _ (List.mem_append_right _ h9)) hP 0 (at_S6_0 G A b) rfl 1 (by decide) (List.mem_cons_of_mem _ (List.mem_append_left _ (List.mem_of_getElem? (i := 1) rfl))) rfl (v := .ref (A 2)) rfl dX3_make_22 ?_
        refine lv_iload_n (pc := 25) hx hb dX3_make_25 rfl (lv_at hl 1 rfl) ?_
        refine lv_iload_n (pc := 26) hx hb dX3_make_26 rfl (lv_at hl 2 rfl) ?_
        obtain ⟨hi, hf⟩ := ck_some hf
        refine wiast (pc := 27) X hP hD hS 2 (at_S6_2 G A b) hi rfl (sa_S6_2 G A b _) dX3_make_27 (fun H locs hP hD hS => ?_)
        have hP : va_P G.1 vwCl (w_S6 G A (cset b 6 x1.toNatClampNeg x2)) H := hP
        have hD : va_D B (w_S6 G A (cset b 6 x1.toNatClampNeg x2)) := hD
        refine lv_iconst (pc := 28) (v := (0 : Int32)) hx hb dX3_make_28 (by decide) ?_
        refine lv_istore (pc := 29) (lv' := [(4, .int (0 : Int32)), (0, .ref (A 0)), (1, .int x1), (2, .int x2), (3, .int x3)]) hx hb dX3_make_29 hl (by decide) rfl (fun ls hl => ?_)
        exact l_31 FU _ _ _ _ _ H locs ls hf hP hD hS (lv_sub hl [1, 2, 3, 4, 0] rfl)
      · have hf := br_n h2 hf
        exact b_20 _ H locs ls hf hP hD hS (lv_sub hl [] rfl)
def r_X3_make_t : Room := { frames := 1, cells := 0, slots := 0, locals := 21 }
set_option maxHeartbeats 4000000 in
set_option maxRecDepth 100000 in
theorem c_X3_make_t (G : GT) (l : Launch) (A : Nat → Nat) (sz : Nat) (b : CS) (x1 : Int32) (x2 : Int32) (x3 : Int32) (b' : CS) (hf : f_X3_make_t b x1 x2 x3 = some b') : MTv l yX3_make wsX3_make r_X3_make_t [.ref (A 0), .int x1, .int x2, .int x3] G (w_S4 G A b) (w_S4 G A b') sz := by
  refine MTv.of (cc := cX3_make) (maxL := 5) (by decide +kernel) rfl (Nat.le_of_ble_eq_true rfl) (fun p e s m av below meth cd Q B H locs ls X hret hl hP hD hS => ?_)
  have hx := X.1.1
  have hb := X.1.2.1
  have hl : lv_has ls 5 [(0, .ref (A 0)), (1, .int x1), (2, .int x2), (3, .int x3)] := hl
  have b_20 : ∀ (b : CS) (H : Heap) (locs : List Loc) (ls : Array Slot), f_X3_make_t_20 b = some b' → va_P G.1 vwCl (w_S4 G A b) H → va_D B (w_S4 G A b) → va_S B s.heap H locs → lv_has ls 5 [] → W p l e r_X3_make_t s m av below meth cd H locs 0 0 Q (F0 m 20 ls []) := by
    intro b H locs ls hf hP hD hS hl
    unfold f_X3_make_t_20 at hf
    cases hf
    exact hret _ _ _ _ dX3_make_20 hP hD hS
  have l_31 : ∀ (n31 : Nat), ∀ (x1 : Int32) (x2 : Int32) (x3 : Int32) (x4 : Int32) (b : CS) (H : Heap) (locs : List Loc) (ls : Array Slot), f_X3_make_t_31 n31 x1 x2 x3 x4 b = some b' → va_P G.1 vwCl (w_S4 G A b) H → va_D B (w_S4 G A b) → va_S B s.heap H locs → lv_has ls 5 [(0, .ref (A 0)), (1, .int x1), (2, .int x2), (3, .int x3), (4, .int x4)] → W p l e r_X3_make_t s m av below meth cd H locs 0 0 Q (F0 m 31 ls []) := by
    intro n31
    induction n31 with
    | zero =>
      intro x1 x2 x3 x4 b H locs ls hf hP hD hS hl
      rw [f_X3_make_t_31] at hf
      cases hf
    | succ n31 ih31 =>
      intro x1 x2 x3 x4 b H locs ls hf hP hD hS hl
      rw [f_X3_make_t_31] at hf
      refine lv_iload (pc := 31) hx hb dX3_make_31 (lv_at hl 4 rfl) ?_
      refine lv_iload_n (pc := 33) hx hb dX3_make_33 rfl (lv_at hl 2 rfl) ?_
      refine lv_icmp_ge (pc := 34) (tgt := 53) hx hb dX3_make_34 (by decide) (fun h1 => ?_) (fun h1 => ?_)
      · have hf := br_y h1 hf
        cases hf
        exact hret _ _ _ _ dX3_make_53 hP hD hS
      · have hf := br_n h1 hf
        refine lv_aload_n (pc := 37) hx hb dX3_make_37 rfl (lv_at hl 0 rfl) ?_
        refine wget (pc := 38) X (fun _ h9 => List.mem_cons_of_mem _ (List.mem_append_right _ h9)) hP 0 (at_S4_0 G A b) rfl 0 (by decide) (List.mem_cons_of_mem _ (List.mem_append_left _ (List.mem_of_getElem? (i := 2) rfl))) rfl (v := .ref (A 1)) rfl dX3_make_38 ?_
        refine lv_iload_n (pc := 41) hx hb dX3_make_41 rfl (lv_at hl 1 rfl) ?_
        obtain ⟨hi, hf⟩ := ck_some hf
        refine waaldI (pc := 42) X hP 1 (at_S4_1 G A b) hi (B := fun i => A (3 + i)) (fun i h => by rcases (show i = 0 ∨ i = 1 ∨ i = 2 ∨ i = 3 by omega) with rfl | rfl | rfl | rfl <;> rfl) dX3_make_42 ?_
        have hj := inb_lt hi
        generalize x1.toNatClampNeg = jj at hf hj ⊢
        rcases (show jj = 0 ∨ jj = 1 ∨ jj = 2 ∨ jj = 3 by omega) with rfl | rfl | rfl | rfl
        · refine lv_iload (pc := 43) hx hb dX3_make_43 (lv_at hl 4 rfl) ?_
          refine lv_iload_n (pc := 45) hx hb dX3_make_45 rfl (lv_at hl 3 rfl) ?_
          obtain ⟨hi, hf⟩ := ck_some hf
          refine wiast (pc := 46) X hP hD hS 3 (at_S4_3 G A b) hi rfl (sa_S4_3 G A b _) dX3_make_46 (fun H locs hP hD hS => ?_)
          have hP : va_P G.1 vwCl (w_S4 G A (cset b 0 x4.toNatClampNeg x3)) H := hP
          have hD : va_D B (w_S4 G A (cset b 0 x4.toNatClampNeg x3)) := hD
          refine lv_iinc (pc := 47) (v := (x4 + (1 : Int32))) (lv' := [(4, .int (x4 + (1 : Int32))), (0, .ref (A 0)), (1, .int x1), (2, .int x2), (3, .int x3)]) hx hb dX3_make_47 hl (k := 4) rfl rfl (by decide) rfl (fun ls hl => ?_)
          refine lv_goto (pc := 50) (tgt := 31) hx hb dX3_make_50 (by decide) ?_
          exact ih31 _ _ _ _ _ H locs ls hf hP hD hS (lv_sub hl [1, 2, 3, 4, 0] rfl)
        · refine lv_iload (pc := 43) hx hb dX3_make_43 (lv_at hl 4 rfl) ?_
          refine lv_iload_n (pc := 45) hx hb dX3_make_45 rfl (lv_at hl 3 rfl) ?_
          obtain ⟨hi, hf⟩ := ck_some hf
          refine wiast (pc := 46) X hP hD hS 4 (at_S4_4 G A b) hi rfl (sa_S4_4 G A b _) dX3_make_46 (fun H locs hP hD hS => ?_)
          have hP : va_P G.1 vwCl (w_S4 G A (cset b 1 x4.toNatClampNeg x3)) H := hP
          have hD : va_D B (w_S4 G A (cset b 1 x4.toNatClampNeg x3)) := hD
          refine lv_iinc (pc := 47) (v := (x4 + (1 : Int32))) (lv' := [(4, .int (x4 + (1 : Int32))), (0, .ref (A 0)), (1, .int x1), (2, .int x2), (3, .int x3)]) hx hb dX3_make_47 hl (k := 4) rfl rfl (by decide) rfl (fun ls hl => ?_)
          refine lv_goto (pc := 50) (tgt := 31) hx hb dX3_make_50 (by decide) ?_
          exact ih31 _ _ _ _ _ H locs ls hf hP hD hS (lv_sub hl [1, 2, 3, 4, 0] rfl)
        · refine lv_iload (pc := 43) hx hb dX3_make_43 (lv_at hl 4 rfl) ?_
          refine lv_iload_n (pc := 45) hx hb dX3_make_45 rfl (lv_at hl 3 rfl) ?_
          obtain ⟨hi, hf⟩ := ck_some hf
          refine wiast (pc := 46) X hP hD hS 5 (at_S4_5 G A b) hi rfl (sa_S4_5 G A b _) dX3_make_46 (fun H locs hP hD hS => ?_)
          have hP : va_P G.1 vwCl (w_S4 G A (cset b 2 x4.toNatClampNeg x3)) H := hP
          have hD : va_D B (w_S4 G A (cset b 2 x4.toNatClampNeg x3)) := hD
          refine lv_iinc (pc := 47) (v := (x4 + (1 : Int32))) (lv' := [(4, .int (x4 + (1 : Int32))), (0, .ref (A 0)), (1, .int x1), (2, .int x2), (3, .int x3)]) hx hb dX3_make_47 hl (k := 4) rfl rfl (by decide) rfl (fun ls hl => ?_)
          refine lv_goto (pc := 50) (tgt := 31) hx hb dX3_make_50 (by decide) ?_
          exact ih31 _ _ _ _ _ H locs ls hf hP hD hS (lv_sub hl [1, 2, 3, 4, 0] rfl)
        · refine lv_iload (pc := 43) hx hb dX3_make_43 (lv_at hl 4 rfl) ?_
          refine lv_iload_n (pc := 45) hx hb dX3_make_45 rfl (lv_at hl 3 rfl) ?_
          obtain ⟨hi, hf⟩ := ck_some hf
          refine wiast (pc := 46) X hP hD hS 6 (at_S4_6 G A b) hi rfl (sa_S4_6 G A b _) dX3_make_46 (fun H locs hP hD hS => ?_)
          have hP : va_P G.1 vwCl (w_S4 G A (cset b 3 x4.toNatClampNeg x3)) H := hP
          have hD : va_D B (w_S4 G A (cset b 3 x4.toNatClampNeg x3)) := hD
          refine lv_iinc (pc := 47) (v := (x4 + (1 : Int32))) (lv' := [(4, .int (x4 + (1 : Int32))), (0, .ref (A 0)), (1, .int x1), (2, .int x2), (3, .int x3)]) hx hb dX3_make_47 hl (k := 4) rfl rfl (by decide) rfl (fun ls hl => ?_)
          refine lv_goto (pc := 50) (tgt := 31) hx hb dX3_make_50 (by decide) ?_
          exact ih31 _ _ _ _ _ H locs ls hf hP hD hS (lv_sub hl [1, 2, 3, 4, 0] rfl)
  unfold f_X3_make_t at hf
  refine lv_aload_n (pc := 0) hx hb dX3_make_0 rfl (lv_at hl 0 rfl) ?_
  refine lv_iload_n (pc := 1) hx hb dX3_make_1 rfl (lv_at hl 1 rfl) ?_
  obtain ⟨r1, hc1, hf⟩ := ob1_some hf
  refine endi X.2.2.2.2 (runV (pc := 2) (As := [.int x1]) (rest := []) X (c_X3_isNumber_t G l A H.size b x1 r1 hc1) gX3_make_X3_isNumber k_X3_isNumber ⟨rfl, rfl⟩ ⟨Nat.le_of_ble_eq_true rfl, Nat.le_of_ble_eq_true rfl⟩ (EM.all (w_S4 G A b) (w_S4 G A b)) hP hD hS (ci := 3) rfl rfl (at_S4_0 G A b) rfl hl.1 rfl (Nat.le_of_ble_eq_true rfl) ⟨Nat.zero_le _, Nat.zero_le _⟩ dX3_make_2) (EM.all (w_S4 G A b) (w_S4 G A b)) hP hD hS (fun H locs hP hD hS => ?_)
  refine lv_if_eq (pc := 5) (tgt := 20) hx hb dX3_make_5 (by decide) (fun h4 => ?_) (fun h4 => ?_)
  · have hf := br_y h4 hf
    exact b_20 _ H locs ls hf hP hD hS (lv_sub hl [] rfl)
  · have hf := br_n h4 hf
    refine lv_iload_n (pc := 8) hx hb dX3_make_8 rfl (lv_at hl 2 rfl) ?_
    refine lv_if_lt (pc := 9) (tgt := 20) hx hb dX3_make_9 (by decide) (fun h3 => ?_) (fun h3 => ?_)
    · have hf := br_y h3 hf
      exact b_20 _ H locs ls hf hP hD hS (lv_sub hl [] rfl)
    · have hf := br_n h3 hf
      refine lv_iload_n (pc := 12) hx hb dX3_make_12 rfl (lv_at hl 2 rfl) ?_
      refine lv_aload_n (pc := 13) hx hb dX3_make_13 rfl (lv_at hl 0 rfl) ?_
      refine wget (pc := 14) X (fun _ h9 => List.mem_cons_of_mem _ (List.mem_append_right _ h9)) hP 0 (at_S4_0 G A b) rfl 2 (by decide) (List.mem_cons_of_mem _ (List.mem_append_left _ (List.mem_of_getElem? (i := 0) rfl))) rfl (v := .int (60 : Int32)) rfl dX3_make_14 ?_
      refine lv_icmp_le (pc := 17) (tgt := 21) hx hb dX3_make_17 (by decide) (fun h2 => ?_) (fun h2 => ?_)
      · have hf := br_y h2 hf
        refine lv_aload_n (pc := 21) hx hb dX3_make_21 rfl (lv_at hl 0 rfl) ?_
        refine wget (pc := 22) X (fun _ h9 => List.mem_cons_of_mem _ (List.mem_append_right _ h9)) hP 0 (at_S4_0 G A b) rfl 1 (by decide) (List.mem_cons_of_mem _ (List.mem_append_left _ (List.mem_of_getElem? (i := 1) rfl))) rfl (v := .ref (A 2)) rfl dX3_make_22 ?_
        refine lv_iload_n (pc := 25) hx hb dX3_make_25 rfl (lv_at hl 1 rfl) ?_
        refine lv_iload_n (pc := 26) hx hb dX3_make_26 rfl (lv_at hl 2 rfl) ?_
        obtain ⟨hi, hf⟩ := ck_some hf
        refine wiast (pc := 27) X hP hD hS 2 (at_S4_2 G A b) hi rfl (sa_S4_2 G A b _) dX3_make_27 (fun H locs hP hD hS => ?_)
        have hP : va_P G.1 vwCl (w_S4 G A (cset b 6 x1.toNatClampNeg x2)) H := hP
        have hD : va_D B (w_S4 G A (cset b 6 x1.toNatClampNeg x2)) := hD
        refine lv_iconst (pc := 28) (v := (0 : Int32)) hx hb dX3_make_28 (by decide) ?_
        refine lv_istore (pc := 29) (lv' := [(4, .int (0 : Int32)), (0, .ref (A 0)), (1, .int x1), (2, .int x2), (3, .int x3)]) hx hb dX3_make_29 hl (by decide) rfl (fun ls hl => ?_)
        exact l_31 FU _ _ _ _ _ H locs ls hf hP hD hS (lv_sub hl [1, 2, 3, 4, 0] rfl)
      · have hf := br_n h2 hf
        exact b_20 _ H locs ls hf hP hD hS (lv_sub hl [] rfl)
def r_X3_remove_r : Room := { frames := 1, cells := 0, slots := 0, locals := 21 }
set_option maxHeartbeats 4000000 in
set_option maxRecDepth 100000 in
theorem c_X3_remove_r (G : GT) (l : Launch) (A : Nat → Nat) (sz : Nat) (b : CS) (x1 : Int32) (b' : CS) (hf : f_X3_remove_r b x1 = some b') : MTv l yX3_remove wsX3_remove r_X3_remove_r [.ref (A 0), .int x1] G (w_S6 G A b) (w_S6 G A b') sz := by
  refine MTv.of (cc := cX3_remove) (maxL := 2) (by decide +kernel) rfl (Nat.le_of_ble_eq_true rfl) (fun p e s m av below meth cd Q B H locs ls X hret hl hP hD hS => ?_)
  have hx := X.1.1
  have hb := X.1.2.1
  have hl : lv_has ls 2 [(0, .ref (A 0)), (1, .int x1)] := hl
  have b_15 : ∀ (b : CS) (H : Heap) (locs : List Loc) (ls : Array Slot), f_X3_remove_r_15 b = some b' → va_P G.1 vwCl (w_S6 G A b) H → va_D B (w_S6 G A b) → va_S B s.heap H locs → lv_has ls 2 [] → W p l e r_X3_remove_r s m av below meth cd H locs 0 0 Q (F0 m 15 ls []) := by
    intro b H locs ls hf hP hD hS hl
    unfold f_X3_remove_r_15 at hf
    cases hf
    exact hret _ _ _ _ dX3_remove_15 hP hD hS
  unfold f_X3_remove_r at hf
  refine lv_aload_n (pc := 0) hx hb dX3_remove_0 rfl (lv_at hl 0 rfl) ?_
  refine lv_iload_n (pc := 1) hx hb dX3_remove_1 rfl (lv_at hl 1 rfl) ?_
  obtain ⟨r1, hc1, hf⟩ := ob1_some hf
  refine endi X.2.2.2.2 (runV (pc := 2) (As := [.int x1]) (rest := []) X (c_X3_isNumber_r G l A H.size b x1 r1 hc1) gX3_remove_X3_isNumber k_X3_isNumber ⟨rfl, rfl⟩ ⟨Nat.le_of_ble_eq_true rfl, Nat.le_of_ble_eq_true rfl⟩ (EM.all (w_S6 G A b) (w_S6 G A b)) hP hD hS (ci := 3) rfl rfl (at_S6_0 G A b) rfl hl.1 rfl (Nat.le_of_ble_eq_true rfl) ⟨Nat.zero_le _, Nat.zero_le _⟩ dX3_remove_2) (EM.all (w_S6 G A b) (w_S6 G A b)) hP hD hS (fun H locs hP hD hS => ?_)
  refine lv_if_eq (pc := 5) (tgt := 15) hx hb dX3_remove_5 (by decide) (fun h1 => ?_) (fun h1 => ?_)
  · have hf := br_y h1 hf
    exact b_15 _ H locs ls hf hP hD hS (lv_sub hl [] rfl)
  · have hf := br_n h1 hf
    refine lv_aload_n (pc := 8) hx hb dX3_remove_8 rfl (lv_at hl 0 rfl) ?_
    refine wget (pc := 9) X (fun _ h9 => List.mem_cons_of_mem _ (List.mem_append_right _ h9)) hP 0 (at_S6_0 G A b) rfl 1 (by decide) (List.mem_cons_of_mem _ (List.mem_append_left _ (List.mem_of_getElem? (i := 0) rfl))) rfl (v := .ref (A 2)) rfl dX3_remove_9 ?_
    refine lv_iload_n (pc := 12) hx hb dX3_remove_12 rfl (lv_at hl 1 rfl) ?_
    refine lv_iconst (pc := 13) (v := (-1 : Int32)) hx hb dX3_remove_13 (by decide) ?_
    obtain ⟨hi, hf⟩ := ck_some hf
    refine wiast (pc := 14) X hP hD hS 2 (at_S6_2 G A b) hi rfl (sa_S6_2 G A b _) dX3_remove_14 (fun H locs hP hD hS => ?_)
    have hP : va_P G.1 vwCl (w_S6 G A (cset b 6 x1.toNatClampNeg (-1 : Int32))) H := hP
    have hD : va_D B (w_S6 G A (cset b 6 x1.toNatClampNeg (-1 : Int32))) := hD
    exact b_15 _ H locs ls hf hP hD hS (lv_sub hl [] rfl)
def r_X3_remove_t : Room := { frames := 1, cells := 0, slots := 0, locals := 21 }
set_option maxHeartbeats 4000000 in
set_option maxRecDepth 100000 in
theorem c_X3_remove_t (G : GT) (l : Launch) (A : Nat → Nat) (sz : Nat) (b : CS) (x1 : Int32) (b' : CS) (hf : f_X3_remove_t b x1 = some b') : MTv l yX3_remove wsX3_remove r_X3_remove_t [.ref (A 0), .int x1] G (w_S4 G A b) (w_S4 G A b') sz := by
  refine MTv.of (cc := cX3_remove) (maxL := 2) (by decide +kernel) rfl (Nat.le_of_ble_eq_true rfl) (fun p e s m av below meth cd Q B H locs ls X hret hl hP hD hS => ?_)
  have hx := X.1.1
  have hb := X.1.2.1
  have hl : lv_has ls 2 [(0, .ref (A 0)), (1, .int x1)] := hl
  have b_15 : ∀ (b : CS) (H : Heap) (locs : List Loc) (ls : Array Slot), f_X3_remove_t_15 b = some b' → va_P G.1 vwCl (w_S4 G A b) H → va_D B (w_S4 G A b) → va_S B s.heap H locs → lv_has ls 2 [] → W p l e r_X3_remove_t s m av below meth cd H locs 0 0 Q (F0 m 15 ls []) := by
    intro b H locs ls hf hP hD hS hl
    unfold f_X3_remove_t_15 at hf
    cases hf
    exact hret _ _ _ _ dX3_remove_15 hP hD hS
  unfold f_X3_remove_t at hf
  refine lv_aload_n (pc := 0) hx hb dX3_remove_0 rfl (lv_at hl 0 rfl) ?_
  refine lv_iload_n (pc := 1) hx hb dX3_remove_1 rfl (lv_at hl 1 rfl) ?_
  obtain ⟨r1, hc1, hf⟩ := ob1_some hf
  refine endi X.2.2.2.2 (runV (pc := 2) (As := [.int x1]) (rest := []) X (c_X3_isNumber_t G l A H.size b x1 r1 hc1) gX3_remove_X3_isNumber k_X3_isNumber ⟨rfl, rfl⟩ ⟨Nat.le_of_ble_eq_true rfl, Nat.le_of_ble_eq_true rfl⟩ (EM.all (w_S4 G A b) (w_S4 G A b)) hP hD hS (ci := 3) rfl rfl (at_S4_0 G A b) rfl hl.1 rfl (Nat.le_of_ble_eq_true rfl) ⟨Nat.zero_le _, Nat.zero_le _⟩ dX3_remove_2) (EM.all (w_S4 G A b) (w_S4 G A b)) hP hD hS (fun H locs hP hD hS => ?_)
  refine lv_if_eq (pc := 5) (tgt := 15) hx hb dX3_remove_5 (by decide) (fun h1 => ?_) (fun h1 => ?_)
  · have hf := br_y h1 hf
    exact b_15 _ H locs ls hf hP hD hS (lv_sub hl [] rfl)
  · have hf := br_n h1 hf
    refine lv_aload_n (pc := 8) hx hb dX3_remove_8 rfl (lv_at hl 0 rfl) ?_
    refine wget (pc := 9) X (fun _ h9 => List.mem_cons_of_mem _ (List.mem_append_right _ h9)) hP 0 (at_S4_0 G A b) rfl 1 (by decide) (List.mem_cons_of_mem _ (List.mem_append_left _ (List.mem_of_getElem? (i := 0) rfl))) rfl (v := .ref (A 2)) rfl dX3_remove_9 ?_
    refine lv_iload_n (pc := 12) hx hb dX3_remove_12 rfl (lv_at hl 1 rfl) ?_
    refine lv_iconst (pc := 13) (v := (-1 : Int32)) hx hb dX3_remove_13 (by decide) ?_
    obtain ⟨hi, hf⟩ := ck_some hf
    refine wiast (pc := 14) X hP hD hS 2 (at_S4_2 G A b) hi rfl (sa_S4_2 G A b _) dX3_remove_14 (fun H locs hP hD hS => ?_)
    have hP : va_P G.1 vwCl (w_S4 G A (cset b 6 x1.toNatClampNeg (-1 : Int32))) H := hP
    have hD : va_D B (w_S4 G A (cset b 6 x1.toNatClampNeg (-1 : Int32))) := hD
    exact b_15 _ H locs ls hf hP hD hS (lv_sub hl [] rfl)
def r_X3_set_r : Room := { frames := 2, cells := 0, slots := 0, locals := 43 }
set_option maxHeartbeats 4000000 in
set_option maxRecDepth 100000 in
theorem c_X3_set_r (G : GT) (l : Launch) (A : Nat → Nat) (sz : Nat) (b : CS) (x1 : Int32) (x2 : Int32) (x3 : Int32) (b' : CS) (hf : f_X3_set_r b x1 x2 x3 = some b') : MTv l yX3_set wsX3_set r_X3_set_r [.ref (A 0), .int x1, .int x2, .int x3] G (w_S6 G A b) (w_S6 G A b') sz := by
  refine MTv.of (cc := cX3_set) (maxL := 4) (by decide +kernel) rfl (Nat.le_of_ble_eq_true rfl) (fun p e s m av below meth cd Q B H locs ls X hret hl hP hD hS => ?_)
  have hx := X.1.1
  have hb := X.1.2.1
  have hl : lv_has ls 4 [(0, .ref (A 0)), (1, .int x1), (2, .int x2), (3, .int x3)] := hl
  have b_18 : ∀ (b : CS) (H : Heap) (locs : List Loc) (ls : Array Slot), f_X3_set_r_18 b = some b' → va_P G.1 vwCl (w_S6 G A b) H → va_D B (w_S6 G A b) → va_S B s.heap H locs → lv_has ls 4 [] → W p l e r_X3_set_r s m av below meth cd H locs 0 0 Q (F0 m 18 ls []) := by
    intro b H locs ls hf hP hD hS hl
    unfold f_X3_set_r_18 at hf
    cases hf
    exact hret _ _ _ _ dX3_set_18 hP hD hS
  unfold f_X3_set_r at hf
  refine lv_aload_n (pc := 0) hx hb dX3_set_0 rfl (lv_at hl 0 rfl) ?_
  refine lv_iload_n (pc := 1) hx hb dX3_set_1 rfl (lv_at hl 1 rfl) ?_
  refine lv_iload_n (pc := 2) hx hb dX3_set_2 rfl (lv_at hl 2 rfl) ?_
  obtain ⟨r1, hc1, hf⟩ := ob1_some hf
  refine endi X.2.2.2.2 (runV (pc := 3) (As := [.int x1, .int x2]) (rest := []) X (c_X3_holds_r G l A H.size b x1 x2 r1 hc1) gX3_set_X3_holds k_X3_holds ⟨rfl, rfl⟩ ⟨Nat.le_of_ble_eq_true rfl, Nat.le_of_ble_eq_true rfl⟩ (EM.all (w_S6 G A b) (w_S6 G A b)) hP hD hS (ci := 3) rfl rfl (at_S6_0 G A b) rfl hl.1 rfl (Nat.le_of_ble_eq_true rfl) ⟨Nat.zero_le _, Nat.zero_le _⟩ dX3_set_3) (EM.all (w_S6 G A b) (w_S6 G A b)) hP hD hS (fun H locs hP hD hS => ?_)
  refine lv_if_eq (pc := 6) (tgt := 18) hx hb dX3_set_6 (by decide) (fun h1 => ?_) (fun h1 => ?_)
  · have hf := br_y h1 hf
    exact b_18 _ H locs ls hf hP hD hS (lv_sub hl [] rfl)
  · have hf := br_n h1 hf
    refine lv_aload_n (pc := 9) hx hb dX3_set_9 rfl (lv_at hl 0 rfl) ?_
    refine wget (pc := 10) X (fun _ h9 => List.mem_cons_of_mem _ (List.mem_append_right _ h9)) hP 0 (at_S6_0 G A b) rfl 0 (by decide) (List.mem_cons_of_mem _ (List.mem_append_left _ (List.mem_of_getElem? (i := 0) rfl))) rfl (v := .ref (A 1)) rfl dX3_set_10 ?_
    refine lv_iload_n (pc := 13) hx hb dX3_set_13 rfl (lv_at hl 1 rfl) ?_
    obtain ⟨hi, hf⟩ := ck_some hf
    refine waaldI (pc := 14) X hP 1 (at_S6_1 G A b) hi (B := fun i => A (3 + i)) (fun i h => by rcases (show i = 0 ∨ i = 1 ∨ i = 2 ∨ i = 3 ∨ i = 4 ∨ i = 5 by omega) with rfl | rfl | rfl | rfl | rfl | rfl <;> rfl) dX3_set_14 ?_
    have hj := inb_lt hi
    generalize x1.toNatClampNeg = jj at hf hj ⊢
    rcases (show jj = 0 ∨ jj = 1 ∨ jj = 2 ∨ jj = 3 ∨ jj = 4 ∨ jj = 5 by omega) with rfl | rfl | rfl | rfl | rfl | rfl
    · refine lv_iload_n (pc := 15) hx hb dX3_set_15 rfl (lv_at hl 2 rfl) ?_
      refine lv_iload_n (pc := 16) hx hb dX3_set_16 rfl (lv_at hl 3 rfl) ?_
      obtain ⟨hi, hf⟩ := ck_some hf
      refine wiast (pc := 17) X hP hD hS 3 (at_S6_3 G A b) hi rfl (sa_S6_3 G A b _) dX3_set_17 (fun H locs hP hD hS => ?_)
      have hP : va_P G.1 vwCl (w_S6 G A (cset b 0 x2.toNatClampNeg x3)) H := hP
      have hD : va_D B (w_S6 G A (cset b 0 x2.toNatClampNeg x3)) := hD
      exact b_18 _ H locs ls hf hP hD hS (lv_sub hl [] rfl)
    · refine lv_iload_n (pc := 15) hx hb dX3_set_15 rfl (lv_at hl 2 rfl) ?_
      refine lv_iload_n (pc := 16) hx hb dX3_set_16 rfl (lv_at hl 3 rfl) ?_
      obtain ⟨hi, hf⟩ := ck_some hf
      refine wiast (pc := 17) X hP hD hS 4 (at_S6_4 G A b) hi rfl (sa_S6_4 G A b _) dX3_set_17 (fun H locs hP hD hS => ?_)
      have hP : va_P G.1 vwCl (w_S6 G A (cset b 1 x2.toNatClampNeg x3)) H := hP
      have hD : va_D B (w_S6 G A (cset b 1 x2.toNatClampNeg x3)) := hD
      exact b_18 _ H locs ls hf hP hD hS (lv_sub hl [] rfl)
    · refine lv_iload_n (pc := 15) hx hb dX3_set_15 rfl (lv_at hl 2 rfl) ?_
      refine lv_iload_n (pc := 16) hx hb dX3_set_16 rfl (lv_at hl 3 rfl) ?_
      obtain ⟨hi, hf⟩ := ck_some hf
      refine wiast (pc := 17) X hP hD hS 5 (at_S6_5 G A b) hi rfl (sa_S6_5 G A b _) dX3_set_17 (fun H locs hP hD hS => ?_)
      have hP : va_P G.1 vwCl (w_S6 G A (cset b 2 x2.toNatClampNeg x3)) H := hP
      have hD : va_D B (w_S6 G A (cset b 2 x2.toNatClampNeg x3)) := hD
      exact b_18 _ H locs ls hf hP hD hS (lv_sub hl [] rfl)
    · refine lv_iload_n (pc := 15) hx hb dX3_set_15 rfl (lv_at hl 2 rfl) ?_
      refine lv_iload_n (pc := 16) hx hb dX3_set_16 rfl (lv_at hl 3 rfl) ?_
      obtain ⟨hi, hf⟩ := ck_some hf
      refine wiast (pc := 17) X hP hD hS 6 (at_S6_6 G A b) hi rfl (sa_S6_6 G A b _) dX3_set_17 (fun H locs hP hD hS => ?_)
      have hP : va_P G.1 vwCl (w_S6 G A (cset b 3 x2.toNatClampNeg x3)) H := hP
      have hD : va_D B (w_S6 G A (cset b 3 x2.toNatClampNeg x3)) := hD
      exact b_18 _ H locs ls hf hP hD hS (lv_sub hl [] rfl)
    · refine lv_iload_n (pc := 15) hx hb dX3_set_15 rfl (lv_at hl 2 rfl) ?_
      refine lv_iload_n (pc := 16) hx hb dX3_set_16 rfl (lv_at hl 3 rfl) ?_
      obtain ⟨hi, hf⟩ := ck_some hf
      refine wiast (pc := 17) X hP hD hS 7 (at_S6_7 G A b) hi rfl (sa_S6_7 G A b _) dX3_set_17 (fun H locs hP hD hS => ?_)
      have hP : va_P G.1 vwCl (w_S6 G A (cset b 4 x2.toNatClampNeg x3)) H := hP
      have hD : va_D B (w_S6 G A (cset b 4 x2.toNatClampNeg x3)) := hD
      exact b_18 _ H locs ls hf hP hD hS (lv_sub hl [] rfl)
    · refine lv_iload_n (pc := 15) hx hb dX3_set_15 rfl (lv_at hl 2 rfl) ?_
      refine lv_iload_n (pc := 16) hx hb dX3_set_16 rfl (lv_at hl 3 rfl) ?_
      obtain ⟨hi, hf⟩ := ck_some hf
      refine wiast (pc := 17) X hP hD hS 8 (at_S6_8 G A b) hi rfl (sa_S6_8 G A b _) dX3_set_17 (fun H locs hP hD hS => ?_)
      have hP : va_P G.1 vwCl (w_S6 G A (cset b 5 x2.toNatClampNeg x3)) H := hP
      have hD : va_D B (w_S6 G A (cset b 5 x2.toNatClampNeg x3)) := hD
      exact b_18 _ H locs ls hf hP hD hS (lv_sub hl [] rfl)
def r_X3_set_t : Room := { frames := 2, cells := 0, slots := 0, locals := 43 }
set_option maxHeartbeats 4000000 in
set_option maxRecDepth 100000 in
theorem c_X3_set_t (G : GT) (l : Launch) (A : Nat → Nat) (sz : Nat) (b : CS) (x1 : Int32) (x2 : Int32) (x3 : Int32) (b' : CS) (hf : f_X3_set_t b x1 x2 x3 = some b') : MTv l yX3_set wsX3_set r_X3_set_t [.ref (A 0), .int x1, .int x2, .int x3] G (w_S4 G A b) (w_S4 G A b') sz := by
  refine MTv.of (cc := cX3_set) (maxL := 4) (by decide +kernel) rfl (Nat.le_of_ble_eq_true rfl) (fun p e s m av below meth cd Q B H locs ls X hret hl hP hD hS => ?_)
  have hx := X.1.1
  have hb := X.1.2.1
  have hl : lv_has ls 4 [(0, .ref (A 0)), (1, .int x1), (2, .int x2), (3, .int x3)] := hl
  have b_18 : ∀ (b : CS) (H : Heap) (locs : List Loc) (ls : Array Slot), f_X3_set_t_18 b = some b' → va_P G.1 vwCl (w_S4 G A b) H → va_D B (w_S4 G A b) → va_S B s.heap H locs → lv_has ls 4 [] → W p l e r_X3_set_t s m av below meth cd H locs 0 0 Q (F0 m 18 ls []) := by
    intro b H locs ls hf hP hD hS hl
    unfold f_X3_set_t_18 at hf
    cases hf
    exact hret _ _ _ _ dX3_set_18 hP hD hS
  unfold f_X3_set_t at hf
  refine lv_aload_n (pc := 0) hx hb dX3_set_0 rfl (lv_at hl 0 rfl) ?_
  refine lv_iload_n (pc := 1) hx hb dX3_set_1 rfl (lv_at hl 1 rfl) ?_
  refine lv_iload_n (pc := 2) hx hb dX3_set_2 rfl (lv_at hl 2 rfl) ?_
  obtain ⟨r1, hc1, hf⟩ := ob1_some hf
  refine endi X.2.2.2.2 (runV (pc := 3) (As := [.int x1, .int x2]) (rest := []) X (c_X3_holds_t G l A H.size b x1 x2 r1 hc1) gX3_set_X3_holds k_X3_holds ⟨rfl, rfl⟩ ⟨Nat.le_of_ble_eq_true rfl, Nat.le_of_ble_eq_true rfl⟩ (EM.all (w_S4 G A b) (w_S4 G A b)) hP hD hS (ci := 3) rfl rfl (at_S4_0 G A b) rfl hl.1 rfl (Nat.le_of_ble_eq_true rfl) ⟨Nat.zero_le _, Nat.zero_le _⟩ dX3_set_3) (EM.all (w_S4 G A b) (w_S4 G A b)) hP hD hS (fun H locs hP hD hS => ?_)
  refine lv_if_eq (pc := 6) (tgt := 18) hx hb dX3_set_6 (by decide) (fun h1 => ?_) (fun h1 => ?_)
  · have hf := br_y h1 hf
    exact b_18 _ H locs ls hf hP hD hS (lv_sub hl [] rfl)
  · have hf := br_n h1 hf
    refine lv_aload_n (pc := 9) hx hb dX3_set_9 rfl (lv_at hl 0 rfl) ?_
    refine wget (pc := 10) X (fun _ h9 => List.mem_cons_of_mem _ (List.mem_append_right _ h9)) hP 0 (at_S4_0 G A b) rfl 0 (by decide) (List.mem_cons_of_mem _ (List.mem_append_left _ (List.mem_of_getElem? (i := 0) rfl))) rfl (v := .ref (A 1)) rfl dX3_set_10 ?_
    refine lv_iload_n (pc := 13) hx hb dX3_set_13 rfl (lv_at hl 1 rfl) ?_
    obtain ⟨hi, hf⟩ := ck_some hf
    refine waaldI (pc := 14) X hP 1 (at_S4_1 G A b) hi (B := fun i => A (3 + i)) (fun i h => by rcases (show i = 0 ∨ i = 1 ∨ i = 2 ∨ i = 3 by omega) with rfl | rfl | rfl | rfl <;> rfl) dX3_set_14 ?_
    have hj := inb_lt hi
    generalize x1.toNatClampNeg = jj at hf hj ⊢
    rcases (show jj = 0 ∨ jj = 1 ∨ jj = 2 ∨ jj = 3 by omega) with rfl | rfl | rfl | rfl
    · refine lv_iload_n (pc := 15) hx hb dX3_set_15 rfl (lv_at hl 2 rfl) ?_
      refine lv_iload_n (pc := 16) hx hb dX3_set_16 rfl (lv_at hl 3 rfl) ?_
      obtain ⟨hi, hf⟩ := ck_some hf
      refine wiast (pc := 17) X hP hD hS 3 (at_S4_3 G A b) hi rfl (sa_S4_3 G A b _) dX3_set_17 (fun H locs hP hD hS => ?_)
      have hP : va_P G.1 vwCl (w_S4 G A (cset b 0 x2.toNatClampNeg x3)) H := hP
      have hD : va_D B (w_S4 G A (cset b 0 x2.toNatClampNeg x3)) := hD
      exact b_18 _ H locs ls hf hP hD hS (lv_sub hl [] rfl)
    · refine lv_iload_n (pc := 15) hx hb dX3_set_15 rfl (lv_at hl 2 rfl) ?_
      refine lv_iload_n (pc := 16) hx hb dX3_set_16 rfl (lv_at hl 3 rfl) ?_
      obtain ⟨hi, hf⟩ := ck_some hf
      refine wiast (pc := 17) X hP hD hS 4 (at_S4_4 G A b) hi rfl (sa_S4_4 G A b _) dX3_set_17 (fun H locs hP hD hS => ?_)
      have hP : va_P G.1 vwCl (w_S4 G A (cset b 1 x2.toNatClampNeg x3)) H := hP
      have hD : va_D B (w_S4 G A (cset b 1 x2.toNatClampNeg x3)) := hD
      exact b_18 _ H locs ls hf hP hD hS (lv_sub hl [] rfl)
    · refine lv_iload_n (pc := 15) hx hb dX3_set_15 rfl (lv_at hl 2 rfl) ?_
      refine lv_iload_n (pc := 16) hx hb dX3_set_16 rfl (lv_at hl 3 rfl) ?_
      obtain ⟨hi, hf⟩ := ck_some hf
      refine wiast (pc := 17) X hP hD hS 5 (at_S4_5 G A b) hi rfl (sa_S4_5 G A b _) dX3_set_17 (fun H locs hP hD hS => ?_)
      have hP : va_P G.1 vwCl (w_S4 G A (cset b 2 x2.toNatClampNeg x3)) H := hP
      have hD : va_D B (w_S4 G A (cset b 2 x2.toNatClampNeg x3)) := hD
      exact b_18 _ H locs ls hf hP hD hS (lv_sub hl [] rfl)
    · refine lv_iload_n (pc := 15) hx hb dX3_set_15 rfl (lv_at hl 2 rfl) ?_
      refine lv_iload_n (pc := 16) hx hb dX3_set_16 rfl (lv_at hl 3 rfl) ?_
      obtain ⟨hi, hf⟩ := ck_some hf
      refine wiast (pc := 17) X hP hD hS 6 (at_S4_6 G A b) hi rfl (sa_S4_6 G A b _) dX3_set_17 (fun H locs hP hD hS => ?_)
      have hP : va_P G.1 vwCl (w_S4 G A (cset b 3 x2.toNatClampNeg x3)) H := hP
      have hD : va_D B (w_S4 G A (cset b 3 x2.toNatClampNeg x3)) := hD
      exact b_18 _ H locs ls hf hP hD hS (lv_sub hl [] rfl)
