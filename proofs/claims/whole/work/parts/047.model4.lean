def r_X6_lay : Room := { frames := 2, cells := 0, slots := 0, locals := 45 }
set_option maxHeartbeats 4000000 in
set_option maxRecDepth 100000 in
theorem c_X6_lay (G : GT) (l : Launch) (A : Nat → Nat) (sz : Nat) (M : CS) (N : JS) (x1 : Int32) (x2 : Int32) (x3 : Int32) (r : Int32) (M' : CS) (hf : f_X6_lay M N x1 x2 x3 = some (r, M')) : MTi l yX6_lay wsX6_lay r_X6_lay [.ref (A 0), .int x1, .int x2, .int x3] G (w_Mo G A M N) (w_Mo G A M' N) sz r := by
  refine MTi.of (cc := cX6_lay) (maxL := 5) (by decide +kernel) rfl (Nat.le_of_ble_eq_true rfl) (fun p e s m av below meth cd Q B H locs ls X hret hl hP hD hS => ?_)
  have hx := X.1.1
  have hb := X.1.2.1
  have hl : lv_has ls 5 [(0, .ref (A 0)), (1, .int x1), (2, .int x2), (3, .int x3)] := hl
  unfold f_X6_lay at hf
  refine lv_iload_n (pc := 0) hx hb dX6_lay_0 rfl (lv_at hl 1 rfl) ?_
  obtain ⟨r1, hc1, hf⟩ := ob1_some hf
  refine endi X.2.2.2.2 (runS (pc := 1) (As := [.int x1]) (rest := []) X (c_X6_isRow G l  H.size x1 r1 hc1) gX6_lay_X6_isRow k_X6_isRow ⟨rfl, rfl⟩ ⟨Nat.le_of_ble_eq_true rfl, Nat.le_of_ble_eq_true rfl⟩ (EM.nil (w_Mo G A M N)) hP hD hS rfl hl.1 rfl (Nat.le_of_ble_eq_true rfl) ⟨Nat.zero_le _, Nat.zero_le _⟩ dX6_lay_1) (EM.nil (w_Mo G A M N)) hP hD hS (fun H locs hP hD hS => ?_)
  refine lv_if_ne (pc := 4) (tgt := 9) hx hb dX6_lay_4 (by decide) (fun h3 => ?_) (fun h3 => ?_)
  · have hf := br_n h3 hf
    refine lv_aload_n (pc := 9) hx hb dX6_lay_9 rfl (lv_at hl 0 rfl) ?_
    refine wget (pc := 10) X (fun _ h9 => List.mem_cons_of_mem _ (List.mem_append_right _ h9)) hP 0 (at_Mo_0 G A M N) rfl 0 (by decide) (List.mem_cons_of_mem _ (List.mem_append_left _ (List.mem_of_getElem? (i := 0) rfl))) rfl (v := .ref (A 1)) rfl dX6_lay_10 ?_
    refine lv_iload_n (pc := 13) hx hb dX6_lay_13 rfl (lv_at hl 1 rfl) ?_
    obtain ⟨hi, hf⟩ := ck_some hf
    refine wiald (pc := 14) X hP 1 (at_Mo_1 G A M N) hi rfl dX6_lay_14 ?_
    refine lv_if_ge (pc := 15) (tgt := 24) hx hb dX6_lay_15 (by decide) (fun h2 => ?_) (fun h2 => ?_)
    · have hf := br_y h2 hf
      refine lv_iload_n (pc := 24) hx hb dX6_lay_24 rfl (lv_at hl 2 rfl) ?_
      refine lv_i2l (pc := 25) (v := (x2).toInt64) hx hb dX6_lay_25 rfl ?_
      refine lv_lconst (pc := 26) (v := (0 : Int64)) hx hb dX6_lay_26 (by decide) ?_
      refine lv_aload_n (pc := 27) hx hb dX6_lay_27 rfl (lv_at hl 0 rfl) ?_
      refine wget (pc := 28) X (fun _ h9 => List.mem_cons_of_mem _ (List.mem_append_right _ h9)) hP 0 (at_Mo_0 G A M N) rfl 0 (by decide) (List.mem_cons_of_mem _ (List.mem_append_left _ (List.mem_of_getElem? (i := 0) rfl))) rfl (v := .ref (A 1)) rfl dX6_lay_28 ?_
      refine lv_iload_n (pc := 31) hx hb dX6_lay_31 rfl (lv_at hl 1 rfl) ?_
      obtain ⟨hi, hf⟩ := ck_some hf
      refine wiald (pc := 32) X hP 1 (at_Mo_1 G A M N) hi rfl dX6_lay_32 ?_
      refine lv_iconst (pc := 33) (v := (1 : Int32)) hx hb dX6_lay_33 (by decide) ?_
      refine lv_isub (pc := 34) hx hb dX6_lay_34 ?_
      refine lv_i2l (pc := 35) (v := ((((M 0) x1.toNatClampNeg) - (1 : Int32))).toInt64) hx hb dX6_lay_35 rfl ?_
      obtain ⟨r2, hc2, hf⟩ := ob1_some hf
      refine endi X.2.2.2.2 (runS (pc := 36) (As := [.long ((x2).toInt64), .long (0 : Int64), .long (((((M 0) x1.toNatClampNeg) - (1 : Int32))).toInt64)]) (rest := []) X (c_X6_in G l  H.size ((x2).toInt64) (0 : Int64) (((((M 0) x1.toNatClampNeg) - (1 : Int32))).toInt64) r2 hc2) gX6_lay_X6_in k_X6_in ⟨rfl, rfl⟩ ⟨Nat.le_of_ble_eq_true rfl, Nat.le_of_ble_eq_true rfl⟩ (EM.nil (w_Mo G A M N)) hP hD hS rfl hl.1 rfl (Nat.le_of_ble_eq_true rfl) ⟨Nat.zero_le _, Nat.zero_le _⟩ dX6_lay_36) (EM.nil (w_Mo G A M N)) hP hD hS (fun H locs hP hD hS => ?_)
      refine lv_if_ne (pc := 39) (tgt := 48) hx hb dX6_lay_39 (by decide) (fun h1 => ?_) (fun h1 => ?_)
      · have hf := br_n h1 hf
        refine lv_aload_n (pc := 48) hx hb dX6_lay_48 rfl (lv_at hl 0 rfl) ?_
        refine wget (pc := 49) X (fun _ h9 => List.mem_cons_of_mem _ (List.mem_append_right _ h9)) hP 0 (at_Mo_0 G A M N) rfl 1 (by decide) (List.mem_cons_of_mem _ (List.mem_append_left _ (List.mem_of_getElem? (i := 1) rfl))) rfl (v := .ref (A 2)) rfl dX6_lay_49 ?_
        refine lv_bipush (pc := 52) (v := (40 : Int32)) hx hb dX6_lay_52 (by decide) ?_
        refine lv_iload_n (pc := 54) hx hb dX6_lay_54 rfl (lv_at hl 1 rfl) ?_
        refine lv_imul (pc := 55) hx hb dX6_lay_55 ?_
        refine lv_iload_n (pc := 56) hx hb dX6_lay_56 rfl (lv_at hl 2 rfl) ?_
        refine lv_iadd (pc := 57) hx hb dX6_lay_57 ?_
        obtain ⟨hi, hf⟩ := ck_some hf
        refine wiald (pc := 58) X hP 2 (at_Mo_2 G A M N) hi rfl dX6_lay_58 ?_
        refine lv_istore (pc := 59) (lv' := [(4, .int ((M 1) (((40 : Int32) * x1) + x2).toNatClampNeg)), (0, .ref (A 0)), (1, .int x1), (2, .int x2), (3, .int x3)]) hx hb dX6_lay_59 hl (by decide) rfl (fun ls hl => ?_)
        refine lv_aload_n (pc := 61) hx hb dX6_lay_61 rfl (lv_at hl 1 rfl) ?_
        refine wget (pc := 62) X (fun _ h9 => List.mem_cons_of_mem _ (List.mem_append_right _ h9)) hP 0 (at_Mo_0 G A M N) rfl 1 (by decide) (List.mem_cons_of_mem _ (List.mem_append_left _ (List.mem_of_getElem? (i := 1) rfl))) rfl (v := .ref (A 2)) rfl dX6_lay_62 ?_
        refine lv_bipush (pc := 65) (v := (40 : Int32)) hx hb dX6_lay_65 (by decide) ?_
        refine lv_iload_n (pc := 67) hx hb dX6_lay_67 rfl (lv_at hl 2 rfl) ?_
        refine lv_imul (pc := 68) hx hb dX6_lay_68 ?_
        refine lv_iload_n (pc := 69) hx hb dX6_lay_69 rfl (lv_at hl 3 rfl) ?_
        refine lv_iadd (pc := 70) hx hb dX6_lay_70 ?_
        refine lv_iload_n (pc := 71) hx hb dX6_lay_71 rfl (lv_at hl 4 rfl) ?_
        obtain ⟨hi, hf⟩ := ck_some hf
        refine wiast (pc := 72) X hP hD hS 2 (at_Mo_2 G A M N) hi rfl (sa_Mo_2 G A M N _) dX6_lay_72 (fun H locs hP hD hS => ?_)
        have hP : va_P G.1 vwCl (w_Mo G A (cset M 1 (((40 : Int32) * x1) + x2).toNatClampNeg x3) N) H := hP
        have hD : va_D B (w_Mo G A (cset M 1 (((40 : Int32) * x1) + x2).toNatClampNeg x3) N) := hD
        refine lv_aload_n (pc := 73) hx hb dX6_lay_73 rfl (lv_at hl 1 rfl) ?_
        refine lv_iload (pc := 74) hx hb dX6_lay_74 (lv_at hl 0 rfl) ?_
        obtain ⟨r3, M3, hc3, hf⟩ := ob2_some hf
        refine endi X.2.2.2.2 (runV (pc := 76) (As := [.int ((M 1) (((40 : Int32) * x1) + x2).toNatClampNeg)]) (rest := []) X (c_X6_tell G l A H.size (cset M 1 (((40 : Int32) * x1) + x2).toNatClampNeg x3) N ((M 1) (((40 : Int32) * x1) + x2).toNatClampNeg) r3 M3 hc3) gX6_lay_X6_tell k_X6_tell ⟨rfl, rfl⟩ ⟨Nat.le_of_ble_eq_true rfl, Nat.le_of_ble_eq_true rfl⟩ (EM.all (w_Mo G A (cset M 1 (((40 : Int32) * x1) + x2).toNatClampNeg x3) N) (w_Mo G A M3 N)) hP hD hS (ci := 6) rfl rfl (at_Mo_0 G A (cset M 1 (((40 : Int32) * x1) + x2).toNatClampNeg x3) N) rfl hl.1 rfl (Nat.le_of_ble_eq_true rfl) ⟨Nat.zero_le _, Nat.zero_le _⟩ dX6_lay_76) (EM.all (w_Mo G A (cset M 1 (((40 : Int32) * x1) + x2).toNatClampNeg x3) N) (w_Mo G A M3 N)) hP hD hS (fun H locs hP hD hS => ?_)
        cases hf
        exact hret _ _ _ _ dX6_lay_79 hP hD hS
      · have hf := br_y h1 hf
        refine lv_aload_n (pc := 42) hx hb dX6_lay_42 rfl (lv_at hl 0 rfl) ?_
        refine lv_iconst (pc := 43) (v := (2 : Int32)) hx hb dX6_lay_43 (by decide) ?_
        obtain ⟨r4, M4, hc4, hf⟩ := ob2_some hf
        refine endi X.2.2.2.2 (runV (pc := 44) (As := [.int (2 : Int32)]) (rest := []) X (c_X6_found G l A H.size M N (2 : Int32) r4 M4 hc4) gX6_lay_X6_found k_X6_found ⟨rfl, rfl⟩ ⟨Nat.le_of_ble_eq_true rfl, Nat.le_of_ble_eq_true rfl⟩ (EM.all (w_Mo G A M N) (w_Mo G A M4 N)) hP hD hS (ci := 6) rfl rfl (at_Mo_0 G A M N) rfl hl.1 rfl (Nat.le_of_ble_eq_true rfl) ⟨Nat.zero_le _, Nat.zero_le _⟩ dX6_lay_44) (EM.all (w_Mo G A M N) (w_Mo G A M4 N)) hP hD hS (fun H locs hP hD hS => ?_)
        cases hf
        exact hret _ _ _ _ dX6_lay_47 hP hD hS
    · have hf := br_n h2 hf
      refine lv_aload_n (pc := 18) hx hb dX6_lay_18 rfl (lv_at hl 0 rfl) ?_
      refine lv_iconst (pc := 19) (v := (1 : Int32)) hx hb dX6_lay_19 (by decide) ?_
      obtain ⟨r5, M5, hc5, hf⟩ := ob2_some hf
      refine endi X.2.2.2.2 (runV (pc := 20) (As := [.int (1 : Int32)]) (rest := []) X (c_X6_found G l A H.size M N (1 : Int32) r5 M5 hc5) gX6_lay_X6_found k_X6_found ⟨rfl, rfl⟩ ⟨Nat.le_of_ble_eq_true rfl, Nat.le_of_ble_eq_true rfl⟩ (EM.all (w_Mo G A M N) (w_Mo G A M5 N)) hP hD hS (ci := 6) rfl rfl (at_Mo_0 G A M N) rfl hl.1 rfl (Nat.le_of_ble_eq_true rfl) ⟨Nat.zero_le _, Nat.zero_le _⟩ dX6_lay_20) (EM.all (w_Mo G A M N) (w_Mo G A M5 N)) hP hD hS (fun H locs hP hD hS => ?_)
      cases hf
      exact hret _ _ _ _ dX6_lay_23 hP hD hS
  · have hf := br_y h3 hf
    refine lv_iconst (pc := 7) (v := (-1 : Int32)) hx hb dX6_lay_7 (by decide) ?_
    cases hf
    exact hret _ _ _ _ dX6_lay_8 hP hD hS
def r_X6_letter : Room := { frames := 3, cells := 0, slots := 0, locals := 70 }
set_option maxHeartbeats 4000000 in
set_option maxRecDepth 100000 in
theorem c_X6_letter (G : GT) (l : Launch) (A : Nat → Nat) (sz : Nat) (M : CS) (N : JS) (x1 : Int32) (x2 : Int32) (x3 : Int32) (r : Int32) (M' : CS) (hf : f_X6_letter M N x1 x2 x3 = some (r, M')) : MTi l yX6_letter wsX6_letter r_X6_letter [.ref (A 0), .int x1, .int x2, .int x3] G (w_Mo G A M N) (w_Mo G A M' N) sz r := by
  refine MTi.of (cc := cX6_letter) (maxL := 7) (by decide +kernel) rfl (Nat.le_of_ble_eq_true rfl) (fun p e s m av below meth cd Q B H locs ls X hret hl hP hD hS => ?_)
  have hx := X.1.1
  have hb := X.1.2.1
  have hl : lv_has ls 7 [(0, .ref (A 0)), (1, .int x1), (2, .int x2), (3, .int x3)] := hl
  have b_22 : ∀ (M : CS) (H : Heap) (locs : List Loc) (ls : Array Slot), f_X6_letter_22 M N = some (r, M') → va_P G.1 vwCl (w_Mo G A M N) H → va_D B (w_Mo G A M N) → va_S B s.heap H locs → lv_has ls 7 [] → W p l e r_X6_letter s m av below meth cd H locs 0 0 Q (F0 m 22 ls []) := by
    intro M H locs ls hf hP hD hS hl
    unfold f_X6_letter_22 at hf
    refine lv_iconst (pc := 22) (v := (-1 : Int32)) hx hb dX6_letter_22 (by decide) ?_
    cases hf
    exact hret _ _ _ _ dX6_letter_23 hP hD hS
  have l_62 : ∀ (n62 : Nat), ∀ (x4 : Int32) (x5 : Int32) (x6 : Int32) (M : CS) (H : Heap) (locs : List Loc) (ls : Array Slot), f_X6_letter_62 n62 x4 x5 x6 M N = some (r, M') → va_P G.1 vwCl (w_Mo G A M N) H → va_D B (w_Mo G A M N) → va_S B s.heap H locs → lv_has ls 7 [(0, .ref (A 0)), (4, .int x4), (5, .int x5), (6, .int x6)] → W p l e r_X6_letter s m av below meth cd H locs 0 0 Q (F0 m 62 ls []) := by
    intro n62
    induction n62 with
    | zero =>
      intro x4 x5 x6 M H locs ls hf hP hD hS hl
      rw [f_X6_letter_62] at hf
      cases hf
    | succ n62 ih62 =>
      intro x4 x5 x6 M H locs ls hf hP hD hS hl
      rw [f_X6_letter_62] at hf
      refine lv_aload_n (pc := 62) hx hb dX6_letter_62 rfl (lv_at hl 0 rfl) ?_
      refine wget (pc := 63) X (fun _ h9 => List.mem_cons_of_mem _ (List.mem_append_right _ h9)) hP 0 (at_Mo_0 G A M N) rfl 17 (by decide) (List.mem_cons_of_mem _ (List.mem_append_left _ (List.mem_append_left _ (List.mem_of_getElem? (i := 0) rfl)))) rfl (v := .ref (A 13)) rfl dX6_letter_63 ?_
      refine lv_bipush (pc := 66) (v := (10 : Int32)) hx hb dX6_letter_66 (by decide) ?_
      refine lv_iload (pc := 68) hx hb dX6_letter_68 (lv_at hl 1 rfl) ?_
      refine lv_imul (pc := 70) hx hb dX6_letter_70 ?_
      refine lv_iload (pc := 71) hx hb dX6_letter_71 (lv_at hl 2 rfl) ?_
      refine lv_iadd (pc := 73) hx hb dX6_letter_73 ?_
      obtain ⟨hi, hf⟩ := ck_some hf
      refine wiald (pc := 74) X hP 13 (at_Mo_13 G A M N) hi rfl dX6_letter_74 ?_
      refine lv_if_ge (pc := 75) (tgt := 125) hx hb dX6_letter_75 (by decide) (fun h1 => ?_) (fun h1 => ?_)
      · have hf := br_y h1 hf
        refine lv_aload_n (pc := 125) hx hb dX6_letter_125 rfl (lv_at hl 0 rfl) ?_
        refine lv_iload (pc := 126) hx hb dX6_letter_126 (lv_at hl 3 rfl) ?_
        refine lv_iload (pc := 128) hx hb dX6_letter_128 (lv_at hl 3 rfl) ?_
        refine lv_aload_n (pc := 130) hx hb dX6_letter_130 rfl (lv_at hl 0 rfl) ?_
        refine wget (pc := 131) X (fun _ h9 => List.mem_cons_of_mem _ (List.mem_append_right _ h9)) hP 0 (at_Mo_0 G A M N) rfl 17 (by decide) (List.mem_cons_of_mem _ (List.mem_append_left _ (List.mem_append_left _ (List.mem_of_getElem? (i := 0) rfl)))) rfl (v := .ref (A 13)) rfl dX6_letter_131 ?_
        refine lv_bipush (pc := 134) (v := (10 : Int32)) hx hb dX6_letter_134 (by decide) ?_
        refine lv_iload (pc := 136) hx hb dX6_letter_136 (lv_at hl 1 rfl) ?_
        refine lv_imul (pc := 138) hx hb dX6_letter_138 ?_
        refine lv_iload (pc := 139) hx hb dX6_letter_139 (lv_at hl 2 rfl) ?_
        refine lv_iadd (pc := 141) hx hb dX6_letter_141 ?_
        obtain ⟨hi, hf⟩ := ck_some hf
        refine wiald (pc := 142) X hP 13 (at_Mo_13 G A M N) hi rfl dX6_letter_142 ?_
        refine lv_isub (pc := 143) hx hb dX6_letter_143 ?_
        obtain ⟨r1, M1, hc1, hf⟩ := ob2_some hf
        refine endi X.2.2.2.2 (runV (pc := 144) (As := [.int x6, .int (x6 - ((M 15) (((10 : Int32) * x4) + x5).toNatClampNeg))]) (rest := []) X (c_X6_answer G l A H.size M N x6 (x6 - ((M 15) (((10 : Int32) * x4) + x5).toNatClampNeg)) r1 M1 hc1) gX6_letter_X6_answer k_X6_answer ⟨rfl, rfl⟩ ⟨Nat.le_of_ble_eq_true rfl, Nat.le_of_ble_eq_true rfl⟩ (EM.all (w_Mo G A M N) (w_Mo G A M1 N)) hP hD hS (ci := 6) rfl rfl (at_Mo_0 G A M N) rfl hl.1 rfl (Nat.le_of_ble_eq_true rfl) ⟨Nat.zero_le _, Nat.zero_le _⟩ dX6_letter_144) (EM.all (w_Mo G A M N) (w_Mo G A M1 N)) hP hD hS (fun H locs hP hD hS => ?_)
        cases hf
        exact hret _ _ _ _ dX6_letter_147 hP hD hS
      · have hf := br_n h1 hf
        refine lv_aload_n (pc := 78) hx hb dX6_letter_78 rfl (lv_at hl 0 rfl) ?_
        refine wget (pc := 79) X (fun _ h9 => List.mem_cons_of_mem _ (List.mem_append_right _ h9)) hP 0 (at_Mo_0 G A M N) rfl 17 (by decide) (List.mem_cons_of_mem _ (List.mem_append_left _ (List.mem_append_left _ (List.mem_of_getElem? (i := 0) rfl)))) rfl (v := .ref (A 13)) rfl dX6_letter_79 ?_
        refine lv_bipush (pc := 82) (v := (10 : Int32)) hx hb dX6_letter_82 (by decide) ?_
        refine lv_iload (pc := 84) hx hb dX6_letter_84 (lv_at hl 1 rfl) ?_
        refine lv_imul (pc := 86) hx hb dX6_letter_86 ?_
        refine lv_iload (pc := 87) hx hb dX6_letter_87 (lv_at hl 2 rfl) ?_
        refine lv_iadd (pc := 89) hx hb dX6_letter_89 ?_
        refine lv_iload (pc := 90) hx hb dX6_letter_90 (lv_at hl 3 rfl) ?_
        obtain ⟨hi, hf⟩ := ck_some hf
        refine wiast (pc := 92) X hP hD hS 13 (at_Mo_13 G A M N) hi rfl (sa_Mo_13 G A M N _) dX6_letter_92 (fun H locs hP hD hS => ?_)
        have hP : va_P G.1 vwCl (w_Mo G A (cset M 15 (((10 : Int32) * x4) + x5).toNatClampNeg x6) N) H := hP
        have hD : va_D B (w_Mo G A (cset M 15 (((10 : Int32) * x4) + x5).toNatClampNeg x6) N) := hD
        refine lv_aload_n (pc := 93) hx hb dX6_letter_93 rfl (lv_at hl 0 rfl) ?_
        refine wget (pc := 94) X (fun _ h9 => List.mem_cons_of_mem _ (List.mem_append_right _ h9)) hP 0 (at_Mo_0 G A (cset M 15 (((10 : Int32) * x4) + x5).toNatClampNeg x6) N) rfl 15 (by decide) (List.mem_cons_of_mem _ (List.mem_append_left _ (List.mem_append_left _ (List.mem_of_getElem? (i := 1) rfl)))) rfl (v := .ref (A 11)) rfl dX6_letter_94 ?_
        refine lv_bipush (pc := 97) (v := (20 : Int32)) hx hb dX6_letter_97 (by decide) ?_
        refine lv_iload (pc := 99) hx hb dX6_letter_99 (lv_at hl 1 rfl) ?_
        refine lv_imul (pc := 101) hx hb dX6_letter_101 ?_
        refine lv_bipush (pc := 102) (v := (10 : Int32)) hx hb dX6_letter_102 (by decide) ?_
        refine lv_iadd (pc := 104) hx hb dX6_letter_104 ?_
        refine lv_iload (pc := 105) hx hb dX6_letter_105 (lv_at hl 2 rfl) ?_
        refine lv_iadd (pc := 107) hx hb dX6_letter_107 ?_
        obtain ⟨hi, hf⟩ := ck_some hf
        refine wiald (pc := 108) X hP 11 (at_Mo_11 G A (cset M 15 (((10 : Int32) * x4) + x5).toNatClampNeg x6) N) hi rfl dX6_letter_108 ?_
        refine lv_istore (pc := 109) (lv' := [(5, .int ((M 13) ((((20 : Int32) * x4) + (10 : Int32)) + x5).toNatClampNeg)), (0, .ref (A 0)), (4, .int x4), (6, .int x6)]) hx hb dX6_letter_109 hl (by decide) rfl (fun ls hl => ?_)
        refine lv_iload (pc := 111) hx hb dX6_letter_111 (lv_at hl 2 rfl) ?_
        refine lv_iconst (pc := 113) (v := (1 : Int32)) hx hb dX6_letter_113 (by decide) ?_
        refine lv_iadd (pc := 114) hx hb dX6_letter_114 ?_
        refine lv_iconst (pc := 115) (v := (5 : Int32)) hx hb dX6_letter_115 (by decide) ?_
        refine wirem (pc := 116) hx hb dX6_letter_116 (by decide) ?_
        refine lv_istore (pc := 117) (lv' := [(4, .int (jrem (x4 + (1 : Int32)) (5 : Int32))), (5, .int ((M 13) ((((20 : Int32) * x4) + (10 : Int32)) + x5).toNatClampNeg)), (0, .ref (A 0)), (6, .int x6)]) hx hb dX6_letter_117 hl (by decide) rfl (fun ls hl => ?_)
        refine lv_iinc (pc := 119) (v := (x6 + (1 : Int32))) (lv' := [(6, .int (x6 + (1 : Int32))), (4, .int (jrem (x4 + (1 : Int32)) (5 : Int32))), (5, .int ((M 13) ((((20 : Int32) * x4) + (10 : Int32)) + x5).toNatClampNeg)), (0, .ref (A 0))]) hx hb dX6_letter_119 hl (k := 3) rfl rfl (by decide) rfl (fun ls hl => ?_)
        refine lv_goto (pc := 122) (tgt := 62) hx hb dX6_letter_122 (by decide) ?_
        exact ih62 _ _ _ _ H locs ls hf hP hD hS (lv_sub hl [3, 1, 2, 0] rfl)
  have l_32 : ∀ (n32 : Nat), ∀ (x1 : Int32) (x3 : Int32) (x4 : Int32) (M : CS) (H : Heap) (locs : List Loc) (ls : Array Slot), f_X6_letter_32 n32 x1 x3 x4 M N = some (r, M') → va_P G.1 vwCl (w_Mo G A M N) H → va_D B (w_Mo G A M N) → va_S B s.heap H locs → lv_has ls 7 [(0, .ref (A 0)), (1, .int x1), (3, .int x3), (4, .int x4)] → W p l e r_X6_letter s m av below meth cd H locs 0 0 Q (F0 m 32 ls []) := by
    intro n32
    induction n32 with
    | zero =>
      intro x1 x3 x4 M H locs ls hf hP hD hS hl
      rw [f_X6_letter_32] at hf
      cases hf
    | succ n32 ih32 =>
      intro x1 x3 x4 M H locs ls hf hP hD hS hl
      rw [f_X6_letter_32] at hf
      refine lv_iload (pc := 32) hx hb dX6_letter_32 (lv_at hl 3 rfl) ?_
      refine lv_bipush (pc := 34) (v := (50 : Int32)) hx hb dX6_letter_34 (by decide) ?_
      refine lv_icmp_ge (pc := 36) (tgt := 53) hx hb dX6_letter_36 (by decide) (fun h2 => ?_) (fun h2 => ?_)
      · have hf := br_y h2 hf
        refine lv_iload_n (pc := 53) hx hb dX6_letter_53 rfl (lv_at hl 1 rfl) ?_
        refine lv_istore (pc := 54) (lv' := [(4, .int x1), (0, .ref (A 0)), (1, .int x1), (3, .int x3)]) hx hb dX6_letter_54 hl (by decide) rfl (fun ls hl => ?_)
        refine lv_iload_n (pc := 56) hx hb dX6_letter_56 rfl (lv_at hl 3 rfl) ?_
        refine lv_istore (pc := 57) (lv' := [(5, .int x3), (4, .int x1), (0, .ref (A 0)), (1, .int x1), (3, .int x3)]) hx hb dX6_letter_57 hl (by decide) rfl (fun ls hl => ?_)
        refine lv_iconst (pc := 59) (v := (0 : Int32)) hx hb dX6_letter_59 (by decide) ?_
        refine lv_istore (pc := 60) (lv' := [(6, .int (0 : Int32)), (5, .int x3), (4, .int x1), (0, .ref (A 0)), (1, .int x1), (3, .int x3)]) hx hb dX6_letter_60 hl (by decide) rfl (fun ls hl => ?_)
        exact l_62 FU _ _ _ _ H locs ls hf hP hD hS (lv_sub hl [3, 2, 1, 0] rfl)
      · have hf := br_n h2 hf
        refine lv_aload_n (pc := 39) hx hb dX6_letter_39 rfl (lv_at hl 0 rfl) ?_
        refine wget (pc := 40) X (fun _ h9 => List.mem_cons_of_mem _ (List.mem_append_right _ h9)) hP 0 (at_Mo_0 G A M N) rfl 17 (by decide) (List.mem_cons_of_mem _ (List.mem_append_left _ (List.mem_append_left _ (List.mem_of_getElem? (i := 0) rfl)))) rfl (v := .ref (A 13)) rfl dX6_letter_40 ?_
        refine lv_iload (pc := 43) hx hb dX6_letter_43 (lv_at hl 3 rfl) ?_
        refine lv_iconst (pc := 45) (v := (-1 : Int32)) hx hb dX6_letter_45 (by decide) ?_
        obtain ⟨hi, hf⟩ := ck_some hf
        refine wiast (pc := 46) X hP hD hS 13 (at_Mo_13 G A M N) hi rfl (sa_Mo_13 G A M N _) dX6_letter_46 (fun H locs hP hD hS => ?_)
        have hP : va_P G.1 vwCl (w_Mo G A (cset M 15 x4.toNatClampNeg (-1 : Int32)) N) H := hP
        have hD : va_D B (w_Mo G A (cset M 15 x4.toNatClampNeg (-1 : Int32)) N) := hD
        refine lv_iinc (pc := 47) (v := (x4 + (1 : Int32))) (lv' := [(4, .int (x4 + (1 : Int32))), (0, .ref (A 0)), (1, .int x1), (3, .int x3)]) hx hb dX6_letter_47 hl (k := 3) rfl rfl (by decide) rfl (fun ls hl => ?_)
        refine lv_goto (pc := 50) (tgt := 32) hx hb dX6_letter_50 (by decide) ?_
        exact ih32 _ _ _ _ H locs ls hf hP hD hS (lv_sub hl [1, 2, 3, 0] rfl)
  unfold f_X6_letter at hf
  refine lv_iload_n (pc := 0) hx hb dX6_letter_0 rfl (lv_at hl 1 rfl) ?_
  obtain ⟨r1, hc1, hf⟩ := ob1_some hf
  refine endi X.2.2.2.2 (runS (pc := 1) (As := [.int x1]) (rest := []) X (c_X6_isTown G l  H.size x1 r1 hc1) gX6_letter_X6_isTown k_X6_isTown ⟨rfl, rfl⟩ ⟨Nat.le_of_ble_eq_true rfl, Nat.le_of_ble_eq_true rfl⟩ (EM.nil (w_Mo G A M N)) hP hD hS rfl hl.1 rfl (Nat.le_of_ble_eq_true rfl) ⟨Nat.zero_le _, Nat.zero_le _⟩ dX6_letter_1) (EM.nil (w_Mo G A M N)) hP hD hS (fun H locs hP hD hS => ?_)
  refine lv_if_eq (pc := 4) (tgt := 22) hx hb dX6_letter_4 (by decide) (fun h5 => ?_) (fun h5 => ?_)
  · have hf := br_y h5 hf
    exact b_22 _ H locs ls hf hP hD hS (lv_sub hl [] rfl)
  · have hf := br_n h5 hf
    refine lv_aload_n (pc := 7) hx hb dX6_letter_7 rfl (lv_at hl 0 rfl) ?_
    refine lv_iload_n (pc := 8) hx hb dX6_letter_8 rfl (lv_at hl 2 rfl) ?_
    obtain ⟨r2, hc2, hf⟩ := ob1_some hf
    refine endi X.2.2.2.2 (runV (pc := 9) (As := [.int x2]) (rest := []) X (c_X6_isPerson G l A H.size M N x2 r2 hc2) gX6_letter_X6_isPerson k_X6_isPerson ⟨rfl, rfl⟩ ⟨Nat.le_of_ble_eq_true rfl, Nat.le_of_ble_eq_true rfl⟩ (EM.all (w_Mo G A M N) (w_Mo G A M N)) hP hD hS (ci := 6) rfl rfl (at_Mo_0 G A M N) rfl hl.1 rfl (Nat.le_of_ble_eq_true rfl) ⟨Nat.zero_le _, Nat.zero_le _⟩ dX6_letter_9) (EM.all (w_Mo G A M N) (w_Mo G A M N)) hP hD hS (fun H locs hP hD hS => ?_)
    refine lv_if_eq (pc := 12) (tgt := 22) hx hb dX6_letter_12 (by decide) (fun h4 => ?_) (fun h4 => ?_)
    · have hf := br_y h4 hf
      exact b_22 _ H locs ls hf hP hD hS (lv_sub hl [] rfl)
    · have hf := br_n h4 hf
      refine lv_iload_n (pc := 15) hx hb dX6_letter_15 rfl (lv_at hl 3 rfl) ?_
      obtain ⟨r3, hc3, hf⟩ := ob1_some hf
      refine endi X.2.2.2.2 (runS (pc := 16) (As := [.int x3]) (rest := []) X (c_X6_isDeed G l  H.size x3 r3 hc3) gX6_letter_X6_isDeed k_X6_isDeed ⟨rfl, rfl⟩ ⟨Nat.le_of_ble_eq_true rfl, Nat.le_of_ble_eq_true rfl⟩ (EM.nil (w_Mo G A M N)) hP hD hS rfl hl.1 rfl (Nat.le_of_ble_eq_true rfl) ⟨Nat.zero_le _, Nat.zero_le _⟩ dX6_letter_16) (EM.nil (w_Mo G A M N)) hP hD hS (fun H locs hP hD hS => ?_)
      refine lv_if_ne (pc := 19) (tgt := 24) hx hb dX6_letter_19 (by decide) (fun h3 => ?_) (fun h3 => ?_)
      · have hf := br_n h3 hf
        refine lv_aload_n (pc := 24) hx hb dX6_letter_24 rfl (lv_at hl 0 rfl) ?_
        refine lv_iload_n (pc := 25) hx hb dX6_letter_25 rfl (lv_at hl 2 rfl) ?_
        obtain ⟨M4, hc4, hf⟩ := ob1_some hf
        refine endv X.2.2.2.2 (runV (pc := 26) (As := [.int x2]) (rest := []) X (c_X6_layNow G l A H.size M N x2 M4 hc4) gX6_letter_X6_layNow k_X6_layNow ⟨rfl, rfl⟩ ⟨Nat.le_of_ble_eq_true rfl, Nat.le_of_ble_eq_true rfl⟩ (EM.all (w_Mo G A M N) (w_Mo G A M4 N)) hP hD hS (ci := 6) rfl rfl (at_Mo_0 G A M N) rfl hl.1 rfl (Nat.le_of_ble_eq_true rfl) ⟨Nat.zero_le _, Nat.zero_le _⟩ dX6_letter_26) (EM.all (w_Mo G A M N) (w_Mo G A M4 N)) hP hD hS (fun H locs hP hD hS => ?_)
        refine lv_iconst (pc := 29) (v := (0 : Int32)) hx hb dX6_letter_29 (by decide) ?_
        refine lv_istore (pc := 30) (lv' := [(4, .int (0 : Int32)), (0, .ref (A 0)), (1, .int x1), (2, .int x2), (3, .int x3)]) hx hb dX6_letter_30 hl (by decide) rfl (fun ls hl => ?_)
        exact l_32 FU _ _ _ _ H locs ls hf hP hD hS (lv_sub hl [1, 2, 4, 0] rfl)
      · have hf := br_y h3 hf
        exact b_22 _ H locs ls hf hP hD hS (lv_sub hl [] rfl)
def r_X6_lies : Room := { frames := 4, cells := 0, slots := 0, locals := 93 }
set_option maxHeartbeats 4000000 in
set_option maxRecDepth 100000 in
theorem c_X6_lies (G : GT) (l : Launch) (A : Nat → Nat) (sz : Nat) (M : CS) (N : JS) (x1 : Int32) (r : Int32) (M' : CS) (hf : f_X6_lies M N x1 = some (r, M')) : MTi l yX6_lies wsX6_lies r_X6_lies [.ref (A 0), .int x1] G (w_Mo G A M N) (w_Mo G A M' N) sz r := by
  refine MTi.of (cc := cX6_lies) (maxL := 8) (by decide +kernel) rfl (Nat.le_of_ble_eq_true rfl) (fun p e s m av below meth cd Q B H locs ls X hret hl hP hD hS => ?_)
  have hx := X.1.1
  have hb := X.1.2.1
  have hl : lv_has ls 8 [(0, .ref (A 0)), (1, .int x1)] := hl
  have l_28 : ∀ (n28 : Nat), ∀ (x1 : Int32) (x3 : Int32) (x4 : Int32) (x5 : Int32) (M : CS) (H : Heap) (locs : List Loc) (ls : Array Slot), f_X6_lies_28 n28 x1 x3 x4 x5 M N = some (r, M') → va_P G.1 vwCl (w_Mo G A M N) H → va_D B (w_Mo G A M N) → va_S B s.heap H locs → lv_has ls 8 [(0, .ref (A 0)), (1, .int x1), (3, .int x3), (4, .int x4), (5, .int x5)] → W p l e r_X6_lies s m av below meth cd H locs 0 0 Q (F0 m 28 ls []) := by
    intro n28
    induction n28 with
    | zero =>
      intro x1 x3 x4 x5 M H locs ls hf hP hD hS hl
      rw [f_X6_lies_28] at hf
      cases hf
    | succ n28 ih28 =>
      have b_117 : ∀ (x1 : Int32) (x3 : Int32) (x5 : Int32) (t0 : Int32) (M : CS) (H : Heap) (locs : List Loc) (ls : Array Slot), f_X6_lies_117 (f_X6_lies_28 n28) x1 x3 x5 t0 M N = some (r, M') → va_P G.1 vwCl (w_Mo G A M N) H → va_D B (w_Mo G A M N) → va_S B s.heap H locs → lv_has ls 8 [(0, .ref (A 0)), (1, .int x1), (3, .int x3), (5, .int x5)] → W p l e r_X6_lies s m av below meth cd H locs 0 0 Q (F0 m 117 ls [.int t0]) := by
        intro x1 x3 x5 t0 M H locs ls hf hP hD hS hl
        unfold f_X6_lies_117 at hf
        refine lv_istore (pc := 117) (lv' := [(4, .int t0), (0, .ref (A 0)), (1, .int x1), (3, .int x3), (5, .int x5)]) hx hb dX6_lies_117 hl (by decide) rfl (fun ls hl => ?_)
        refine lv_iinc (pc := 119) (v := (x5 + (-4 : Int32))) (lv' := [(5, .int (x5 + (-4 : Int32))), (4, .int t0), (0, .ref (A 0)), (1, .int x1), (3, .int x3)]) hx hb dX6_lies_119 hl (k := 4) rfl rfl (by decide) rfl (fun ls hl => ?_)
        refine lv_goto (pc := 122) (tgt := 28) hx hb dX6_lies_122 (by decide) ?_
        exact ih28 _ _ _ _ _ H locs ls hf hP hD hS (lv_sub hl [2, 3, 4, 1, 0] rfl)
      have b_101 : ∀ (x1 : Int32) (x4 : Int32) (x5 : Int32) (x7 : Int32) (t0 : Int32) (t1 : Int32) (M : CS) (H : Heap) (locs : List Loc) (ls : Array Slot), f_X6_lies_101 (f_X6_lies_28 n28) x1 x4 x5 x7 t0 t1 M N = some (r, M') → va_P G.1 vwCl (w_Mo G A M N) H → va_D B (w_Mo G A M N) → va_S B s.heap H locs → lv_has ls 8 [(0, .ref (A 0)), (1, .int x1), (4, .int x4), (5, .int x5), (7, .int x7)] → W p l e r_X6_lies s m av below meth cd H locs 0 0 Q (F0 m 101 ls [.int t1, .int t0]) := by
        intro x1 x4 x5 x7 t0 t1 M H locs ls hf hP hD hS hl
        unfold f_X6_lies_101 at hf
        refine lv_iadd (pc := 101) hx hb dX6_lies_101 ?_
        refine lv_istore_n (pc := 102) (lv' := [(3, .int (t0 + t1)), (0, .ref (A 0)), (1, .int x1), (4, .int x4), (5, .int x5), (7, .int x7)]) hx hb dX6_lies_102 rfl hl (by decide) rfl (fun ls hl => ?_)
        refine lv_iload (pc := 103) hx hb dX6_lies_103 (lv_at hl 5 rfl) ?_
        refine lv_if_eq (pc := 105) (tgt := 115) hx hb dX6_lies_105 (by decide) (fun h1 => ?_) (fun h1 => ?_)
        · have hf := br_y h1 hf
          refine lv_iload (pc := 115) hx hb dX6_lies_115 (lv_at hl 3 rfl) ?_
          exact b_117 _ _ _ _ _ H locs ls hf hP hD hS (lv_sub hl [1, 2, 0, 4] rfl)
        · have hf := br_n h1 hf
          refine lv_iload (pc := 108) hx hb dX6_lies_108 (lv_at hl 4 rfl) ?_
          refine lv_iconst (pc := 110) (v := (4 : Int32)) hx hb dX6_lies_110 (by decide) ?_
          refine lv_idiv (pc := 111) hx hb dX6_lies_111 (by decide) ?_
          refine lv_goto (pc := 112) (tgt := 117) hx hb dX6_lies_112 (by decide) ?_
          exact b_117 _ _ _ _ _ H locs ls hf hP hD hS (lv_sub hl [1, 2, 0, 4] rfl)
      have b_88 : ∀ (x1 : Int32) (x3 : Int32) (x4 : Int32) (x5 : Int32) (t0 : Int32) (M : CS) (H : Heap) (locs : List Loc) (ls : Array Slot), f_X6_lies_88 (f_X6_lies_28 n28) x1 x3 x4 x5 t0 M N = some (r, M') → va_P G.1 vwCl (w_Mo G A M N) H → va_D B (w_Mo G A M N) → va_S B s.heap H locs → lv_has ls 8 [(0, .ref (A 0)), (1, .int x1), (3, .int x3), (4, .int x4), (5, .int x5)] → W p l e r_X6_lies s m av below meth cd H locs 0 0 Q (F0 m 88 ls [.int t0]) := by
        intro x1 x3 x4 x5 t0 M H locs ls hf hP hD hS hl
        unfold f_X6_lies_88 at hf
        refine lv_istore (pc := 88) (lv' := [(7, .int t0), (0, .ref (A 0)), (1, .int x1), (3, .int x3), (4, .int x4), (5, .int x5)]) hx hb dX6_lies_88 hl (by decide) rfl (fun ls hl => ?_)
        refine lv_iload_n (pc := 90) hx hb dX6_lies_90 rfl (lv_at hl 3 rfl) ?_
        refine lv_iload (pc := 91) hx hb dX6_lies_91 (lv_at hl 0 rfl) ?_
        refine lv_if_eq (pc := 93) (tgt := 100) hx hb dX6_lies_93 (by decide) (fun h2 => ?_) (fun h2 => ?_)
        · have hf := br_y h2 hf
          refine lv_iconst (pc := 100) (v := (0 : Int32)) hx hb dX6_lies_100 (by decide) ?_
          exact b_101 _ _ _ _ _ _ _ H locs ls hf hP hD hS (lv_sub hl [1, 2, 4, 5, 0] rfl)
        · have hf := br_n h2 hf
          refine lv_iconst (pc := 96) (v := (1 : Int32)) hx hb dX6_lies_96 (by decide) ?_
          refine lv_goto (pc := 97) (tgt := 101) hx hb dX6_lies_97 (by decide) ?_
          exact b_101 _ _ _ _ _ _ _ H locs ls hf hP hD hS (lv_sub hl [1, 2, 4, 5, 0] rfl)
      intro x1 x3 x4 x5 M H locs ls hf hP hD hS hl
      rw [f_X6_lies_28] at hf
      refine lv_iload (pc := 28) hx hb dX6_lies_28 (lv_at hl 4 rfl) ?_
      refine lv_if_lt (pc := 30) (tgt := 125) hx hb dX6_lies_30 (by decide) (fun h4 => ?_) (fun h4 => ?_)
      · have hf := br_y h4 hf
        refine lv_aload_n (pc := 125) hx hb dX6_lies_125 rfl (lv_at hl 0 rfl) ?_
        refine lv_iload_n (pc := 126) hx hb dX6_lies_126 rfl (lv_at hl 2 rfl) ?_
        refine lv_iload (pc := 127) hx hb dX6_lies_127 (lv_at hl 3 rfl) ?_
        obtain ⟨r1, M1, hc1, hf⟩ := ob2_some hf
        refine endi X.2.2.2.2 (runV (pc := 129) (As := [.int x3, .int x4]) (rest := []) X (c_X6_answer G l A H.size M N x3 x4 r1 M1 hc1) gX6_lies_X6_answer k_X6_answer ⟨rfl, rfl⟩ ⟨Nat.le_of_ble_eq_true rfl, Nat.le_of_ble_eq_true rfl⟩ (EM.all (w_Mo G A M N) (w_Mo G A M1 N)) hP hD hS (ci := 6) rfl rfl (at_Mo_0 G A M N) rfl hl.1 rfl (Nat.le_of_ble_eq_true rfl) ⟨Nat.zero_le _, Nat.zero_le _⟩ dX6_lies_129) (EM.all (w_Mo G A M N) (w_Mo G A M1 N)) hP hD hS (fun H locs hP hD hS => ?_)
        cases hf
        exact hret _ _ _ _ dX6_lies_132 hP hD hS
      · have hf := br_n h4 hf
        refine lv_bipush (pc := 33) (v := (40 : Int32)) hx hb dX6_lies_33 (by decide) ?_
        refine lv_iload_n (pc := 35) hx hb dX6_lies_35 rfl (lv_at hl 1 rfl) ?_
        refine lv_imul (pc := 36) hx hb dX6_lies_36 ?_
        refine lv_iload (pc := 37) hx hb dX6_lies_37 (lv_at hl 4 rfl) ?_
        refine lv_iadd (pc := 39) hx hb dX6_lies_39 ?_
        refine lv_istore (pc := 40) (lv' := [(6, .int (((40 : Int32) * x1) + x5)), (0, .ref (A 0)), (1, .int x1), (3, .int x3), (4, .int x4), (5, .int x5)]) hx hb dX6_lies_40 hl (by decide) rfl (fun ls hl => ?_)
        refine lv_aload_n (pc := 42) hx hb dX6_lies_42 rfl (lv_at hl 1 rfl) ?_
        refine lv_aload_n (pc := 43) hx hb dX6_lies_43 rfl (lv_at hl 1 rfl) ?_
        refine wget (pc := 44) X (fun _ h9 => List.mem_cons_of_mem _ (List.mem_append_right _ h9)) hP 0 (at_Mo_0 G A M N) rfl 1 (by decide) (List.mem_cons_of_mem _ (List.mem_append_left _ (List.mem_append_left _ (List.mem_of_getElem? (i := 1) rfl)))) rfl (v := .ref (A 2)) rfl dX6_lies_44 ?_
        refine lv_iload (pc := 47) hx hb dX6_lies_47 (lv_at hl 0 rfl) ?_
        refine lv_iconst (pc := 49) (v := (2 : Int32)) hx hb dX6_lies_49 (by decide) ?_
        refine lv_iadd (pc := 50) hx hb dX6_lies_50 ?_
        obtain ⟨hi, hf⟩ := ck_some hf
        refine wiald (pc := 51) X hP 2 (at_Mo_2 G A M N) hi rfl dX6_lies_51 ?_
        refine lv_aload_n (pc := 52) hx hb dX6_lies_52 rfl (lv_at hl 1 rfl) ?_
        refine wget (pc := 53) X (fun _ h9 => List.mem_cons_of_mem _ (List.mem_append_right _ h9)) hP 0 (at_Mo_0 G A M N) rfl 1 (by decide) (List.mem_cons_of_mem _ (List.mem_append_left _ (List.mem_append_left _ (List.mem_of_getElem? (i := 1) rfl)))) rfl (v := .ref (A 2)) rfl dX6_lies_53 ?_
        refine lv_iload (pc := 56) hx hb dX6_lies_56 (lv_at hl 0 rfl) ?_
        obtain ⟨hi, hf⟩ := ck_some hf
        refine wiald (pc := 58) X hP 2 (at_Mo_2 G A M N) hi rfl dX6_lies_58 ?_
        refine lv_aload_n (pc := 59) hx hb dX6_lies_59 rfl (lv_at hl 1 rfl) ?_
        refine wget (pc := 60) X (fun _ h9 => List.mem_cons_of_mem _ (List.mem_append_right _ h9)) hP 0 (at_Mo_0 G A M N) rfl 1 (by decide) (List.mem_cons_of_mem _ (List.mem_append_left _ (List.mem_append_left _ (List.mem_of_getElem? (i := 1) rfl)))) rfl (v := .ref (A 2)) rfl dX6_lies_60 ?_
        refine lv_iload (pc := 63) hx hb dX6_lies_63 (lv_at hl 0 rfl) ?_
        refine lv_iconst (pc := 65) (v := (1 : Int32)) hx hb dX6_lies_65 (by decide) ?_
        refine lv_iadd (pc := 66) hx hb dX6_lies_66 ?_
        obtain ⟨hi, hf⟩ := ck_some hf
        refine wiald (pc := 67) X hP 2 (at_Mo_2 G A M N) hi rfl dX6_lies_67 ?_
        obtain ⟨r2, M2, hc2, hf⟩ := ob2_some hf
        refine endi X.2.2.2.2 (runV (pc := 68) (As := [.int ((M 1) ((((40 : Int32) * x1) + x5) + (2 : Int32)).toNatClampNeg), .int ((M 1) (((40 : Int32) * x1) + x5).toNatClampNeg), .int ((M 1) ((((40 : Int32) * x1) + x5) + (1 : Int32)).toNatClampNeg)]) (rest := []) X (c_X6_doing G l A H.size M N ((M 1) ((((40 : Int32) * x1) + x5) + (2 : Int32)).toNatClampNeg) ((M 1) (((40 : Int32) * x1) + x5).toNatClampNeg) ((M 1) ((((40 : Int32) * x1) + x5) + (1 : Int32)).toNatClampNeg) r2 M2 hc2) gX6_lies_X6_doing k_X6_doing ⟨rfl, rfl⟩ ⟨Nat.le_of_ble_eq_true rfl, Nat.le_of_ble_eq_true rfl⟩ (EM.all (w_Mo G A M N) (w_Mo G A M2 N)) hP hD hS (ci := 6) rfl rfl (at_Mo_0 G A M N) rfl hl.1 rfl (Nat.le_of_ble_eq_true rfl) ⟨Nat.zero_le _, Nat.zero_le _⟩ dX6_lies_68) (EM.all (w_Mo G A M N) (w_Mo G A M2 N)) hP hD hS (fun H locs hP hD hS => ?_)
        refine lv_aload_n (pc := 71) hx hb dX6_lies_71 rfl (lv_at hl 1 rfl) ?_
        refine wget (pc := 72) X (fun _ h9 => List.mem_cons_of_mem _ (List.mem_append_right _ h9)) hP 0 (at_Mo_0 G A M2 N) rfl 1 (by decide) (List.mem_cons_of_mem _ (List.mem_append_left _ (List.mem_append_left _ (List.mem_of_getElem? (i := 1) rfl)))) rfl (v := .ref (A 2)) rfl dX6_lies_72 ?_
        refine lv_iload (pc := 75) hx hb dX6_lies_75 (lv_at hl 0 rfl) ?_
        refine lv_iconst (pc := 77) (v := (3 : Int32)) hx hb dX6_lies_77 (by decide) ?_
        refine lv_iadd (pc := 78) hx hb dX6_lies_78 ?_
        obtain ⟨hi, hf⟩ := ck_some hf
        refine wiald (pc := 79) X hP 2 (at_Mo_2 G A M2 N) hi rfl dX6_lies_79 ?_
        refine lv_icmp_eq (pc := 80) (tgt := 87) hx hb dX6_lies_80 (by decide) (fun h3 => ?_) (fun h3 => ?_)
        · have hf := br_y h3 hf
          refine lv_iconst (pc := 87) (v := (0 : Int32)) hx hb dX6_lies_87 (by decide) ?_
          exact b_88 _ _ _ _ _ _ H locs ls hf hP hD hS (lv_sub hl [1, 2, 3, 4, 5] rfl)
        · have hf := br_n h3 hf
          refine lv_iconst (pc := 83) (v := (1 : Int32)) hx hb dX6_lies_83 (by decide) ?_
          refine lv_goto (pc := 84) (tgt := 88) hx hb dX6_lies_84 (by decide) ?_
          exact b_88 _ _ _ _ _ _ H locs ls hf hP hD hS (lv_sub hl [1, 2, 3, 4, 5] rfl)
  unfold f_X6_lies at hf
  refine lv_aload_n (pc := 0) hx hb dX6_lies_0 rfl (lv_at hl 0 rfl) ?_
  refine lv_iload_n (pc := 1) hx hb dX6_lies_1 rfl (lv_at hl 1 rfl) ?_
  obtain ⟨r1, M1, hc1, hf⟩ := ob2_some hf
  refine endi X.2.2.2.2 (runV (pc := 2) (As := [.int x1]) (rest := []) X (c_X6_fours G l A H.size M N x1 r1 M1 hc1) gX6_lies_X6_fours k_X6_fours ⟨rfl, rfl⟩ ⟨Nat.le_of_ble_eq_true rfl, Nat.le_of_ble_eq_true rfl⟩ (EM.all (w_Mo G A M N) (w_Mo G A M1 N)) hP hD hS (ci := 6) rfl rfl (at_Mo_0 G A M N) rfl hl.1 rfl (Nat.le_of_ble_eq_true rfl) ⟨Nat.zero_le _, Nat.zero_le _⟩ dX6_lies_2) (EM.all (w_Mo G A M N) (w_Mo G A M1 N)) hP hD hS (fun H locs hP hD hS => ?_)
  refine lv_istore_n (pc := 5) (lv' := [(2, .int r1), (0, .ref (A 0)), (1, .int x1)]) hx hb dX6_lies_5 rfl hl (by decide) rfl (fun ls hl => ?_)
  refine lv_iload_n (pc := 6) hx hb dX6_lies_6 rfl (lv_at hl 0 rfl) ?_
  refine lv_if_eq (pc := 7) (tgt := 12) hx hb dX6_lies_7 (by decide) (fun h5 => ?_) (fun h5 => ?_)
  · have hf := br_y h5 hf
    refine lv_iconst (pc := 12) (v := (0 : Int32)) hx hb dX6_lies_12 (by decide) ?_
    refine lv_istore_n (pc := 13) (lv' := [(3, .int (0 : Int32)), (2, .int r1), (0, .ref (A 0)), (1, .int x1)]) hx hb dX6_lies_13 rfl hl (by decide) rfl (fun ls hl => ?_)
    refine lv_bipush (pc := 14) (v := (-9 : Int32)) hx hb dX6_lies_14 (by decide) ?_
    refine lv_istore (pc := 16) (lv' := [(4, .int (-9 : Int32)), (3, .int (0 : Int32)), (2, .int r1), (0, .ref (A 0)), (1, .int x1)]) hx hb dX6_lies_16 hl (by decide) rfl (fun ls hl => ?_)
    refine lv_aload_n (pc := 18) hx hb dX6_lies_18 rfl (lv_at hl 3 rfl) ?_
    refine wget (pc := 19) X (fun _ h9 => List.mem_cons_of_mem _ (List.mem_append_right _ h9)) hP 0 (at_Mo_0 G A M1 N) rfl 0 (by decide) (List.mem_cons_of_mem _ (List.mem_append_left _ (List.mem_append_left _ (List.mem_of_getElem? (i := 0) rfl)))) rfl (v := .ref (A 1)) rfl dX6_lies_19 ?_
    refine lv_iload_n (pc := 22) hx hb dX6_lies_22 rfl (lv_at hl 4 rfl) ?_
    obtain ⟨hi, hf⟩ := ck_some hf
    refine wiald (pc := 23) X hP 1 (at_Mo_1 G A M1 N) hi rfl dX6_lies_23 ?_
    refine lv_iconst (pc := 24) (v := (4 : Int32)) hx hb dX6_lies_24 (by decide) ?_
    refine lv_isub (pc := 25) hx hb dX6_lies_25 ?_
    refine lv_istore (pc := 26) (lv' := [(5, .int (((M1 0) x1.toNatClampNeg) - (4 : Int32))), (4, .int (-9 : Int32)), (3, .int (0 : Int32)), (2, .int r1), (0, .ref (A 0)), (1, .int x1)]) hx hb dX6_lies_26 hl (by decide) rfl (fun ls hl => ?_)
    exact l_28 FU _ _ _ _ _ H locs ls hf hP hD hS (lv_sub hl [4, 5, 2, 1, 0] rfl)
  · have hf := br_n h5 hf
    refine lv_iload_n (pc := 10) hx hb dX6_lies_10 rfl (lv_at hl 0 rfl) ?_
    cases hf
    exact hret _ _ _ _ dX6_lies_11 hP hD hS
def r_X6_lots : Room := { frames := 3, cells := 0, slots := 0, locals := 75 }
set_option maxHeartbeats 4000000 in
set_option maxRecDepth 100000 in
theorem c_X6_lots (G : GT) (l : Launch) (A : Nat → Nat) (sz : Nat) (M : CS) (N : JS) (x1 : Int32) (x2 : Int32) (r : Int32) (M' : CS) (hf : f_X6_lots M N x1 x2 = some (r, M')) : MTi l yX6_lots wsX6_lots r_X6_lots [.ref (A 0), .int x1, .int x2] G (w_Mo G A M N) (w_Mo G A M' N) sz r := by
  refine MTi.of (cc := cX6_lots) (maxL := 8) (by decide +kernel) rfl (Nat.le_of_ble_eq_true rfl) (fun p e s m av below meth cd Q B H locs ls X hret hl hP hD hS => ?_)
  have hx := X.1.1
  have hb := X.1.2.1
  have hl : lv_has ls 8 [(0, .ref (A 0)), (1, .int x1), (2, .int x2)] := hl
  have b_24 : ∀ (M : CS) (H : Heap) (locs : List Loc) (ls : Array Slot), f_X6_lots_24 M N = some (r, M') → va_P G.1 vwCl (w_Mo G A M N) H → va_D B (w_Mo G A M N) → va_S B s.heap H locs → lv_has ls 8 [] → W p l e r_X6_lots s m av below meth cd H locs 0 0 Q (F0 m 24 ls []) := by
    intro M H locs ls hf hP hD hS hl
    unfold f_X6_lots_24 at hf
    refine lv_iconst (pc := 24) (v := (-1 : Int32)) hx hb dX6_lots_24 (by decide) ?_
    cases hf
    exact hret _ _ _ _ dX6_lots_25 hP hD hS
  have b_64 : ∀ (M : CS) (H : Heap) (locs : List Loc) (ls : Array Slot), f_X6_lots_64 M N = some (r, M') → va_P G.1 vwCl (w_Mo G A M N) H → va_D B (w_Mo G A M N) → va_S B s.heap H locs → lv_has ls 8 [] → W p l e r_X6_lots s m av below meth cd H locs 0 0 Q (F0 m 64 ls []) := by
    intro M H locs ls hf hP hD hS hl
    unfold f_X6_lots_64 at hf
    refine lv_bipush (pc := 64) (v := (-2 : Int32)) hx hb dX6_lots_64 (by decide) ?_
    cases hf
    exact hret _ _ _ _ dX6_lots_66 hP hD hS
  have l_73 : ∀ (n73 : Nat), ∀ (x1 : Int32) (x3 : Int64) (x5 : Int32) (M : CS) (H : Heap) (locs : List Loc) (ls : Array Slot), f_X6_lots_73 n73 x1 x3 x5 M N = some (r, M') → va_P G.1 vwCl (w_Mo G A M N) H → va_D B (w_Mo G A M N) → va_S B s.heap H locs → lv_has ls 8 [(0, .ref (A 0)), (1, .int x1), (3, .long x3), (5, .int x5)] → W p l e r_X6_lots s m av below meth cd H locs 0 0 Q (F0 m 73 ls []) := by
    intro n73
    induction n73 with
    | zero =>
      intro x1 x3 x5 M H locs ls hf hP hD hS hl
      rw [f_X6_lots_73] at hf
      cases hf
    | succ n73 ih73 =>
      intro x1 x3 x5 M H locs ls hf hP hD hS hl
      rw [f_X6_lots_73] at hf
      refine lv_iload (pc := 73) hx hb dX6_lots_73 (lv_at hl 3 rfl) ?_
      refine lv_iload_n (pc := 75) hx hb dX6_lots_75 rfl (lv_at hl 1 rfl) ?_
      refine lv_icmp_ge (pc := 76) (tgt := 141) hx hb dX6_lots_76 (by decide) (fun h1 => ?_) (fun h1 => ?_)
      · have hf := br_y h1 hf
        refine lv_aload_n (pc := 141) hx hb dX6_lots_141 rfl (lv_at hl 0 rfl) ?_
        refine lv_iconst (pc := 142) (v := (0 : Int32)) hx hb dX6_lots_142 (by decide) ?_
        refine lv_iconst (pc := 143) (v := (4 : Int32)) hx hb dX6_lots_143 (by decide) ?_
        refine lv_bipush (pc := 144) (v := (19 : Int32)) hx hb dX6_lots_144 (by decide) ?_
        refine lv_aload_n (pc := 146) hx hb dX6_lots_146 rfl (lv_at hl 0 rfl) ?_
        obtain ⟨r1, hc1, hf⟩ := ob1_some hf
        refine endi X.2.2.2.2 (runV (pc := 147) (As := []) (rest := [.int (19 : Int32), .int (4 : Int32), .int (0 : Int32), .ref (A 0)]) X (c_X6_live G l A H.size M N r1 hc1) gX6_lots_X6_live k_X6_live ⟨rfl, rfl⟩ ⟨Nat.le_of_ble_eq_true rfl, Nat.le_of_ble_eq_true rfl⟩ (EM.all (w_Mo G A M N) (w_Mo G A M N)) hP hD hS (ci := 6) rfl rfl (at_Mo_0 G A M N) rfl hl.1 rfl (Nat.le_of_ble_eq_true rfl) ⟨Nat.zero_le _, Nat.zero_le _⟩ dX6_lots_147) (EM.all (w_Mo G A M N) (w_Mo G A M N)) hP hD hS (fun H locs hP hD hS => ?_)
        obtain ⟨r2, M2, hc2, hf⟩ := ob2_some hf
        refine endi X.2.2.2.2 (runV (pc := 150) (As := [.int (0 : Int32), .int (4 : Int32), .int (19 : Int32), .int r1]) (rest := []) X (c_X6_differing G l A H.size M N (0 : Int32) (4 : Int32) (19 : Int32) r1 r2 M2 hc2) gX6_lots_X6_differing k_X6_differing ⟨rfl, rfl⟩ ⟨Nat.le_of_ble_eq_true rfl, Nat.le_of_ble_eq_true rfl⟩ (EM.all (w_Mo G A M N) (w_Mo G A M2 N)) hP hD hS (ci := 6) rfl rfl (at_Mo_0 G A M N) rfl hl.1 rfl (Nat.le_of_ble_eq_true rfl) ⟨Nat.zero_le _, Nat.zero_le _⟩ dX6_lots_150) (EM.all (w_Mo G A M N) (w_Mo G A M2 N)) hP hD hS (fun H locs hP hD hS => ?_)
        obtain ⟨r3, hc3, hf⟩ := ob1_some hf
        refine endi X.2.2.2.2 (runS (pc := 153) (As := [.int r2]) (rest := []) X (c_X6_bits G l  H.size r2 r3 hc3) gX6_lots_X6_bits k_X6_bits ⟨rfl, rfl⟩ ⟨Nat.le_of_ble_eq_true rfl, Nat.le_of_ble_eq_true rfl⟩ (EM.nil (w_Mo G A M2 N)) hP hD hS rfl hl.1 rfl (Nat.le_of_ble_eq_true rfl) ⟨Nat.zero_le _, Nat.zero_le _⟩ dX6_lots_153) (EM.nil (w_Mo G A M2 N)) hP hD hS (fun H locs hP hD hS => ?_)
        cases hf
        exact hret _ _ _ _ dX6_lots_156 hP hD hS
      · have hf := br_n h1 hf
        refine lv_ldc2 (pc := 79) (v := 48271) hx hb X.1.2.2.2.1 (X.1.2.2.2.2 _ (List.mem_cons_of_mem _ (List.mem_append_left _ (List.mem_append_left _ (List.mem_of_getElem? (i := 3) rfl))))) dX6_lots_79 ?_
        refine lv_lload_n (pc := 82) hx hb dX6_lots_82 rfl (lv_at hl 2 rfl) ?_
        refine lv_lmul (pc := 83) hx hb dX6_lots_83 ?_
        refine lv_ldc2 (pc := 84) (v := 2147483647) hx hb X.1.2.2.2.1 (X.1.2.2.2.2 _ (List.mem_cons_of_mem _ (List.mem_append_left _ (List.mem_append_left _ (List.mem_of_getElem? (i := 4) rfl))))) dX6_lots_84 ?_
        refine wlrem (pc := 87) hx hb dX6_lots_87 (by decide) ?_
        refine lv_lstore_n (pc := 88) (lv' := [(3, .long (jremL ((48271 : Int64) * x3) (2147483647 : Int64))), (0, .ref (A 0)), (1, .int x1), (5, .int x5)]) hx hb dX6_lots_88 rfl hl (by decide) rfl (fun ls hl => ?_)
        refine lv_lload_n (pc := 89) hx hb dX6_lots_89 rfl (lv_at hl 0 rfl) ?_
        refine lv_l2i (pc := 90) (v := ((jremL ((48271 : Int64) * x3) (2147483647 : Int64))).toInt32) hx hb dX6_lots_90 rfl ?_
        refine lv_istore (pc := 91) (lv' := [(6, .int (((jremL ((48271 : Int64) * x3) (2147483647 : Int64))).toInt32)), (3, .long (jremL ((48271 : Int64) * x3) (2147483647 : Int64))), (0, .ref (A 0)), (1, .int x1), (5, .int x5)]) hx hb dX6_lots_91 hl (by decide) rfl (fun ls hl => ?_)
        refine lv_aload_n (pc := 93) hx hb dX6_lots_93 rfl (lv_at hl 2 rfl) ?_
        refine lv_iload (pc := 94) hx hb dX6_lots_94 (lv_at hl 0 rfl) ?_
        refine lv_iconst (pc := 96) (v := (5 : Int32)) hx hb dX6_lots_96 (by decide) ?_
        refine wirem (pc := 97) hx hb dX6_lots_97 (by decide) ?_
        refine lv_iload (pc := 98) hx hb dX6_lots_98 (lv_at hl 0 rfl) ?_
        refine lv_bipush (pc := 100) (v := (8 : Int32)) hx hb dX6_lots_100 (by decide) ?_
        refine lv_idiv (pc := 102) hx hb dX6_lots_102 (by decide) ?_
        refine lv_bipush (pc := 103) (v := (20 : Int32)) hx hb dX6_lots_103 (by decide) ?_
        refine wirem (pc := 105) hx hb dX6_lots_105 (by decide) ?_
        refine lv_iload (pc := 106) hx hb dX6_lots_106 (lv_at hl 0 rfl) ?_
        refine lv_sipush (pc := 108) (v := (256 : Int32)) hx hb dX6_lots_108 (by decide) ?_
        refine lv_idiv (pc := 111) hx hb dX6_lots_111 (by decide) ?_
        refine lv_aload_n (pc := 112) hx hb dX6_lots_112 rfl (lv_at hl 2 rfl) ?_
        refine wget (pc := 113) X (fun _ h9 => List.mem_cons_of_mem _ (List.mem_append_right _ h9)) hP 0 (at_Mo_0 G A M N) rfl 4 (by decide) (List.mem_cons_of_mem _ (List.mem_append_left _ (List.mem_append_left _ (List.mem_of_getElem? (i := 2) rfl)))) rfl (v := .ref (A 5)) rfl dX6_lots_113 ?_
        refine lv_iconst (pc := 116) (v := (0 : Int32)) hx hb dX6_lots_116 (by decide) ?_
        refine wiald (pc := 117) X hP 5 (at_Mo_5 G A M N) (by decide) (j := 0) (by decide) dX6_lots_117 ?_
        obtain ⟨hz, hf⟩ := ck_some hf
        refine wirem (pc := 118) hx hb dX6_lots_118 (nz_ne hz) ?_
        refine lv_iload (pc := 119) hx hb dX6_lots_119 (lv_at hl 0 rfl) ?_
        refine lv_sipush (pc := 121) (v := (4096 : Int32)) hx hb dX6_lots_121 (by decide) ?_
        refine lv_idiv (pc := 124) hx hb dX6_lots_124 (by decide) ?_
        refine lv_bipush (pc := 125) (v := (9 : Int32)) hx hb dX6_lots_125 (by decide) ?_
        refine wirem (pc := 127) hx hb dX6_lots_127 (by decide) ?_
        refine lv_iconst (pc := 128) (v := (1 : Int32)) hx hb dX6_lots_128 (by decide) ?_
        refine lv_iadd (pc := 129) hx hb dX6_lots_129 ?_
        obtain ⟨r4, M4, hc4, hf⟩ := ob2_some hf
        refine endi X.2.2.2.2 (runV (pc := 130) (As := [.int (jrem (((jremL ((48271 : Int64) * x3) (2147483647 : Int64))).toInt32) (5 : Int32)), .int (jrem ((((jremL ((48271 : Int64) * x3) (2147483647 : Int64))).toInt32) / (8 : Int32)) (20 : Int32)), .int (jrem ((((jremL ((48271 : Int64) * x3) (2147483647 : Int64))).toInt32) / (256 : Int32)) ((M 4) 0)), .int ((jrem ((((jremL ((48271 : Int64) * x3) (2147483647 : Int64))).toInt32) / (4096 : Int32)) (9 : Int32)) + (1 : Int32))]) (rest := []) X (c_X6_comes G l A H.size M N (jrem (((jremL ((48271 : Int64) * x3) (2147483647 : Int64))).toInt32) (5 : Int32)) (jrem ((((jremL ((48271 : Int64) * x3) (2147483647 : Int64))).toInt32) / (8 : Int32)) (20 : Int32)) (jrem ((((jremL ((48271 : Int64) * x3) (2147483647 : Int64))).toInt32) / (256 : Int32)) ((M 4) 0)) ((jrem ((((jremL ((48271 : Int64) * x3) (2147483647 : Int64))).toInt32) / (4096 : Int32)) (9 : Int32)) + (1 : Int32)) r4 M4 hc4) gX6_lots_X6_comes k_X6_comes ⟨rfl, rfl⟩ ⟨Nat.le_of_ble_eq_true rfl, Nat.le_of_ble_eq_true rfl⟩ (EM.all (w_Mo G A M N) (w_Mo G A M4 N)) hP hD hS (ci := 6) rfl rfl (at_Mo_0 G A M N) rfl hl.1 rfl (Nat.le_of_ble_eq_true rfl) ⟨Nat.zero_le _, Nat.zero_le _⟩ dX6_lots_130) (EM.all (w_Mo G A M N) (w_Mo G A M4 N)) hP hD hS (fun H locs hP hD hS => ?_)
        refine lv_istore (pc := 133) (lv' := [(7, .int r4), (6, .int (((jremL ((48271 : Int64) * x3) (2147483647 : Int64))).toInt32)), (3, .long (jremL ((48271 : Int64) * x3) (2147483647 : Int64))), (0, .ref (A 0)), (1, .int x1), (5, .int x5)]) hx hb dX6_lots_133 hl (by decide) rfl (fun ls hl => ?_)
        refine lv_iinc (pc := 135) (v := (x5 + (1 : Int32))) (lv' := [(5, .int (x5 + (1 : Int32))), (7, .int r4), (6, .int (((jremL ((48271 : Int64) * x3) (2147483647 : Int64))).toInt32)), (3, .long (jremL ((48271 : Int64) * x3) (2147483647 : Int64))), (0, .ref (A 0)), (1, .int x1)]) hx hb dX6_lots_135 hl (k := 5) rfl rfl (by decide) rfl (fun ls hl => ?_)
        refine lv_goto (pc := 138) (tgt := 73) hx hb dX6_lots_138 (by decide) ?_
        exact ih73 _ _ _ _ H locs ls hf hP hD hS (lv_sub hl [4, 5, 3, 0] rfl)
  unfold f_X6_lots at hf
  refine lv_iload_n (pc := 0) hx hb dX6_lots_0 rfl (lv_at hl 1 rfl) ?_
  refine lv_i2l (pc := 1) (v := (x1).toInt64) hx hb dX6_lots_1 rfl ?_
  refine lv_lconst (pc := 2) (v := (1 : Int64)) hx hb dX6_lots_2 (by decide) ?_
  refine lv_ldc2 (pc := 3) (v := 10) hx hb X.1.2.2.2.1 (X.1.2.2.2.2 _ (List.mem_cons_of_mem _ (List.mem_append_left _ (List.mem_append_left _ (List.mem_of_getElem? (i := 0) rfl))))) dX6_lots_3 ?_
  obtain ⟨r1, hc1, hf⟩ := ob1_some hf
  refine endi X.2.2.2.2 (runS (pc := 6) (As := [.long ((x1).toInt64), .long (1 : Int64), .long (10 : Int64)]) (rest := []) X (c_X6_in G l  H.size ((x1).toInt64) (1 : Int64) (10 : Int64) r1 hc1) gX6_lots_X6_in k_X6_in ⟨rfl, rfl⟩ ⟨Nat.le_of_ble_eq_true rfl, Nat.le_of_ble_eq_true rfl⟩ (EM.nil (w_Mo G A M N)) hP hD hS rfl hl.1 rfl (Nat.le_of_ble_eq_true rfl) ⟨Nat.zero_le _, Nat.zero_le _⟩ dX6_lots_6) (EM.nil (w_Mo G A M N)) hP hD hS (fun H locs hP hD hS => ?_)
  refine lv_if_eq (pc := 9) (tgt := 24) hx hb dX6_lots_9 (by decide) (fun h6 => ?_) (fun h6 => ?_)
  · have hf := br_y h6 hf
    exact b_24 _ H locs ls hf hP hD hS (lv_sub hl [] rfl)
  · have hf := br_n h6 hf
    refine lv_iload_n (pc := 12) hx hb dX6_lots_12 rfl (lv_at hl 2 rfl) ?_
    refine lv_i2l (pc := 13) (v := (x2).toInt64) hx hb dX6_lots_13 rfl ?_
    refine lv_lconst (pc := 14) (v := (1 : Int64)) hx hb dX6_lots_14 (by decide) ?_
    refine lv_ldc2 (pc := 15) (v := 2147483646) hx hb X.1.2.2.2.1 (X.1.2.2.2.2 _ (List.mem_cons_of_mem _ (List.mem_append_left _ (List.mem_append_left _ (List.mem_of_getElem? (i := 1) rfl))))) dX6_lots_15 ?_
    obtain ⟨r2, hc2, hf⟩ := ob1_some hf
    refine endi X.2.2.2.2 (runS (pc := 18) (As := [.long ((x2).toInt64), .long (1 : Int64), .long (2147483646 : Int64)]) (rest := []) X (c_X6_in G l  H.size ((x2).toInt64) (1 : Int64) (2147483646 : Int64) r2 hc2) gX6_lots_X6_in k_X6_in ⟨rfl, rfl⟩ ⟨Nat.le_of_ble_eq_true rfl, Nat.le_of_ble_eq_true rfl⟩ (EM.nil (w_Mo G A M N)) hP hD hS rfl hl.1 rfl (Nat.le_of_ble_eq_true rfl) ⟨Nat.zero_le _, Nat.zero_le _⟩ dX6_lots_18) (EM.nil (w_Mo G A M N)) hP hD hS (fun H locs hP hD hS => ?_)
    refine lv_if_ne (pc := 21) (tgt := 26) hx hb dX6_lots_21 (by decide) (fun h5 => ?_) (fun h5 => ?_)
    · have hf := br_n h5 hf
      refine lv_aload_n (pc := 26) hx hb dX6_lots_26 rfl (lv_at hl 0 rfl) ?_
      refine wget (pc := 27) X (fun _ h9 => List.mem_cons_of_mem _ (List.mem_append_right _ h9)) hP 0 (at_Mo_0 G A M N) rfl 4 (by decide) (List.mem_cons_of_mem _ (List.mem_append_left _ (List.mem_append_left _ (List.mem_of_getElem? (i := 2) rfl)))) rfl (v := .ref (A 5)) rfl dX6_lots_27 ?_
      refine lv_iconst (pc := 30) (v := (0 : Int32)) hx hb dX6_lots_30 (by decide) ?_
      refine wiald (pc := 31) X hP 5 (at_Mo_5 G A M N) (by decide) (j := 0) (by decide) dX6_lots_31 ?_
      refine lv_if_ne (pc := 32) (tgt := 38) hx hb dX6_lots_32 (by decide) (fun h4 => ?_) (fun h4 => ?_)
      · have hf := br_n h4 hf
        refine lv_aload_n (pc := 38) hx hb dX6_lots_38 rfl (lv_at hl 0 rfl) ?_
        refine wget (pc := 39) X (fun _ h9 => List.mem_cons_of_mem _ (List.mem_append_right _ h9)) hP 0 (at_Mo_0 G A M N) rfl 4 (by decide) (List.mem_cons_of_mem _ (List.mem_append_left _ (List.mem_append_left _ (List.mem_of_getElem? (i := 2) rfl)))) rfl (v := .ref (A 5)) rfl dX6_lots_39 ?_
        refine lv_iconst (pc := 42) (v := (1 : Int32)) hx hb dX6_lots_42 (by decide) ?_
        refine wiald (pc := 43) X hP 5 (at_Mo_5 G A M N) (by decide) (j := 1) (by decide) dX6_lots_43 ?_
        refine lv_iload_n (pc := 44) hx hb dX6_lots_44 rfl (lv_at hl 1 rfl) ?_
        refine lv_iadd (pc := 45) hx hb dX6_lots_45 ?_
        refine lv_bipush (pc := 46) (v := (12 : Int32)) hx hb dX6_lots_46 (by decide) ?_
        refine lv_icmp_gt (pc := 48) (tgt := 64) hx hb dX6_lots_48 (by decide) (fun h3 => ?_) (fun h3 => ?_)
        · have hf := br_y h3 hf
          exact b_64 _ H locs ls hf hP hD hS (lv_sub hl [] rfl)
        · have hf := br_n h3 hf
          refine lv_aload_n (pc := 51) hx hb dX6_lots_51 rfl (lv_at hl 0 rfl) ?_
          refine wget (pc := 52) X (fun _ h9 => List.mem_cons_of_mem _ (List.mem_append_right _ h9)) hP 0 (at_Mo_0 G A M N) rfl 4 (by decide) (List.mem_cons_of_mem _ (List.mem_append_left _ (List.mem_append_left _ (List.mem_of_getElem? (i := 2) rfl)))) rfl (v := .ref (A 5)) rfl dX6_lots_52 ?_
          refine lv_iconst (pc := 55) (v := (3 : Int32)) hx hb dX6_lots_55 (by decide) ?_
          refine wiald (pc := 56) X hP 5 (at_Mo_5 G A M N) (by decide) (j := 3) (by decide) dX6_lots_56 ?_
          refine lv_iload_n (pc := 57) hx hb dX6_lots_57 rfl (lv_at hl 1 rfl) ?_
          refine lv_iadd (pc := 58) hx hb dX6_lots_58 ?_
          refine lv_bipush (pc := 59) (v := (40 : Int32)) hx hb dX6_lots_59 (by decide) ?_
          refine lv_icmp_le (pc := 61) (tgt := 67) hx hb dX6_lots_61 (by decide) (fun h2 => ?_) (fun h2 => ?_)
          · have hf := br_y h2 hf
            refine lv_iload_n (pc := 67) hx hb dX6_lots_67 rfl (lv_at hl 2 rfl) ?_
            refine lv_i2l (pc := 68) (v := (x2).toInt64) hx hb dX6_lots_68 rfl ?_
            refine lv_lstore_n (pc := 69) (lv' := [(3, .long ((x2).toInt64)), (0, .ref (A 0)), (1, .int x1), (2, .int x2)]) hx hb dX6_lots_69 rfl hl (by decide) rfl (fun ls hl => ?_)
            refine lv_iconst (pc := 70) (v := (0 : Int32)) hx hb dX6_lots_70 (by decide) ?_
            refine lv_istore (pc := 71) (lv' := [(5, .int (0 : Int32)), (3, .long ((x2).toInt64)), (0, .ref (A 0)), (1, .int x1), (2, .int x2)]) hx hb dX6_lots_71 hl (by decide) rfl (fun ls hl => ?_)
            exact l_73 FU _ _ _ _ H locs ls hf hP hD hS (lv_sub hl [2, 3, 1, 0] rfl)
          · have hf := br_n h2 hf
            exact b_64 _ H locs ls hf hP hD hS (lv_sub hl [] rfl)
      · have hf := br_y h4 hf
        refine lv_bipush (pc := 35) (v := (-4 : Int32)) hx hb dX6_lots_35 (by decide) ?_
        cases hf
        exact hret _ _ _ _ dX6_lots_37 hP hD hS
    · have hf := br_y h5 hf
      exact b_24 _ H locs ls hf hP hD hS (lv_sub hl [] rfl)
def r_X6_lower : Room := { frames := 0, cells := 0, slots := 0, locals := 0 }
set_option maxHeartbeats 4000000 in
set_option maxRecDepth 100000 in
theorem c_X6_lower (G : GT) (l : Launch) (A : Nat → Nat) (sz : Nat) (M : CS) (N : JS) (r : Int64) (hf : f_X6_lower M N = some r) : MTl l yX6_lower wsX6_lower r_X6_lower [.ref (A 0)] G (w_Mo G A M N) (w_Mo G A M N) sz r := by
  refine MTl.of (cc := cX6_lower) (maxL := 1) (by decide +kernel) rfl (Nat.le_of_ble_eq_true rfl) (fun p e s m av below meth cd Q B H locs ls X hret hl hP hD hS => ?_)
  have hx := X.1.1
  have hb := X.1.2.1
  have hl : lv_has ls 1 [(0, .ref (A 0))] := hl
  unfold f_X6_lower at hf
  refine lv_aload_n (pc := 0) hx hb dX6_lower_0 rfl (lv_at hl 0 rfl) ?_
  refine wget (pc := 1) X (fun _ h9 => List.mem_cons_of_mem _ (List.mem_append_right _ h9)) hP 0 (at_Mo_0 G A M N) rfl 9 (by decide) (List.mem_cons_of_mem _ (List.mem_append_left _ (List.mem_of_getElem? (i := 0) rfl))) rfl (v := .long (N 1)) rfl dX6_lower_1 ?_
  cases hf
  exact hret _ _ _ _ dX6_lower_4 hP hD hS
def r_X6_mark : Room := { frames := 4, cells := 0, slots := 0, locals := 93 }
set_option maxHeartbeats 4000000 in
set_option maxRecDepth 100000 in
theorem c_X6_mark (G : GT) (l : Launch) (A : Nat → Nat) (sz : Nat) (M : CS) (N : JS) (x1 : Int32) (x2 : Int32) (r : Int32) (M' : CS) (hf : f_X6_mark M N x1 x2 = some (r, M')) : MTi l yX6_mark wsX6_mark r_X6_mark [.ref (A 0), .int x1, .int x2] G (w_Mo G A M N) (w_Mo G A M' N) sz r := by
  refine MTi.of (cc := cX6_mark) (maxL := 6) (by decide +kernel) rfl (Nat.le_of_ble_eq_true rfl) (fun p e s m av below meth cd Q B H locs ls X hret hl hP hD hS => ?_)
  have hx := X.1.1
  have hb := X.1.2.1
  have hl : lv_has ls 6 [(0, .ref (A 0)), (1, .int x1), (2, .int x2)] := hl
  have b_20 : ∀ (M : CS) (H : Heap) (locs : List Loc) (ls : Array Slot), f_X6_mark_20 M N = some (r, M') → va_P G.1 vwCl (w_Mo G A M N) H → va_D B (w_Mo G A M N) → va_S B s.heap H locs → lv_has ls 6 [] → W p l e r_X6_mark s m av below meth cd H locs 0 0 Q (F0 m 20 ls []) := by
    intro M H locs ls hf hP hD hS hl
    unfold f_X6_mark_20 at hf
    refine lv_iconst (pc := 20) (v := (-1 : Int32)) hx hb dX6_mark_20 (by decide) ?_
    cases hf
    exact hret _ _ _ _ dX6_mark_21 hP hD hS
  have l_105 : ∀ (n105 : Nat), ∀ (x3 : Int32) (x4 : Int32) (M : CS) (H : Heap) (locs : List Loc) (ls : Array Slot), f_X6_mark_105 n105 x3 x4 M N = some (r, M') → va_P G.1 vwCl (w_Mo G A M N) H → va_D B (w_Mo G A M N) → va_S B s.heap H locs → lv_has ls 6 [(0, .ref (A 0)), (3, .int x3), (4, .int x4)] → W p l e r_X6_mark s m av below meth cd H locs 0 0 Q (F0 m 105 ls []) := by
    intro n105
    induction n105 with
    | zero =>
      intro x3 x4 M H locs ls hf hP hD hS hl
      rw [f_X6_mark_105] at hf
      cases hf
    | succ n105 ih105 =>
      have b_137 : ∀ (x4 : Int32) (t0 : Int32) (t1 : Int32) (M : CS) (H : Heap) (locs : List Loc) (ls : Array Slot), f_X6_mark_137 (f_X6_mark_105 n105) x4 t0 t1 M N = some (r, M') → va_P G.1 vwCl (w_Mo G A M N) H → va_D B (w_Mo G A M N) → va_S B s.heap H locs → lv_has ls 6 [(0, .ref (A 0)), (4, .int x4)] → W p l e r_X6_mark s m av below meth cd H locs 0 0 Q (F0 m 137 ls [.int t1, .int t0]) := by
        intro x4 t0 t1 M H locs ls hf hP hD hS hl
        unfold f_X6_mark_137 at hf
        refine lv_iadd (pc := 137) hx hb dX6_mark_137 ?_
        refine lv_istore_n (pc := 138) (lv' := [(3, .int (t0 + t1)), (0, .ref (A 0)), (4, .int x4)]) hx hb dX6_mark_138 rfl hl (by decide) rfl (fun ls hl => ?_)
        refine lv_iinc (pc := 139) (v := (x4 + (1 : Int32))) (lv' := [(4, .int (x4 + (1 : Int32))), (3, .int (t0 + t1)), (0, .ref (A 0))]) hx hb dX6_mark_139 hl (k := 2) rfl rfl (by decide) rfl (fun ls hl => ?_)
        refine lv_goto (pc := 142) (tgt := 105) hx hb dX6_mark_142 (by decide) ?_
        exact ih105 _ _ _ H locs ls hf hP hD hS (lv_sub hl [2, 1, 0] rfl)
      intro x3 x4 M H locs ls hf hP hD hS hl
      rw [f_X6_mark_105] at hf
      refine lv_iload (pc := 105) hx hb dX6_mark_105 (lv_at hl 2 rfl) ?_
      refine lv_bipush (pc := 107) (v := (20 : Int32)) hx hb dX6_mark_107 (by decide) ?_
      refine lv_icmp_ge (pc := 109) (tgt := 145) hx hb dX6_mark_109 (by decide) (fun h2 => ?_) (fun h2 => ?_)
      · have hf := br_y h2 hf
        refine lv_iload_n (pc := 145) hx hb dX6_mark_145 rfl (lv_at hl 1 rfl) ?_
        cases hf
        exact hret _ _ _ _ dX6_mark_146 hP hD hS
      · have hf := br_n h2 hf
        refine lv_iload_n (pc := 112) hx hb dX6_mark_112 rfl (lv_at hl 1 rfl) ?_
        refine lv_aload_n (pc := 113) hx hb dX6_mark_113 rfl (lv_at hl 0 rfl) ?_
        refine wget (pc := 114) X (fun _ h9 => List.mem_cons_of_mem _ (List.mem_append_right _ h9)) hP 0 (at_Mo_0 G A M N) rfl 15 (by decide) (List.mem_cons_of_mem _ (List.mem_append_left _ (List.mem_append_left _ (List.mem_of_getElem? (i := 2) rfl)))) rfl (v := .ref (A 11)) rfl dX6_mark_114 ?_
        refine lv_iload (pc := 117) hx hb dX6_mark_117 (lv_at hl 2 rfl) ?_
        obtain ⟨hi, hf⟩ := ck_some hf
        refine wiald (pc := 119) X hP 11 (at_Mo_11 G A M N) hi rfl dX6_mark_119 ?_
        refine lv_aload_n (pc := 120) hx hb dX6_mark_120 rfl (lv_at hl 0 rfl) ?_
        refine wget (pc := 121) X (fun _ h9 => List.mem_cons_of_mem _ (List.mem_append_right _ h9)) hP 0 (at_Mo_0 G A M N) rfl 15 (by decide) (List.mem_cons_of_mem _ (List.mem_append_left _ (List.mem_append_left _ (List.mem_of_getElem? (i := 2) rfl)))) rfl (v := .ref (A 11)) rfl dX6_mark_121 ?_
        refine lv_iload (pc := 124) hx hb dX6_mark_124 (lv_at hl 2 rfl) ?_
        refine lv_iconst (pc := 126) (v := (1 : Int32)) hx hb dX6_mark_126 (by decide) ?_
        refine lv_isub (pc := 127) hx hb dX6_mark_127 ?_
        obtain ⟨hi, hf⟩ := ck_some hf
        refine wiald (pc := 128) X hP 11 (at_Mo_11 G A M N) hi rfl dX6_mark_128 ?_
        refine lv_icmp_ne (pc := 129) (tgt := 136) hx hb dX6_mark_129 (by decide) (fun h1 => ?_) (fun h1 => ?_)
        · have hf := br_n h1 hf
          refine lv_iconst (pc := 136) (v := (0 : Int32)) hx hb dX6_mark_136 (by decide) ?_
          exact b_137 _ _ _ _ H locs ls hf hP hD hS (lv_sub hl [0, 2] rfl)
        · have hf := br_y h1 hf
          refine lv_iconst (pc := 132) (v := (1 : Int32)) hx hb dX6_mark_132 (by decide) ?_
          refine lv_goto (pc := 133) (tgt := 137) hx hb dX6_mark_133 (by decide) ?_
          exact b_137 _ _ _ _ H locs ls hf hP hD hS (lv_sub hl [0, 2] rfl)
  have l_150 : ∀ (n150 : Nat), ∀ (x3 : Int32) (x4 : Int32) (M : CS) (H : Heap) (locs : List Loc) (ls : Array Slot), f_X6_mark_150 n150 x3 x4 M N = some (r, M') → va_P G.1 vwCl (w_Mo G A M N) H → va_D B (w_Mo G A M N) → va_S B s.heap H locs → lv_has ls 6 [(0, .ref (A 0)), (3, .int x3), (4, .int x4)] → W p l e r_X6_mark s m av below meth cd H locs 0 0 Q (F0 m 150 ls []) := by
    intro n150
    induction n150 with
    | zero =>
      intro x3 x4 M H locs ls hf hP hD hS hl
      rw [f_X6_mark_150] at hf
      cases hf
    | succ n150 ih150 =>
      have b_185 : ∀ (x4 : Int32) (t0 : Int32) (t1 : Int32) (M : CS) (H : Heap) (locs : List Loc) (ls : Array Slot), f_X6_mark_185 (f_X6_mark_150 n150) x4 t0 t1 M N = some (r, M') → va_P G.1 vwCl (w_Mo G A M N) H → va_D B (w_Mo G A M N) → va_S B s.heap H locs → lv_has ls 6 [(0, .ref (A 0)), (4, .int x4)] → W p l e r_X6_mark s m av below meth cd H locs 0 0 Q (F0 m 185 ls [.int t1, .int t0]) := by
        intro x4 t0 t1 M H locs ls hf hP hD hS hl
        unfold f_X6_mark_185 at hf
        refine lv_iadd (pc := 185) hx hb dX6_mark_185 ?_
        refine lv_istore_n (pc := 186) (lv' := [(3, .int (t0 + t1)), (0, .ref (A 0)), (4, .int x4)]) hx hb dX6_mark_186 rfl hl (by decide) rfl (fun ls hl => ?_)
        refine lv_iinc (pc := 187) (v := (x4 + (1 : Int32))) (lv' := [(4, .int (x4 + (1 : Int32))), (3, .int (t0 + t1)), (0, .ref (A 0))]) hx hb dX6_mark_187 hl (k := 2) rfl rfl (by decide) rfl (fun ls hl => ?_)
        refine lv_goto (pc := 190) (tgt := 150) hx hb dX6_mark_190 (by decide) ?_
        exact ih150 _ _ _ H locs ls hf hP hD hS (lv_sub hl [2, 1, 0] rfl)
      intro x3 x4 M H locs ls hf hP hD hS hl
      rw [f_X6_mark_150] at hf
      refine lv_iload (pc := 150) hx hb dX6_mark_150 (lv_at hl 2 rfl) ?_
      refine lv_iconst (pc := 152) (v := (5 : Int32)) hx hb dX6_mark_152 (by decide) ?_
      refine lv_icmp_ge (pc := 153) (tgt := 193) hx hb dX6_mark_153 (by decide) (fun h4 => ?_) (fun h4 => ?_)
      · have hf := br_y h4 hf
        refine lv_iload_n (pc := 193) hx hb dX6_mark_193 rfl (lv_at hl 1 rfl) ?_
        cases hf
        exact hret _ _ _ _ dX6_mark_194 hP hD hS
      · have hf := br_n h4 hf
        refine lv_iload_n (pc := 156) hx hb dX6_mark_156 rfl (lv_at hl 1 rfl) ?_
        refine lv_aload_n (pc := 157) hx hb dX6_mark_157 rfl (lv_at hl 0 rfl) ?_
        refine wget (pc := 158) X (fun _ h9 => List.mem_cons_of_mem _ (List.mem_append_right _ h9)) hP 0 (at_Mo_0 G A M N) rfl 15 (by decide) (List.mem_cons_of_mem _ (List.mem_append_left _ (List.mem_append_left _ (List.mem_of_getElem? (i := 2) rfl)))) rfl (v := .ref (A 11)) rfl dX6_mark_158 ?_
        refine lv_bipush (pc := 161) (v := (20 : Int32)) hx hb dX6_mark_161 (by decide) ?_
        refine lv_iload (pc := 163) hx hb dX6_mark_163 (lv_at hl 2 rfl) ?_
        refine lv_imul (pc := 165) hx hb dX6_mark_165 ?_
        refine lv_bipush (pc := 166) (v := (19 : Int32)) hx hb dX6_mark_166 (by decide) ?_
        refine lv_iadd (pc := 168) hx hb dX6_mark_168 ?_
        obtain ⟨hi, hf⟩ := ck_some hf
        refine wiald (pc := 169) X hP 11 (at_Mo_11 G A M N) hi rfl dX6_mark_169 ?_
        refine lv_aload_n (pc := 170) hx hb dX6_mark_170 rfl (lv_at hl 0 rfl) ?_
        refine wget (pc := 171) X (fun _ h9 => List.mem_cons_of_mem _ (List.mem_append_right _ h9)) hP 0 (at_Mo_0 G A M N) rfl 15 (by decide) (List.mem_cons_of_mem _ (List.mem_append_left _ (List.mem_append_left _ (List.mem_of_getElem? (i := 2) rfl)))) rfl (v := .ref (A 11)) rfl dX6_mark_171 ?_
        refine lv_bipush (pc := 174) (v := (19 : Int32)) hx hb dX6_mark_174 (by decide) ?_
        refine wiald (pc := 176) X hP 11 (at_Mo_11 G A M N) (by decide) (j := 19) (by decide) dX6_mark_176 ?_
        refine lv_icmp_ne (pc := 177) (tgt := 184) hx hb dX6_mark_177 (by decide) (fun h3 => ?_) (fun h3 => ?_)
        · have hf := br_n h3 hf
          refine lv_iconst (pc := 184) (v := (0 : Int32)) hx hb dX6_mark_184 (by decide) ?_
          exact b_185 _ _ _ _ H locs ls hf hP hD hS (lv_sub hl [0, 2] rfl)
        · have hf := br_y h3 hf
          refine lv_iconst (pc := 180) (v := (1 : Int32)) hx hb dX6_mark_180 (by decide) ?_
          refine lv_goto (pc := 181) (tgt := 185) hx hb dX6_mark_181 (by decide) ?_
          exact b_185 _ _ _ _ H locs ls hf hP hD hS (lv_sub hl [0, 2] rfl)
  have l_211 : ∀ (n211 : Nat), ∀ (x1 : Int32) (x3 : Int32) (x4 : Int32) (x5 : Int32) (M : CS) (H : Heap) (locs : List Loc) (ls : Array Slot), f_X6_mark_211 n211 x1 x3 x4 x5 M N = some (r, M') → va_P G.1 vwCl (w_Mo G A M N) H → va_D B (w_Mo G A M N) → va_S B s.heap H locs → lv_has ls 6 [(0, .ref (A 0)), (1, .int x1), (3, .int x3), (4, .int x4), (5, .int x5)] → W p l e r_X6_mark s m av below meth cd H locs 0 0 Q (F0 m 211 ls []) := by
    intro n211
    induction n211 with
    | zero =>
      intro x1 x3 x4 x5 M H locs ls hf hP hD hS hl
      rw [f_X6_mark_211] at hf
      cases hf
    | succ n211 ih211 =>
      have b_252 : ∀ (x1 : Int32) (x4 : Int32) (x5 : Int32) (t0 : Int32) (t1 : Int32) (M : CS) (H : Heap) (locs : List Loc) (ls : Array Slot), f_X6_mark_252 (f_X6_mark_211 n211) x1 x4 x5 t0 t1 M N = some (r, M') → va_P G.1 vwCl (w_Mo G A M N) H → va_D B (w_Mo G A M N) → va_S B s.heap H locs → lv_has ls 6 [(0, .ref (A 0)), (1, .int x1), (4, .int x4), (5, .int x5)] → W p l e r_X6_mark s m av below meth cd H locs 0 0 Q (F0 m 252 ls [.int t1, .int t0]) := by
        intro x1 x4 x5 t0 t1 M H locs ls hf hP hD hS hl
        unfold f_X6_mark_252 at hf
        refine lv_iadd (pc := 252) hx hb dX6_mark_252 ?_
        refine lv_istore_n (pc := 253) (lv' := [(3, .int (t0 + t1)), (0, .ref (A 0)), (1, .int x1), (4, .int x4), (5, .int x5)]) hx hb dX6_mark_253 rfl hl (by decide) rfl (fun ls hl => ?_)
        refine lv_iinc (pc := 254) (v := (x5 + (1 : Int32))) (lv' := [(5, .int (x5 + (1 : Int32))), (3, .int (t0 + t1)), (0, .ref (A 0)), (1, .int x1), (4, .int x4)]) hx hb dX6_mark_254 hl (k := 4) rfl rfl (by decide) rfl (fun ls hl => ?_)
        refine lv_goto (pc := 257) (tgt := 211) hx hb dX6_mark_257 (by decide) ?_
        exact ih211 _ _ _ _ _ H locs ls hf hP hD hS (lv_sub hl [2, 3, 1, 4, 0] rfl)
      have b_251 : ∀ (x1 : Int32) (x4 : Int32) (x5 : Int32) (t0 : Int32) (M : CS) (H : Heap) (locs : List Loc) (ls : Array Slot), f_X6_mark_251 (f_X6_mark_211 n211) x1 x4 x5 t0 M N = some (r, M') → va_P G.1 vwCl (w_Mo G A M N) H → va_D B (w_Mo G A M N) → va_S B s.heap H locs → lv_has ls 6 [(0, .ref (A 0)), (1, .int x1), (4, .int x4), (5, .int x5)] → W p l e r_X6_mark s m av below meth cd H locs 0 0 Q (F0 m 251 ls [.int t0]) := by
        intro x1 x4 x5 t0 M H locs ls hf hP hD hS hl
        unfold f_X6_mark_251 at hf
        refine lv_iconst (pc := 251) (v := (0 : Int32)) hx hb dX6_mark_251 (by decide) ?_
        exact b_252 _ _ _ _ _ _ H locs ls hf hP hD hS (lv_sub hl [0, 1, 2, 3] rfl)
      intro x1 x3 x4 x5 M H locs ls hf hP hD hS hl
      rw [f_X6_mark_211] at hf
      refine lv_iload (pc := 211) hx hb dX6_mark_211 (lv_at hl 4 rfl) ?_
      refine lv_aload_n (pc := 213) hx hb dX6_mark_213 rfl (lv_at hl 0 rfl) ?_
      refine wget (pc := 214) X (fun _ h9 => List.mem_cons_of_mem _ (List.mem_append_right _ h9)) hP 0 (at_Mo_0 G A M N) rfl 4 (by decide) (List.mem_cons_of_mem _ (List.mem_append_left _ (List.mem_append_left _ (List.mem_of_getElem? (i := 1) rfl)))) rfl (v := .ref (A 5)) rfl dX6_mark_214 ?_
      refine lv_iconst (pc := 217) (v := (0 : Int32)) hx hb dX6_mark_217 (by decide) ?_
      refine wiald (pc := 218) X hP 5 (at_Mo_5 G A M N) (by decide) (j := 0) (by decide) dX6_mark_218 ?_
      refine lv_icmp_ge (pc := 219) (tgt := 260) hx hb dX6_mark_219 (by decide) (fun h7 => ?_) (fun h7 => ?_)
      · have hf := br_y h7 hf
        refine lv_iload_n (pc := 260) hx hb dX6_mark_260 rfl (lv_at hl 2 rfl) ?_
        cases hf
        exact hret _ _ _ _ dX6_mark_261 hP hD hS
      · have hf := br_n h7 hf
        refine lv_iload_n (pc := 222) hx hb dX6_mark_222 rfl (lv_at hl 2 rfl) ?_
        refine lv_iload (pc := 223) hx hb dX6_mark_223 (lv_at hl 4 rfl) ?_
        refine lv_iload_n (pc := 225) hx hb dX6_mark_225 rfl (lv_at hl 1 rfl) ?_
        refine lv_icmp_eq (pc := 226) (tgt := 251) hx hb dX6_mark_226 (by decide) (fun h6 => ?_) (fun h6 => ?_)
        · have hf := br_y h6 hf
          exact b_251 _ _ _ _ _ H locs ls hf hP hD hS (lv_sub hl [0, 1, 3, 4] rfl)
        · have hf := br_n h6 hf
          refine lv_aload_n (pc := 229) hx hb dX6_mark_229 rfl (lv_at hl 0 rfl) ?_
          refine lv_iload (pc := 230) hx hb dX6_mark_230 (lv_at hl 4 rfl) ?_
          refine lv_iconst (pc := 232) (v := (0 : Int32)) hx hb dX6_mark_232 (by decide) ?_
          refine lv_aload_n (pc := 233) hx hb dX6_mark_233 rfl (lv_at hl 0 rfl) ?_
          refine wget (pc := 234) X (fun _ h9 => List.mem_cons_of_mem _ (List.mem_append_right _ h9)) hP 0 (at_Mo_0 G A M N) rfl 4 (by decide) (List.mem_cons_of_mem _ (List.mem_append_left _ (List.mem_append_left _ (List.mem_of_getElem? (i := 1) rfl)))) rfl (v := .ref (A 5)) rfl dX6_mark_234 ?_
          refine lv_iconst (pc := 237) (v := (2 : Int32)) hx hb dX6_mark_237 (by decide) ?_
          refine wiald (pc := 238) X hP 5 (at_Mo_5 G A M N) (by decide) (j := 2) (by decide) dX6_mark_238 ?_
          obtain ⟨r1, M1, hc1, hf⟩ := ob2_some hf
          refine endi X.2.2.2.2 (runV (pc := 239) (As := [.int x5, .int (0 : Int32), .int ((M 4) 2)]) (rest := [.int x3]) X (c_X6_doing G l A H.size M N x5 (0 : Int32) ((M 4) 2) r1 M1 hc1) gX6_mark_X6_doing k_X6_doing ⟨rfl, rfl⟩ ⟨Nat.le_of_ble_eq_true rfl, Nat.le_of_ble_eq_true rfl⟩ (EM.all (w_Mo G A M N) (w_Mo G A M1 N)) hP hD hS (ci := 6) rfl rfl (at_Mo_0 G A M N) rfl hl.1 rfl (Nat.le_of_ble_eq_true rfl) ⟨Nat.zero_le _, Nat.zero_le _⟩ dX6_mark_239) (EM.all (w_Mo G A M N) (w_Mo G A M1 N)) hP hD hS (fun H locs hP hD hS => ?_)
          refine lv_iload (pc := 242) hx hb dX6_mark_242 (lv_at hl 3 rfl) ?_
          refine lv_icmp_ne (pc := 244) (tgt := 251) hx hb dX6_mark_244 (by decide) (fun h5 => ?_) (fun h5 => ?_)
          · have hf := br_n h5 hf
            exact b_251 _ _ _ _ _ H locs ls hf hP hD hS (lv_sub hl [0, 1, 3, 4] rfl)
          · have hf := br_y h5 hf
            refine lv_iconst (pc := 247) (v := (1 : Int32)) hx hb dX6_mark_247 (by decide) ?_
            refine lv_goto (pc := 248) (tgt := 252) hx hb dX6_mark_248 (by decide) ?_
            exact b_252 _ _ _ _ _ _ H locs ls hf hP hD hS (lv_sub hl [0, 1, 3, 4] rfl)
  have l_265 : ∀ (n265 : Nat), ∀ (x3 : Int32) (x5 : Int32) (M : CS) (H : Heap) (locs : List Loc) (ls : Array Slot), f_X6_mark_265 n265 x3 x5 M N = some (r, M') → va_P G.1 vwCl (w_Mo G A M N) H → va_D B (w_Mo G A M N) → va_S B s.heap H locs → lv_has ls 6 [(0, .ref (A 0)), (3, .int x3), (5, .int x5)] → W p l e r_X6_mark s m av below meth cd H locs 0 0 Q (F0 m 265 ls []) := by
    intro n265
    induction n265 with
    | zero =>
      intro x3 x5 M H locs ls hf hP hD hS hl
      rw [f_X6_mark_265] at hf
      cases hf
    | succ n265 ih265 =>
      have b_288 : ∀ (x5 : Int32) (t0 : Int32) (t1 : Int32) (M : CS) (H : Heap) (locs : List Loc) (ls : Array Slot), f_X6_mark_288 (f_X6_mark_265 n265) x5 t0 t1 M N = some (r, M') → va_P G.1 vwCl (w_Mo G A M N) H → va_D B (w_Mo G A M N) → va_S B s.heap H locs → lv_has ls 6 [(0, .ref (A 0)), (5, .int x5)] → W p l e r_X6_mark s m av below meth cd H locs 0 0 Q (F0 m 288 ls [.int t1, .int t0]) := by
        intro x5 t0 t1 M H locs ls hf hP hD hS hl
        unfold f_X6_mark_288 at hf
        refine lv_iadd (pc := 288) hx hb dX6_mark_288 ?_
        refine lv_istore_n (pc := 289) (lv' := [(3, .int (t0 + t1)), (0, .ref (A 0)), (5, .int x5)]) hx hb dX6_mark_289 rfl hl (by decide) rfl (fun ls hl => ?_)
        refine lv_iinc (pc := 290) (v := (x5 + (1 : Int32))) (lv' := [(5, .int (x5 + (1 : Int32))), (3, .int (t0 + t1)), (0, .ref (A 0))]) hx hb dX6_mark_290 hl (k := 2) rfl rfl (by decide) rfl (fun ls hl => ?_)
        refine lv_goto (pc := 293) (tgt := 265) hx hb dX6_mark_293 (by decide) ?_
        exact ih265 _ _ _ H locs ls hf hP hD hS (lv_sub hl [2, 1, 0] rfl)
      intro x3 x5 M H locs ls hf hP hD hS hl
      rw [f_X6_mark_265] at hf
      refine lv_iload (pc := 265) hx hb dX6_mark_265 (lv_at hl 2 rfl) ?_
      refine lv_bipush (pc := 267) (v := (20 : Int32)) hx hb dX6_mark_267 (by decide) ?_
      refine lv_icmp_ge (pc := 269) (tgt := 296) hx hb dX6_mark_269 (by decide) (fun h9 => ?_) (fun h9 => ?_)
      · have hf := br_y h9 hf
        refine lv_iload_n (pc := 296) hx hb dX6_mark_296 rfl (lv_at hl 1 rfl) ?_
        cases hf
        exact hret _ _ _ _ dX6_mark_297 hP hD hS
      · have hf := br_n h9 hf
        refine lv_iload_n (pc := 272) hx hb dX6_mark_272 rfl (lv_at hl 1 rfl) ?_
        refine lv_aload_n (pc := 273) hx hb dX6_mark_273 rfl (lv_at hl 0 rfl) ?_
        refine wget (pc := 274) X (fun _ h9 => List.mem_cons_of_mem _ (List.mem_append_right _ h9)) hP 0 (at_Mo_0 G A M N) rfl 15 (by decide) (List.mem_cons_of_mem _ (List.mem_append_left _ (List.mem_append_left _ (List.mem_of_getElem? (i := 2) rfl)))) rfl (v := .ref (A 11)) rfl dX6_mark_274 ?_
        refine lv_iload (pc := 277) hx hb dX6_mark_277 (lv_at hl 2 rfl) ?_
        obtain ⟨hi, hf⟩ := ck_some hf
        refine wiald (pc := 279) X hP 11 (at_Mo_11 G A M N) hi rfl dX6_mark_279 ?_
        refine lv_if_ne (pc := 280) (tgt := 287) hx hb dX6_mark_280 (by decide) (fun h8 => ?_) (fun h8 => ?_)
        · have hf := br_n h8 hf
          refine lv_iconst (pc := 287) (v := (0 : Int32)) hx hb dX6_mark_287 (by decide) ?_
          exact b_288 _ _ _ _ H locs ls hf hP hD hS (lv_sub hl [0, 2] rfl)
        · have hf := br_y h8 hf
          refine lv_iconst (pc := 283) (v := (1 : Int32)) hx hb dX6_mark_283 (by decide) ?_
          refine lv_goto (pc := 284) (tgt := 288) hx hb dX6_mark_284 (by decide) ?_
          exact b_288 _ _ _ _ H locs ls hf hP hD hS (lv_sub hl [0, 2] rfl)
  unfold f_X6_mark at hf
  refine lv_aload_n (pc := 0) hx hb dX6_mark_0 rfl (lv_at hl 0 rfl) ?_
  refine lv_iload_n (pc := 1) hx hb dX6_mark_1 rfl (lv_at hl 1 rfl) ?_
  obtain ⟨r1, hc1, hf⟩ := ob1_some hf
  refine endi X.2.2.2.2 (runV (pc := 2) (As := [.int x1]) (rest := []) X (c_X6_isPerson G l A H.size M N x1 r1 hc1) gX6_mark_X6_isPerson k_X6_isPerson ⟨rfl, rfl⟩ ⟨Nat.le_of_ble_eq_true rfl, Nat.le_of_ble_eq_true rfl⟩ (EM.all (w_Mo G A M N) (w_Mo G A M N)) hP hD hS (ci := 6) rfl rfl (at_Mo_0 G A M N) rfl hl.1 rfl (Nat.le_of_ble_eq_true rfl) ⟨Nat.zero_le _, Nat.zero_le _⟩ dX6_mark_2) (EM.all (w_Mo G A M N) (w_Mo G A M N)) hP hD hS (fun H locs hP hD hS => ?_)
  refine lv_if_eq (pc := 5) (tgt := 20) hx hb dX6_mark_5 (by decide) (fun h16 => ?_) (fun h16 => ?_)
  · have hf := br_y h16 hf
    exact b_20 _ H locs ls hf hP hD hS (lv_sub hl [] rfl)
  · have hf := br_n h16 hf
    refine lv_iload_n (pc := 8) hx hb dX6_mark_8 rfl (lv_at hl 2 rfl) ?_
    refine lv_i2l (pc := 9) (v := (x2).toInt64) hx hb dX6_mark_9 rfl ?_
    refine lv_lconst (pc := 10) (v := (1 : Int64)) hx hb dX6_mark_10 (by decide) ?_
    refine lv_ldc2 (pc := 11) (v := 5) hx hb X.1.2.2.2.1 (X.1.2.2.2.2 _ (List.mem_cons_of_mem _ (List.mem_append_left _ (List.mem_append_left _ (List.mem_of_getElem? (i := 0) rfl))))) dX6_mark_11 ?_
    obtain ⟨r2, hc2, hf⟩ := ob1_some hf
    refine endi X.2.2.2.2 (runS (pc := 14) (As := [.long ((x2).toInt64), .long (1 : Int64), .long (5 : Int64)]) (rest := []) X (c_X6_in G l  H.size ((x2).toInt64) (1 : Int64) (5 : Int64) r2 hc2) gX6_mark_X6_in k_X6_in ⟨rfl, rfl⟩ ⟨Nat.le_of_ble_eq_true rfl, Nat.le_of_ble_eq_true rfl⟩ (EM.nil (w_Mo G A M N)) hP hD hS rfl hl.1 rfl (Nat.le_of_ble_eq_true rfl) ⟨Nat.zero_le _, Nat.zero_le _⟩ dX6_mark_14) (EM.nil (w_Mo G A M N)) hP hD hS (fun H locs hP hD hS => ?_)
    refine lv_if_ne (pc := 17) (tgt := 22) hx hb dX6_mark_17 (by decide) (fun h15 => ?_) (fun h15 => ?_)
    · have hf := br_n h15 hf
      refine lv_aload_n (pc := 22) hx hb dX6_mark_22 rfl (lv_at hl 0 rfl) ?_
      refine wget (pc := 23) X (fun _ h9 => List.mem_cons_of_mem _ (List.mem_append_right _ h9)) hP 0 (at_Mo_0 G A M N) rfl 4 (by decide) (List.mem_cons_of_mem _ (List.mem_append_left _ (List.mem_append_left _ (List.mem_of_getElem? (i := 1) rfl)))) rfl (v := .ref (A 5)) rfl dX6_mark_23 ?_
      refine lv_iconst (pc := 26) (v := (4 : Int32)) hx hb dX6_mark_26 (by decide) ?_
      refine lv_iload_n (pc := 27) hx hb dX6_mark_27 rfl (lv_at hl 1 rfl) ?_
      refine lv_iadd (pc := 28) hx hb dX6_mark_28 ?_
      obtain ⟨hi, hf⟩ := ck_some hf
      refine wiald (pc := 29) X hP 5 (at_Mo_5 G A M N) hi rfl dX6_mark_29 ?_
      refine lv_iload_n (pc := 30) hx hb dX6_mark_30 rfl (lv_at hl 2 rfl) ?_
      obtain ⟨r3, hc3, hf⟩ := ob1_some hf
      refine endi X.2.2.2.2 (runS (pc := 31) (As := [.int ((M 4) ((4 : Int32) + x1).toNatClampNeg), .int x2]) (rest := []) X (c_X6_isOf G l  H.size ((M 4) ((4 : Int32) + x1).toNatClampNeg) x2 r3 hc3) gX6_mark_X6_isOf k_X6_isOf ⟨rfl, rfl⟩ ⟨Nat.le_of_ble_eq_true rfl, Nat.le_of_ble_eq_true rfl⟩ (EM.nil (w_Mo G A M N)) hP hD hS rfl hl.1 rfl (Nat.le_of_ble_eq_true rfl) ⟨Nat.zero_le _, Nat.zero_le _⟩ dX6_mark_31) (EM.nil (w_Mo G A M N)) hP hD hS (fun H locs hP hD hS => ?_)
      refine lv_if_ne (pc := 34) (tgt := 43) hx hb dX6_mark_34 (by decide) (fun h14 => ?_) (fun h14 => ?_)
      · have hf := br_n h14 hf
        refine lv_aload_n (pc := 43) hx hb dX6_mark_43 rfl (lv_at hl 0 rfl) ?_
        refine lv_iload_n (pc := 44) hx hb dX6_mark_44 rfl (lv_at hl 1 rfl) ?_
        obtain ⟨M4, hc4, hf⟩ := ob1_some hf
        refine endv X.2.2.2.2 (runV (pc := 45) (As := [.int x1]) (rest := []) X (c_X6_layNow G l A H.size M N x1 M4 hc4) gX6_mark_X6_layNow k_X6_layNow ⟨rfl, rfl⟩ ⟨Nat.le_of_ble_eq_true rfl, Nat.le_of_ble_eq_true rfl⟩ (EM.all (w_Mo G A M N) (w_Mo G A M4 N)) hP hD hS (ci := 6) rfl rfl (at_Mo_0 G A M N) rfl hl.1 rfl (Nat.le_of_ble_eq_true rfl) ⟨Nat.zero_le _, Nat.zero_le _⟩ dX6_mark_45) (EM.all (w_Mo G A M N) (w_Mo G A M4 N)) hP hD hS (fun H locs hP hD hS => ?_)
        refine lv_iconst (pc := 48) (v := (0 : Int32)) hx hb dX6_mark_48 (by decide) ?_
        refine lv_istore_n (pc := 49) (lv' := [(3, .int (0 : Int32)), (0, .ref (A 0)), (1, .int x1), (2, .int x2)]) hx hb dX6_mark_49 rfl hl (by decide) rfl (fun ls hl => ?_)
        refine lv_iload_n (pc := 50) hx hb dX6_mark_50 rfl (lv_at hl 3 rfl) ?_
        by_cases h10 : x2 = (1 : Int32)
        · have hf := br_y h10 hf
          refine lv_tableIn (pc := 51) (off := 29) (tgt := 80) hx hb dX6_mark_51 (by rw [h10]; decide) (by rw [h10]; decide) (by rw [h10]; rfl) (by decide) ?_
          refine lv_aload_n (pc := 80) hx hb dX6_mark_80 rfl (lv_at hl 1 rfl) ?_
          refine wget (pc := 81) X (fun _ h9 => List.mem_cons_of_mem _ (List.mem_append_right _ h9)) hP 0 (at_Mo_0 G A M4 N) rfl 15 (by decide) (List.mem_cons_of_mem _ (List.mem_append_left _ (List.mem_append_left _ (List.mem_of_getElem? (i := 2) rfl)))) rfl (v := .ref (A 11)) rfl dX6_mark_81 ?_
          refine lv_bipush (pc := 84) (v := (99 : Int32)) hx hb dX6_mark_84 (by decide) ?_
          refine wiald (pc := 86) X hP 11 (at_Mo_11 G A M4 N) (by decide) (j := 99) (by decide) dX6_mark_86 ?_
          refine lv_aload_n (pc := 87) hx hb dX6_mark_87 rfl (lv_at hl 1 rfl) ?_
          refine wget (pc := 88) X (fun _ h9 => List.mem_cons_of_mem _ (List.mem_append_right _ h9)) hP 0 (at_Mo_0 G A M4 N) rfl 15 (by decide) (List.mem_cons_of_mem _ (List.mem_append_left _ (List.mem_append_left _ (List.mem_of_getElem? (i := 2) rfl)))) rfl (v := .ref (A 11)) rfl dX6_mark_88 ?_
          refine lv_bipush (pc := 91) (v := (15 : Int32)) hx hb dX6_mark_91 (by decide) ?_
          refine wiald (pc := 93) X hP 11 (at_Mo_11 G A M4 N) (by decide) (j := 15) (by decide) dX6_mark_93 ?_
          refine lv_isub (pc := 94) hx hb dX6_mark_94 ?_
          refine lv_bipush (pc := 95) (v := (10 : Int32)) hx hb dX6_mark_95 (by decide) ?_
          refine lv_iadd (pc := 97) hx hb dX6_mark_97 ?_
          refine lv_bipush (pc := 98) (v := (10 : Int32)) hx hb dX6_mark_98 (by decide) ?_
          refine wirem (pc := 100) hx hb dX6_mark_100 (by decide) ?_
          cases hf
          exact hret _ _ _ _ dX6_mark_101 hP hD hS
        · have hf := br_n h10 hf
          by_cases h11 : x2 = (2 : Int32)
          · have hf := br_y h11 hf
            refine lv_tableIn (pc := 51) (off := 51) (tgt := 102) hx hb dX6_mark_51 (by rw [h11]; decide) (by rw [h11]; decide) (by rw [h11]; rfl) (by decide) ?_
            refine lv_iconst (pc := 102) (v := (1 : Int32)) hx hb dX6_mark_102 (by decide) ?_
            refine lv_istore (pc := 103) (lv' := [(4, .int (1 : Int32)), (3, .int (0 : Int32)), (0, .ref (A 0)), (1, .int x1), (2, .int x2)]) hx hb dX6_mark_103 hl (by decide) rfl (fun ls hl => ?_)
            exact l_105 FU _ _ _ H locs ls hf hP hD hS (lv_sub hl [2, 1, 0] rfl)
          · have hf := br_n h11 hf
            by_cases h12 : x2 = (3 : Int32)
            · have hf := br_y h12 hf
              refine lv_tableIn (pc := 51) (off := 96) (tgt := 147) hx hb dX6_mark_51 (by rw [h12]; decide) (by rw [h12]; decide) (by rw [h12]; rfl) (by decide) ?_
              refine lv_iconst (pc := 147) (v := (1 : Int32)) hx hb dX6_mark_147 (by decide) ?_
              refine lv_istore (pc := 148) (lv' := [(4, .int (1 : Int32)), (3, .int (0 : Int32)), (0, .ref (A 0)), (1, .int x1), (2, .int x2)]) hx hb dX6_mark_148 hl (by decide) rfl (fun ls hl => ?_)
              exact l_150 FU _ _ _ H locs ls hf hP hD hS (lv_sub hl [2, 1, 0] rfl)
            · have hf := br_n h12 hf
              by_cases h13 : x2 = (4 : Int32)
              · have hf := br_y h13 hf
                refine lv_tableIn (pc := 51) (off := 144) (tgt := 195) hx hb dX6_mark_51 (by rw [h13]; decide) (by rw [h13]; decide) (by rw [h13]; rfl) (by decide) ?_
                refine lv_aload_n (pc := 195) hx hb dX6_mark_195 rfl (lv_at hl 1 rfl) ?_
                refine wget (pc := 196) X (fun _ h9 => List.mem_cons_of_mem _ (List.mem_append_right _ h9)) hP 0 (at_Mo_0 G A M4 N) rfl 15 (by decide) (List.mem_cons_of_mem _ (List.mem_append_left _ (List.mem_append_left _ (List.mem_of_getElem? (i := 2) rfl)))) rfl (v := .ref (A 11)) rfl dX6_mark_196 ?_
                refine lv_aload_n (pc := 199) hx hb dX6_mark_199 rfl (lv_at hl 1 rfl) ?_
                refine wget (pc := 200) X (fun _ h9 => List.mem_cons_of_mem _ (List.mem_append_right _ h9)) hP 0 (at_Mo_0 G A M4 N) rfl 4 (by decide) (List.mem_cons_of_mem _ (List.mem_append_left _ (List.mem_append_left _ (List.mem_of_getElem? (i := 1) rfl)))) rfl (v := .ref (A 5)) rfl dX6_mark_200 ?_
                refine lv_iconst (pc := 203) (v := (2 : Int32)) hx hb dX6_mark_203 (by decide) ?_
                refine wiald (pc := 204) X hP 5 (at_Mo_5 G A M4 N) (by decide) (j := 2) (by decide) dX6_mark_204 ?_
                obtain ⟨hi, hf⟩ := ck_some hf
                refine wiald (pc := 205) X hP 11 (at_Mo_11 G A M4 N) hi rfl dX6_mark_205 ?_
                refine lv_istore (pc := 206) (lv' := [(4, .int ((M4 13) ((M4 4) 2).toNatClampNeg)), (3, .int (0 : Int32)), (0, .ref (A 0)), (1, .int x1), (2, .int x2)]) hx hb dX6_mark_206 hl (by decide) rfl (fun ls hl => ?_)
                refine lv_iconst (pc := 208) (v := (0 : Int32)) hx hb dX6_mark_208 (by decide) ?_
                refine lv_istore (pc := 209) (lv' := [(5, .int (0 : Int32)), (4, .int ((M4 13) ((M4 4) 2).toNatClampNeg)), (3, .int (0 : Int32)), (0, .ref (A 0)), (1, .int x1), (2, .int x2)]) hx hb dX6_mark_209 hl (by decide) rfl (fun ls hl => ?_)
                exact l_211 FU _ _ _ _ _ H locs ls hf hP hD hS (lv_sub hl [3, 4, 2, 1, 0] rfl)
              · have hf := br_n h13 hf
                refine lv_tableOut (pc := 51) (tgt := 262) hx hb dX6_mark_51 (by have := sw_ne (k := 1) (by decide) h10; have := sw_ne (k := 2) (by decide) h11; have := sw_ne (k := 3) (by decide) h12; have := sw_ne (k := 4) (by decide) h13; omega) (by decide) ?_
                refine lv_iconst (pc := 262) (v := (0 : Int32)) hx hb dX6_mark_262 (by decide) ?_
                refine lv_istore (pc := 263) (lv' := [(5, .int (0 : Int32)), (3, .int (0 : Int32)), (0, .ref (A 0)), (1, .int x1), (2, .int x2)]) hx hb dX6_mark_263 hl (by decide) rfl (fun ls hl => ?_)
                exact l_265 FU _ _ _ H locs ls hf hP hD hS (lv_sub hl [2, 1, 0] rfl)
      · have hf := br_y h14 hf
        refine lv_aload_n (pc := 37) hx hb dX6_mark_37 rfl (lv_at hl 0 rfl) ?_
        refine lv_iconst (pc := 38) (v := (3 : Int32)) hx hb dX6_mark_38 (by decide) ?_
        obtain ⟨r5, M5, hc5, hf⟩ := ob2_some hf
        refine endi X.2.2.2.2 (runV (pc := 39) (As := [.int (3 : Int32)]) (rest := []) X (c_X6_found G l A H.size M N (3 : Int32) r5 M5 hc5) gX6_mark_X6_found k_X6_found ⟨rfl, rfl⟩ ⟨Nat.le_of_ble_eq_true rfl, Nat.le_of_ble_eq_true rfl⟩ (EM.all (w_Mo G A M N) (w_Mo G A M5 N)) hP hD hS (ci := 6) rfl rfl (at_Mo_0 G A M N) rfl hl.1 rfl (Nat.le_of_ble_eq_true rfl) ⟨Nat.zero_le _, Nat.zero_le _⟩ dX6_mark_39) (EM.all (w_Mo G A M N) (w_Mo G A M5 N)) hP hD hS (fun H locs hP hD hS => ?_)
        cases hf
        exact hret _ _ _ _ dX6_mark_42 hP hD hS
    · have hf := br_y h15 hf
      exact b_20 _ H locs ls hf hP hD hS (lv_sub hl [] rfl)
def r_X6_mean : Room := { frames := 2, cells := 0, slots := 0, locals := 45 }
set_option maxHeartbeats 4000000 in
set_option maxRecDepth 100000 in
theorem c_X6_mean (G : GT) (l : Launch) (A : Nat → Nat) (sz : Nat) (M : CS) (N : JS) (x1 : Int32) (r : Int32) (M' : CS) (hf : f_X6_mean M N x1 = some (r, M')) : MTi l yX6_mean wsX6_mean r_X6_mean [.ref (A 0), .int x1] G (w_Mo G A M N) (w_Mo G A M' N) sz r := by
  refine MTi.of (cc := cX6_mean) (maxL := 5) (by decide +kernel) rfl (Nat.le_of_ble_eq_true rfl) (fun p e s m av below meth cd Q B H locs ls X hret hl hP hD hS => ?_)
  have hx := X.1.1
  have hb := X.1.2.1
  have hl : lv_has ls 5 [(0, .ref (A 0)), (1, .int x1)] := hl
  have l_44 : ∀ (n44 : Nat), ∀ (x1 : Int32) (x2 : Int64) (x4 : Int32) (M : CS) (H : Heap) (locs : List Loc) (ls : Array Slot), f_X6_mean_44 n44 x1 x2 x4 M N = some (r, M') → va_P G.1 vwCl (w_Mo G A M N) H → va_D B (w_Mo G A M N) → va_S B s.heap H locs → lv_has ls 5 [(0, .ref (A 0)), (1, .int x1), (2, .long x2), (4, .int x4)] → W p l e r_X6_mean s m av below meth cd H locs 0 0 Q (F0 m 44 ls []) := by
    intro n44
    induction n44 with
    | zero =>
      intro x1 x2 x4 M H locs ls hf hP hD hS hl
      rw [f_X6_mean_44] at hf
      cases hf
    | succ n44 ih44 =>
      intro x1 x2 x4 M H locs ls hf hP hD hS hl
      rw [f_X6_mean_44] at hf
      refine lv_iload (pc := 44) hx hb dX6_mean_44 (lv_at hl 3 rfl) ?_
      refine lv_aload_n (pc := 46) hx hb dX6_mean_46 rfl (lv_at hl 0 rfl) ?_
      refine wget (pc := 47) X (fun _ h9 => List.mem_cons_of_mem _ (List.mem_append_right _ h9)) hP 0 (at_Mo_0 G A M N) rfl 0 (by decide) (List.mem_cons_of_mem _ (List.mem_append_left _ (List.mem_of_getElem? (i := 0) rfl))) rfl (v := .ref (A 1)) rfl dX6_mean_47 ?_
      refine lv_iload_n (pc := 50) hx hb dX6_mean_50 rfl (lv_at hl 1 rfl) ?_
      obtain ⟨hi, hf⟩ := ck_some hf
      refine wiald (pc := 51) X hP 1 (at_Mo_1 G A M N) hi rfl dX6_mean_51 ?_
      refine lv_icmp_ge (pc := 52) (tgt := 77) hx hb dX6_mean_52 (by decide) (fun h1 => ?_) (fun h1 => ?_)
      · have hf := br_y h1 hf
        refine lv_aload_n (pc := 77) hx hb dX6_mean_77 rfl (lv_at hl 0 rfl) ?_
        refine lv_lload_n (pc := 78) hx hb dX6_mean_78 rfl (lv_at hl 2 rfl) ?_
        refine lv_aload_n (pc := 79) hx hb dX6_mean_79 rfl (lv_at hl 0 rfl) ?_
        refine wget (pc := 80) X (fun _ h9 => List.mem_cons_of_mem _ (List.mem_append_right _ h9)) hP 0 (at_Mo_0 G A M N) rfl 0 (by decide) (List.mem_cons_of_mem _ (List.mem_append_left _ (List.mem_of_getElem? (i := 0) rfl))) rfl (v := .ref (A 1)) rfl dX6_mean_80 ?_
        refine lv_iload_n (pc := 83) hx hb dX6_mean_83 rfl (lv_at hl 1 rfl) ?_
        obtain ⟨hi, hf⟩ := ck_some hf
        refine wiald (pc := 84) X hP 1 (at_Mo_1 G A M N) hi rfl dX6_mean_84 ?_
        refine lv_i2l (pc := 85) (v := (((M 0) x1.toNatClampNeg)).toInt64) hx hb dX6_mean_85 rfl ?_
        obtain ⟨hz, hf⟩ := ck_some hf
        refine lv_ldiv (pc := 86) hx hb dX6_mean_86 (nzL_ne hz) ?_
        refine lv_l2i (pc := 87) (v := ((x2 / ((((M 0) x1.toNatClampNeg)).toInt64))).toInt32) hx hb dX6_mean_87 rfl ?_
        obtain ⟨r1, M1, hc1, hf⟩ := ob2_some hf
        refine endi X.2.2.2.2 (runV (pc := 88) (As := [.int (((x2 / ((((M 0) x1.toNatClampNeg)).toInt64))).toInt32)]) (rest := []) X (c_X6_tell G l A H.size M N (((x2 / ((((M 0) x1.toNatClampNeg)).toInt64))).toInt32) r1 M1 hc1) gX6_mean_X6_tell k_X6_tell ⟨rfl, rfl⟩ ⟨Nat.le_of_ble_eq_true rfl, Nat.le_of_ble_eq_true rfl⟩ (EM.all (w_Mo G A M N) (w_Mo G A M1 N)) hP hD hS (ci := 6) rfl rfl (at_Mo_0 G A M N) rfl hl.1 rfl (Nat.le_of_ble_eq_true rfl) ⟨Nat.zero_le _, Nat.zero_le _⟩ dX6_mean_88) (EM.all (w_Mo G A M N) (w_Mo G A M1 N)) hP hD hS (fun H locs hP hD hS => ?_)
        cases hf
        exact hret _ _ _ _ dX6_mean_91 hP hD hS
      · have hf := br_n h1 hf
        refine lv_lload_n (pc := 55) hx hb dX6_mean_55 rfl (lv_at hl 2 rfl) ?_
        refine lv_aload_n (pc := 56) hx hb dX6_mean_56 rfl (lv_at hl 0 rfl) ?_
        refine wget (pc := 57) X (fun _ h9 => List.mem_cons_of_mem _ (List.mem_append_right _ h9)) hP 0 (at_Mo_0 G A M N) rfl 1 (by decide) (List.mem_cons_of_mem _ (List.mem_append_left _ (List.mem_of_getElem? (i := 1) rfl))) rfl (v := .ref (A 2)) rfl dX6_mean_57 ?_
        refine lv_bipush (pc := 60) (v := (40 : Int32)) hx hb dX6_mean_60 (by decide) ?_
        refine lv_iload_n (pc := 62) hx hb dX6_mean_62 rfl (lv_at hl 1 rfl) ?_
        refine lv_imul (pc := 63) hx hb dX6_mean_63 ?_
        refine lv_iload (pc := 64) hx hb dX6_mean_64 (lv_at hl 3 rfl) ?_
        refine lv_iadd (pc := 66) hx hb dX6_mean_66 ?_
        obtain ⟨hi, hf⟩ := ck_some hf
        refine wiald (pc := 67) X hP 2 (at_Mo_2 G A M N) hi rfl dX6_mean_67 ?_
        refine lv_i2l (pc := 68) (v := (((M 1) (((40 : Int32) * x1) + x4).toNatClampNeg)).toInt64) hx hb dX6_mean_68 rfl ?_
        refine lv_ladd (pc := 69) hx hb dX6_mean_69 ?_
        refine lv_lstore_n (pc := 70) (lv' := [(2, .long (x2 + ((((M 1) (((40 : Int32) * x1) + x4).toNatClampNeg)).toInt64))), (0, .ref (A 0)), (1, .int x1), (4, .int x4)]) hx hb dX6_mean_70 rfl hl (by decide) rfl (fun ls hl => ?_)
        refine lv_iinc (pc := 71) (v := (x4 + (1 : Int32))) (lv' := [(4, .int (x4 + (1 : Int32))), (2, .long (x2 + ((((M 1) (((40 : Int32) * x1) + x4).toNatClampNeg)).toInt64))), (0, .ref (A 0)), (1, .int x1)]) hx hb dX6_mean_71 hl (k := 3) rfl rfl (by decide) rfl (fun ls hl => ?_)
        refine lv_goto (pc := 74) (tgt := 44) hx hb dX6_mean_74 (by decide) ?_
        exact ih44 _ _ _ _ H locs ls hf hP hD hS (lv_sub hl [2, 3, 1, 0] rfl)
  unfold f_X6_mean at hf
  refine lv_iload_n (pc := 0) hx hb dX6_mean_0 rfl (lv_at hl 1 rfl) ?_
  obtain ⟨r1, hc1, hf⟩ := ob1_some hf
  refine endi X.2.2.2.2 (runS (pc := 1) (As := [.int x1]) (rest := []) X (c_X6_isRow G l  H.size x1 r1 hc1) gX6_mean_X6_isRow k_X6_isRow ⟨rfl, rfl⟩ ⟨Nat.le_of_ble_eq_true rfl, Nat.le_of_ble_eq_true rfl⟩ (EM.nil (w_Mo G A M N)) hP hD hS rfl hl.1 rfl (Nat.le_of_ble_eq_true rfl) ⟨Nat.zero_le _, Nat.zero_le _⟩ dX6_mean_1) (EM.nil (w_Mo G A M N)) hP hD hS (fun H locs hP hD hS => ?_)
  refine lv_if_ne (pc := 4) (tgt := 9) hx hb dX6_mean_4 (by decide) (fun h4 => ?_) (fun h4 => ?_)
  · have hf := br_n h4 hf
    refine lv_aload_n (pc := 9) hx hb dX6_mean_9 rfl (lv_at hl 0 rfl) ?_
    refine wget (pc := 10) X (fun _ h9 => List.mem_cons_of_mem _ (List.mem_append_right _ h9)) hP 0 (at_Mo_0 G A M N) rfl 0 (by decide) (List.mem_cons_of_mem _ (List.mem_append_left _ (List.mem_of_getElem? (i := 0) rfl))) rfl (v := .ref (A 1)) rfl dX6_mean_10 ?_
    refine lv_iload_n (pc := 13) hx hb dX6_mean_13 rfl (lv_at hl 1 rfl) ?_
    obtain ⟨hi, hf⟩ := ck_some hf
    refine wiald (pc := 14) X hP 1 (at_Mo_1 G A M N) hi rfl dX6_mean_14 ?_
    refine lv_if_ge (pc := 15) (tgt := 24) hx hb dX6_mean_15 (by decide) (fun h3 => ?_) (fun h3 => ?_)
    · have hf := br_y h3 hf
      refine lv_aload_n (pc := 24) hx hb dX6_mean_24 rfl (lv_at hl 0 rfl) ?_
      refine wget (pc := 25) X (fun _ h9 => List.mem_cons_of_mem _ (List.mem_append_right _ h9)) hP 0 (at_Mo_0 G A M N) rfl 0 (by decide) (List.mem_cons_of_mem _ (List.mem_append_left _ (List.mem_of_getElem? (i := 0) rfl))) rfl (v := .ref (A 1)) rfl dX6_mean_25 ?_
      refine lv_iload_n (pc := 28) hx hb dX6_mean_28 rfl (lv_at hl 1 rfl) ?_
      obtain ⟨hi, hf⟩ := ck_some hf
      refine wiald (pc := 29) X hP 1 (at_Mo_1 G A M N) hi rfl dX6_mean_29 ?_
      refine lv_if_ne (pc := 30) (tgt := 39) hx hb dX6_mean_30 (by decide) (fun h2 => ?_) (fun h2 => ?_)
      · have hf := br_n h2 hf
        refine lv_lconst (pc := 39) (v := (0 : Int64)) hx hb dX6_mean_39 (by decide) ?_
        refine lv_lstore_n (pc := 40) (lv' := [(2, .long (0 : Int64)), (0, .ref (A 0)), (1, .int x1)]) hx hb dX6_mean_40 rfl hl (by decide) rfl (fun ls hl => ?_)
        refine lv_iconst (pc := 41) (v := (0 : Int32)) hx hb dX6_mean_41 (by decide) ?_
        refine lv_istore (pc := 42) (lv' := [(4, .int (0 : Int32)), (2, .long (0 : Int64)), (0, .ref (A 0)), (1, .int x1)]) hx hb dX6_mean_42 hl (by decide) rfl (fun ls hl => ?_)
        exact l_44 FU _ _ _ _ H locs ls hf hP hD hS (lv_sub hl [2, 3, 1, 0] rfl)
      · have hf := br_y h2 hf
        refine lv_aload_n (pc := 33) hx hb dX6_mean_33 rfl (lv_at hl 0 rfl) ?_
        refine lv_iconst (pc := 34) (v := (4 : Int32)) hx hb dX6_mean_34 (by decide) ?_
        obtain ⟨r2, M2, hc2, hf⟩ := ob2_some hf
        refine endi X.2.2.2.2 (runV (pc := 35) (As := [.int (4 : Int32)]) (rest := []) X (c_X6_found G l A H.size M N (4 : Int32) r2 M2 hc2) gX6_mean_X6_found k_X6_found ⟨rfl, rfl⟩ ⟨Nat.le_of_ble_eq_true rfl, Nat.le_of_ble_eq_true rfl⟩ (EM.all (w_Mo G A M N) (w_Mo G A M2 N)) hP hD hS (ci := 6) rfl rfl (at_Mo_0 G A M N) rfl hl.1 rfl (Nat.le_of_ble_eq_true rfl) ⟨Nat.zero_le _, Nat.zero_le _⟩ dX6_mean_35) (EM.all (w_Mo G A M N) (w_Mo G A M2 N)) hP hD hS (fun H locs hP hD hS => ?_)
        cases hf
        exact hret _ _ _ _ dX6_mean_38 hP hD hS
    · have hf := br_n h3 hf
      refine lv_aload_n (pc := 18) hx hb dX6_mean_18 rfl (lv_at hl 0 rfl) ?_
      refine lv_iconst (pc := 19) (v := (1 : Int32)) hx hb dX6_mean_19 (by decide) ?_
      obtain ⟨r3, M3, hc3, hf⟩ := ob2_some hf
      refine endi X.2.2.2.2 (runV (pc := 20) (As := [.int (1 : Int32)]) (rest := []) X (c_X6_found G l A H.size M N (1 : Int32) r3 M3 hc3) gX6_mean_X6_found k_X6_found ⟨rfl, rfl⟩ ⟨Nat.le_of_ble_eq_true rfl, Nat.le_of_ble_eq_true rfl⟩ (EM.all (w_Mo G A M N) (w_Mo G A M3 N)) hP hD hS (ci := 6) rfl rfl (at_Mo_0 G A M N) rfl hl.1 rfl (Nat.le_of_ble_eq_true rfl) ⟨Nat.zero_le _, Nat.zero_le _⟩ dX6_mean_20) (EM.all (w_Mo G A M N) (w_Mo G A M3 N)) hP hD hS (fun H locs hP hD hS => ?_)
      cases hf
      exact hret _ _ _ _ dX6_mean_23 hP hD hS
  · have hf := br_y h4 hf
    refine lv_iconst (pc := 7) (v := (-1 : Int32)) hx hb dX6_mean_7 (by decide) ?_
    cases hf
    exact hret _ _ _ _ dX6_mean_8 hP hD hS
