def r_X5_lower : Room := { frames := 0, cells := 0, slots := 0, locals := 0 }
set_option maxHeartbeats 4000000 in
set_option maxRecDepth 100000 in
theorem c_X5_lower (G : GT) (l : Launch) (A : Nat → Nat) (sz : Nat) (I : Nat → CS) (J : Nat → JS) (r : Int64) (hf : f_X5_lower I J = some r) : MTl l yX5_lower wsX5_lower r_X5_lower [.ref (A 0)] G (w_Tw G A I J) (w_Tw G A I J) sz r := by
  refine MTl.of (cc := cX5_lower) (maxL := 1) (by decide +kernel) rfl (Nat.le_of_ble_eq_true rfl) (fun p e s m av below meth cd Q B H locs ls X hret hl hP hD hS => ?_)
  have hx := X.1.1
  have hb := X.1.2.1
  have hl : lv_has ls 1 [(0, .ref (A 0))] := hl
  unfold f_X5_lower at hf
  refine lv_aload_n (pc := 0) hx hb dX5_lower_0 rfl (lv_at hl 0 rfl) ?_
  refine wget (pc := 1) X (fun _ h9 => List.mem_cons_of_mem _ (List.mem_append_left _ (List.mem_append_right _ h9))) hP 0 (at_Tw_0 G A I J) rfl 2 (by decide) (List.mem_cons_of_mem _ (List.mem_append_left _ (List.mem_append_left _ (List.mem_of_getElem? (i := 0) rfl)))) rfl (v := .ref (A 17)) rfl dX5_lower_1 ?_
  refine wgetN (pc := 4) X (fun _ h9 => List.mem_cons_of_mem _ (List.mem_append_right _ h9)) hP 17 (at_Tw_17 G A I J) rfl 2 (by decide) (List.mem_of_getElem? (i := 2) rfl) rfl (v := .long ((J 0) 1)) rfl dX5_lower_4 ?_
  cases hf
  exact hret _ _ _ _ dX5_lower_7 hP hD hS
def r_X5_mark : Room := { frames := 5, cells := 0, slots := 0, locals := 122 }
set_option maxHeartbeats 4000000 in
set_option maxRecDepth 100000 in
theorem c_X5_mark (G : GT) (l : Launch) (A : Nat → Nat) (sz : Nat) (I : Nat → CS) (J : Nat → JS) (x1 : Int32) (x2 : Int32) (r : Int32) (I' : Nat → CS) (hf : f_X5_mark I J x1 x2 = some (r, I')) : MTi l yX5_mark wsX5_mark r_X5_mark [.ref (A 0), .int x1, .int x2] G (w_Tw G A I J) (w_Tw G A I' J) sz r := by
  refine MTi.of (cc := cX5_mark) (maxL := 3) (by decide +kernel) rfl (Nat.le_of_ble_eq_true rfl) (fun p e s m av below meth cd Q B H locs ls X hret hl hP hD hS => ?_)
  have hx := X.1.1
  have hb := X.1.2.1
  have hl : lv_has ls 3 [(0, .ref (A 0)), (1, .int x1), (2, .int x2)] := hl
  have b_22 : ∀ (I : Nat → CS) (H : Heap) (locs : List Loc) (ls : Array Slot), f_X5_mark_22 I J = some (r, I') → va_P G.1 vwCl (w_Tw G A I J) H → va_D B (w_Tw G A I J) → va_S B s.heap H locs → lv_has ls 3 [] → W p l e r_X5_mark s m av below meth cd H locs 0 0 Q (F0 m 22 ls []) := by
    intro I H locs ls hf hP hD hS hl
    unfold f_X5_mark_22 at hf
    refine lv_iconst (pc := 22) (v := (-1 : Int32)) hx hb dX5_mark_22 (by decide) ?_
    cases hf
    exact hret _ _ _ _ dX5_mark_23 hP hD hS
  unfold f_X5_mark at hf
  refine lv_aload_n (pc := 0) hx hb dX5_mark_0 rfl (lv_at hl 0 rfl) ?_
  refine wget (pc := 1) X (fun _ h9 => List.mem_cons_of_mem _ (List.mem_append_left _ (List.mem_append_left _ (List.mem_append_right _ h9)))) hP 0 (at_Tw_0 G A I J) rfl 5 (by decide) (List.mem_cons_of_mem _ (List.mem_append_left _ (List.mem_append_left _ (List.mem_append_left _ (List.mem_append_left _ (List.mem_of_getElem? (i := 0) rfl)))))) rfl (v := .ref (A 31)) rfl dX5_mark_1 ?_
  refine lv_iload_n (pc := 4) hx hb dX5_mark_4 rfl (lv_at hl 1 rfl) ?_
  obtain ⟨r1, hc1, hf⟩ := ob1_some hf
  refine endi X.2.2.2.2 (runV (pc := 5) (As := [.int x1]) (rest := []) X (c_X0_isPerson G l (fun k => A (31 + k)) H.size (I 0) x1 r1 hc1) gX5_mark_X0_isPerson k_X0_isPerson ⟨rfl, rfl⟩ ⟨Nat.le_of_ble_eq_true rfl, Nat.le_of_ble_eq_true rfl⟩ (em_Tw_Ch_31 G A I J ) hP hD hS (ci := 0) rfl rfl (at_Ch_0 G (fun k => A (31 + k)) (I 0)) rfl hl.1 rfl (Nat.le_of_ble_eq_true rfl) ⟨Nat.zero_le _, Nat.zero_le _⟩ dX5_mark_5) (em_Tw_Ch_31 G A I J ) hP hD hS (fun H locs hP hD hS => ?_)
  refine lv_if_eq (pc := 8) (tgt := 22) hx hb dX5_mark_8 (by decide) (fun h8 => ?_) (fun h8 => ?_)
  · have hf := br_y h8 hf
    exact b_22 _ H locs ls hf hP hD hS (lv_sub hl [] rfl)
  · have hf := br_n h8 hf
    refine lv_iload_n (pc := 11) hx hb dX5_mark_11 rfl (lv_at hl 2 rfl) ?_
    refine lv_iconst (pc := 12) (v := (1 : Int32)) hx hb dX5_mark_12 (by decide) ?_
    refine lv_icmp_lt (pc := 13) (tgt := 22) hx hb dX5_mark_13 (by decide) (fun h7 => ?_) (fun h7 => ?_)
    · have hf := br_y h7 hf
      exact b_22 _ H locs ls hf hP hD hS (lv_sub hl [] rfl)
    · have hf := br_n h7 hf
      refine lv_iload_n (pc := 16) hx hb dX5_mark_16 rfl (lv_at hl 2 rfl) ?_
      refine lv_bipush (pc := 17) (v := (6 : Int32)) hx hb dX5_mark_17 (by decide) ?_
      refine lv_icmp_lt (pc := 19) (tgt := 24) hx hb dX5_mark_19 (by decide) (fun h6 => ?_) (fun h6 => ?_)
      · have hf := br_y h6 hf
        refine lv_aload_n (pc := 24) hx hb dX5_mark_24 rfl (lv_at hl 0 rfl) ?_
        refine wget (pc := 25) X (fun _ h9 => List.mem_cons_of_mem _ (List.mem_append_left _ (List.mem_append_left _ (List.mem_append_right _ h9)))) hP 0 (at_Tw_0 G A I J) rfl 5 (by decide) (List.mem_cons_of_mem _ (List.mem_append_left _ (List.mem_append_left _ (List.mem_append_left _ (List.mem_append_left _ (List.mem_of_getElem? (i := 0) rfl)))))) rfl (v := .ref (A 31)) rfl dX5_mark_25 ?_
        refine lv_iload_n (pc := 28) hx hb dX5_mark_28 rfl (lv_at hl 1 rfl) ?_
        refine lv_iload_n (pc := 29) hx hb dX5_mark_29 rfl (lv_at hl 2 rfl) ?_
        obtain ⟨r2, hc2, hf⟩ := ob1_some hf
        refine endi X.2.2.2.2 (runV (pc := 30) (As := [.int x1, .int x2]) (rest := []) X (c_X0_isOfKind G l (fun k => A (31 + k)) H.size (I 0) x1 x2 r2 hc2) gX5_mark_X0_isOfKind k_X0_isOfKind ⟨rfl, rfl⟩ ⟨Nat.le_of_ble_eq_true rfl, Nat.le_of_ble_eq_true rfl⟩ (em_Tw_Ch_31 G A I J ) hP hD hS (ci := 0) rfl rfl (at_Ch_0 G (fun k => A (31 + k)) (I 0)) rfl hl.1 rfl (Nat.le_of_ble_eq_true rfl) ⟨Nat.zero_le _, Nat.zero_le _⟩ dX5_mark_30) (em_Tw_Ch_31 G A I J ) hP hD hS (fun H locs hP hD hS => ?_)
        refine lv_if_ne (pc := 33) (tgt := 45) hx hb dX5_mark_33 (by decide) (fun h5 => ?_) (fun h5 => ?_)
        · have hf := br_n h5 hf
          refine lv_iload_n (pc := 45) hx hb dX5_mark_45 rfl (lv_at hl 2 rfl) ?_
          by_cases h1 : x2 = (1 : Int32)
          · have hf := br_y h1 hf
            refine lv_tableIn (pc := 46) (off := 30) (tgt := 76) hx hb dX5_mark_46 (by rw [h1]; decide) (by rw [h1]; decide) (by rw [h1]; rfl) (by decide) ?_
            refine lv_aload_n (pc := 76) hx hb dX5_mark_76 rfl (lv_at hl 0 rfl) ?_
            refine wget (pc := 77) X (fun _ h9 => List.mem_cons_of_mem _ (List.mem_append_left _ (List.mem_append_left _ (List.mem_append_right _ h9)))) hP 0 (at_Tw_0 G A I J) rfl 5 (by decide) (List.mem_cons_of_mem _ (List.mem_append_left _ (List.mem_append_left _ (List.mem_append_left _ (List.mem_append_left _ (List.mem_of_getElem? (i := 0) rfl)))))) rfl (v := .ref (A 31)) rfl dX5_mark_77 ?_
            refine lv_iload_n (pc := 80) hx hb dX5_mark_80 rfl (lv_at hl 1 rfl) ?_
            obtain ⟨r3, c3, hc3, hf⟩ := ob2_some hf
            refine endi X.2.2.2.2 (runV (pc := 81) (As := [.int x1]) (rest := []) X (c_X0_drifted G l (fun k => A (31 + k)) H.size (I 0) x1 r3 c3 hc3) gX5_mark_X0_drifted k_X0_drifted ⟨rfl, rfl⟩ ⟨Nat.le_of_ble_eq_true rfl, Nat.le_of_ble_eq_true rfl⟩ (em_Tw_Ch_31_c G A I J c3) hP hD hS (ci := 0) rfl rfl (at_Ch_0 G (fun k => A (31 + k)) (I 0)) rfl hl.1 rfl (Nat.le_of_ble_eq_true rfl) ⟨Nat.zero_le _, Nat.zero_le _⟩ dX5_mark_81) (em_Tw_Ch_31_c G A I J c3) hP hD hS (fun H locs hP hD hS => ?_)
            cases hf
            exact hret _ _ _ _ dX5_mark_84 hP hD hS
          · have hf := br_n h1 hf
            by_cases h2 : x2 = (2 : Int32)
            · have hf := br_y h2 hf
              refine lv_tableIn (pc := 46) (off := 39) (tgt := 85) hx hb dX5_mark_46 (by rw [h2]; decide) (by rw [h2]; decide) (by rw [h2]; rfl) (by decide) ?_
              refine lv_aload_n (pc := 85) hx hb dX5_mark_85 rfl (lv_at hl 0 rfl) ?_
              refine wget (pc := 86) X (fun _ h9 => List.mem_cons_of_mem _ (List.mem_append_left _ (List.mem_append_left _ (List.mem_append_right _ h9)))) hP 0 (at_Tw_0 G A I J) rfl 5 (by decide) (List.mem_cons_of_mem _ (List.mem_append_left _ (List.mem_append_left _ (List.mem_append_left _ (List.mem_append_left _ (List.mem_of_getElem? (i := 0) rfl)))))) rfl (v := .ref (A 31)) rfl dX5_mark_86 ?_
              refine lv_iload_n (pc := 89) hx hb dX5_mark_89 rfl (lv_at hl 1 rfl) ?_
              obtain ⟨r4, c4, hc4, hf⟩ := ob2_some hf
              refine endi X.2.2.2.2 (runV (pc := 90) (As := [.int x1]) (rest := []) X (c_X0_idleDays G l (fun k => A (31 + k)) H.size (I 0) x1 r4 c4 hc4) gX5_mark_X0_idleDays k_X0_idleDays ⟨rfl, rfl⟩ ⟨Nat.le_of_ble_eq_true rfl, Nat.le_of_ble_eq_true rfl⟩ (em_Tw_Ch_31_c G A I J c4) hP hD hS (ci := 0) rfl rfl (at_Ch_0 G (fun k => A (31 + k)) (I 0)) rfl hl.1 rfl (Nat.le_of_ble_eq_true rfl) ⟨Nat.zero_le _, Nat.zero_le _⟩ dX5_mark_90) (em_Tw_Ch_31_c G A I J c4) hP hD hS (fun H locs hP hD hS => ?_)
              cases hf
              exact hret _ _ _ _ dX5_mark_93 hP hD hS
            · have hf := br_n h2 hf
              by_cases h3 : x2 = (3 : Int32)
              · have hf := br_y h3 hf
                refine lv_tableIn (pc := 46) (off := 48) (tgt := 94) hx hb dX5_mark_46 (by rw [h3]; decide) (by rw [h3]; decide) (by rw [h3]; rfl) (by decide) ?_
                refine lv_aload_n (pc := 94) hx hb dX5_mark_94 rfl (lv_at hl 0 rfl) ?_
                refine wget (pc := 95) X (fun _ h9 => List.mem_cons_of_mem _ (List.mem_append_left _ (List.mem_append_left _ (List.mem_append_right _ h9)))) hP 0 (at_Tw_0 G A I J) rfl 5 (by decide) (List.mem_cons_of_mem _ (List.mem_append_left _ (List.mem_append_left _ (List.mem_append_left _ (List.mem_append_left _ (List.mem_of_getElem? (i := 0) rfl)))))) rfl (v := .ref (A 31)) rfl dX5_mark_95 ?_
                refine lv_iload_n (pc := 98) hx hb dX5_mark_98 rfl (lv_at hl 1 rfl) ?_
                obtain ⟨r5, c5, hc5, hf⟩ := ob2_some hf
                refine endi X.2.2.2.2 (runV (pc := 99) (As := [.int x1]) (rest := []) X (c_X0_likeTowns G l (fun k => A (31 + k)) H.size (I 0) x1 r5 c5 hc5) gX5_mark_X0_likeTowns k_X0_likeTowns ⟨rfl, rfl⟩ ⟨Nat.le_of_ble_eq_true rfl, Nat.le_of_ble_eq_true rfl⟩ (em_Tw_Ch_31_c G A I J c5) hP hD hS (ci := 0) rfl rfl (at_Ch_0 G (fun k => A (31 + k)) (I 0)) rfl hl.1 rfl (Nat.le_of_ble_eq_true rfl) ⟨Nat.zero_le _, Nat.zero_le _⟩ dX5_mark_99) (em_Tw_Ch_31_c G A I J c5) hP hD hS (fun H locs hP hD hS => ?_)
                cases hf
                exact hret _ _ _ _ dX5_mark_102 hP hD hS
              · have hf := br_n h3 hf
                by_cases h4 : x2 = (4 : Int32)
                · have hf := br_y h4 hf
                  refine lv_tableIn (pc := 46) (off := 57) (tgt := 103) hx hb dX5_mark_46 (by rw [h4]; decide) (by rw [h4]; decide) (by rw [h4]; rfl) (by decide) ?_
                  refine lv_aload_n (pc := 103) hx hb dX5_mark_103 rfl (lv_at hl 0 rfl) ?_
                  refine wget (pc := 104) X (fun _ h9 => List.mem_cons_of_mem _ (List.mem_append_left _ (List.mem_append_left _ (List.mem_append_right _ h9)))) hP 0 (at_Tw_0 G A I J) rfl 5 (by decide) (List.mem_cons_of_mem _ (List.mem_append_left _ (List.mem_append_left _ (List.mem_append_left _ (List.mem_append_left _ (List.mem_of_getElem? (i := 0) rfl)))))) rfl (v := .ref (A 31)) rfl dX5_mark_104 ?_
                  refine lv_iload_n (pc := 107) hx hb dX5_mark_107 rfl (lv_at hl 1 rfl) ?_
                  obtain ⟨r6, c6, hc6, hf⟩ := ob2_some hf
                  refine endi X.2.2.2.2 (runV (pc := 108) (As := [.int x1]) (rest := []) X (c_X0_othersAlike G l (fun k => A (31 + k)) H.size (I 0) x1 r6 c6 hc6) gX5_mark_X0_othersAlike k_X0_othersAlike ⟨rfl, rfl⟩ ⟨Nat.le_of_ble_eq_true rfl, Nat.le_of_ble_eq_true rfl⟩ (em_Tw_Ch_31_c G A I J c6) hP hD hS (ci := 0) rfl rfl (at_Ch_0 G (fun k => A (31 + k)) (I 0)) rfl hl.1 rfl (Nat.le_of_ble_eq_true rfl) ⟨Nat.zero_le _, Nat.zero_le _⟩ dX5_mark_108) (em_Tw_Ch_31_c G A I J c6) hP hD hS (fun H locs hP hD hS => ?_)
                  cases hf
                  exact hret _ _ _ _ dX5_mark_111 hP hD hS
                · have hf := br_n h4 hf
                  refine lv_tableOut (pc := 46) (tgt := 112) hx hb dX5_mark_46 (by have := sw_ne (k := 1) (by decide) h1; have := sw_ne (k := 2) (by decide) h2; have := sw_ne (k := 3) (by decide) h3; have := sw_ne (k := 4) (by decide) h4; omega) (by decide) ?_
                  refine lv_aload_n (pc := 112) hx hb dX5_mark_112 rfl (lv_at hl 0 rfl) ?_
                  refine wget (pc := 113) X (fun _ h9 => List.mem_cons_of_mem _ (List.mem_append_left _ (List.mem_append_left _ (List.mem_append_right _ h9)))) hP 0 (at_Tw_0 G A I J) rfl 5 (by decide) (List.mem_cons_of_mem _ (List.mem_append_left _ (List.mem_append_left _ (List.mem_append_left _ (List.mem_append_left _ (List.mem_of_getElem? (i := 0) rfl)))))) rfl (v := .ref (A 31)) rfl dX5_mark_113 ?_
                  refine lv_iload_n (pc := 116) hx hb dX5_mark_116 rfl (lv_at hl 1 rfl) ?_
                  obtain ⟨r7, c7, hc7, hf⟩ := ob2_some hf
                  refine endi X.2.2.2.2 (runV (pc := 117) (As := [.int x1]) (rest := []) X (c_X0_noughtDays G l (fun k => A (31 + k)) H.size (I 0) x1 r7 c7 hc7) gX5_mark_X0_noughtDays k_X0_noughtDays ⟨rfl, rfl⟩ ⟨Nat.le_of_ble_eq_true rfl, Nat.le_of_ble_eq_true rfl⟩ (em_Tw_Ch_31_c G A I J c7) hP hD hS (ci := 0) rfl rfl (at_Ch_0 G (fun k => A (31 + k)) (I 0)) rfl hl.1 rfl (Nat.le_of_ble_eq_true rfl) ⟨Nat.zero_le _, Nat.zero_le _⟩ dX5_mark_117) (em_Tw_Ch_31_c G A I J c7) hP hD hS (fun H locs hP hD hS => ?_)
                  cases hf
                  exact hret _ _ _ _ dX5_mark_120 hP hD hS
        · have hf := br_y h5 hf
          refine lv_aload_n (pc := 36) hx hb dX5_mark_36 rfl (lv_at hl 0 rfl) ?_
          refine wget (pc := 37) X (fun _ h9 => List.mem_cons_of_mem _ (List.mem_append_left _ (List.mem_append_left _ (List.mem_append_right _ h9)))) hP 0 (at_Tw_0 G A I J) rfl 2 (by decide) (List.mem_cons_of_mem _ (List.mem_append_left _ (List.mem_append_left _ (List.mem_append_left _ (List.mem_append_left _ (List.mem_of_getElem? (i := 1) rfl)))))) rfl (v := .ref (A 17)) rfl dX5_mark_37 ?_
          refine lv_iconst (pc := 40) (v := (3 : Int32)) hx hb dX5_mark_40 (by decide) ?_
          obtain ⟨r8, o8, hc8, hf⟩ := ob2_some hf
          refine endi X.2.2.2.2 (runV (pc := 41) (As := [.int (3 : Int32)]) (rest := []) X (c_X4_found G l (fun k => A (17 + k)) H.size (I 7) (J 0) (3 : Int32) r8 o8 hc8) gX5_mark_X4_found k_X4_found ⟨rfl, rfl⟩ ⟨Nat.le_of_ble_eq_true rfl, Nat.le_of_ble_eq_true rfl⟩ (em_Tw_To_17_o G A I J o8) hP hD hS (ci := 4) rfl rfl (at_To_0 G (fun k => A (17 + k)) (I 7) (J 0)) rfl hl.1 rfl (Nat.le_of_ble_eq_true rfl) ⟨Nat.zero_le _, Nat.zero_le _⟩ dX5_mark_41) (em_Tw_To_17_o G A I J o8) hP hD hS (fun H locs hP hD hS => ?_)
          cases hf
          exact hret _ _ _ _ dX5_mark_44 hP hD hS
      · have hf := br_n h6 hf
        exact b_22 _ H locs ls hf hP hD hS (lv_sub hl [] rfl)
def r_X5_mean : Room := { frames := 3, cells := 0, slots := 0, locals := 65 }
set_option maxHeartbeats 4000000 in
set_option maxRecDepth 100000 in
theorem c_X5_mean (G : GT) (l : Launch) (A : Nat → Nat) (sz : Nat) (I : Nat → CS) (J : Nat → JS) (x1 : Int32) (r : Int32) (I' : Nat → CS) (hf : f_X5_mean I J x1 = some (r, I')) : MTi l yX5_mean wsX5_mean r_X5_mean [.ref (A 0), .int x1] G (w_Tw G A I J) (w_Tw G A I' J) sz r := by
  refine MTi.of (cc := cX5_mean) (maxL := 7) (by decide +kernel) rfl (Nat.le_of_ble_eq_true rfl) (fun p e s m av below meth cd Q B H locs ls X hret hl hP hD hS => ?_)
  have hx := X.1.1
  have hb := X.1.2.1
  have hl : lv_has ls 7 [(0, .ref (A 0)), (1, .int x1)] := hl
  have l_45 : ∀ (n45 : Nat), ∀ (x1 : Int32) (x3 : Int32) (x4 : Int64) (x6 : Int32) (I : Nat → CS) (H : Heap) (locs : List Loc) (ls : Array Slot), f_X5_mean_45 n45 x1 x3 x4 x6 I J = some (r, I') → va_P G.1 vwCl (w_Tw G A I J) H → va_D B (w_Tw G A I J) → va_S B s.heap H locs → lv_has ls 7 [(0, .ref (A 0)), (1, .int x1), (3, .int x3), (4, .long x4), (6, .int x6)] → W p l e r_X5_mean s m av below meth cd H locs 0 0 Q (F0 m 45 ls []) := by
    intro n45
    induction n45 with
    | zero =>
      intro x1 x3 x4 x6 I H locs ls hf hP hD hS hl
      rw [f_X5_mean_45] at hf
      cases hf
    | succ n45 ih45 =>
      intro x1 x3 x4 x6 I H locs ls hf hP hD hS hl
      rw [f_X5_mean_45] at hf
      refine lv_iload (pc := 45) hx hb dX5_mean_45 (lv_at hl 4 rfl) ?_
      refine lv_iload_n (pc := 47) hx hb dX5_mean_47 rfl (lv_at hl 2 rfl) ?_
      refine lv_icmp_ge (pc := 48) (tgt := 73) hx hb dX5_mean_48 (by decide) (fun h1 => ?_) (fun h1 => ?_)
      · have hf := br_y h1 hf
        refine lv_aload_n (pc := 73) hx hb dX5_mean_73 rfl (lv_at hl 0 rfl) ?_
        refine wget (pc := 74) X (fun _ h9 => List.mem_cons_of_mem _ (List.mem_append_left _ (List.mem_append_left _ (List.mem_append_right _ h9)))) hP 0 (at_Tw_0 G A I J) rfl 2 (by decide) (List.mem_cons_of_mem _ (List.mem_append_left _ (List.mem_append_left _ (List.mem_append_left _ (List.mem_append_left _ (List.mem_of_getElem? (i := 1) rfl)))))) rfl (v := .ref (A 17)) rfl dX5_mean_74 ?_
        refine lv_lload (pc := 77) hx hb dX5_mean_77 (lv_at hl 3 rfl) ?_
        refine lv_iload_n (pc := 79) hx hb dX5_mean_79 rfl (lv_at hl 2 rfl) ?_
        refine lv_i2l (pc := 80) (v := (x3).toInt64) hx hb dX5_mean_80 rfl ?_
        obtain ⟨hz, hf⟩ := ck_some hf
        refine lv_ldiv (pc := 81) hx hb dX5_mean_81 (nzL_ne hz) ?_
        refine lv_l2i (pc := 82) (v := ((x4 / ((x3).toInt64))).toInt32) hx hb dX5_mean_82 rfl ?_
        refine wputN (pc := 83) X (fun _ h9 => List.mem_cons_of_mem _ (List.mem_append_left _ (List.mem_append_right _ h9))) tyX4 tyX4_ok nmX4 hP hD hS 17 (at_Tw_17 G A I J) rfl 0 (by decide) (List.mem_of_getElem? (i := 0) rfl) rfl rfl (ty := .int) (v := .int (((x4 / ((x3).toInt64))).toInt32)) rfl rfl rfl (Nat.le_of_ble_eq_true rfl) (st_Tw_17_0 G A I J (((x4 / ((x3).toInt64))).toInt32)) dX5_mean_83 (fun H locs hP hD hS => ?_)
        refine lv_iconst (pc := 86) (v := (1 : Int32)) hx hb dX5_mean_86 (by decide) ?_
        cases hf
        exact hret _ _ _ _ dX5_mean_87 hP hD hS
      · have hf := br_n h1 hf
        refine lv_lload (pc := 51) hx hb dX5_mean_51 (lv_at hl 3 rfl) ?_
        refine lv_aload_n (pc := 53) hx hb dX5_mean_53 rfl (lv_at hl 0 rfl) ?_
        refine wget (pc := 54) X (fun _ h9 => List.mem_cons_of_mem _ (List.mem_append_left _ (List.mem_append_left _ (List.mem_append_right _ h9)))) hP 0 (at_Tw_0 G A I J) rfl 0 (by decide) (List.mem_cons_of_mem _ (List.mem_append_left _ (List.mem_append_left _ (List.mem_append_left _ (List.mem_append_left _ (List.mem_of_getElem? (i := 0) rfl)))))) rfl (v := .ref (A 1)) rfl dX5_mean_54 ?_
        refine lv_iload_n (pc := 57) hx hb dX5_mean_57 rfl (lv_at hl 1 rfl) ?_
        refine lv_iload (pc := 58) hx hb dX5_mean_58 (lv_at hl 4 rfl) ?_
        obtain ⟨r1, hc1, hf⟩ := ob1_some hf
        refine endi X.2.2.2.2 (runV (pc := 60) (As := [.int x1, .int x6]) (rest := [.long x4]) X (c_X3_get_r G l (fun k => A (1 + k)) H.size (I 5) x1 x6 r1 hc1) gX5_mean_X3_get k_X3_get ⟨rfl, rfl⟩ ⟨Nat.le_of_ble_eq_true rfl, Nat.le_of_ble_eq_true rfl⟩ (em_Tw_S6_1 G A I J ) hP hD hS (ci := 3) rfl rfl (at_S6_0 G (fun k => A (1 + k)) (I 5)) rfl hl.1 rfl (Nat.le_of_ble_eq_true rfl) ⟨Nat.zero_le _, Nat.zero_le _⟩ dX5_mean_60) (em_Tw_S6_1 G A I J ) hP hD hS (fun H locs hP hD hS => ?_)
        refine lv_i2l (pc := 63) (v := (r1).toInt64) hx hb dX5_mean_63 rfl ?_
        refine lv_ladd (pc := 64) hx hb dX5_mean_64 ?_
        refine lv_lstore (pc := 65) (lv' := [(4, .long (x4 + ((r1).toInt64))), (0, .ref (A 0)), (1, .int x1), (3, .int x3), (6, .int x6)]) hx hb dX5_mean_65 hl (by decide) rfl (fun ls hl => ?_)
        refine lv_iinc (pc := 67) (v := (x6 + (1 : Int32))) (lv' := [(6, .int (x6 + (1 : Int32))), (4, .long (x4 + ((r1).toInt64))), (0, .ref (A 0)), (1, .int x1), (3, .int x3)]) hx hb dX5_mean_67 hl (k := 4) rfl rfl (by decide) rfl (fun ls hl => ?_)
        refine lv_goto (pc := 70) (tgt := 45) hx hb dX5_mean_70 (by decide) ?_
        exact ih45 _ _ _ _ _ H locs ls hf hP hD hS (lv_sub hl [2, 3, 4, 1, 0] rfl)
  unfold f_X5_mean at hf
  refine lv_aload_n (pc := 0) hx hb dX5_mean_0 rfl (lv_at hl 0 rfl) ?_
  refine lv_aload_n (pc := 1) hx hb dX5_mean_1 rfl (lv_at hl 0 rfl) ?_
  refine wget (pc := 2) X (fun _ h9 => List.mem_cons_of_mem _ (List.mem_append_left _ (List.mem_append_left _ (List.mem_append_right _ h9)))) hP 0 (at_Tw_0 G A I J) rfl 0 (by decide) (List.mem_cons_of_mem _ (List.mem_append_left _ (List.mem_append_left _ (List.mem_append_left _ (List.mem_append_left _ (List.mem_of_getElem? (i := 0) rfl)))))) rfl (v := .ref (A 1)) rfl dX5_mean_2 ?_
  refine lv_iload_n (pc := 5) hx hb dX5_mean_5 rfl (lv_at hl 1 rfl) ?_
  obtain ⟨r1, I1, hc1, hf⟩ := ob2_some hf
  refine endi X.2.2.2.2 (runV (pc := 6) (As := [.ref (A 1), .int x1]) (rest := []) X (c_X5_missingRefused_r G l A H.size I J x1 r1 I1 hc1) gX5_mean_X5_missingRefused k_X5_missingRefused ⟨rfl, rfl⟩ ⟨Nat.le_of_ble_eq_true rfl, Nat.le_of_ble_eq_true rfl⟩ (EM.all (w_Tw G A I J) (w_Tw G A I1 J)) hP hD hS (ci := 5) rfl rfl (at_Tw_0 G A I J) rfl hl.1 rfl (Nat.le_of_ble_eq_true rfl) ⟨Nat.zero_le _, Nat.zero_le _⟩ dX5_mean_6) (EM.all (w_Tw G A I J) (w_Tw G A I1 J)) hP hD hS (fun H locs hP hD hS => ?_)
  refine lv_istore_n (pc := 9) (lv' := [(2, .int r1), (0, .ref (A 0)), (1, .int x1)]) hx hb dX5_mean_9 rfl hl (by decide) rfl (fun ls hl => ?_)
  refine lv_iload_n (pc := 10) hx hb dX5_mean_10 rfl (lv_at hl 0 rfl) ?_
  refine lv_if_eq (pc := 11) (tgt := 16) hx hb dX5_mean_11 (by decide) (fun h3 => ?_) (fun h3 => ?_)
  · have hf := br_y h3 hf
    refine lv_aload_n (pc := 16) hx hb dX5_mean_16 rfl (lv_at hl 1 rfl) ?_
    refine wget (pc := 17) X (fun _ h9 => List.mem_cons_of_mem _ (List.mem_append_left _ (List.mem_append_left _ (List.mem_append_right _ h9)))) hP 0 (at_Tw_0 G A I1 J) rfl 0 (by decide) (List.mem_cons_of_mem _ (List.mem_append_left _ (List.mem_append_left _ (List.mem_append_left _ (List.mem_append_left _ (List.mem_of_getElem? (i := 0) rfl)))))) rfl (v := .ref (A 1)) rfl dX5_mean_17 ?_
    refine lv_iload_n (pc := 20) hx hb dX5_mean_20 rfl (lv_at hl 2 rfl) ?_
    obtain ⟨r2, hc2, hf⟩ := ob1_some hf
    refine endi X.2.2.2.2 (runV (pc := 21) (As := [.int x1]) (rest := []) X (c_X3_sizeOf_r G l (fun k => A (1 + k)) H.size (I1 5) x1 r2 hc2) gX5_mean_X3_sizeOf k_X3_sizeOf ⟨rfl, rfl⟩ ⟨Nat.le_of_ble_eq_true rfl, Nat.le_of_ble_eq_true rfl⟩ (em_Tw_S6_1 G A I1 J ) hP hD hS (ci := 3) rfl rfl (at_S6_0 G (fun k => A (1 + k)) (I1 5)) rfl hl.1 rfl (Nat.le_of_ble_eq_true rfl) ⟨Nat.zero_le _, Nat.zero_le _⟩ dX5_mean_21) (em_Tw_S6_1 G A I1 J ) hP hD hS (fun H locs hP hD hS => ?_)
    refine lv_istore_n (pc := 24) (lv' := [(3, .int r2), (2, .int r1), (0, .ref (A 0)), (1, .int x1)]) hx hb dX5_mean_24 rfl hl (by decide) rfl (fun ls hl => ?_)
    refine lv_iload_n (pc := 25) hx hb dX5_mean_25 rfl (lv_at hl 0 rfl) ?_
    refine lv_iconst (pc := 26) (v := (1 : Int32)) hx hb dX5_mean_26 (by decide) ?_
    refine lv_icmp_ge (pc := 27) (tgt := 39) hx hb dX5_mean_27 (by decide) (fun h2 => ?_) (fun h2 => ?_)
    · have hf := br_y h2 hf
      refine lv_lconst (pc := 39) (v := (0 : Int64)) hx hb dX5_mean_39 (by decide) ?_
      refine lv_lstore (pc := 40) (lv' := [(4, .long (0 : Int64)), (3, .int r2), (2, .int r1), (0, .ref (A 0)), (1, .int x1)]) hx hb dX5_mean_40 hl (by decide) rfl (fun ls hl => ?_)
      refine lv_iconst (pc := 42) (v := (0 : Int32)) hx hb dX5_mean_42 (by decide) ?_
      refine lv_istore (pc := 43) (lv' := [(6, .int (0 : Int32)), (4, .long (0 : Int64)), (3, .int r2), (2, .int r1), (0, .ref (A 0)), (1, .int x1)]) hx hb dX5_mean_43 hl (by decide) rfl (fun ls hl => ?_)
      exact l_45 FU _ _ _ _ _ H locs ls hf hP hD hS (lv_sub hl [4, 5, 2, 1, 0] rfl)
    · have hf := br_n h2 hf
      refine lv_aload_n (pc := 30) hx hb dX5_mean_30 rfl (lv_at hl 2 rfl) ?_
      refine wget (pc := 31) X (fun _ h9 => List.mem_cons_of_mem _ (List.mem_append_left _ (List.mem_append_left _ (List.mem_append_right _ h9)))) hP 0 (at_Tw_0 G A I1 J) rfl 2 (by decide) (List.mem_cons_of_mem _ (List.mem_append_left _ (List.mem_append_left _ (List.mem_append_left _ (List.mem_append_left _ (List.mem_of_getElem? (i := 1) rfl)))))) rfl (v := .ref (A 17)) rfl dX5_mean_31 ?_
      refine lv_iconst (pc := 34) (v := (4 : Int32)) hx hb dX5_mean_34 (by decide) ?_
      obtain ⟨r3, o3, hc3, hf⟩ := ob2_some hf
      refine endi X.2.2.2.2 (runV (pc := 35) (As := [.int (4 : Int32)]) (rest := []) X (c_X4_found G l (fun k => A (17 + k)) H.size (I1 7) (J 0) (4 : Int32) r3 o3 hc3) gX5_mean_X4_found k_X4_found ⟨rfl, rfl⟩ ⟨Nat.le_of_ble_eq_true rfl, Nat.le_of_ble_eq_true rfl⟩ (em_Tw_To_17_o G A I1 J o3) hP hD hS (ci := 4) rfl rfl (at_To_0 G (fun k => A (17 + k)) (I1 7) (J 0)) rfl hl.1 rfl (Nat.le_of_ble_eq_true rfl) ⟨Nat.zero_le _, Nat.zero_le _⟩ dX5_mean_35) (em_Tw_To_17_o G A I1 J o3) hP hD hS (fun H locs hP hD hS => ?_)
      cases hf
      exact hret _ _ _ _ dX5_mean_38 hP hD hS
  · have hf := br_n h3 hf
    refine lv_iload_n (pc := 14) hx hb dX5_mean_14 rfl (lv_at hl 0 rfl) ?_
    cases hf
    exact hret _ _ _ _ dX5_mean_15 hP hD hS
def r_X5_mend : Room := { frames := 2, cells := 0, slots := 0, locals := 42 }
set_option maxHeartbeats 4000000 in
set_option maxRecDepth 100000 in
theorem c_X5_mend (G : GT) (l : Launch) (A : Nat → Nat) (sz : Nat) (I : Nat → CS) (J : Nat → JS) (x1 : Int32) (x2 : Int32) (r : Int32) (I' : Nat → CS) (hf : f_X5_mend I J x1 x2 = some (r, I')) : MTi l yX5_mend wsX5_mend r_X5_mend [.ref (A 0), .int x1, .int x2] G (w_Tw G A I J) (w_Tw G A I' J) sz r := by
  refine MTi.of (cc := cX5_mend) (maxL := 3) (by decide +kernel) rfl (Nat.le_of_ble_eq_true rfl) (fun p e s m av below meth cd Q B H locs ls X hret hl hP hD hS => ?_)
  have hx := X.1.1
  have hb := X.1.2.1
  have hl : lv_has ls 3 [(0, .ref (A 0)), (1, .int x1), (2, .int x2)] := hl
  have b_20 : ∀ (I : Nat → CS) (H : Heap) (locs : List Loc) (ls : Array Slot), f_X5_mend_20 I J = some (r, I') → va_P G.1 vwCl (w_Tw G A I J) H → va_D B (w_Tw G A I J) → va_S B s.heap H locs → lv_has ls 3 [] → W p l e r_X5_mend s m av below meth cd H locs 0 0 Q (F0 m 20 ls []) := by
    intro I H locs ls hf hP hD hS hl
    unfold f_X5_mend_20 at hf
    refine lv_iconst (pc := 20) (v := (-1 : Int32)) hx hb dX5_mend_20 (by decide) ?_
    cases hf
    exact hret _ _ _ _ dX5_mend_21 hP hD hS
  have b_40 : ∀ (x1 : Int32) (t0 : Int32) (t1 : Int32) (I : Nat → CS) (H : Heap) (locs : List Loc) (ls : Array Slot), f_X5_mend_40 x1 t0 t1 I J = some (r, I') → va_P G.1 vwCl (w_Tw G A I J) H → va_D B (w_Tw G A I J) → va_S B s.heap H locs → lv_has ls 3 [(0, .ref (A 0)), (1, .int x1)] → W p l e r_X5_mend s m av below meth cd H locs 0 0 Q (F0 m 40 ls [.int t1, .int t0]) := by
    intro x1 t0 t1 I H locs ls hf hP hD hS hl
    unfold f_X5_mend_40 at hf
    refine lv_icmp_ne (pc := 40) (tgt := 46) hx hb dX5_mend_40 (by decide) (fun h2 => ?_) (fun h2 => ?_)
    · have hf := br_n h2 hf
      refine lv_aload_n (pc := 46) hx hb dX5_mend_46 rfl (lv_at hl 0 rfl) ?_
      refine wget (pc := 47) X (fun _ h9 => List.mem_cons_of_mem _ (List.mem_append_left _ (List.mem_append_right _ h9))) hP 0 (at_Tw_0 G A I J) rfl 5 (by decide) (List.mem_cons_of_mem _ (List.mem_append_left _ (List.mem_append_left _ (List.mem_append_left _ (List.mem_of_getElem? (i := 0) rfl))))) rfl (v := .ref (A 31)) rfl dX5_mend_47 ?_
      refine lv_iconst (pc := 50) (v := (1 : Int32)) hx hb dX5_mend_50 (by decide) ?_
      obtain ⟨r1, hc1, hf⟩ := ob1_some hf
      refine endi X.2.2.2.2 (runV (pc := 51) (As := [.int (1 : Int32)]) (rest := []) X (c_X0_hasTurnsLeft G l (fun k => A (31 + k)) H.size (I 0) (1 : Int32) r1 hc1) gX5_mend_X0_hasTurnsLeft k_X0_hasTurnsLeft ⟨rfl, rfl⟩ ⟨Nat.le_of_ble_eq_true rfl, Nat.le_of_ble_eq_true rfl⟩ (em_Tw_Ch_31 G A I J ) hP hD hS (ci := 0) rfl rfl (at_Ch_0 G (fun k => A (31 + k)) (I 0)) rfl hl.1 rfl (Nat.le_of_ble_eq_true rfl) ⟨Nat.zero_le _, Nat.zero_le _⟩ dX5_mend_51) (em_Tw_Ch_31 G A I J ) hP hD hS (fun H locs hP hD hS => ?_)
      refine lv_if_ne (pc := 54) (tgt := 60) hx hb dX5_mend_54 (by decide) (fun h1 => ?_) (fun h1 => ?_)
      · have hf := br_n h1 hf
        refine lv_aload_n (pc := 60) hx hb dX5_mend_60 rfl (lv_at hl 0 rfl) ?_
        refine wget (pc := 61) X (fun _ h9 => List.mem_cons_of_mem _ (List.mem_append_left _ (List.mem_append_right _ h9))) hP 0 (at_Tw_0 G A I J) rfl 5 (by decide) (List.mem_cons_of_mem _ (List.mem_append_left _ (List.mem_append_left _ (List.mem_append_left _ (List.mem_of_getElem? (i := 0) rfl))))) rfl (v := .ref (A 31)) rfl dX5_mend_61 ?_
        refine lv_iload_n (pc := 64) hx hb dX5_mend_64 rfl (lv_at hl 1 rfl) ?_
        obtain ⟨c2, hc2, hf⟩ := ob1_some hf
        refine endv X.2.2.2.2 (runV (pc := 65) (As := [.int x1]) (rest := []) X (c_X0_turnMended G l (fun k => A (31 + k)) H.size (I 0) x1 c2 hc2) gX5_mend_X0_turnMended k_X0_turnMended ⟨rfl, rfl⟩ ⟨Nat.le_of_ble_eq_true rfl, Nat.le_of_ble_eq_true rfl⟩ (em_Tw_Ch_31_c G A I J c2) hP hD hS (ci := 0) rfl rfl (at_Ch_0 G (fun k => A (31 + k)) (I 0)) rfl hl.1 rfl (Nat.le_of_ble_eq_true rfl) ⟨Nat.zero_le _, Nat.zero_le _⟩ dX5_mend_65) (em_Tw_Ch_31_c G A I J c2) hP hD hS (fun H locs hP hD hS => ?_)
        refine lv_aload_n (pc := 68) hx hb dX5_mend_68 rfl (lv_at hl 0 rfl) ?_
        refine wget (pc := 69) X (fun _ h9 => List.mem_cons_of_mem _ (List.mem_append_left _ (List.mem_append_right _ h9))) hP 0 (at_Tw_0 G A (gset I 0 c2) J) rfl 5 (by decide) (List.mem_cons_of_mem _ (List.mem_append_left _ (List.mem_append_left _ (List.mem_append_left _ (List.mem_of_getElem? (i := 0) rfl))))) rfl (v := .ref (A 31)) rfl dX5_mend_69 ?_
        refine wgetN (pc := 72) X (fun _ h9 => List.mem_cons_of_mem _ (List.mem_append_right _ h9)) hP 31 (at_Tw_31 G A (gset I 0 c2) J) rfl 2 (by decide) (List.mem_of_getElem? (i := 9) rfl) rfl (v := .int (c2 2 0)) rfl dX5_mend_72 ?_
        obtain ⟨r3, hc3, hf⟩ := ob1_some hf
        refine endi X.2.2.2.2 (runS (pc := 75) (As := [.int (c2 2 0)]) (rest := []) X (c_J6_bitCount_0f7a4 G l  H.size (c2 2 0) r3 hc3) gX5_mend_J6_bitCount_0f7a4 k_J6_bitCount_0f7a4 ⟨rfl, rfl⟩ ⟨Nat.le_of_ble_eq_true rfl, Nat.le_of_ble_eq_true rfl⟩ (EM.nil (w_Tw G A (gset I 0 c2) J)) hP hD hS rfl hl.1 rfl (Nat.le_of_ble_eq_true rfl) ⟨Nat.zero_le _, Nat.zero_le _⟩ dX5_mend_75) (EM.nil (w_Tw G A (gset I 0 c2) J)) hP hD hS (fun H locs hP hD hS => ?_)
        cases hf
        exact hret _ _ _ _ dX5_mend_78 hP hD hS
      · have hf := br_y h1 hf
        refine lv_bipush (pc := 57) (v := (-2 : Int32)) hx hb dX5_mend_57 (by decide) ?_
        cases hf
        exact hret _ _ _ _ dX5_mend_59 hP hD hS
    · have hf := br_y h2 hf
      refine lv_bipush (pc := 43) (v := (-4 : Int32)) hx hb dX5_mend_43 (by decide) ?_
      cases hf
      exact hret _ _ _ _ dX5_mend_45 hP hD hS
  unfold f_X5_mend at hf
  refine lv_aload_n (pc := 0) hx hb dX5_mend_0 rfl (lv_at hl 0 rfl) ?_
  refine wget (pc := 1) X (fun _ h9 => List.mem_cons_of_mem _ (List.mem_append_left _ (List.mem_append_right _ h9))) hP 0 (at_Tw_0 G A I J) rfl 5 (by decide) (List.mem_cons_of_mem _ (List.mem_append_left _ (List.mem_append_left _ (List.mem_append_left _ (List.mem_of_getElem? (i := 0) rfl))))) rfl (v := .ref (A 31)) rfl dX5_mend_1 ?_
  refine lv_iload_n (pc := 4) hx hb dX5_mend_4 rfl (lv_at hl 1 rfl) ?_
  obtain ⟨r1, hc1, hf⟩ := ob1_some hf
  refine endi X.2.2.2.2 (runV (pc := 5) (As := [.int x1]) (rest := []) X (c_X0_isError G l (fun k => A (31 + k)) H.size (I 0) x1 r1 hc1) gX5_mend_X0_isError k_X0_isError ⟨rfl, rfl⟩ ⟨Nat.le_of_ble_eq_true rfl, Nat.le_of_ble_eq_true rfl⟩ (em_Tw_Ch_31 G A I J ) hP hD hS (ci := 0) rfl rfl (at_Ch_0 G (fun k => A (31 + k)) (I 0)) rfl hl.1 rfl (Nat.le_of_ble_eq_true rfl) ⟨Nat.zero_le _, Nat.zero_le _⟩ dX5_mend_5) (em_Tw_Ch_31 G A I J ) hP hD hS (fun H locs hP hD hS => ?_)
  refine lv_if_eq (pc := 8) (tgt := 20) hx hb dX5_mend_8 (by decide) (fun h6 => ?_) (fun h6 => ?_)
  · have hf := br_y h6 hf
    exact b_20 _ H locs ls hf hP hD hS (lv_sub hl [] rfl)
  · have hf := br_n h6 hf
    refine lv_iload_n (pc := 11) hx hb dX5_mend_11 rfl (lv_at hl 2 rfl) ?_
    refine lv_if_lt (pc := 12) (tgt := 20) hx hb dX5_mend_12 (by decide) (fun h5 => ?_) (fun h5 => ?_)
    · have hf := br_y h5 hf
      exact b_20 _ H locs ls hf hP hD hS (lv_sub hl [] rfl)
    · have hf := br_n h5 hf
      refine lv_iload_n (pc := 15) hx hb dX5_mend_15 rfl (lv_at hl 2 rfl) ?_
      refine lv_iconst (pc := 16) (v := (1 : Int32)) hx hb dX5_mend_16 (by decide) ?_
      refine lv_icmp_le (pc := 17) (tgt := 22) hx hb dX5_mend_17 (by decide) (fun h4 => ?_) (fun h4 => ?_)
      · have hf := br_y h4 hf
        refine lv_aload_n (pc := 22) hx hb dX5_mend_22 rfl (lv_at hl 0 rfl) ?_
        refine wget (pc := 23) X (fun _ h9 => List.mem_cons_of_mem _ (List.mem_append_left _ (List.mem_append_right _ h9))) hP 0 (at_Tw_0 G A I J) rfl 5 (by decide) (List.mem_cons_of_mem _ (List.mem_append_left _ (List.mem_append_left _ (List.mem_append_left _ (List.mem_of_getElem? (i := 0) rfl))))) rfl (v := .ref (A 31)) rfl dX5_mend_23 ?_
        refine lv_iload_n (pc := 26) hx hb dX5_mend_26 rfl (lv_at hl 1 rfl) ?_
        obtain ⟨r2, hc2, hf⟩ := ob1_some hf
        refine endi X.2.2.2.2 (runV (pc := 27) (As := [.int x1]) (rest := []) X (c_X0_isMended G l (fun k => A (31 + k)) H.size (I 0) x1 r2 hc2) gX5_mend_X0_isMended k_X0_isMended ⟨rfl, rfl⟩ ⟨Nat.le_of_ble_eq_true rfl, Nat.le_of_ble_eq_true rfl⟩ (em_Tw_Ch_31 G A I J ) hP hD hS (ci := 0) rfl rfl (at_Ch_0 G (fun k => A (31 + k)) (I 0)) rfl hl.1 rfl (Nat.le_of_ble_eq_true rfl) ⟨Nat.zero_le _, Nat.zero_le _⟩ dX5_mend_27) (em_Tw_Ch_31 G A I J ) hP hD hS (fun H locs hP hD hS => ?_)
        refine lv_iload_n (pc := 30) hx hb dX5_mend_30 rfl (lv_at hl 2 rfl) ?_
        refine lv_iconst (pc := 31) (v := (1 : Int32)) hx hb dX5_mend_31 (by decide) ?_
        refine lv_icmp_ne (pc := 32) (tgt := 39) hx hb dX5_mend_32 (by decide) (fun h3 => ?_) (fun h3 => ?_)
        · have hf := br_n h3 hf
          refine lv_iconst (pc := 39) (v := (0 : Int32)) hx hb dX5_mend_39 (by decide) ?_
          exact b_40 _ _ _ _ H locs ls hf hP hD hS (lv_sub hl [0, 1] rfl)
        · have hf := br_y h3 hf
          refine lv_iconst (pc := 35) (v := (1 : Int32)) hx hb dX5_mend_35 (by decide) ?_
          refine lv_goto (pc := 36) (tgt := 40) hx hb dX5_mend_36 (by decide) ?_
          exact b_40 _ _ _ _ H locs ls hf hP hD hS (lv_sub hl [0, 1] rfl)
      · have hf := br_n h4 hf
        exact b_20 _ H locs ls hf hP hD hS (lv_sub hl [] rfl)
def r_X5_next : Room := { frames := 4, cells := 0, slots := 0, locals := 99 }
set_option maxHeartbeats 4000000 in
set_option maxRecDepth 100000 in
theorem c_X5_next (G : GT) (l : Launch) (A : Nat → Nat) (sz : Nat) (I : Nat → CS) (J : Nat → JS) (x1 : Int32) (x2 : Int32) (x3 : Int32) (x4 : Int32) (r : Int32) (I' : Nat → CS) (hf : f_X5_next I J x1 x2 x3 x4 = some (r, I')) : MTi l yX5_next wsX5_next r_X5_next [.ref (A 0), .int x1, .int x2, .int x3, .int x4] G (w_Tw G A I J) (w_Tw G A I' J) sz r := by
  refine MTi.of (cc := cX5_next) (maxL := 6) (by decide +kernel) rfl (Nat.le_of_ble_eq_true rfl) (fun p e s m av below meth cd Q B H locs ls X hret hl hP hD hS => ?_)
  have hx := X.1.1
  have hb := X.1.2.1
  have hl : lv_has ls 6 [(0, .ref (A 0)), (1, .int x1), (2, .int x2), (3, .int x3), (4, .int x4)] := hl
  have b_33 : ∀ (I : Nat → CS) (H : Heap) (locs : List Loc) (ls : Array Slot), f_X5_next_33 I J = some (r, I') → va_P G.1 vwCl (w_Tw G A I J) H → va_D B (w_Tw G A I J) → va_S B s.heap H locs → lv_has ls 6 [] → W p l e r_X5_next s m av below meth cd H locs 0 0 Q (F0 m 33 ls []) := by
    intro I H locs ls hf hP hD hS hl
    unfold f_X5_next_33 at hf
    refine lv_iconst (pc := 33) (v := (-1 : Int32)) hx hb dX5_next_33 (by decide) ?_
    cases hf
    exact hret _ _ _ _ dX5_next_34 hP hD hS
  have l_38 : ∀ (n38 : Nat), ∀ (x1 : Int32) (x3 : Int32) (x4 : Int32) (x5 : Int32) (I : Nat → CS) (H : Heap) (locs : List Loc) (ls : Array Slot), f_X5_next_38 n38 x1 x3 x4 x5 I J = some (r, I') → va_P G.1 vwCl (w_Tw G A I J) H → va_D B (w_Tw G A I J) → va_S B s.heap H locs → lv_has ls 6 [(0, .ref (A 0)), (1, .int x1), (3, .int x3), (4, .int x4), (5, .int x5)] → W p l e r_X5_next s m av below meth cd H locs 0 0 Q (F0 m 38 ls []) := by
    intro n38
    induction n38 with
    | zero =>
      intro x1 x3 x4 x5 I H locs ls hf hP hD hS hl
      rw [f_X5_next_38] at hf
      cases hf
    | succ n38 ih38 =>
      intro x1 x3 x4 x5 I H locs ls hf hP hD hS hl
      rw [f_X5_next_38] at hf
      refine lv_iload (pc := 38) hx hb dX5_next_38 (lv_at hl 4 rfl) ?_
      refine lv_bipush (pc := 40) (v := (20 : Int32)) hx hb dX5_next_40 (by decide) ?_
      refine lv_icmp_ge (pc := 42) (tgt := 70) hx hb dX5_next_42 (by decide) (fun h2 => ?_) (fun h2 => ?_)
      · have hf := br_y h2 hf
        refine lv_bipush (pc := 70) (v := (-9 : Int32)) hx hb dX5_next_70 (by decide) ?_
        cases hf
        exact hret _ _ _ _ dX5_next_72 hP hD hS
      · have hf := br_n h2 hf
        refine lv_aload_n (pc := 45) hx hb dX5_next_45 rfl (lv_at hl 0 rfl) ?_
        refine wget (pc := 46) X (fun _ h9 => List.mem_cons_of_mem _ (List.mem_append_left _ (List.mem_append_right _ h9))) hP 0 (at_Tw_0 G A I J) rfl 5 (by decide) (List.mem_cons_of_mem _ (List.mem_append_left _ (List.mem_append_left _ (List.mem_append_left _ (List.mem_of_getElem? (i := 0) rfl))))) rfl (v := .ref (A 31)) rfl dX5_next_46 ?_
        refine lv_iload_n (pc := 49) hx hb dX5_next_49 rfl (lv_at hl 1 rfl) ?_
        refine lv_iload (pc := 50) hx hb dX5_next_50 (lv_at hl 4 rfl) ?_
        refine lv_iload_n (pc := 52) hx hb dX5_next_52 rfl (lv_at hl 2 rfl) ?_
        obtain ⟨r1, c1, hc1, hf⟩ := ob2_some hf
        refine endi X.2.2.2.2 (runV (pc := 53) (As := [.int x1, .int x5, .int x3]) (rest := []) X (c_X0_done G l (fun k => A (31 + k)) H.size (I 0) x1 x5 x3 r1 c1 hc1) gX5_next_X0_done k_X0_done ⟨rfl, rfl⟩ ⟨Nat.le_of_ble_eq_true rfl, Nat.le_of_ble_eq_true rfl⟩ (em_Tw_Ch_31_c G A I J c1) hP hD hS (ci := 0) rfl rfl (at_Ch_0 G (fun k => A (31 + k)) (I 0)) rfl hl.1 rfl (Nat.le_of_ble_eq_true rfl) ⟨Nat.zero_le _, Nat.zero_le _⟩ dX5_next_53) (em_Tw_Ch_31_c G A I J c1) hP hD hS (fun H locs hP hD hS => ?_)
        refine lv_iload (pc := 56) hx hb dX5_next_56 (lv_at hl 3 rfl) ?_
        refine lv_icmp_ne (pc := 58) (tgt := 64) hx hb dX5_next_58 (by decide) (fun h1 => ?_) (fun h1 => ?_)
        · have hf := br_n h1 hf
          refine lv_iinc (pc := 64) (v := (x5 + (1 : Int32))) (lv' := [(5, .int (x5 + (1 : Int32))), (0, .ref (A 0)), (1, .int x1), (3, .int x3), (4, .int x4)]) hx hb dX5_next_64 hl (k := 4) rfl rfl (by decide) rfl (fun ls hl => ?_)
          refine lv_goto (pc := 67) (tgt := 38) hx hb dX5_next_67 (by decide) ?_
          exact ih38 _ _ _ _ _ H locs ls hf hP hD hS (lv_sub hl [1, 2, 3, 4, 0] rfl)
        · have hf := br_y h1 hf
          refine lv_iload (pc := 61) hx hb dX5_next_61 (lv_at hl 4 rfl) ?_
          cases hf
          exact hret _ _ _ _ dX5_next_63 hP hD hS
  unfold f_X5_next at hf
  refine lv_iload_n (pc := 0) hx hb dX5_next_0 rfl (lv_at hl 1 rfl) ?_
  obtain ⟨r1, hc1, hf⟩ := ob1_some hf
  refine endi X.2.2.2.2 (runS (pc := 1) (As := [.int x1]) (rest := []) X (c_X5_isTown G l  H.size x1 r1 hc1) gX5_next_X5_isTown k_X5_isTown ⟨rfl, rfl⟩ ⟨Nat.le_of_ble_eq_true rfl, Nat.le_of_ble_eq_true rfl⟩ (EM.nil (w_Tw G A I J)) hP hD hS rfl hl.1 rfl (Nat.le_of_ble_eq_true rfl) ⟨Nat.zero_le _, Nat.zero_le _⟩ dX5_next_1) (EM.nil (w_Tw G A I J)) hP hD hS (fun H locs hP hD hS => ?_)
  refine lv_if_eq (pc := 4) (tgt := 33) hx hb dX5_next_4 (by decide) (fun h6 => ?_) (fun h6 => ?_)
  · have hf := br_y h6 hf
    exact b_33 _ H locs ls hf hP hD hS (lv_sub hl [] rfl)
  · have hf := br_n h6 hf
    refine lv_iload_n (pc := 7) hx hb dX5_next_7 rfl (lv_at hl 2 rfl) ?_
    obtain ⟨r2, hc2, hf⟩ := ob1_some hf
    refine endi X.2.2.2.2 (runS (pc := 8) (As := [.int x2]) (rest := []) X (c_X5_isDay G l  H.size x2 r2 hc2) gX5_next_X5_isDay k_X5_isDay ⟨rfl, rfl⟩ ⟨Nat.le_of_ble_eq_true rfl, Nat.le_of_ble_eq_true rfl⟩ (EM.nil (w_Tw G A I J)) hP hD hS rfl hl.1 rfl (Nat.le_of_ble_eq_true rfl) ⟨Nat.zero_le _, Nat.zero_le _⟩ dX5_next_8) (EM.nil (w_Tw G A I J)) hP hD hS (fun H locs hP hD hS => ?_)
    refine lv_if_eq (pc := 11) (tgt := 33) hx hb dX5_next_11 (by decide) (fun h5 => ?_) (fun h5 => ?_)
    · have hf := br_y h5 hf
      exact b_33 _ H locs ls hf hP hD hS (lv_sub hl [] rfl)
    · have hf := br_n h5 hf
      refine lv_aload_n (pc := 14) hx hb dX5_next_14 rfl (lv_at hl 0 rfl) ?_
      refine wget (pc := 15) X (fun _ h9 => List.mem_cons_of_mem _ (List.mem_append_left _ (List.mem_append_right _ h9))) hP 0 (at_Tw_0 G A I J) rfl 5 (by decide) (List.mem_cons_of_mem _ (List.mem_append_left _ (List.mem_append_left _ (List.mem_append_left _ (List.mem_of_getElem? (i := 0) rfl))))) rfl (v := .ref (A 31)) rfl dX5_next_15 ?_
      refine lv_iload_n (pc := 18) hx hb dX5_next_18 rfl (lv_at hl 3 rfl) ?_
      obtain ⟨r3, hc3, hf⟩ := ob1_some hf
      refine endi X.2.2.2.2 (runV (pc := 19) (As := [.int x3]) (rest := []) X (c_X0_isPerson G l (fun k => A (31 + k)) H.size (I 0) x3 r3 hc3) gX5_next_X0_isPerson k_X0_isPerson ⟨rfl, rfl⟩ ⟨Nat.le_of_ble_eq_true rfl, Nat.le_of_ble_eq_true rfl⟩ (em_Tw_Ch_31 G A I J ) hP hD hS (ci := 0) rfl rfl (at_Ch_0 G (fun k => A (31 + k)) (I 0)) rfl hl.1 rfl (Nat.le_of_ble_eq_true rfl) ⟨Nat.zero_le _, Nat.zero_le _⟩ dX5_next_19) (em_Tw_Ch_31 G A I J ) hP hD hS (fun H locs hP hD hS => ?_)
      refine lv_if_eq (pc := 22) (tgt := 33) hx hb dX5_next_22 (by decide) (fun h4 => ?_) (fun h4 => ?_)
      · have hf := br_y h4 hf
        exact b_33 _ H locs ls hf hP hD hS (lv_sub hl [] rfl)
      · have hf := br_n h4 hf
        refine lv_iload (pc := 25) hx hb dX5_next_25 (lv_at hl 4 rfl) ?_
        obtain ⟨r4, hc4, hf⟩ := ob1_some hf
        refine endi X.2.2.2.2 (runS (pc := 27) (As := [.int x4]) (rest := []) X (c_X5_isDeed G l  H.size x4 r4 hc4) gX5_next_X5_isDeed k_X5_isDeed ⟨rfl, rfl⟩ ⟨Nat.le_of_ble_eq_true rfl, Nat.le_of_ble_eq_true rfl⟩ (EM.nil (w_Tw G A I J)) hP hD hS rfl hl.1 rfl (Nat.le_of_ble_eq_true rfl) ⟨Nat.zero_le _, Nat.zero_le _⟩ dX5_next_27) (EM.nil (w_Tw G A I J)) hP hD hS (fun H locs hP hD hS => ?_)
        refine lv_if_ne (pc := 30) (tgt := 35) hx hb dX5_next_30 (by decide) (fun h3 => ?_) (fun h3 => ?_)
        · have hf := br_n h3 hf
          refine lv_iload_n (pc := 35) hx hb dX5_next_35 rfl (lv_at hl 2 rfl) ?_
          refine lv_istore (pc := 36) (lv' := [(5, .int x2), (0, .ref (A 0)), (1, .int x1), (2, .int x2), (3, .int x3), (4, .int x4)]) hx hb dX5_next_36 hl (by decide) rfl (fun ls hl => ?_)
          exact l_38 FU _ _ _ _ _ H locs ls hf hP hD hS (lv_sub hl [1, 2, 4, 5, 0] rfl)
        · have hf := br_y h3 hf
          exact b_33 _ H locs ls hf hP hD hS (lv_sub hl [] rfl)
def r_X5_odds : Room := { frames := 3, cells := 0, slots := 0, locals := 76 }
set_option maxHeartbeats 4000000 in
set_option maxRecDepth 100000 in
theorem c_X5_odds (G : GT) (l : Launch) (A : Nat → Nat) (sz : Nat) (I : Nat → CS) (J : Nat → JS) (x1 : Int32) (x2 : Int32) (x3 : Int32) (x4 : Int32) (x5 : Int32) (r : Int32) (I' : Nat → CS) (J' : Nat → JS) (hf : f_X5_odds I J x1 x2 x3 x4 x5 = some (r, I', J')) : MTi l yX5_odds wsX5_odds r_X5_odds [.ref (A 0), .int x1, .int x2, .int x3, .int x4, .int x5] G (w_Tw G A I J) (w_Tw G A I' J') sz r := by
  refine MTi.of (cc := cX5_odds) (maxL := 13) (by decide +kernel) rfl (Nat.le_of_ble_eq_true rfl) (fun p e s m av below meth cd Q B H locs ls X hret hl hP hD hS => ?_)
  have hx := X.1.1
  have hb := X.1.2.1
  have hl : lv_has ls 13 [(0, .ref (A 0)), (1, .int x1), (2, .int x2), (3, .int x3), (4, .int x4), (5, .int x5)] := hl
  have b_33 : ∀ (I : Nat → CS) (J : Nat → JS) (H : Heap) (locs : List Loc) (ls : Array Slot), f_X5_odds_33 I J = some (r, I', J') → va_P G.1 vwCl (w_Tw G A I J) H → va_D B (w_Tw G A I J) → va_S B s.heap H locs → lv_has ls 13 [] → W p l e r_X5_odds s m av below meth cd H locs 0 0 Q (F0 m 33 ls []) := by
    intro I J H locs ls hf hP hD hS hl
    unfold f_X5_odds_33 at hf
    refine lv_iconst (pc := 33) (v := (-1 : Int32)) hx hb dX5_odds_33 (by decide) ?_
    cases hf
    exact hret _ _ _ _ dX5_odds_34 hP hD hS
  have b_47 : ∀ (I : Nat → CS) (J : Nat → JS) (H : Heap) (locs : List Loc) (ls : Array Slot), f_X5_odds_47 I J = some (r, I', J') → va_P G.1 vwCl (w_Tw G A I J) H → va_D B (w_Tw G A I J) → va_S B s.heap H locs → lv_has ls 13 [] → W p l e r_X5_odds s m av below meth cd H locs 0 0 Q (F0 m 47 ls []) := by
    intro I J H locs ls hf hP hD hS hl
    unfold f_X5_odds_47 at hf
    refine lv_iconst (pc := 47) (v := (-1 : Int32)) hx hb dX5_odds_47 (by decide) ?_
    cases hf
    exact hret _ _ _ _ dX5_odds_48 hP hD hS
  have l_85 : ∀ (n85 : Nat), ∀ (x1 : Int32) (x2 : Int32) (x3 : Int32) (x4 : Int32) (x5 : Int32) (x6 : Int32) (x7 : Int32) (x8 : Int64) (x10 : Int32) (x11 : Int32) (I : Nat → CS) (J : Nat → JS) (H : Heap) (locs : List Loc) (ls : Array Slot), f_X5_odds_85 n85 x1 x2 x3 x4 x5 x6 x7 x8 x10 x11 I J = some (r, I', J') → va_P G.1 vwCl (w_Tw G A I J) H → va_D B (w_Tw G A I J) → va_S B s.heap H locs → lv_has ls 13 [(0, .ref (A 0)), (1, .int x1), (2, .int x2), (3, .int x3), (4, .int x4), (5, .int x5), (6, .int x6), (7, .int x7), (8, .long x8), (10, .int x10), (11, .int x11)] → W p l e r_X5_odds s m av below meth cd H locs 0 0 Q (F0 m 85 ls []) := by
    intro n85
    induction n85 with
    | zero =>
      intro x1 x2 x3 x4 x5 x6 x7 x8 x10 x11 I J H locs ls hf hP hD hS hl
      rw [f_X5_odds_85] at hf
      cases hf
    | succ n85 ih85 =>
      have b_144 : ∀ (x1 : Int32) (x2 : Int32) (x3 : Int32) (x4 : Int32) (x5 : Int32) (x6 : Int32) (x7 : Int32) (x8 : Int64) (x10 : Int32) (x11 : Int32) (I : Nat → CS) (J : Nat → JS) (H : Heap) (locs : List Loc) (ls : Array Slot), f_X5_odds_144 (f_X5_odds_85 n85) x1 x2 x3 x4 x5 x6 x7 x8 x10 x11 I J = some (r, I', J') → va_P G.1 vwCl (w_Tw G A I J) H → va_D B (w_Tw G A I J) → va_S B s.heap H locs → lv_has ls 13 [(0, .ref (A 0)), (1, .int x1), (2, .int x2), (3, .int x3), (4, .int x4), (5, .int x5), (6, .int x6), (7, .int x7), (8, .long x8), (10, .int x10), (11, .int x11)] → W p l e r_X5_odds s m av below meth cd H locs 0 0 Q (F0 m 144 ls []) := by
        intro x1 x2 x3 x4 x5 x6 x7 x8 x10 x11 I J H locs ls hf hP hD hS hl
        unfold f_X5_odds_144 at hf
        refine lv_iload (pc := 144) hx hb dX5_odds_144 (lv_at hl 9 rfl) ?_
        refine lv_iload (pc := 146) hx hb dX5_odds_146 (lv_at hl 6 rfl) ?_
        obtain ⟨r1, hc1, hf⟩ := ob1_some hf
        refine endi X.2.2.2.2 (runS (pc := 148) (As := [.int x10, .int x6]) (rest := []) X (c_X5_nextSet G l  H.size x10 x6 r1 hc1) gX5_odds_X5_nextSet k_X5_nextSet ⟨rfl, rfl⟩ ⟨Nat.le_of_ble_eq_true rfl, Nat.le_of_ble_eq_true rfl⟩ (EM.nil (w_Tw G A I J)) hP hD hS rfl hl.1 rfl (Nat.le_of_ble_eq_true rfl) ⟨Nat.zero_le _, Nat.zero_le _⟩ dX5_odds_148) (EM.nil (w_Tw G A I J)) hP hD hS (fun H locs hP hD hS => ?_)
        refine lv_istore (pc := 151) (lv' := [(10, .int r1), (0, .ref (A 0)), (1, .int x1), (2, .int x2), (3, .int x3), (4, .int x4), (5, .int x5), (6, .int x6), (7, .int x7), (8, .long x8), (11, .int x11)]) hx hb dX5_odds_151 hl (by decide) rfl (fun ls hl => ?_)
        refine lv_iinc (pc := 153) (v := (x11 + (1 : Int32))) (lv' := [(11, .int (x11 + (1 : Int32))), (10, .int r1), (0, .ref (A 0)), (1, .int x1), (2, .int x2), (3, .int x3), (4, .int x4), (5, .int x5), (6, .int x6), (7, .int x7), (8, .long x8)]) hx hb dX5_odds_153 hl (k := 10) rfl rfl (by decide) rfl (fun ls hl => ?_)
        refine lv_goto (pc := 156) (tgt := 85) hx hb dX5_odds_156 (by decide) ?_
        exact ih85 _ _ _ _ _ _ _ _ _ _ _ _ H locs ls hf hP hD hS (lv_sub hl [2, 3, 4, 5, 6, 7, 8, 9, 10, 1, 0] rfl)
      intro x1 x2 x3 x4 x5 x6 x7 x8 x10 x11 I J H locs ls hf hP hD hS hl
      rw [f_X5_odds_85] at hf
      refine lv_iload (pc := 85) hx hb dX5_odds_85 (lv_at hl 10 rfl) ?_
      refine lv_iconst (pc := 87) (v := (1 : Int32)) hx hb dX5_odds_87 (by decide) ?_
      refine lv_iload (pc := 88) hx hb dX5_odds_88 (lv_at hl 7 rfl) ?_
      refine lv_ishl (pc := 90) hx hb dX5_odds_90 ?_
      refine lv_icmp_ge (pc := 91) (tgt := 159) hx hb dX5_odds_91 (by decide) (fun h2 => ?_) (fun h2 => ?_)
      · have hf := br_y h2 hf
        refine lv_aload_n (pc := 159) hx hb dX5_odds_159 rfl (lv_at hl 0 rfl) ?_
        refine wget (pc := 160) X (fun _ h9 => List.mem_cons_of_mem _ (List.mem_append_left _ (List.mem_append_left _ (List.mem_append_right _ h9)))) hP 0 (at_Tw_0 G A I J) rfl 2 (by decide) (List.mem_cons_of_mem _ (List.mem_append_left _ (List.mem_append_left _ (List.mem_append_left _ (List.mem_append_left _ (List.mem_of_getElem? (i := 1) rfl)))))) rfl (v := .ref (A 17)) rfl dX5_odds_160 ?_
        refine lv_lload (pc := 163) hx hb dX5_odds_163 (lv_at hl 8 rfl) ?_
        refine lv_bipush (pc := 165) (v := (12 : Int32)) hx hb dX5_odds_165 (by decide) ?_
        refine lv_iload (pc := 167) hx hb dX5_odds_167 (lv_at hl 7 rfl) ?_
        obtain ⟨r1, hc1, hf⟩ := ob1_some hf
        refine endl X.2.2.2.2 (runS (pc := 169) (As := [.int (12 : Int32), .int x7]) (rest := [.long x8, .ref (A 17)]) X (c_X5_power G l  H.size (12 : Int32) x7 r1 hc1) gX5_odds_X5_power k_X5_power ⟨rfl, rfl⟩ ⟨Nat.le_of_ble_eq_true rfl, Nat.le_of_ble_eq_true rfl⟩ (EM.nil (w_Tw G A I J)) hP hD hS rfl hl.1 rfl (Nat.le_of_ble_eq_true rfl) ⟨Nat.zero_le _, Nat.zero_le _⟩ dX5_odds_169) (EM.nil (w_Tw G A I J)) hP hD hS (fun H locs hP hD hS => ?_)
        obtain ⟨j2, hc2, hf⟩ := ob1_some hf
        refine endv X.2.2.2.2 (runV (pc := 172) (As := [.long x8, .long r1]) (rest := []) X (c_X4_tell G l (fun k => A (17 + k)) H.size (I 7) (J 0) x8 r1 j2 hc2) gX5_odds_X4_tell k_X4_tell ⟨rfl, rfl⟩ ⟨Nat.le_of_ble_eq_true rfl, Nat.le_of_ble_eq_true rfl⟩ (em_Tw_To_17_j G A I J j2) hP hD hS (ci := 4) rfl rfl (at_To_0 G (fun k => A (17 + k)) (I 7) (J 0)) rfl hl.1 rfl (Nat.le_of_ble_eq_true rfl) ⟨Nat.zero_le _, Nat.zero_le _⟩ dX5_odds_172) (em_Tw_To_17_j G A I J j2) hP hD hS (fun H locs hP hD hS => ?_)
        refine lv_iconst (pc := 175) (v := (1 : Int32)) hx hb dX5_odds_175 (by decide) ?_
        cases hf
        exact hret _ _ _ _ dX5_odds_176 hP hD hS
      · have hf := br_n h2 hf
        refine lv_aload_n (pc := 94) hx hb dX5_odds_94 rfl (lv_at hl 0 rfl) ?_
        refine wget (pc := 95) X (fun _ h9 => List.mem_cons_of_mem _ (List.mem_append_left _ (List.mem_append_left _ (List.mem_append_right _ h9)))) hP 0 (at_Tw_0 G A I J) rfl 5 (by decide) (List.mem_cons_of_mem _ (List.mem_append_left _ (List.mem_append_left _ (List.mem_append_left _ (List.mem_append_left _ (List.mem_of_getElem? (i := 0) rfl)))))) rfl (v := .ref (A 31)) rfl dX5_odds_95 ?_
        refine lv_iload_n (pc := 98) hx hb dX5_odds_98 rfl (lv_at hl 1 rfl) ?_
        refine lv_iload_n (pc := 99) hx hb dX5_odds_99 rfl (lv_at hl 2 rfl) ?_
        refine lv_iload_n (pc := 100) hx hb dX5_odds_100 rfl (lv_at hl 3 rfl) ?_
        refine lv_iload (pc := 101) hx hb dX5_odds_101 (lv_at hl 9 rfl) ?_
        obtain ⟨r3, c3, hc3, hf⟩ := ob2_some hf
        refine endi X.2.2.2.2 (runV (pc := 103) (As := [.int x1, .int x2, .int x3, .int x10]) (rest := []) X (c_X0_doneIf G l (fun k => A (31 + k)) H.size (I 0) x1 x2 x3 x10 r3 c3 hc3) gX5_odds_X0_doneIf k_X0_doneIf ⟨rfl, rfl⟩ ⟨Nat.le_of_ble_eq_true rfl, Nat.le_of_ble_eq_true rfl⟩ (em_Tw_Ch_31_c G A I J c3) hP hD hS (ci := 0) rfl rfl (at_Ch_0 G (fun k => A (31 + k)) (I 0)) rfl hl.1 rfl (Nat.le_of_ble_eq_true rfl) ⟨Nat.zero_le _, Nat.zero_le _⟩ dX5_odds_103) (em_Tw_Ch_31_c G A I J c3) hP hD hS (fun H locs hP hD hS => ?_)
        refine lv_iload (pc := 106) hx hb dX5_odds_106 (lv_at hl 4 rfl) ?_
        refine lv_icmp_ne (pc := 108) (tgt := 144) hx hb dX5_odds_108 (by decide) (fun h1 => ?_) (fun h1 => ?_)
        · have hf := br_n h1 hf
          exact b_144 _ _ _ _ _ _ _ _ _ _ _ _ H locs ls hf hP hD hS (lv_sub hl [0, 1, 2, 3, 4, 5, 6, 7, 8, 9, 10] rfl)
        · have hf := br_y h1 hf
          refine lv_iload (pc := 111) hx hb dX5_odds_111 (lv_at hl 9 rfl) ?_
          obtain ⟨r4, hc4, hf⟩ := ob1_some hf
          refine endi X.2.2.2.2 (runS (pc := 113) (As := [.int x10]) (rest := []) X (c_J6_bitCount_0f7a4 G l  H.size x10 r4 hc4) gX5_odds_J6_bitCount_0f7a4 k_J6_bitCount_0f7a4 ⟨rfl, rfl⟩ ⟨Nat.le_of_ble_eq_true rfl, Nat.le_of_ble_eq_true rfl⟩ (EM.nil (w_Tw G A (gset I 0 c3) J)) hP hD hS rfl hl.1 rfl (Nat.le_of_ble_eq_true rfl) ⟨Nat.zero_le _, Nat.zero_le _⟩ dX5_odds_113) (EM.nil (w_Tw G A (gset I 0 c3) J)) hP hD hS (fun H locs hP hD hS => ?_)
          refine lv_istore (pc := 116) (lv' := [(12, .int r4), (0, .ref (A 0)), (1, .int x1), (2, .int x2), (3, .int x3), (4, .int x4), (5, .int x5), (6, .int x6), (7, .int x7), (8, .long x8), (10, .int x10), (11, .int x11)]) hx hb dX5_odds_116 hl (by decide) rfl (fun ls hl => ?_)
          refine lv_lload (pc := 118) hx hb dX5_odds_118 (lv_at hl 9 rfl) ?_
          refine lv_iload (pc := 120) hx hb dX5_odds_120 (lv_at hl 6 rfl) ?_
          refine lv_iload (pc := 122) hx hb dX5_odds_122 (lv_at hl 0 rfl) ?_
          obtain ⟨r5, hc5, hf⟩ := ob1_some hf
          refine endl X.2.2.2.2 (runS (pc := 124) (As := [.int x5, .int r4]) (rest := [.long x8]) X (c_X5_power G l  H.size x5 r4 r5 hc5) gX5_odds_X5_power k_X5_power ⟨rfl, rfl⟩ ⟨Nat.le_of_ble_eq_true rfl, Nat.le_of_ble_eq_true rfl⟩ (EM.nil (w_Tw G A (gset I 0 c3) J)) hP hD hS rfl hl.1 rfl (Nat.le_of_ble_eq_true rfl) ⟨Nat.zero_le _, Nat.zero_le _⟩ dX5_odds_124) (EM.nil (w_Tw G A (gset I 0 c3) J)) hP hD hS (fun H locs hP hD hS => ?_)
          refine lv_bipush (pc := 127) (v := (12 : Int32)) hx hb dX5_odds_127 (by decide) ?_
          refine lv_iload (pc := 129) hx hb dX5_odds_129 (lv_at hl 6 rfl) ?_
          refine lv_isub (pc := 131) hx hb dX5_odds_131 ?_
          refine lv_iload (pc := 132) hx hb dX5_odds_132 (lv_at hl 8 rfl) ?_
          refine lv_iload (pc := 134) hx hb dX5_odds_134 (lv_at hl 0 rfl) ?_
          refine lv_isub (pc := 136) hx hb dX5_odds_136 ?_
          obtain ⟨r6, hc6, hf⟩ := ob1_some hf
          refine endl X.2.2.2.2 (runS (pc := 137) (As := [.int ((12 : Int32) - x5), .int (x7 - r4)]) (rest := [.long r5, .long x8]) X (c_X5_power G l  H.size ((12 : Int32) - x5) (x7 - r4) r6 hc6) gX5_odds_X5_power k_X5_power ⟨rfl, rfl⟩ ⟨Nat.le_of_ble_eq_true rfl, Nat.le_of_ble_eq_true rfl⟩ (EM.nil (w_Tw G A (gset I 0 c3) J)) hP hD hS rfl hl.1 rfl (Nat.le_of_ble_eq_true rfl) ⟨Nat.zero_le _, Nat.zero_le _⟩ dX5_odds_137) (EM.nil (w_Tw G A (gset I 0 c3) J)) hP hD hS (fun H locs hP hD hS => ?_)
          refine lv_lmul (pc := 140) hx hb dX5_odds_140 ?_
          refine lv_ladd (pc := 141) hx hb dX5_odds_141 ?_
          refine lv_lstore (pc := 142) (lv' := [(8, .long (x8 + (r5 * r6))), (12, .int r4), (0, .ref (A 0)), (1, .int x1), (2, .int x2), (3, .int x3), (4, .int x4), (5, .int x5), (6, .int x6), (7, .int x7), (10, .int x10), (11, .int x11)]) hx hb dX5_odds_142 hl (by decide) rfl (fun ls hl => ?_)
          exact b_144 _ _ _ _ _ _ _ _ _ _ _ _ H locs ls hf hP hD hS (lv_sub hl [2, 3, 4, 5, 6, 7, 8, 9, 0, 10, 11] rfl)
  unfold f_X5_odds at hf
  refine lv_iload_n (pc := 0) hx hb dX5_odds_0 rfl (lv_at hl 1 rfl) ?_
  obtain ⟨r1, hc1, hf⟩ := ob1_some hf
  refine endi X.2.2.2.2 (runS (pc := 1) (As := [.int x1]) (rest := []) X (c_X5_isTown G l  H.size x1 r1 hc1) gX5_odds_X5_isTown k_X5_isTown ⟨rfl, rfl⟩ ⟨Nat.le_of_ble_eq_true rfl, Nat.le_of_ble_eq_true rfl⟩ (EM.nil (w_Tw G A I J)) hP hD hS rfl hl.1 rfl (Nat.le_of_ble_eq_true rfl) ⟨Nat.zero_le _, Nat.zero_le _⟩ dX5_odds_1) (EM.nil (w_Tw G A I J)) hP hD hS (fun H locs hP hD hS => ?_)
  refine lv_if_eq (pc := 4) (tgt := 33) hx hb dX5_odds_4 (by decide) (fun h8 => ?_) (fun h8 => ?_)
  · have hf := br_y h8 hf
    exact b_33 _ _ H locs ls hf hP hD hS (lv_sub hl [] rfl)
  · have hf := br_n h8 hf
    refine lv_iload_n (pc := 7) hx hb dX5_odds_7 rfl (lv_at hl 2 rfl) ?_
    obtain ⟨r2, hc2, hf⟩ := ob1_some hf
    refine endi X.2.2.2.2 (runS (pc := 8) (As := [.int x2]) (rest := []) X (c_X5_isDay G l  H.size x2 r2 hc2) gX5_odds_X5_isDay k_X5_isDay ⟨rfl, rfl⟩ ⟨Nat.le_of_ble_eq_true rfl, Nat.le_of_ble_eq_true rfl⟩ (EM.nil (w_Tw G A I J)) hP hD hS rfl hl.1 rfl (Nat.le_of_ble_eq_true rfl) ⟨Nat.zero_le _, Nat.zero_le _⟩ dX5_odds_8) (EM.nil (w_Tw G A I J)) hP hD hS (fun H locs hP hD hS => ?_)
    refine lv_if_eq (pc := 11) (tgt := 33) hx hb dX5_odds_11 (by decide) (fun h7 => ?_) (fun h7 => ?_)
    · have hf := br_y h7 hf
      exact b_33 _ _ H locs ls hf hP hD hS (lv_sub hl [] rfl)
    · have hf := br_n h7 hf
      refine lv_aload_n (pc := 14) hx hb dX5_odds_14 rfl (lv_at hl 0 rfl) ?_
      refine wget (pc := 15) X (fun _ h9 => List.mem_cons_of_mem _ (List.mem_append_left _ (List.mem_append_left _ (List.mem_append_right _ h9)))) hP 0 (at_Tw_0 G A I J) rfl 5 (by decide) (List.mem_cons_of_mem _ (List.mem_append_left _ (List.mem_append_left _ (List.mem_append_left _ (List.mem_append_left _ (List.mem_of_getElem? (i := 0) rfl)))))) rfl (v := .ref (A 31)) rfl dX5_odds_15 ?_
      refine lv_iload_n (pc := 18) hx hb dX5_odds_18 rfl (lv_at hl 3 rfl) ?_
      obtain ⟨r3, hc3, hf⟩ := ob1_some hf
      refine endi X.2.2.2.2 (runV (pc := 19) (As := [.int x3]) (rest := []) X (c_X0_isPerson G l (fun k => A (31 + k)) H.size (I 0) x3 r3 hc3) gX5_odds_X0_isPerson k_X0_isPerson ⟨rfl, rfl⟩ ⟨Nat.le_of_ble_eq_true rfl, Nat.le_of_ble_eq_true rfl⟩ (em_Tw_Ch_31 G A I J ) hP hD hS (ci := 0) rfl rfl (at_Ch_0 G (fun k => A (31 + k)) (I 0)) rfl hl.1 rfl (Nat.le_of_ble_eq_true rfl) ⟨Nat.zero_le _, Nat.zero_le _⟩ dX5_odds_19) (em_Tw_Ch_31 G A I J ) hP hD hS (fun H locs hP hD hS => ?_)
      refine lv_if_eq (pc := 22) (tgt := 33) hx hb dX5_odds_22 (by decide) (fun h6 => ?_) (fun h6 => ?_)
      · have hf := br_y h6 hf
        exact b_33 _ _ H locs ls hf hP hD hS (lv_sub hl [] rfl)
      · have hf := br_n h6 hf
        refine lv_iload (pc := 25) hx hb dX5_odds_25 (lv_at hl 4 rfl) ?_
        obtain ⟨r4, hc4, hf⟩ := ob1_some hf
        refine endi X.2.2.2.2 (runS (pc := 27) (As := [.int x4]) (rest := []) X (c_X5_isDeed G l  H.size x4 r4 hc4) gX5_odds_X5_isDeed k_X5_isDeed ⟨rfl, rfl⟩ ⟨Nat.le_of_ble_eq_true rfl, Nat.le_of_ble_eq_true rfl⟩ (EM.nil (w_Tw G A I J)) hP hD hS rfl hl.1 rfl (Nat.le_of_ble_eq_true rfl) ⟨Nat.zero_le _, Nat.zero_le _⟩ dX5_odds_27) (EM.nil (w_Tw G A I J)) hP hD hS (fun H locs hP hD hS => ?_)
        refine lv_if_ne (pc := 30) (tgt := 35) hx hb dX5_odds_30 (by decide) (fun h5 => ?_) (fun h5 => ?_)
        · have hf := br_n h5 hf
          refine lv_iload (pc := 35) hx hb dX5_odds_35 (lv_at hl 5 rfl) ?_
          refine lv_if_lt (pc := 37) (tgt := 47) hx hb dX5_odds_37 (by decide) (fun h4 => ?_) (fun h4 => ?_)
          · have hf := br_y h4 hf
            exact b_47 _ _ H locs ls hf hP hD hS (lv_sub hl [] rfl)
          · have hf := br_n h4 hf
            refine lv_iload (pc := 40) hx hb dX5_odds_40 (lv_at hl 5 rfl) ?_
            refine lv_bipush (pc := 42) (v := (12 : Int32)) hx hb dX5_odds_42 (by decide) ?_
            refine lv_icmp_le (pc := 44) (tgt := 49) hx hb dX5_odds_44 (by decide) (fun h3 => ?_) (fun h3 => ?_)
            · have hf := br_y h3 hf
              refine lv_aload_n (pc := 49) hx hb dX5_odds_49 rfl (lv_at hl 0 rfl) ?_
              refine wget (pc := 50) X (fun _ h9 => List.mem_cons_of_mem _ (List.mem_append_left _ (List.mem_append_left _ (List.mem_append_right _ h9)))) hP 0 (at_Tw_0 G A I J) rfl 5 (by decide) (List.mem_cons_of_mem _ (List.mem_append_left _ (List.mem_append_left _ (List.mem_append_left _ (List.mem_append_left _ (List.mem_of_getElem? (i := 0) rfl)))))) rfl (v := .ref (A 31)) rfl dX5_odds_50 ?_
              refine lv_iload_n (pc := 53) hx hb dX5_odds_53 rfl (lv_at hl 1 rfl) ?_
              refine lv_iload_n (pc := 54) hx hb dX5_odds_54 rfl (lv_at hl 2 rfl) ?_
              refine lv_iload_n (pc := 55) hx hb dX5_odds_55 rfl (lv_at hl 3 rfl) ?_
              obtain ⟨r5, hc5, hf⟩ := ob1_some hf
              refine endi X.2.2.2.2 (runV (pc := 56) (As := [.int x1, .int x2, .int x3]) (rest := []) X (c_X0_onTheWay G l (fun k => A (31 + k)) H.size (I 0) x1 x2 x3 r5 hc5) gX5_odds_X0_onTheWay k_X0_onTheWay ⟨rfl, rfl⟩ ⟨Nat.le_of_ble_eq_true rfl, Nat.le_of_ble_eq_true rfl⟩ (em_Tw_Ch_31 G A I J ) hP hD hS (ci := 0) rfl rfl (at_Ch_0 G (fun k => A (31 + k)) (I 0)) rfl hl.1 rfl (Nat.le_of_ble_eq_true rfl) ⟨Nat.zero_le _, Nat.zero_le _⟩ dX5_odds_56) (em_Tw_Ch_31 G A I J ) hP hD hS (fun H locs hP hD hS => ?_)
              refine lv_aload_n (pc := 59) hx hb dX5_odds_59 rfl (lv_at hl 0 rfl) ?_
              refine wget (pc := 60) X (fun _ h9 => List.mem_cons_of_mem _ (List.mem_append_left _ (List.mem_append_left _ (List.mem_append_right _ h9)))) hP 0 (at_Tw_0 G A I J) rfl 5 (by decide) (List.mem_cons_of_mem _ (List.mem_append_left _ (List.mem_append_left _ (List.mem_append_left _ (List.mem_append_left _ (List.mem_of_getElem? (i := 0) rfl)))))) rfl (v := .ref (A 31)) rfl dX5_odds_60 ?_
              obtain ⟨r6, hc6, hf⟩ := ob1_some hf
              refine endi X.2.2.2.2 (runV (pc := 63) (As := []) (rest := [.int r5]) X (c_X0_unmended G l (fun k => A (31 + k)) H.size (I 0) r6 hc6) gX5_odds_X0_unmended k_X0_unmended ⟨rfl, rfl⟩ ⟨Nat.le_of_ble_eq_true rfl, Nat.le_of_ble_eq_true rfl⟩ (em_Tw_Ch_31 G A I J ) hP hD hS (ci := 0) rfl rfl (at_Ch_0 G (fun k => A (31 + k)) (I 0)) rfl hl.1 rfl (Nat.le_of_ble_eq_true rfl) ⟨Nat.zero_le _, Nat.zero_le _⟩ dX5_odds_63) (em_Tw_Ch_31 G A I J ) hP hD hS (fun H locs hP hD hS => ?_)
              refine lv_iand (pc := 66) hx hb dX5_odds_66 ?_
              refine lv_istore (pc := 67) (lv' := [(6, .int (r5 &&& r6)), (0, .ref (A 0)), (1, .int x1), (2, .int x2), (3, .int x3), (4, .int x4), (5, .int x5)]) hx hb dX5_odds_67 hl (by decide) rfl (fun ls hl => ?_)
              refine lv_iload (pc := 69) hx hb dX5_odds_69 (lv_at hl 0 rfl) ?_
              obtain ⟨r7, hc7, hf⟩ := ob1_some hf
              refine endi X.2.2.2.2 (runS (pc := 71) (As := [.int (r5 &&& r6)]) (rest := []) X (c_J6_bitCount_0f7a4 G l  H.size (r5 &&& r6) r7 hc7) gX5_odds_J6_bitCount_0f7a4 k_J6_bitCount_0f7a4 ⟨rfl, rfl⟩ ⟨Nat.le_of_ble_eq_true rfl, Nat.le_of_ble_eq_true rfl⟩ (EM.nil (w_Tw G A I J)) hP hD hS rfl hl.1 rfl (Nat.le_of_ble_eq_true rfl) ⟨Nat.zero_le _, Nat.zero_le _⟩ dX5_odds_71) (EM.nil (w_Tw G A I J)) hP hD hS (fun H locs hP hD hS => ?_)
              refine lv_istore (pc := 74) (lv' := [(7, .int r7), (6, .int (r5 &&& r6)), (0, .ref (A 0)), (1, .int x1), (2, .int x2), (3, .int x3), (4, .int x4), (5, .int x5)]) hx hb dX5_odds_74 hl (by decide) rfl (fun ls hl => ?_)
              refine lv_lconst (pc := 76) (v := (0 : Int64)) hx hb dX5_odds_76 (by decide) ?_
              refine lv_lstore (pc := 77) (lv' := [(8, .long (0 : Int64)), (7, .int r7), (6, .int (r5 &&& r6)), (0, .ref (A 0)), (1, .int x1), (2, .int x2), (3, .int x3), (4, .int x4), (5, .int x5)]) hx hb dX5_odds_77 hl (by decide) rfl (fun ls hl => ?_)
              refine lv_iconst (pc := 79) (v := (0 : Int32)) hx hb dX5_odds_79 (by decide) ?_
              refine lv_istore (pc := 80) (lv' := [(10, .int (0 : Int32)), (8, .long (0 : Int64)), (7, .int r7), (6, .int (r5 &&& r6)), (0, .ref (A 0)), (1, .int x1), (2, .int x2), (3, .int x3), (4, .int x4), (5, .int x5)]) hx hb dX5_odds_80 hl (by decide) rfl (fun ls hl => ?_)
              refine lv_iconst (pc := 82) (v := (0 : Int32)) hx hb dX5_odds_82 (by decide) ?_
              refine lv_istore (pc := 83) (lv' := [(11, .int (0 : Int32)), (10, .int (0 : Int32)), (8, .long (0 : Int64)), (7, .int r7), (6, .int (r5 &&& r6)), (0, .ref (A 0)), (1, .int x1), (2, .int x2), (3, .int x3), (4, .int x4), (5, .int x5)]) hx hb dX5_odds_83 hl (by decide) rfl (fun ls hl => ?_)
              exact l_85 FU _ _ _ _ _ _ _ _ _ _ _ _ H locs ls hf hP hD hS (lv_sub hl [5, 6, 7, 8, 9, 10, 4, 3, 2, 1, 0] rfl)
            · have hf := br_n h3 hf
              exact b_47 _ _ H locs ls hf hP hD hS (lv_sub hl [] rfl)
        · have hf := br_y h5 hf
          exact b_33 _ _ H locs ls hf hP hD hS (lv_sub hl [] rfl)
def r_X5_on : Room := { frames := 2, cells := 0, slots := 0, locals := 81 }
set_option maxHeartbeats 4000000 in
set_option maxRecDepth 100000 in
theorem c_X5_on (G : GT) (l : Launch) (A : Nat → Nat) (sz : Nat) (I : Nat → CS) (J : Nat → JS) (x1 : Int32) (r : Int32) (I' : Nat → CS) (hf : f_X5_on I J x1 = some (r, I')) : MTi l yX5_on wsX5_on r_X5_on [.ref (A 0), .int x1] G (w_Tw G A I J) (w_Tw G A I' J) sz r := by
  refine MTi.of (cc := cX5_on) (maxL := 2) (by decide +kernel) rfl (Nat.le_of_ble_eq_true rfl) (fun p e s m av below meth cd Q B H locs ls X hret hl hP hD hS => ?_)
  have hx := X.1.1
  have hb := X.1.2.1
  have hl : lv_has ls 2 [(0, .ref (A 0)), (1, .int x1)] := hl
  unfold f_X5_on at hf
  refine lv_iload_n (pc := 0) hx hb dX5_on_0 rfl (lv_at hl 1 rfl) ?_
  obtain ⟨r1, hc1, hf⟩ := ob1_some hf
  refine endi X.2.2.2.2 (runS (pc := 1) (As := [.int x1]) (rest := []) X (c_X5_isPlace G l  H.size x1 r1 hc1) gX5_on_X5_isPlace k_X5_isPlace ⟨rfl, rfl⟩ ⟨Nat.le_of_ble_eq_true rfl, Nat.le_of_ble_eq_true rfl⟩ (EM.nil (w_Tw G A I J)) hP hD hS rfl hl.1 rfl (Nat.le_of_ble_eq_true rfl) ⟨Nat.zero_le _, Nat.zero_le _⟩ dX5_on_1) (EM.nil (w_Tw G A I J)) hP hD hS (fun H locs hP hD hS => ?_)
  refine lv_if_ne (pc := 4) (tgt := 9) hx hb dX5_on_4 (by decide) (fun h2 => ?_) (fun h2 => ?_)
  · have hf := br_n h2 hf
    refine lv_aload_n (pc := 9) hx hb dX5_on_9 rfl (lv_at hl 0 rfl) ?_
    refine lv_iload_n (pc := 10) hx hb dX5_on_10 rfl (lv_at hl 1 rfl) ?_
    obtain ⟨r2, hc2, hf⟩ := ob1_some hf
    refine endi X.2.2.2.2 (runV (pc := 11) (As := [.int x1]) (rest := []) X (c_X5_isKept G l A H.size I J x1 r2 hc2) gX5_on_X5_isKept k_X5_isKept ⟨rfl, rfl⟩ ⟨Nat.le_of_ble_eq_true rfl, Nat.le_of_ble_eq_true rfl⟩ (EM.all (w_Tw G A I J) (w_Tw G A I J)) hP hD hS (ci := 5) rfl rfl (at_Tw_0 G A I J) rfl hl.1 rfl (Nat.le_of_ble_eq_true rfl) ⟨Nat.zero_le _, Nat.zero_le _⟩ dX5_on_11) (EM.all (w_Tw G A I J) (w_Tw G A I J)) hP hD hS (fun H locs hP hD hS => ?_)
    refine lv_if_ne (pc := 14) (tgt := 26) hx hb dX5_on_14 (by decide) (fun h1 => ?_) (fun h1 => ?_)
    · have hf := br_n h1 hf
      refine lv_aload_n (pc := 26) hx hb dX5_on_26 rfl (lv_at hl 0 rfl) ?_
      refine wget (pc := 27) X (fun _ h9 => List.mem_cons_of_mem _ (List.mem_append_left _ (List.mem_append_left _ (List.mem_append_right _ h9)))) hP 0 (at_Tw_0 G A I J) rfl 5 (by decide) (List.mem_cons_of_mem _ (List.mem_append_left _ (List.mem_append_left _ (List.mem_append_left _ (List.mem_append_left _ (List.mem_of_getElem? (i := 1) rfl)))))) rfl (v := .ref (A 31)) rfl dX5_on_27 ?_
      refine lv_aload_n (pc := 30) hx hb dX5_on_30 rfl (lv_at hl 0 rfl) ?_
      refine wget (pc := 31) X (fun _ h9 => List.mem_cons_of_mem _ (List.mem_append_left _ (List.mem_append_left _ (List.mem_append_right _ h9)))) hP 0 (at_Tw_0 G A I J) rfl 6 (by decide) (List.mem_cons_of_mem _ (List.mem_append_left _ (List.mem_append_left _ (List.mem_append_left _ (List.mem_append_left _ (List.mem_of_getElem? (i := 2) rfl)))))) rfl (v := .ref (A 41)) rfl dX5_on_31 ?_
      refine lv_iload_n (pc := 34) hx hb dX5_on_34 rfl (lv_at hl 1 rfl) ?_
      obtain ⟨hi, hf⟩ := ck_some hf
      refine waaldC (pc := 35) X hP 41 (at_Tw_41 G A I J) hi (B := fun i => A (42 + 10 * i)) (fun i h => by rcases (show i = 0 ∨ i = 1 ∨ i = 2 by omega) with rfl | rfl | rfl <;> rfl) dX5_on_35 ?_
      have hj := inb_lt hi
      generalize x1.toNatClampNeg = jj at hf hj ⊢
      rcases (show jj = 0 ∨ jj = 1 ∨ jj = 2 by omega) with rfl | rfl | rfl
      · obtain ⟨c3, hc3, hf⟩ := ob1_some hf
        refine endv X.2.2.2.2 (runV (pc := 36) (As := [.ref (A 42)]) (rest := []) X (c_X0_takeFrom G l (fun k => A (bif Nat.blt k 10 then 31 + k else 32 + k)) H.size (I 0) (I 2) c3 hc3) gX5_on_X0_takeFrom k_X0_takeFrom ⟨rfl, rfl⟩ ⟨Nat.le_of_ble_eq_true rfl, Nat.le_of_ble_eq_true rfl⟩ (em_Tw_CC_31_42_c G A I J c3) hP hD hS (ci := 0) rfl rfl (at_CC_0 G (fun k => A (bif Nat.blt k 10 then 31 + k else 32 + k)) (I 0) (I 2)) rfl hl.1 rfl (Nat.le_of_ble_eq_true rfl) ⟨Nat.zero_le _, Nat.zero_le _⟩ dX5_on_36) (em_Tw_CC_31_42_c G A I J c3) hP hD hS (fun H locs hP hD hS => ?_)
        refine lv_aload_n (pc := 39) hx hb dX5_on_39 rfl (lv_at hl 0 rfl) ?_
        refine wget (pc := 40) X (fun _ h9 => List.mem_cons_of_mem _ (List.mem_append_left _ (List.mem_append_left _ (List.mem_append_right _ h9)))) hP 0 (at_Tw_0 G A (gset I 0 c3) J) rfl 5 (by decide) (List.mem_cons_of_mem _ (List.mem_append_left _ (List.mem_append_left _ (List.mem_append_left _ (List.mem_append_left _ (List.mem_of_getElem? (i := 1) rfl)))))) rfl (v := .ref (A 31)) rfl dX5_on_40 ?_
        refine wgetN (pc := 43) X (fun _ h9 => List.mem_cons_of_mem _ (List.mem_append_left _ (List.mem_append_right _ h9))) hP 31 (at_Tw_31 G A (gset I 0 c3) J) rfl 4 (by decide) (List.mem_of_getElem? (i := 11) rfl) rfl (v := .int (c3 4 0)) rfl dX5_on_43 ?_
        cases hf
        exact hret _ _ _ _ dX5_on_46 hP hD hS
      · obtain ⟨c4, hc4, hf⟩ := ob1_some hf
        refine endv X.2.2.2.2 (runV (pc := 36) (As := [.ref (A 52)]) (rest := []) X (c_X0_takeFrom G l (fun k => A (bif Nat.blt k 10 then 31 + k else 42 + k)) H.size (I 0) (I 3) c4 hc4) gX5_on_X0_takeFrom k_X0_takeFrom ⟨rfl, rfl⟩ ⟨Nat.le_of_ble_eq_true rfl, Nat.le_of_ble_eq_true rfl⟩ (em_Tw_CC_31_52_c G A I J c4) hP hD hS (ci := 0) rfl rfl (at_CC_0 G (fun k => A (bif Nat.blt k 10 then 31 + k else 42 + k)) (I 0) (I 3)) rfl hl.1 rfl (Nat.le_of_ble_eq_true rfl) ⟨Nat.zero_le _, Nat.zero_le _⟩ dX5_on_36) (em_Tw_CC_31_52_c G A I J c4) hP hD hS (fun H locs hP hD hS => ?_)
        refine lv_aload_n (pc := 39) hx hb dX5_on_39 rfl (lv_at hl 0 rfl) ?_
        refine wget (pc := 40) X (fun _ h9 => List.mem_cons_of_mem _ (List.mem_append_left _ (List.mem_append_left _ (List.mem_append_right _ h9)))) hP 0 (at_Tw_0 G A (gset I 0 c4) J) rfl 5 (by decide) (List.mem_cons_of_mem _ (List.mem_append_left _ (List.mem_append_left _ (List.mem_append_left _ (List.mem_append_left _ (List.mem_of_getElem? (i := 1) rfl)))))) rfl (v := .ref (A 31)) rfl dX5_on_40 ?_
        refine wgetN (pc := 43) X (fun _ h9 => List.mem_cons_of_mem _ (List.mem_append_left _ (List.mem_append_right _ h9))) hP 31 (at_Tw_31 G A (gset I 0 c4) J) rfl 4 (by decide) (List.mem_of_getElem? (i := 11) rfl) rfl (v := .int (c4 4 0)) rfl dX5_on_43 ?_
        cases hf
        exact hret _ _ _ _ dX5_on_46 hP hD hS
      · obtain ⟨c5, hc5, hf⟩ := ob1_some hf
        refine endv X.2.2.2.2 (runV (pc := 36) (As := [.ref (A 62)]) (rest := []) X (c_X0_takeFrom G l (fun k => A (bif Nat.blt k 10 then 31 + k else 52 + k)) H.size (I 0) (I 4) c5 hc5) gX5_on_X0_takeFrom k_X0_takeFrom ⟨rfl, rfl⟩ ⟨Nat.le_of_ble_eq_true rfl, Nat.le_of_ble_eq_true rfl⟩ (em_Tw_CC_31_62_c G A I J c5) hP hD hS (ci := 0) rfl rfl (at_CC_0 G (fun k => A (bif Nat.blt k 10 then 31 + k else 52 + k)) (I 0) (I 4)) rfl hl.1 rfl (Nat.le_of_ble_eq_true rfl) ⟨Nat.zero_le _, Nat.zero_le _⟩ dX5_on_36) (em_Tw_CC_31_62_c G A I J c5) hP hD hS (fun H locs hP hD hS => ?_)
        refine lv_aload_n (pc := 39) hx hb dX5_on_39 rfl (lv_at hl 0 rfl) ?_
        refine wget (pc := 40) X (fun _ h9 => List.mem_cons_of_mem _ (List.mem_append_left _ (List.mem_append_left _ (List.mem_append_right _ h9)))) hP 0 (at_Tw_0 G A (gset I 0 c5) J) rfl 5 (by decide) (List.mem_cons_of_mem _ (List.mem_append_left _ (List.mem_append_left _ (List.mem_append_left _ (List.mem_append_left _ (List.mem_of_getElem? (i := 1) rfl)))))) rfl (v := .ref (A 31)) rfl dX5_on_40 ?_
        refine wgetN (pc := 43) X (fun _ h9 => List.mem_cons_of_mem _ (List.mem_append_left _ (List.mem_append_right _ h9))) hP 31 (at_Tw_31 G A (gset I 0 c5) J) rfl 4 (by decide) (List.mem_of_getElem? (i := 11) rfl) rfl (v := .int (c5 4 0)) rfl dX5_on_43 ?_
        cases hf
        exact hret _ _ _ _ dX5_on_46 hP hD hS
    · have hf := br_y h1 hf
      refine lv_aload_n (pc := 17) hx hb dX5_on_17 rfl (lv_at hl 0 rfl) ?_
      refine wget (pc := 18) X (fun _ h9 => List.mem_cons_of_mem _ (List.mem_append_left _ (List.mem_append_left _ (List.mem_append_right _ h9)))) hP 0 (at_Tw_0 G A I J) rfl 2 (by decide) (List.mem_cons_of_mem _ (List.mem_append_left _ (List.mem_append_left _ (List.mem_append_left _ (List.mem_append_left _ (List.mem_of_getElem? (i := 0) rfl)))))) rfl (v := .ref (A 17)) rfl dX5_on_18 ?_
      refine lv_iconst (pc := 21) (v := (1 : Int32)) hx hb dX5_on_21 (by decide) ?_
      obtain ⟨r6, o6, hc6, hf⟩ := ob2_some hf
      refine endi X.2.2.2.2 (runV (pc := 22) (As := [.int (1 : Int32)]) (rest := []) X (c_X4_found G l (fun k => A (17 + k)) H.size (I 7) (J 0) (1 : Int32) r6 o6 hc6) gX5_on_X4_found k_X4_found ⟨rfl, rfl⟩ ⟨Nat.le_of_ble_eq_true rfl, Nat.le_of_ble_eq_true rfl⟩ (em_Tw_To_17_o G A I J o6) hP hD hS (ci := 4) rfl rfl (at_To_0 G (fun k => A (17 + k)) (I 7) (J 0)) rfl hl.1 rfl (Nat.le_of_ble_eq_true rfl) ⟨Nat.zero_le _, Nat.zero_le _⟩ dX5_on_22) (em_Tw_To_17_o G A I J o6) hP hD hS (fun H locs hP hD hS => ?_)
      cases hf
      exact hret _ _ _ _ dX5_on_25 hP hD hS
  · have hf := br_y h2 hf
    refine lv_iconst (pc := 7) (v := (-1 : Int32)) hx hb dX5_on_7 (by decide) ?_
    cases hf
    exact hret _ _ _ _ dX5_on_8 hP hD hS
def r_X5_person : Room := { frames := 5, cells := 0, slots := 0, locals := 121 }
set_option maxHeartbeats 4000000 in
set_option maxRecDepth 100000 in
theorem c_X5_person (G : GT) (l : Launch) (A : Nat → Nat) (sz : Nat) (I : Nat → CS) (J : Nat → JS) (x1 : Int32) (x2 : Int32) (r : Int32) (I' : Nat → CS) (hf : f_X5_person I J x1 x2 = some (r, I')) : MTi l yX5_person wsX5_person r_X5_person [.ref (A 0), .int x1, .int x2] G (w_Tw G A I J) (w_Tw G A I' J) sz r := by
  refine MTi.of (cc := cX5_person) (maxL := 3) (by decide +kernel) rfl (Nat.le_of_ble_eq_true rfl) (fun p e s m av below meth cd Q B H locs ls X hret hl hP hD hS => ?_)
  have hx := X.1.1
  have hb := X.1.2.1
  have hl : lv_has ls 3 [(0, .ref (A 0)), (1, .int x1), (2, .int x2)] := hl
  have b_20 : ∀ (I : Nat → CS) (H : Heap) (locs : List Loc) (ls : Array Slot), f_X5_person_20 I J = some (r, I') → va_P G.1 vwCl (w_Tw G A I J) H → va_D B (w_Tw G A I J) → va_S B s.heap H locs → lv_has ls 3 [] → W p l e r_X5_person s m av below meth cd H locs 0 0 Q (F0 m 20 ls []) := by
    intro I H locs ls hf hP hD hS hl
    unfold f_X5_person_20 at hf
    refine lv_iconst (pc := 20) (v := (-1 : Int32)) hx hb dX5_person_20 (by decide) ?_
    cases hf
    exact hret _ _ _ _ dX5_person_21 hP hD hS
  unfold f_X5_person at hf
  refine lv_aload_n (pc := 0) hx hb dX5_person_0 rfl (lv_at hl 0 rfl) ?_
  refine wget (pc := 1) X (fun _ h9 => List.mem_cons_of_mem _ (List.mem_append_left _ (List.mem_append_left _ (List.mem_append_right _ h9)))) hP 0 (at_Tw_0 G A I J) rfl 5 (by decide) (List.mem_cons_of_mem _ (List.mem_append_left _ (List.mem_append_left _ (List.mem_append_left _ (List.mem_append_left _ (List.mem_of_getElem? (i := 0) rfl)))))) rfl (v := .ref (A 31)) rfl dX5_person_1 ?_
  refine lv_iload_n (pc := 4) hx hb dX5_person_4 rfl (lv_at hl 1 rfl) ?_
  obtain ⟨r1, hc1, hf⟩ := ob1_some hf
  refine endi X.2.2.2.2 (runV (pc := 5) (As := [.int x1]) (rest := []) X (c_X0_isPerson G l (fun k => A (31 + k)) H.size (I 0) x1 r1 hc1) gX5_person_X0_isPerson k_X0_isPerson ⟨rfl, rfl⟩ ⟨Nat.le_of_ble_eq_true rfl, Nat.le_of_ble_eq_true rfl⟩ (em_Tw_Ch_31 G A I J ) hP hD hS (ci := 0) rfl rfl (at_Ch_0 G (fun k => A (31 + k)) (I 0)) rfl hl.1 rfl (Nat.le_of_ble_eq_true rfl) ⟨Nat.zero_le _, Nat.zero_le _⟩ dX5_person_5) (em_Tw_Ch_31 G A I J ) hP hD hS (fun H locs hP hD hS => ?_)
  refine lv_if_eq (pc := 8) (tgt := 20) hx hb dX5_person_8 (by decide) (fun h3 => ?_) (fun h3 => ?_)
  · have hf := br_y h3 hf
    exact b_20 _ H locs ls hf hP hD hS (lv_sub hl [] rfl)
  · have hf := br_n h3 hf
    refine lv_iload_n (pc := 11) hx hb dX5_person_11 rfl (lv_at hl 2 rfl) ?_
    refine lv_if_lt (pc := 12) (tgt := 20) hx hb dX5_person_12 (by decide) (fun h2 => ?_) (fun h2 => ?_)
    · have hf := br_y h2 hf
      exact b_20 _ H locs ls hf hP hD hS (lv_sub hl [] rfl)
    · have hf := br_n h2 hf
      refine lv_iload_n (pc := 15) hx hb dX5_person_15 rfl (lv_at hl 2 rfl) ?_
      refine lv_iconst (pc := 16) (v := (5 : Int32)) hx hb dX5_person_16 (by decide) ?_
      refine lv_icmp_lt (pc := 17) (tgt := 22) hx hb dX5_person_17 (by decide) (fun h1 => ?_) (fun h1 => ?_)
      · have hf := br_y h1 hf
        refine lv_aload_n (pc := 22) hx hb dX5_person_22 rfl (lv_at hl 0 rfl) ?_
        refine wget (pc := 23) X (fun _ h9 => List.mem_cons_of_mem _ (List.mem_append_left _ (List.mem_append_left _ (List.mem_append_right _ h9)))) hP 0 (at_Tw_0 G A I J) rfl 2 (by decide) (List.mem_cons_of_mem _ (List.mem_append_left _ (List.mem_append_left _ (List.mem_append_left _ (List.mem_append_left _ (List.mem_of_getElem? (i := 1) rfl)))))) rfl (v := .ref (A 17)) rfl dX5_person_23 ?_
        refine lv_aload_n (pc := 26) hx hb dX5_person_26 rfl (lv_at hl 0 rfl) ?_
        refine wget (pc := 27) X (fun _ h9 => List.mem_cons_of_mem _ (List.mem_append_left _ (List.mem_append_left _ (List.mem_append_right _ h9)))) hP 0 (at_Tw_0 G A I J) rfl 5 (by decide) (List.mem_cons_of_mem _ (List.mem_append_left _ (List.mem_append_left _ (List.mem_append_left _ (List.mem_append_left _ (List.mem_of_getElem? (i := 0) rfl)))))) rfl (v := .ref (A 31)) rfl dX5_person_27 ?_
        refine lv_iload_n (pc := 30) hx hb dX5_person_30 rfl (lv_at hl 1 rfl) ?_
        refine lv_iload_n (pc := 31) hx hb dX5_person_31 rfl (lv_at hl 2 rfl) ?_
        obtain ⟨r2, c2, hc2, hf⟩ := ob2_some hf
        refine endi X.2.2.2.2 (runV (pc := 32) (As := [.int x1, .int x2]) (rest := [.ref (A 17)]) X (c_X0_personTrait G l (fun k => A (31 + k)) H.size (I 0) x1 x2 r2 c2 hc2) gX5_person_X0_personTrait k_X0_personTrait ⟨rfl, rfl⟩ ⟨Nat.le_of_ble_eq_true rfl, Nat.le_of_ble_eq_true rfl⟩ (em_Tw_Ch_31_c G A I J c2) hP hD hS (ci := 0) rfl rfl (at_Ch_0 G (fun k => A (31 + k)) (I 0)) rfl hl.1 rfl (Nat.le_of_ble_eq_true rfl) ⟨Nat.zero_le _, Nat.zero_le _⟩ dX5_person_32) (em_Tw_Ch_31_c G A I J c2) hP hD hS (fun H locs hP hD hS => ?_)
        refine wputN (pc := 35) X (fun _ h9 => List.mem_cons_of_mem _ (List.mem_append_left _ (List.mem_append_right _ h9))) tyX4 tyX4_ok nmX4 hP hD hS 17 (at_Tw_17 G A (gset I 0 c2) J) rfl 0 (by decide) (List.mem_of_getElem? (i := 0) rfl) rfl rfl (ty := .int) (v := .int r2) rfl rfl rfl (Nat.le_of_ble_eq_true rfl) (st_Tw_17_0 G A (gset I 0 c2) J r2) dX5_person_35 (fun H locs hP hD hS => ?_)
        refine lv_iconst (pc := 38) (v := (1 : Int32)) hx hb dX5_person_38 (by decide) ?_
        cases hf
        exact hret _ _ _ _ dX5_person_39 hP hD hS
      · have hf := br_n h1 hf
        exact b_20 _ H locs ls hf hP hD hS (lv_sub hl [] rfl)
def r_X5_placeRefused_t : Room := { frames := 3, cells := 0, slots := 0, locals := 64 }
set_option maxHeartbeats 4000000 in
set_option maxRecDepth 100000 in
theorem c_X5_placeRefused_t (G : GT) (l : Launch) (A : Nat → Nat) (sz : Nat) (I : Nat → CS) (J : Nat → JS) (x2 : Int32) (x3 : Int32) (r : Int32) (I' : Nat → CS) (hf : f_X5_placeRefused_t I J x2 x3 = some (r, I')) : MTi l yX5_placeRefused wsX5_placeRefused r_X5_placeRefused_t [.ref (A 0), .ref (A 10), .int x2, .int x3] G (w_Tw G A I J) (w_Tw G A I' J) sz r := by
  refine MTi.of (cc := cX5_placeRefused) (maxL := 5) (by decide +kernel) rfl (Nat.le_of_ble_eq_true rfl) (fun p e s m av below meth cd Q B H locs ls X hret hl hP hD hS => ?_)
  have hx := X.1.1
  have hb := X.1.2.1
  have hl : lv_has ls 5 [(0, .ref (A 0)), (1, .ref (A 10)), (2, .int x2), (3, .int x3)] := hl
  have b_37 : ∀ (t0 : Int32) (I : Nat → CS) (H : Heap) (locs : List Loc) (ls : Array Slot), f_X5_placeRefused_t_37 t0 I J = some (r, I') → va_P G.1 vwCl (w_Tw G A I J) H → va_D B (w_Tw G A I J) → va_S B s.heap H locs → lv_has ls 5 [] → W p l e r_X5_placeRefused_t s m av below meth cd H locs 0 0 Q (F0 m 37 ls [.int t0]) := by
    intro t0 I H locs ls hf hP hD hS hl
    unfold f_X5_placeRefused_t_37 at hf
    cases hf
    exact hret _ _ _ _ dX5_placeRefused_37 hP hD hS
  unfold f_X5_placeRefused_t at hf
  refine lv_aload_n (pc := 0) hx hb dX5_placeRefused_0 rfl (lv_at hl 0 rfl) ?_
  refine lv_aload_n (pc := 1) hx hb dX5_placeRefused_1 rfl (lv_at hl 1 rfl) ?_
  refine lv_iload_n (pc := 2) hx hb dX5_placeRefused_2 rfl (lv_at hl 2 rfl) ?_
  obtain ⟨r1, I1, hc1, hf⟩ := ob2_some hf
  refine endi X.2.2.2.2 (runV (pc := 3) (As := [.ref (A 10), .int x2]) (rest := []) X (c_X5_missingRefused_t G l A H.size I J x2 r1 I1 hc1) gX5_placeRefused_X5_missingRefused k_X5_missingRefused ⟨rfl, rfl⟩ ⟨Nat.le_of_ble_eq_true rfl, Nat.le_of_ble_eq_true rfl⟩ (EM.all (w_Tw G A I J) (w_Tw G A I1 J)) hP hD hS (ci := 5) rfl rfl (at_Tw_0 G A I J) rfl hl.1 rfl (Nat.le_of_ble_eq_true rfl) ⟨Nat.zero_le _, Nat.zero_le _⟩ dX5_placeRefused_3) (EM.all (w_Tw G A I J) (w_Tw G A I1 J)) hP hD hS (fun H locs hP hD hS => ?_)
  refine lv_istore (pc := 6) (lv' := [(4, .int r1), (0, .ref (A 0)), (1, .ref (A 10)), (2, .int x2), (3, .int x3)]) hx hb dX5_placeRefused_6 hl (by decide) rfl (fun ls hl => ?_)
  refine lv_iload (pc := 8) hx hb dX5_placeRefused_8 (lv_at hl 0 rfl) ?_
  refine lv_if_eq (pc := 10) (tgt := 16) hx hb dX5_placeRefused_10 (by decide) (fun h2 => ?_) (fun h2 => ?_)
  · have hf := br_y h2 hf
    refine lv_aload_n (pc := 16) hx hb dX5_placeRefused_16 rfl (lv_at hl 2 rfl) ?_
    refine lv_iload_n (pc := 17) hx hb dX5_placeRefused_17 rfl (lv_at hl 3 rfl) ?_
    refine lv_iload_n (pc := 18) hx hb dX5_placeRefused_18 rfl (lv_at hl 4 rfl) ?_
    obtain ⟨r2, hc2, hf⟩ := ob1_some hf
    refine endi X.2.2.2.2 (runV (pc := 19) (As := [.int x2, .int x3]) (rest := []) X (c_X3_holds_t G l (fun k => A (10 + k)) H.size (I1 6) x2 x3 r2 hc2) gX5_placeRefused_X3_holds k_X3_holds ⟨rfl, rfl⟩ ⟨Nat.le_of_ble_eq_true rfl, Nat.le_of_ble_eq_true rfl⟩ (em_Tw_S4_10 G A I1 J ) hP hD hS (ci := 3) rfl rfl (at_S4_0 G (fun k => A (10 + k)) (I1 6)) rfl hl.1 rfl (Nat.le_of_ble_eq_true rfl) ⟨Nat.zero_le _, Nat.zero_le _⟩ dX5_placeRefused_19) (em_Tw_S4_10 G A I1 J ) hP hD hS (fun H locs hP hD hS => ?_)
    refine lv_if_eq (pc := 22) (tgt := 29) hx hb dX5_placeRefused_22 (by decide) (fun h1 => ?_) (fun h1 => ?_)
    · have hf := br_y h1 hf
      refine lv_aload_n (pc := 29) hx hb dX5_placeRefused_29 rfl (lv_at hl 1 rfl) ?_
      refine wget (pc := 30) X (fun _ h9 => List.mem_cons_of_mem _ (List.mem_append_left _ (List.mem_append_left _ (List.mem_append_right _ h9)))) hP 0 (at_Tw_0 G A I1 J) rfl 2 (by decide) (List.mem_cons_of_mem _ (List.mem_append_left _ (List.mem_append_left _ (List.mem_append_left _ (List.mem_append_left _ (List.mem_of_getElem? (i := 0) rfl)))))) rfl (v := .ref (A 17)) rfl dX5_placeRefused_30 ?_
      refine lv_iconst (pc := 33) (v := (2 : Int32)) hx hb dX5_placeRefused_33 (by decide) ?_
      obtain ⟨r3, o3, hc3, hf⟩ := ob2_some hf
      refine endi X.2.2.2.2 (runV (pc := 34) (As := [.int (2 : Int32)]) (rest := []) X (c_X4_found G l (fun k => A (17 + k)) H.size (I1 7) (J 0) (2 : Int32) r3 o3 hc3) gX5_placeRefused_X4_found k_X4_found ⟨rfl, rfl⟩ ⟨Nat.le_of_ble_eq_true rfl, Nat.le_of_ble_eq_true rfl⟩ (em_Tw_To_17_o G A I1 J o3) hP hD hS (ci := 4) rfl rfl (at_To_0 G (fun k => A (17 + k)) (I1 7) (J 0)) rfl hl.1 rfl (Nat.le_of_ble_eq_true rfl) ⟨Nat.zero_le _, Nat.zero_le _⟩ dX5_placeRefused_34) (em_Tw_To_17_o G A I1 J o3) hP hD hS (fun H locs hP hD hS => ?_)
      exact b_37 _ _ H locs ls hf hP hD hS (lv_sub hl [] rfl)
    · have hf := br_n h1 hf
      refine lv_iconst (pc := 25) (v := (0 : Int32)) hx hb dX5_placeRefused_25 (by decide) ?_
      refine lv_goto (pc := 26) (tgt := 37) hx hb dX5_placeRefused_26 (by decide) ?_
      exact b_37 _ _ H locs ls hf hP hD hS (lv_sub hl [] rfl)
  · have hf := br_n h2 hf
    refine lv_iload (pc := 13) hx hb dX5_placeRefused_13 (lv_at hl 0 rfl) ?_
    cases hf
    exact hret _ _ _ _ dX5_placeRefused_15 hP hD hS
def r_X5_put : Room := { frames := 4, cells := 0, slots := 0, locals := 88 }
set_option maxHeartbeats 4000000 in
set_option maxRecDepth 100000 in
theorem c_X5_put (G : GT) (l : Launch) (A : Nat → Nat) (sz : Nat) (I : Nat → CS) (J : Nat → JS) (x1 : Int32) (x2 : Int32) (x3 : Int32) (r : Int32) (I' : Nat → CS) (hf : f_X5_put I J x1 x2 x3 = some (r, I')) : MTi l yX5_put wsX5_put r_X5_put [.ref (A 0), .int x1, .int x2, .int x3] G (w_Tw G A I J) (w_Tw G A I' J) sz r := by
  refine MTi.of (cc := cX5_put) (maxL := 6) (by decide +kernel) rfl (Nat.le_of_ble_eq_true rfl) (fun p e s m av below meth cd Q B H locs ls X hret hl hP hD hS => ?_)
  have hx := X.1.1
  have hb := X.1.2.1
  have hl : lv_has ls 6 [(0, .ref (A 0)), (1, .int x1), (2, .int x2), (3, .int x3)] := hl
  unfold f_X5_put at hf
  refine lv_aload_n (pc := 0) hx hb dX5_put_0 rfl (lv_at hl 0 rfl) ?_
  refine lv_aload_n (pc := 1) hx hb dX5_put_1 rfl (lv_at hl 0 rfl) ?_
  refine wget (pc := 2) X (fun _ h9 => List.mem_cons_of_mem _ (List.mem_append_left _ (List.mem_append_left _ (List.mem_append_right _ h9)))) hP 0 (at_Tw_0 G A I J) rfl 1 (by decide) (List.mem_cons_of_mem _ (List.mem_append_left _ (List.mem_append_left _ (List.mem_append_left _ (List.mem_append_left _ (List.mem_of_getElem? (i := 0) rfl)))))) rfl (v := .ref (A 10)) rfl dX5_put_2 ?_
  refine lv_iload_n (pc := 5) hx hb dX5_put_5 rfl (lv_at hl 1 rfl) ?_
  refine lv_iload_n (pc := 6) hx hb dX5_put_6 rfl (lv_at hl 2 rfl) ?_
  obtain ⟨r1, I1, hc1, hf⟩ := ob2_some hf
  refine endi X.2.2.2.2 (runV (pc := 7) (As := [.ref (A 10), .int x1, .int x2]) (rest := []) X (c_X5_placeRefused_t G l A H.size I J x1 x2 r1 I1 hc1) gX5_put_X5_placeRefused k_X5_placeRefused ⟨rfl, rfl⟩ ⟨Nat.le_of_ble_eq_true rfl, Nat.le_of_ble_eq_true rfl⟩ (EM.all (w_Tw G A I J) (w_Tw G A I1 J)) hP hD hS (ci := 5) rfl rfl (at_Tw_0 G A I J) rfl hl.1 rfl (Nat.le_of_ble_eq_true rfl) ⟨Nat.zero_le _, Nat.zero_le _⟩ dX5_put_7) (EM.all (w_Tw G A I J) (w_Tw G A I1 J)) hP hD hS (fun H locs hP hD hS => ?_)
  refine lv_istore (pc := 10) (lv' := [(4, .int r1), (0, .ref (A 0)), (1, .int x1), (2, .int x2), (3, .int x3)]) hx hb dX5_put_10 hl (by decide) rfl (fun ls hl => ?_)
  refine lv_iload (pc := 12) hx hb dX5_put_12 (lv_at hl 0 rfl) ?_
  refine lv_if_eq (pc := 14) (tgt := 20) hx hb dX5_put_14 (by decide) (fun h1 => ?_) (fun h1 => ?_)
  · have hf := br_y h1 hf
    refine lv_aload_n (pc := 20) hx hb dX5_put_20 rfl (lv_at hl 1 rfl) ?_
    refine wget (pc := 21) X (fun _ h9 => List.mem_cons_of_mem _ (List.mem_append_left _ (List.mem_append_left _ (List.mem_append_right _ h9)))) hP 0 (at_Tw_0 G A I1 J) rfl 1 (by decide) (List.mem_cons_of_mem _ (List.mem_append_left _ (List.mem_append_left _ (List.mem_append_left _ (List.mem_append_left _ (List.mem_of_getElem? (i := 0) rfl)))))) rfl (v := .ref (A 10)) rfl dX5_put_21 ?_
    refine lv_iload_n (pc := 24) hx hb dX5_put_24 rfl (lv_at hl 2 rfl) ?_
    refine lv_iload_n (pc := 25) hx hb dX5_put_25 rfl (lv_at hl 3 rfl) ?_
    obtain ⟨r2, hc2, hf⟩ := ob1_some hf
    refine endi X.2.2.2.2 (runV (pc := 26) (As := [.int x1, .int x2]) (rest := []) X (c_X3_get_t G l (fun k => A (10 + k)) H.size (I1 6) x1 x2 r2 hc2) gX5_put_X3_get k_X3_get ⟨rfl, rfl⟩ ⟨Nat.le_of_ble_eq_true rfl, Nat.le_of_ble_eq_true rfl⟩ (em_Tw_S4_10 G A I1 J ) hP hD hS (ci := 3) rfl rfl (at_S4_0 G (fun k => A (10 + k)) (I1 6)) rfl hl.1 rfl (Nat.le_of_ble_eq_true rfl) ⟨Nat.zero_le _, Nat.zero_le _⟩ dX5_put_26) (em_Tw_S4_10 G A I1 J ) hP hD hS (fun H locs hP hD hS => ?_)
    refine lv_istore (pc := 29) (lv' := [(5, .int r2), (4, .int r1), (0, .ref (A 0)), (1, .int x1), (2, .int x2), (3, .int x3)]) hx hb dX5_put_29 hl (by decide) rfl (fun ls hl => ?_)
    refine lv_aload_n (pc := 31) hx hb dX5_put_31 rfl (lv_at hl 2 rfl) ?_
    refine wget (pc := 32) X (fun _ h9 => List.mem_cons_of_mem _ (List.mem_append_left _ (List.mem_append_left _ (List.mem_append_right _ h9)))) hP 0 (at_Tw_0 G A I1 J) rfl 1 (by decide) (List.mem_cons_of_mem _ (List.mem_append_left _ (List.mem_append_left _ (List.mem_append_left _ (List.mem_append_left _ (List.mem_of_getElem? (i := 0) rfl)))))) rfl (v := .ref (A 10)) rfl dX5_put_32 ?_
    refine lv_iload_n (pc := 35) hx hb dX5_put_35 rfl (lv_at hl 3 rfl) ?_
    refine lv_iload_n (pc := 36) hx hb dX5_put_36 rfl (lv_at hl 4 rfl) ?_
    refine lv_iload_n (pc := 37) hx hb dX5_put_37 rfl (lv_at hl 5 rfl) ?_
    refine lv_i2b (pc := 38) (v := (x3).toInt8.toInt32) hx hb dX5_put_38 rfl ?_
    obtain ⟨b3, hc3, hf⟩ := ob1_some hf
    refine endv X.2.2.2.2 (runV (pc := 39) (As := [.int x1, .int x2, .int ((x3).toInt8.toInt32)]) (rest := []) X (c_X3_set_t G l (fun k => A (10 + k)) H.size (I1 6) x1 x2 ((x3).toInt8.toInt32) b3 hc3) gX5_put_X3_set k_X3_set ⟨rfl, rfl⟩ ⟨Nat.le_of_ble_eq_true rfl, Nat.le_of_ble_eq_true rfl⟩ (em_Tw_S4_10_b G A I1 J b3) hP hD hS (ci := 3) rfl rfl (at_S4_0 G (fun k => A (10 + k)) (I1 6)) rfl hl.1 rfl (Nat.le_of_ble_eq_true rfl) ⟨Nat.zero_le _, Nat.zero_le _⟩ dX5_put_39) (em_Tw_S4_10_b G A I1 J b3) hP hD hS (fun H locs hP hD hS => ?_)
    refine lv_iload (pc := 42) hx hb dX5_put_42 (lv_at hl 0 rfl) ?_
    refine lv_sipush (pc := 44) (v := (1000 : Int32)) hx hb dX5_put_44 (by decide) ?_
    refine lv_iadd (pc := 47) hx hb dX5_put_47 ?_
    cases hf
    exact hret _ _ _ _ dX5_put_48 hP hD hS
  · have hf := br_n h1 hf
    refine lv_iload (pc := 17) hx hb dX5_put_17 (lv_at hl 0 rfl) ?_
    cases hf
    exact hret _ _ _ _ dX5_put_19 hP hD hS
def r_X5_row : Room := { frames := 2, cells := 0, slots := 0, locals := 45 }
set_option maxHeartbeats 4000000 in
set_option maxRecDepth 100000 in
theorem c_X5_row (G : GT) (l : Launch) (A : Nat → Nat) (sz : Nat) (I : Nat → CS) (J : Nat → JS) (x1 : Int32) (x2 : Int32) (r : Int32) (I' : Nat → CS) (hf : f_X5_row I J x1 x2 = some (r, I')) : MTi l yX5_row wsX5_row r_X5_row [.ref (A 0), .int x1, .int x2] G (w_Tw G A I J) (w_Tw G A I' J) sz r := by
  refine MTi.of (cc := cX5_row) (maxL := 3) (by decide +kernel) rfl (Nat.le_of_ble_eq_true rfl) (fun p e s m av below meth cd Q B H locs ls X hret hl hP hD hS => ?_)
  have hx := X.1.1
  have hb := X.1.2.1
  have hl : lv_has ls 3 [(0, .ref (A 0)), (1, .int x1), (2, .int x2)] := hl
  have b_17 : ∀ (I : Nat → CS) (H : Heap) (locs : List Loc) (ls : Array Slot), f_X5_row_17 I J = some (r, I') → va_P G.1 vwCl (w_Tw G A I J) H → va_D B (w_Tw G A I J) → va_S B s.heap H locs → lv_has ls 3 [] → W p l e r_X5_row s m av below meth cd H locs 0 0 Q (F0 m 17 ls []) := by
    intro I H locs ls hf hP hD hS hl
    unfold f_X5_row_17 at hf
    refine lv_iconst (pc := 17) (v := (-1 : Int32)) hx hb dX5_row_17 (by decide) ?_
    cases hf
    exact hret _ _ _ _ dX5_row_18 hP hD hS
  unfold f_X5_row at hf
  refine lv_aload_n (pc := 0) hx hb dX5_row_0 rfl (lv_at hl 0 rfl) ?_
  refine wget (pc := 1) X (fun _ h9 => List.mem_cons_of_mem _ (List.mem_append_left _ (List.mem_append_left _ (List.mem_append_right _ h9)))) hP 0 (at_Tw_0 G A I J) rfl 0 (by decide) (List.mem_cons_of_mem _ (List.mem_append_left _ (List.mem_append_left _ (List.mem_append_left _ (List.mem_of_getElem? (i := 0) rfl))))) rfl (v := .ref (A 1)) rfl dX5_row_1 ?_
  refine lv_iload_n (pc := 4) hx hb dX5_row_4 rfl (lv_at hl 1 rfl) ?_
  obtain ⟨r1, hc1, hf⟩ := ob1_some hf
  refine endi X.2.2.2.2 (runV (pc := 5) (As := [.int x1]) (rest := []) X (c_X3_isNumber_r G l (fun k => A (1 + k)) H.size (I 5) x1 r1 hc1) gX5_row_X3_isNumber k_X3_isNumber ⟨rfl, rfl⟩ ⟨Nat.le_of_ble_eq_true rfl, Nat.le_of_ble_eq_true rfl⟩ (em_Tw_S6_1 G A I J ) hP hD hS (ci := 3) rfl rfl (at_S6_0 G (fun k => A (1 + k)) (I 5)) rfl hl.1 rfl (Nat.le_of_ble_eq_true rfl) ⟨Nat.zero_le _, Nat.zero_le _⟩ dX5_row_5) (em_Tw_S6_1 G A I J ) hP hD hS (fun H locs hP hD hS => ?_)
  refine lv_if_eq (pc := 8) (tgt := 17) hx hb dX5_row_8 (by decide) (fun h3 => ?_) (fun h3 => ?_)
  · have hf := br_y h3 hf
    exact b_17 _ H locs ls hf hP hD hS (lv_sub hl [] rfl)
  · have hf := br_n h3 hf
    refine lv_iload_n (pc := 11) hx hb dX5_row_11 rfl (lv_at hl 2 rfl) ?_
    refine lv_bipush (pc := 12) (v := (40 : Int32)) hx hb dX5_row_12 (by decide) ?_
    refine lv_icmp_le (pc := 14) (tgt := 19) hx hb dX5_row_14 (by decide) (fun h2 => ?_) (fun h2 => ?_)
    · have hf := br_y h2 hf
      refine lv_iload_n (pc := 19) hx hb dX5_row_19 rfl (lv_at hl 2 rfl) ?_
      refine lv_if_ge (pc := 20) (tgt := 32) hx hb dX5_row_20 (by decide) (fun h1 => ?_) (fun h1 => ?_)
      · have hf := br_y h1 hf
        refine lv_aload_n (pc := 32) hx hb dX5_row_32 rfl (lv_at hl 0 rfl) ?_
        refine wget (pc := 33) X (fun _ h9 => List.mem_cons_of_mem _ (List.mem_append_left _ (List.mem_append_left _ (List.mem_append_right _ h9)))) hP 0 (at_Tw_0 G A I J) rfl 0 (by decide) (List.mem_cons_of_mem _ (List.mem_append_left _ (List.mem_append_left _ (List.mem_append_left _ (List.mem_of_getElem? (i := 0) rfl))))) rfl (v := .ref (A 1)) rfl dX5_row_33 ?_
        refine lv_iload_n (pc := 36) hx hb dX5_row_36 rfl (lv_at hl 1 rfl) ?_
        refine lv_iload_n (pc := 37) hx hb dX5_row_37 rfl (lv_at hl 2 rfl) ?_
        refine lv_iconst (pc := 38) (v := (0 : Int32)) hx hb dX5_row_38 (by decide) ?_
        obtain ⟨b2, hc2, hf⟩ := ob1_some hf
        refine endv X.2.2.2.2 (runV (pc := 39) (As := [.int x1, .int x2, .int (0 : Int32)]) (rest := []) X (c_X3_make_r G l (fun k => A (1 + k)) H.size (I 5) x1 x2 (0 : Int32) b2 hc2) gX5_row_X3_make k_X3_make ⟨rfl, rfl⟩ ⟨Nat.le_of_ble_eq_true rfl, Nat.le_of_ble_eq_true rfl⟩ (em_Tw_S6_1_b G A I J b2) hP hD hS (ci := 3) rfl rfl (at_S6_0 G (fun k => A (1 + k)) (I 5)) rfl hl.1 rfl (Nat.le_of_ble_eq_true rfl) ⟨Nat.zero_le _, Nat.zero_le _⟩ dX5_row_39) (em_Tw_S6_1_b G A I J b2) hP hD hS (fun H locs hP hD hS => ?_)
        refine lv_iload_n (pc := 42) hx hb dX5_row_42 rfl (lv_at hl 2 rfl) ?_
        cases hf
        exact hret _ _ _ _ dX5_row_43 hP hD hS
      · have hf := br_n h1 hf
        refine lv_aload_n (pc := 23) hx hb dX5_row_23 rfl (lv_at hl 0 rfl) ?_
        refine wget (pc := 24) X (fun _ h9 => List.mem_cons_of_mem _ (List.mem_append_left _ (List.mem_append_left _ (List.mem_append_right _ h9)))) hP 0 (at_Tw_0 G A I J) rfl 2 (by decide) (List.mem_cons_of_mem _ (List.mem_append_left _ (List.mem_append_left _ (List.mem_append_left _ (List.mem_of_getElem? (i := 1) rfl))))) rfl (v := .ref (A 17)) rfl dX5_row_24 ?_
        refine lv_iconst (pc := 27) (v := (5 : Int32)) hx hb dX5_row_27 (by decide) ?_
        obtain ⟨r3, o3, hc3, hf⟩ := ob2_some hf
        refine endi X.2.2.2.2 (runV (pc := 28) (As := [.int (5 : Int32)]) (rest := []) X (c_X4_found G l (fun k => A (17 + k)) H.size (I 7) (J 0) (5 : Int32) r3 o3 hc3) gX5_row_X4_found k_X4_found ⟨rfl, rfl⟩ ⟨Nat.le_of_ble_eq_true rfl, Nat.le_of_ble_eq_true rfl⟩ (em_Tw_To_17_o G A I J o3) hP hD hS (ci := 4) rfl rfl (at_To_0 G (fun k => A (17 + k)) (I 7) (J 0)) rfl hl.1 rfl (Nat.le_of_ble_eq_true rfl) ⟨Nat.zero_le _, Nat.zero_le _⟩ dX5_row_28) (em_Tw_To_17_o G A I J o3) hP hD hS (fun H locs hP hD hS => ?_)
        cases hf
        exact hret _ _ _ _ dX5_row_31 hP hD hS
    · have hf := br_n h2 hf
      exact b_17 _ H locs ls hf hP hD hS (lv_sub hl [] rfl)
def r_X5_since : Room := { frames := 4, cells := 0, slots := 0, locals := 101 }
set_option maxHeartbeats 4000000 in
set_option maxRecDepth 100000 in
theorem c_X5_since (G : GT) (l : Launch) (A : Nat → Nat) (sz : Nat) (I : Nat → CS) (J : Nat → JS) (x1 : Int32) (x2 : Int32) (x3 : Int32) (r : Int32) (I' : Nat → CS) (hf : f_X5_since I J x1 x2 x3 = some (r, I')) : MTi l yX5_since wsX5_since r_X5_since [.ref (A 0), .int x1, .int x2, .int x3] G (w_Tw G A I J) (w_Tw G A I' J) sz r := by
  refine MTi.of (cc := cX5_since) (maxL := 7) (by decide +kernel) rfl (Nat.le_of_ble_eq_true rfl) (fun p e s m av below meth cd Q B H locs ls X hret hl hP hD hS => ?_)
  have hx := X.1.1
  have hb := X.1.2.1
  have hl : lv_has ls 7 [(0, .ref (A 0)), (1, .int x1), (2, .int x2), (3, .int x3)] := hl
  have b_19 : ∀ (I : Nat → CS) (H : Heap) (locs : List Loc) (ls : Array Slot), f_X5_since_19 I J = some (r, I') → va_P G.1 vwCl (w_Tw G A I J) H → va_D B (w_Tw G A I J) → va_S B s.heap H locs → lv_has ls 7 [] → W p l e r_X5_since s m av below meth cd H locs 0 0 Q (F0 m 19 ls []) := by
    intro I H locs ls hf hP hD hS hl
    unfold f_X5_since_19 at hf
    refine lv_iconst (pc := 19) (v := (-1 : Int32)) hx hb dX5_since_19 (by decide) ?_
    cases hf
    exact hret _ _ _ _ dX5_since_20 hP hD hS
  have b_97 : ∀ (x4 : Int32) (I : Nat → CS) (H : Heap) (locs : List Loc) (ls : Array Slot), f_X5_since_97 x4 I J = some (r, I') → va_P G.1 vwCl (w_Tw G A I J) H → va_D B (w_Tw G A I J) → va_S B s.heap H locs → lv_has ls 7 [(4, .int x4)] → W p l e r_X5_since s m av below meth cd H locs 0 0 Q (F0 m 97 ls []) := by
    intro x4 I H locs ls hf hP hD hS hl
    unfold f_X5_since_97 at hf
    refine lv_iload (pc := 97) hx hb dX5_since_97 (lv_at hl 0 rfl) ?_
    cases hf
    exact hret _ _ _ _ dX5_since_99 hP hD hS
  have l_31 : ∀ (n31 : Nat), ∀ (x1 : Int32) (x2 : Int32) (x3 : Int32) (x4 : Int32) (x5 : Int32) (x6 : Int32) (I : Nat → CS) (H : Heap) (locs : List Loc) (ls : Array Slot), f_X5_since_31 n31 x1 x2 x3 x4 x5 x6 I J = some (r, I') → va_P G.1 vwCl (w_Tw G A I J) H → va_D B (w_Tw G A I J) → va_S B s.heap H locs → lv_has ls 7 [(0, .ref (A 0)), (1, .int x1), (2, .int x2), (3, .int x3), (4, .int x4), (5, .int x5), (6, .int x6)] → W p l e r_X5_since s m av below meth cd H locs 0 0 Q (F0 m 31 ls []) := by
    intro n31
    induction n31 with
    | zero =>
      intro x1 x2 x3 x4 x5 x6 I H locs ls hf hP hD hS hl
      rw [f_X5_since_31] at hf
      cases hf
    | succ n31 ih31 =>
      have b_77 : ∀ (x1 : Int32) (x2 : Int32) (x3 : Int32) (x4 : Int32) (x5 : Int32) (x6 : Int32) (I : Nat → CS) (H : Heap) (locs : List Loc) (ls : Array Slot), f_X5_since_77 (f_X5_since_31 n31) x1 x2 x3 x4 x5 x6 I J = some (r, I') → va_P G.1 vwCl (w_Tw G A I J) H → va_D B (w_Tw G A I J) → va_S B s.heap H locs → lv_has ls 7 [(0, .ref (A 0)), (1, .int x1), (2, .int x2), (3, .int x3), (4, .int x4), (5, .int x5), (6, .int x6)] → W p l e r_X5_since s m av below meth cd H locs 0 0 Q (F0 m 77 ls []) := by
        intro x1 x2 x3 x4 x5 x6 I H locs ls hf hP hD hS hl
        unfold f_X5_since_77 at hf
        refine lv_iinc (pc := 77) (v := (x6 + (1 : Int32))) (lv' := [(6, .int (x6 + (1 : Int32))), (0, .ref (A 0)), (1, .int x1), (2, .int x2), (3, .int x3), (4, .int x4), (5, .int x5)]) hx hb dX5_since_77 hl (k := 6) rfl rfl (by decide) rfl (fun ls hl => ?_)
        refine lv_goto (pc := 80) (tgt := 31) hx hb dX5_since_80 (by decide) ?_
        exact ih31 _ _ _ _ _ _ _ H locs ls hf hP hD hS (lv_sub hl [1, 2, 3, 4, 5, 6, 0] rfl)
      have b_72 : ∀ (x1 : Int32) (x2 : Int32) (x3 : Int32) (x5 : Int32) (x6 : Int32) (t0 : Int32) (I : Nat → CS) (H : Heap) (locs : List Loc) (ls : Array Slot), f_X5_since_72 (f_X5_since_31 n31) x1 x2 x3 x5 x6 t0 I J = some (r, I') → va_P G.1 vwCl (w_Tw G A I J) H → va_D B (w_Tw G A I J) → va_S B s.heap H locs → lv_has ls 7 [(0, .ref (A 0)), (1, .int x1), (2, .int x2), (3, .int x3), (5, .int x5), (6, .int x6)] → W p l e r_X5_since s m av below meth cd H locs 0 0 Q (F0 m 72 ls [.int t0]) := by
        intro x1 x2 x3 x5 x6 t0 I H locs ls hf hP hD hS hl
        unfold f_X5_since_72 at hf
        refine lv_istore (pc := 72) (lv' := [(4, .int t0), (0, .ref (A 0)), (1, .int x1), (2, .int x2), (3, .int x3), (5, .int x5), (6, .int x6)]) hx hb dX5_since_72 hl (by decide) rfl (fun ls hl => ?_)
        refine lv_iinc (pc := 74) (v := (x5 + (1 : Int32))) (lv' := [(5, .int (x5 + (1 : Int32))), (4, .int t0), (0, .ref (A 0)), (1, .int x1), (2, .int x2), (3, .int x3), (6, .int x6)]) hx hb dX5_since_74 hl (k := 5) rfl rfl (by decide) rfl (fun ls hl => ?_)
        exact b_77 _ _ _ _ _ _ _ H locs ls hf hP hD hS (lv_sub hl [2, 3, 4, 5, 1, 0, 6] rfl)
      intro x1 x2 x3 x4 x5 x6 I H locs ls hf hP hD hS hl
      rw [f_X5_since_31] at hf
      refine lv_iload (pc := 31) hx hb dX5_since_31 (lv_at hl 6 rfl) ?_
      refine lv_bipush (pc := 33) (v := (20 : Int32)) hx hb dX5_since_33 (by decide) ?_
      refine lv_icmp_ge (pc := 35) (tgt := 83) hx hb dX5_since_35 (by decide) (fun h4 => ?_) (fun h4 => ?_)
      · have hf := br_y h4 hf
        refine lv_iload (pc := 83) hx hb dX5_since_83 (lv_at hl 5 rfl) ?_
        refine lv_if_le (pc := 85) (tgt := 97) hx hb dX5_since_85 (by decide) (fun h1 => ?_) (fun h1 => ?_)
        · have hf := br_y h1 hf
          exact b_97 _ _ H locs ls hf hP hD hS (lv_sub hl [4] rfl)
        · have hf := br_n h1 hf
          refine lv_aload_n (pc := 88) hx hb dX5_since_88 rfl (lv_at hl 0 rfl) ?_
          refine wget (pc := 89) X (fun _ h9 => List.mem_cons_of_mem _ (List.mem_append_left _ (List.mem_append_left _ (List.mem_append_right _ h9)))) hP 0 (at_Tw_0 G A I J) rfl 2 (by decide) (List.mem_cons_of_mem _ (List.mem_append_left _ (List.mem_append_left _ (List.mem_append_left _ (List.mem_append_left _ (List.mem_of_getElem? (i := 1) rfl)))))) rfl (v := .ref (A 17)) rfl dX5_since_89 ?_
          refine lv_iload (pc := 92) hx hb dX5_since_92 (lv_at hl 5 rfl) ?_
          refine wputN (pc := 94) X (fun _ h9 => List.mem_cons_of_mem _ (List.mem_append_left _ (List.mem_append_right _ h9))) tyX4 tyX4_ok nmX4 hP hD hS 17 (at_Tw_17 G A I J) rfl 0 (by decide) (List.mem_of_getElem? (i := 0) rfl) rfl rfl (ty := .int) (v := .int x5) rfl rfl rfl (Nat.le_of_ble_eq_true rfl) (st_Tw_17_0 G A I J x5) dX5_since_94 (fun H locs hP hD hS => ?_)
          exact b_97 _ _ H locs ls hf hP hD hS (lv_sub hl [4] rfl)
      · have hf := br_n h4 hf
        refine lv_aload_n (pc := 38) hx hb dX5_since_38 rfl (lv_at hl 0 rfl) ?_
        refine wget (pc := 39) X (fun _ h9 => List.mem_cons_of_mem _ (List.mem_append_left _ (List.mem_append_left _ (List.mem_append_right _ h9)))) hP 0 (at_Tw_0 G A I J) rfl 5 (by decide) (List.mem_cons_of_mem _ (List.mem_append_left _ (List.mem_append_left _ (List.mem_append_left _ (List.mem_append_left _ (List.mem_of_getElem? (i := 0) rfl)))))) rfl (v := .ref (A 31)) rfl dX5_since_39 ?_
        refine lv_iload_n (pc := 42) hx hb dX5_since_42 rfl (lv_at hl 1 rfl) ?_
        refine lv_iload_n (pc := 43) hx hb dX5_since_43 rfl (lv_at hl 2 rfl) ?_
        refine lv_iload (pc := 44) hx hb dX5_since_44 (lv_at hl 6 rfl) ?_
        refine lv_iload_n (pc := 46) hx hb dX5_since_46 rfl (lv_at hl 3 rfl) ?_
        refine lv_aload_n (pc := 47) hx hb dX5_since_47 rfl (lv_at hl 0 rfl) ?_
        refine wget (pc := 48) X (fun _ h9 => List.mem_cons_of_mem _ (List.mem_append_left _ (List.mem_append_left _ (List.mem_append_right _ h9)))) hP 0 (at_Tw_0 G A I J) rfl 5 (by decide) (List.mem_cons_of_mem _ (List.mem_append_left _ (List.mem_append_left _ (List.mem_append_left _ (List.mem_append_left _ (List.mem_of_getElem? (i := 0) rfl)))))) rfl (v := .ref (A 31)) rfl dX5_since_48 ?_
        obtain ⟨r1, hc1, hf⟩ := ob1_some hf
        refine endi X.2.2.2.2 (runV (pc := 51) (As := []) (rest := [.int x3, .int x6, .int x2, .int x1, .ref (A 31)]) X (c_X0_unmended G l (fun k => A (31 + k)) H.size (I 0) r1 hc1) gX5_since_X0_unmended k_X0_unmended ⟨rfl, rfl⟩ ⟨Nat.le_of_ble_eq_true rfl, Nat.le_of_ble_eq_true rfl⟩ (em_Tw_Ch_31 G A I J ) hP hD hS (ci := 0) rfl rfl (at_Ch_0 G (fun k => A (31 + k)) (I 0)) rfl hl.1 rfl (Nat.le_of_ble_eq_true rfl) ⟨Nat.zero_le _, Nat.zero_le _⟩ dX5_since_51) (em_Tw_Ch_31 G A I J ) hP hD hS (fun H locs hP hD hS => ?_)
        obtain ⟨r2, c2, hc2, hf⟩ := ob2_some hf
        refine endi X.2.2.2.2 (runV (pc := 54) (As := [.int x1, .int x2, .int x6, .int x3, .int r1]) (rest := []) X (c_X0_differs G l (fun k => A (31 + k)) H.size (I 0) x1 x2 x6 x3 r1 r2 c2 hc2) gX5_since_X0_differs k_X0_differs ⟨rfl, rfl⟩ ⟨Nat.le_of_ble_eq_true rfl, Nat.le_of_ble_eq_true rfl⟩ (em_Tw_Ch_31_c G A I J c2) hP hD hS (ci := 0) rfl rfl (at_Ch_0 G (fun k => A (31 + k)) (I 0)) rfl hl.1 rfl (Nat.le_of_ble_eq_true rfl) ⟨Nat.zero_le _, Nat.zero_le _⟩ dX5_since_54) (em_Tw_Ch_31_c G A I J c2) hP hD hS (fun H locs hP hD hS => ?_)
        refine lv_if_eq (pc := 57) (tgt := 77) hx hb dX5_since_57 (by decide) (fun h3 => ?_) (fun h3 => ?_)
        · have hf := br_y h3 hf
          exact b_77 _ _ _ _ _ _ _ H locs ls hf hP hD hS (lv_sub hl [0, 1, 2, 3, 4, 5, 6] rfl)
        · have hf := br_n h3 hf
          refine lv_iload (pc := 60) hx hb dX5_since_60 (lv_at hl 5 rfl) ?_
          refine lv_if_ne (pc := 62) (tgt := 70) hx hb dX5_since_62 (by decide) (fun h2 => ?_) (fun h2 => ?_)
          · have hf := br_n h2 hf
            refine lv_iload (pc := 70) hx hb dX5_since_70 (lv_at hl 4 rfl) ?_
            exact b_72 _ _ _ _ _ _ _ H locs ls hf hP hD hS (lv_sub hl [0, 1, 2, 3, 5, 6] rfl)
          · have hf := br_y h2 hf
            refine lv_iload (pc := 65) hx hb dX5_since_65 (lv_at hl 6 rfl) ?_
            refine lv_goto (pc := 67) (tgt := 72) hx hb dX5_since_67 (by decide) ?_
            exact b_72 _ _ _ _ _ _ _ H locs ls hf hP hD hS (lv_sub hl [0, 1, 2, 3, 5, 6] rfl)
  unfold f_X5_since at hf
  refine lv_iload_n (pc := 0) hx hb dX5_since_0 rfl (lv_at hl 1 rfl) ?_
  refine lv_iload_n (pc := 1) hx hb dX5_since_1 rfl (lv_at hl 2 rfl) ?_
  obtain ⟨r1, hc1, hf⟩ := ob1_some hf
  refine endi X.2.2.2.2 (runS (pc := 2) (As := [.int x1, .int x2]) (rest := []) X (c_X5_arePair G l  H.size x1 x2 r1 hc1) gX5_since_X5_arePair k_X5_arePair ⟨rfl, rfl⟩ ⟨Nat.le_of_ble_eq_true rfl, Nat.le_of_ble_eq_true rfl⟩ (EM.nil (w_Tw G A I J)) hP hD hS rfl hl.1 rfl (Nat.le_of_ble_eq_true rfl) ⟨Nat.zero_le _, Nat.zero_le _⟩ dX5_since_2) (EM.nil (w_Tw G A I J)) hP hD hS (fun H locs hP hD hS => ?_)
  refine lv_if_eq (pc := 5) (tgt := 19) hx hb dX5_since_5 (by decide) (fun h6 => ?_) (fun h6 => ?_)
  · have hf := br_y h6 hf
    exact b_19 _ H locs ls hf hP hD hS (lv_sub hl [] rfl)
  · have hf := br_n h6 hf
    refine lv_aload_n (pc := 8) hx hb dX5_since_8 rfl (lv_at hl 0 rfl) ?_
    refine wget (pc := 9) X (fun _ h9 => List.mem_cons_of_mem _ (List.mem_append_left _ (List.mem_append_left _ (List.mem_append_right _ h9)))) hP 0 (at_Tw_0 G A I J) rfl 5 (by decide) (List.mem_cons_of_mem _ (List.mem_append_left _ (List.mem_append_left _ (List.mem_append_left _ (List.mem_append_left _ (List.mem_of_getElem? (i := 0) rfl)))))) rfl (v := .ref (A 31)) rfl dX5_since_9 ?_
    refine lv_iload_n (pc := 12) hx hb dX5_since_12 rfl (lv_at hl 3 rfl) ?_
    obtain ⟨r2, hc2, hf⟩ := ob1_some hf
    refine endi X.2.2.2.2 (runV (pc := 13) (As := [.int x3]) (rest := []) X (c_X0_isPerson G l (fun k => A (31 + k)) H.size (I 0) x3 r2 hc2) gX5_since_X0_isPerson k_X0_isPerson ⟨rfl, rfl⟩ ⟨Nat.le_of_ble_eq_true rfl, Nat.le_of_ble_eq_true rfl⟩ (em_Tw_Ch_31 G A I J ) hP hD hS (ci := 0) rfl rfl (at_Ch_0 G (fun k => A (31 + k)) (I 0)) rfl hl.1 rfl (Nat.le_of_ble_eq_true rfl) ⟨Nat.zero_le _, Nat.zero_le _⟩ dX5_since_13) (em_Tw_Ch_31 G A I J ) hP hD hS (fun H locs hP hD hS => ?_)
    refine lv_if_ne (pc := 16) (tgt := 21) hx hb dX5_since_16 (by decide) (fun h5 => ?_) (fun h5 => ?_)
    · have hf := br_n h5 hf
      refine lv_bipush (pc := 21) (v := (-9 : Int32)) hx hb dX5_since_21 (by decide) ?_
      refine lv_istore (pc := 23) (lv' := [(4, .int (-9 : Int32)), (0, .ref (A 0)), (1, .int x1), (2, .int x2), (3, .int x3)]) hx hb dX5_since_23 hl (by decide) rfl (fun ls hl => ?_)
      refine lv_iconst (pc := 25) (v := (0 : Int32)) hx hb dX5_since_25 (by decide) ?_
      refine lv_istore (pc := 26) (lv' := [(5, .int (0 : Int32)), (4, .int (-9 : Int32)), (0, .ref (A 0)), (1, .int x1), (2, .int x2), (3, .int x3)]) hx hb dX5_since_26 hl (by decide) rfl (fun ls hl => ?_)
      refine lv_iload_n (pc := 28) hx hb dX5_since_28 rfl (lv_at hl 4 rfl) ?_
      refine lv_istore (pc := 29) (lv' := [(6, .int x2), (5, .int (0 : Int32)), (4, .int (-9 : Int32)), (0, .ref (A 0)), (1, .int x1), (2, .int x2), (3, .int x3)]) hx hb dX5_since_29 hl (by decide) rfl (fun ls hl => ?_)
      exact l_31 FU _ _ _ _ _ _ _ H locs ls hf hP hD hS (lv_sub hl [3, 4, 5, 6, 2, 1, 0] rfl)
    · have hf := br_y h5 hf
      exact b_19 _ H locs ls hf hP hD hS (lv_sub hl [] rfl)
def r_X5_source : Room := { frames := 4, cells := 0, slots := 0, locals := 99 }
set_option maxHeartbeats 4000000 in
set_option maxRecDepth 100000 in
theorem c_X5_source (G : GT) (l : Launch) (A : Nat → Nat) (sz : Nat) (I : Nat → CS) (J : Nat → JS) (x1 : Int32) (x2 : Int32) (x3 : Int32) (r : Int32) (I' : Nat → CS) (hf : f_X5_source I J x1 x2 x3 = some (r, I')) : MTi l yX5_source wsX5_source r_X5_source [.ref (A 0), .int x1, .int x2, .int x3] G (w_Tw G A I J) (w_Tw G A I' J) sz r := by
  refine MTi.of (cc := cX5_source) (maxL := 9) (by decide +kernel) rfl (Nat.le_of_ble_eq_true rfl) (fun p e s m av below meth cd Q B H locs ls X hret hl hP hD hS => ?_)
  have hx := X.1.1
  have hb := X.1.2.1
  have hl : lv_has ls 9 [(0, .ref (A 0)), (1, .int x1), (2, .int x2), (3, .int x3)] := hl
  have b_30 : ∀ (I : Nat → CS) (H : Heap) (locs : List Loc) (ls : Array Slot), f_X5_source_30 I J = some (r, I') → va_P G.1 vwCl (w_Tw G A I J) H → va_D B (w_Tw G A I J) → va_S B s.heap H locs → lv_has ls 9 [] → W p l e r_X5_source s m av below meth cd H locs 0 0 Q (F0 m 30 ls []) := by
    intro I H locs ls hf hP hD hS hl
    unfold f_X5_source_30 at hf
    refine lv_iconst (pc := 30) (v := (-1 : Int32)) hx hb dX5_source_30 (by decide) ?_
    cases hf
    exact hret _ _ _ _ dX5_source_31 hP hD hS
  have l_59 : ∀ (n59 : Nat), ∀ (x1 : Int32) (x2 : Int32) (x3 : Int32) (x4 : Int32) (x5 : Int32) (x6 : Int32) (x7 : Int32) (I : Nat → CS) (H : Heap) (locs : List Loc) (ls : Array Slot), f_X5_source_59 n59 x1 x2 x3 x4 x5 x6 x7 I J = some (r, I') → va_P G.1 vwCl (w_Tw G A I J) H → va_D B (w_Tw G A I J) → va_S B s.heap H locs → lv_has ls 9 [(0, .ref (A 0)), (1, .int x1), (2, .int x2), (3, .int x3), (4, .int x4), (5, .int x5), (6, .int x6), (7, .int x7)] → W p l e r_X5_source s m av below meth cd H locs 0 0 Q (F0 m 59 ls []) := by
    intro n59
    induction n59 with
    | zero =>
      intro x1 x2 x3 x4 x5 x6 x7 I H locs ls hf hP hD hS hl
      rw [f_X5_source_59] at hf
      cases hf
    | succ n59 ih59 =>
      have b_114 : ∀ (x1 : Int32) (x2 : Int32) (x3 : Int32) (x4 : Int32) (x5 : Int32) (x6 : Int32) (x7 : Int32) (I : Nat → CS) (H : Heap) (locs : List Loc) (ls : Array Slot), f_X5_source_114 (f_X5_source_59 n59) x1 x2 x3 x4 x5 x6 x7 I J = some (r, I') → va_P G.1 vwCl (w_Tw G A I J) H → va_D B (w_Tw G A I J) → va_S B s.heap H locs → lv_has ls 9 [(0, .ref (A 0)), (1, .int x1), (2, .int x2), (3, .int x3), (4, .int x4), (5, .int x5), (6, .int x6), (7, .int x7)] → W p l e r_X5_source s m av below meth cd H locs 0 0 Q (F0 m 114 ls []) := by
        intro x1 x2 x3 x4 x5 x6 x7 I H locs ls hf hP hD hS hl
        unfold f_X5_source_114 at hf
        refine lv_iinc (pc := 114) (v := (x7 + (1 : Int32))) (lv' := [(7, .int (x7 + (1 : Int32))), (0, .ref (A 0)), (1, .int x1), (2, .int x2), (3, .int x3), (4, .int x4), (5, .int x5), (6, .int x6)]) hx hb dX5_source_114 hl (k := 7) rfl rfl (by decide) rfl (fun ls hl => ?_)
        refine lv_goto (pc := 117) (tgt := 59) hx hb dX5_source_117 (by decide) ?_
        exact ih59 _ _ _ _ _ _ _ _ H locs ls hf hP hD hS (lv_sub hl [1, 2, 3, 4, 5, 6, 7, 0] rfl)
      intro x1 x2 x3 x4 x5 x6 x7 I H locs ls hf hP hD hS hl
      rw [f_X5_source_59] at hf
      refine lv_iload (pc := 59) hx hb dX5_source_59 (lv_at hl 7 rfl) ?_
      refine lv_aload_n (pc := 61) hx hb dX5_source_61 rfl (lv_at hl 0 rfl) ?_
      refine wget (pc := 62) X (fun _ h9 => List.mem_cons_of_mem _ (List.mem_append_left _ (List.mem_append_right _ h9))) hP 0 (at_Tw_0 G A I J) rfl 5 (by decide) (List.mem_cons_of_mem _ (List.mem_append_left _ (List.mem_append_left _ (List.mem_append_left _ (List.mem_of_getElem? (i := 0) rfl))))) rfl (v := .ref (A 31)) rfl dX5_source_62 ?_
      refine wgetN (pc := 65) X (fun _ h9 => List.mem_cons_of_mem _ (List.mem_append_right _ h9)) hP 31 (at_Tw_31 G A I J) rfl 1 (by decide) (List.mem_of_getElem? (i := 8) rfl) rfl (v := .int ((I 0) 1 0)) rfl dX5_source_65 ?_
      refine lv_icmp_ge (pc := 68) (tgt := 120) hx hb dX5_source_68 (by decide) (fun h3 => ?_) (fun h3 => ?_)
      · have hf := br_y h3 hf
        refine lv_iload (pc := 120) hx hb dX5_source_120 (lv_at hl 6 rfl) ?_
        cases hf
        exact hret _ _ _ _ dX5_source_122 hP hD hS
      · have hf := br_n h3 hf
        refine lv_iconst (pc := 71) (v := (1 : Int32)) hx hb dX5_source_71 (by decide) ?_
        refine lv_iload (pc := 72) hx hb dX5_source_72 (lv_at hl 7 rfl) ?_
        refine lv_ishl (pc := 74) hx hb dX5_source_74 ?_
        refine lv_istore (pc := 75) (lv' := [(8, .int ((1 : Int32) <<< (x7 &&& 31))), (0, .ref (A 0)), (1, .int x1), (2, .int x2), (3, .int x3), (4, .int x4), (5, .int x5), (6, .int x6), (7, .int x7)]) hx hb dX5_source_75 hl (by decide) rfl (fun ls hl => ?_)
        refine lv_iload (pc := 77) hx hb dX5_source_77 (lv_at hl 5 rfl) ?_
        refine lv_iload (pc := 79) hx hb dX5_source_79 (lv_at hl 0 rfl) ?_
        refine lv_iand (pc := 81) hx hb dX5_source_81 ?_
        refine lv_if_eq (pc := 82) (tgt := 114) hx hb dX5_source_82 (by decide) (fun h2 => ?_) (fun h2 => ?_)
        · have hf := br_y h2 hf
          exact b_114 _ _ _ _ _ _ _ _ H locs ls hf hP hD hS (lv_sub hl [1, 2, 3, 4, 5, 6, 7, 8] rfl)
        · have hf := br_n h2 hf
          refine lv_aload_n (pc := 85) hx hb dX5_source_85 rfl (lv_at hl 1 rfl) ?_
          refine wget (pc := 86) X (fun _ h9 => List.mem_cons_of_mem _ (List.mem_append_left _ (List.mem_append_right _ h9))) hP 0 (at_Tw_0 G A I J) rfl 5 (by decide) (List.mem_cons_of_mem _ (List.mem_append_left _ (List.mem_append_left _ (List.mem_append_left _ (List.mem_of_getElem? (i := 0) rfl))))) rfl (v := .ref (A 31)) rfl dX5_source_86 ?_
          refine lv_iload_n (pc := 89) hx hb dX5_source_89 rfl (lv_at hl 2 rfl) ?_
          refine lv_iload_n (pc := 90) hx hb dX5_source_90 rfl (lv_at hl 3 rfl) ?_
          refine lv_iload_n (pc := 91) hx hb dX5_source_91 rfl (lv_at hl 4 rfl) ?_
          refine lv_iload (pc := 92) hx hb dX5_source_92 (lv_at hl 5 rfl) ?_
          refine lv_iload (pc := 94) hx hb dX5_source_94 (lv_at hl 0 rfl) ?_
          refine lv_iconst (pc := 96) (v := (-1 : Int32)) hx hb dX5_source_96 (by decide) ?_
          refine lv_ixor (pc := 97) hx hb dX5_source_97 ?_
          refine lv_iand (pc := 98) hx hb dX5_source_98 ?_
          obtain ⟨r1, c1, hc1, hf⟩ := ob2_some hf
          refine endi X.2.2.2.2 (runV (pc := 99) (As := [.int x1, .int x2, .int x3, .int (x4 &&& (((1 : Int32) <<< (x7 &&& 31)) ^^^ (-1 : Int32)))]) (rest := []) X (c_X0_doneIf G l (fun k => A (31 + k)) H.size (I 0) x1 x2 x3 (x4 &&& (((1 : Int32) <<< (x7 &&& 31)) ^^^ (-1 : Int32))) r1 c1 hc1) gX5_source_X0_doneIf k_X0_doneIf ⟨rfl, rfl⟩ ⟨Nat.le_of_ble_eq_true rfl, Nat.le_of_ble_eq_true rfl⟩ (em_Tw_Ch_31_c G A I J c1) hP hD hS (ci := 0) rfl rfl (at_Ch_0 G (fun k => A (31 + k)) (I 0)) rfl hl.1 rfl (Nat.le_of_ble_eq_true rfl) ⟨Nat.zero_le _, Nat.zero_le _⟩ dX5_source_99) (em_Tw_Ch_31_c G A I J c1) hP hD hS (fun H locs hP hD hS => ?_)
          refine lv_iload (pc := 102) hx hb dX5_source_102 (lv_at hl 6 rfl) ?_
          refine lv_icmp_eq (pc := 104) (tgt := 114) hx hb dX5_source_104 (by decide) (fun h1 => ?_) (fun h1 => ?_)
          · have hf := br_y h1 hf
            exact b_114 _ _ _ _ _ _ _ _ H locs ls hf hP hD hS (lv_sub hl [1, 2, 3, 4, 5, 6, 7, 8] rfl)
          · have hf := br_n h1 hf
            refine lv_iload (pc := 107) hx hb dX5_source_107 (lv_at hl 7 rfl) ?_
            refine lv_iload (pc := 109) hx hb dX5_source_109 (lv_at hl 0 rfl) ?_
            refine lv_ior (pc := 111) hx hb dX5_source_111 ?_
            refine lv_istore (pc := 112) (lv' := [(6, .int (x6 ||| ((1 : Int32) <<< (x7 &&& 31)))), (8, .int ((1 : Int32) <<< (x7 &&& 31))), (0, .ref (A 0)), (1, .int x1), (2, .int x2), (3, .int x3), (4, .int x4), (5, .int x5), (7, .int x7)]) hx hb dX5_source_112 hl (by decide) rfl (fun ls hl => ?_)
            exact b_114 _ _ _ _ _ _ _ _ H locs ls hf hP hD hS (lv_sub hl [2, 3, 4, 5, 6, 7, 0, 8] rfl)
  unfold f_X5_source at hf
  refine lv_iload_n (pc := 0) hx hb dX5_source_0 rfl (lv_at hl 1 rfl) ?_
  obtain ⟨r1, hc1, hf⟩ := ob1_some hf
  refine endi X.2.2.2.2 (runS (pc := 1) (As := [.int x1]) (rest := []) X (c_X5_isTown G l  H.size x1 r1 hc1) gX5_source_X5_isTown k_X5_isTown ⟨rfl, rfl⟩ ⟨Nat.le_of_ble_eq_true rfl, Nat.le_of_ble_eq_true rfl⟩ (EM.nil (w_Tw G A I J)) hP hD hS rfl hl.1 rfl (Nat.le_of_ble_eq_true rfl) ⟨Nat.zero_le _, Nat.zero_le _⟩ dX5_source_1) (EM.nil (w_Tw G A I J)) hP hD hS (fun H locs hP hD hS => ?_)
  refine lv_if_eq (pc := 4) (tgt := 30) hx hb dX5_source_4 (by decide) (fun h7 => ?_) (fun h7 => ?_)
  · have hf := br_y h7 hf
    exact b_30 _ H locs ls hf hP hD hS (lv_sub hl [] rfl)
  · have hf := br_n h7 hf
    refine lv_iload_n (pc := 7) hx hb dX5_source_7 rfl (lv_at hl 2 rfl) ?_
    obtain ⟨r2, hc2, hf⟩ := ob1_some hf
    refine endi X.2.2.2.2 (runS (pc := 8) (As := [.int x2]) (rest := []) X (c_X5_isDay G l  H.size x2 r2 hc2) gX5_source_X5_isDay k_X5_isDay ⟨rfl, rfl⟩ ⟨Nat.le_of_ble_eq_true rfl, Nat.le_of_ble_eq_true rfl⟩ (EM.nil (w_Tw G A I J)) hP hD hS rfl hl.1 rfl (Nat.le_of_ble_eq_true rfl) ⟨Nat.zero_le _, Nat.zero_le _⟩ dX5_source_8) (EM.nil (w_Tw G A I J)) hP hD hS (fun H locs hP hD hS => ?_)
    refine lv_if_eq (pc := 11) (tgt := 30) hx hb dX5_source_11 (by decide) (fun h6 => ?_) (fun h6 => ?_)
    · have hf := br_y h6 hf
      exact b_30 _ H locs ls hf hP hD hS (lv_sub hl [] rfl)
    · have hf := br_n h6 hf
      refine lv_iload_n (pc := 14) hx hb dX5_source_14 rfl (lv_at hl 2 rfl) ?_
      refine lv_iload_n (pc := 15) hx hb dX5_source_15 rfl (lv_at hl 1 rfl) ?_
      refine lv_icmp_lt (pc := 16) (tgt := 30) hx hb dX5_source_16 (by decide) (fun h5 => ?_) (fun h5 => ?_)
      · have hf := br_y h5 hf
        exact b_30 _ H locs ls hf hP hD hS (lv_sub hl [] rfl)
      · have hf := br_n h5 hf
        refine lv_aload_n (pc := 19) hx hb dX5_source_19 rfl (lv_at hl 0 rfl) ?_
        refine wget (pc := 20) X (fun _ h9 => List.mem_cons_of_mem _ (List.mem_append_left _ (List.mem_append_right _ h9))) hP 0 (at_Tw_0 G A I J) rfl 5 (by decide) (List.mem_cons_of_mem _ (List.mem_append_left _ (List.mem_append_left _ (List.mem_append_left _ (List.mem_of_getElem? (i := 0) rfl))))) rfl (v := .ref (A 31)) rfl dX5_source_20 ?_
        refine lv_iload_n (pc := 23) hx hb dX5_source_23 rfl (lv_at hl 3 rfl) ?_
        obtain ⟨r3, hc3, hf⟩ := ob1_some hf
        refine endi X.2.2.2.2 (runV (pc := 24) (As := [.int x3]) (rest := []) X (c_X0_isPerson G l (fun k => A (31 + k)) H.size (I 0) x3 r3 hc3) gX5_source_X0_isPerson k_X0_isPerson ⟨rfl, rfl⟩ ⟨Nat.le_of_ble_eq_true rfl, Nat.le_of_ble_eq_true rfl⟩ (em_Tw_Ch_31 G A I J ) hP hD hS (ci := 0) rfl rfl (at_Ch_0 G (fun k => A (31 + k)) (I 0)) rfl hl.1 rfl (Nat.le_of_ble_eq_true rfl) ⟨Nat.zero_le _, Nat.zero_le _⟩ dX5_source_24) (em_Tw_Ch_31 G A I J ) hP hD hS (fun H locs hP hD hS => ?_)
        refine lv_if_ne (pc := 27) (tgt := 32) hx hb dX5_source_27 (by decide) (fun h4 => ?_) (fun h4 => ?_)
        · have hf := br_n h4 hf
          refine lv_aload_n (pc := 32) hx hb dX5_source_32 rfl (lv_at hl 0 rfl) ?_
          refine wget (pc := 33) X (fun _ h9 => List.mem_cons_of_mem _ (List.mem_append_left _ (List.mem_append_right _ h9))) hP 0 (at_Tw_0 G A I J) rfl 5 (by decide) (List.mem_cons_of_mem _ (List.mem_append_left _ (List.mem_append_left _ (List.mem_append_left _ (List.mem_of_getElem? (i := 0) rfl))))) rfl (v := .ref (A 31)) rfl dX5_source_33 ?_
          obtain ⟨r4, hc4, hf⟩ := ob1_some hf
          refine endi X.2.2.2.2 (runV (pc := 36) (As := []) (rest := []) X (c_X0_unmended G l (fun k => A (31 + k)) H.size (I 0) r4 hc4) gX5_source_X0_unmended k_X0_unmended ⟨rfl, rfl⟩ ⟨Nat.le_of_ble_eq_true rfl, Nat.le_of_ble_eq_true rfl⟩ (em_Tw_Ch_31 G A I J ) hP hD hS (ci := 0) rfl rfl (at_Ch_0 G (fun k => A (31 + k)) (I 0)) rfl hl.1 rfl (Nat.le_of_ble_eq_true rfl) ⟨Nat.zero_le _, Nat.zero_le _⟩ dX5_source_36) (em_Tw_Ch_31 G A I J ) hP hD hS (fun H locs hP hD hS => ?_)
          refine lv_istore (pc := 39) (lv' := [(4, .int r4), (0, .ref (A 0)), (1, .int x1), (2, .int x2), (3, .int x3)]) hx hb dX5_source_39 hl (by decide) rfl (fun ls hl => ?_)
          refine lv_aload_n (pc := 41) hx hb dX5_source_41 rfl (lv_at hl 1 rfl) ?_
          refine wget (pc := 42) X (fun _ h9 => List.mem_cons_of_mem _ (List.mem_append_left _ (List.mem_append_right _ h9))) hP 0 (at_Tw_0 G A I J) rfl 5 (by decide) (List.mem_cons_of_mem _ (List.mem_append_left _ (List.mem_append_left _ (List.mem_append_left _ (List.mem_of_getElem? (i := 0) rfl))))) rfl (v := .ref (A 31)) rfl dX5_source_42 ?_
          refine lv_iload_n (pc := 45) hx hb dX5_source_45 rfl (lv_at hl 2 rfl) ?_
          refine lv_iload_n (pc := 46) hx hb dX5_source_46 rfl (lv_at hl 3 rfl) ?_
          refine lv_iload_n (pc := 47) hx hb dX5_source_47 rfl (lv_at hl 4 rfl) ?_
          obtain ⟨r5, c5, hc5, hf⟩ := ob2_some hf
          refine endi X.2.2.2.2 (runV (pc := 48) (As := [.int x1, .int x2, .int x3]) (rest := []) X (c_X0_done G l (fun k => A (31 + k)) H.size (I 0) x1 x2 x3 r5 c5 hc5) gX5_source_X0_done k_X0_done ⟨rfl, rfl⟩ ⟨Nat.le_of_ble_eq_true rfl, Nat.le_of_ble_eq_true rfl⟩ (em_Tw_Ch_31_c G A I J c5) hP hD hS (ci := 0) rfl rfl (at_Ch_0 G (fun k => A (31 + k)) (I 0)) rfl hl.1 rfl (Nat.le_of_ble_eq_true rfl) ⟨Nat.zero_le _, Nat.zero_le _⟩ dX5_source_48) (em_Tw_Ch_31_c G A I J c5) hP hD hS (fun H locs hP hD hS => ?_)
          refine lv_istore (pc := 51) (lv' := [(5, .int r5), (4, .int r4), (0, .ref (A 0)), (1, .int x1), (2, .int x2), (3, .int x3)]) hx hb dX5_source_51 hl (by decide) rfl (fun ls hl => ?_)
          refine lv_iconst (pc := 53) (v := (0 : Int32)) hx hb dX5_source_53 (by decide) ?_
          refine lv_istore (pc := 54) (lv' := [(6, .int (0 : Int32)), (5, .int r5), (4, .int r4), (0, .ref (A 0)), (1, .int x1), (2, .int x2), (3, .int x3)]) hx hb dX5_source_54 hl (by decide) rfl (fun ls hl => ?_)
          refine lv_iconst (pc := 56) (v := (0 : Int32)) hx hb dX5_source_56 (by decide) ?_
          refine lv_istore (pc := 57) (lv' := [(7, .int (0 : Int32)), (6, .int (0 : Int32)), (5, .int r5), (4, .int r4), (0, .ref (A 0)), (1, .int x1), (2, .int x2), (3, .int x3)]) hx hb dX5_source_57 hl (by decide) rfl (fun ls hl => ?_)
          exact l_59 FU _ _ _ _ _ _ _ _ H locs ls hf hP hD hS (lv_sub hl [4, 5, 6, 7, 3, 2, 1, 0] rfl)
        · have hf := br_y h4 hf
          exact b_30 _ H locs ls hf hP hD hS (lv_sub hl [] rfl)
