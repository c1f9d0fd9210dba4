def r_X2_figure : Room := { frames := 3, cells := 0, slots := 0, locals := 65 }
set_option maxHeartbeats 4000000 in
set_option maxRecDepth 100000 in
theorem c_X2_figure (G : GT) (l : Launch) (A : Nat → Nat) (sz : Nat) (b : CS) (x1 : Int32) (x2 : Int32) (x3 : Int32) (x4 : Int32) (r : Int32) (hf : f_X2_figure b x1 x2 x3 x4 = some r) : MTi l yX2_figure wsX2_figure r_X2_figure [.ref (A 0), .int x1, .int x2, .int x3, .int x4] G (w_S4 G A b) (w_S4 G A b) sz r := by
  refine MTi.of (cc := cX2_figure) (maxL := 6) (by decide +kernel) rfl (Nat.le_of_ble_eq_true rfl) (fun p e s m av below meth cd Q B H locs ls X hret hl hP hD hS => ?_)
  have hx := X.1.1
  have hb := X.1.2.1
  have hl : lv_has ls 6 [(0, .ref (A 0)), (1, .int x1), (2, .int x2), (3, .int x3), (4, .int x4)] := hl
  have b_38 : ∀ (t0 : Int32) (H : Heap) (locs : List Loc) (ls : Array Slot), f_X2_figure_38 t0 b = some r → va_P G.1 vwCl (w_S4 G A b) H → va_D B (w_S4 G A b) → va_S B s.heap H locs → lv_has ls 6 [] → W p l e r_X2_figure s m av below meth cd H locs 0 0 Q (F0 m 38 ls [.int t0]) := by
    intro t0 H locs ls hf hP hD hS hl
    unfold f_X2_figure_38 at hf
    cases hf
    exact hret _ _ _ _ dX2_figure_38 hP hD hS
  have b_36 : ∀  (H : Heap) (locs : List Loc) (ls : Array Slot), f_X2_figure_36 b = some r → va_P G.1 vwCl (w_S4 G A b) H → va_D B (w_S4 G A b) → va_S B s.heap H locs → lv_has ls 6 [] → W p l e r_X2_figure s m av below meth cd H locs 0 0 Q (F0 m 36 ls []) := by
    intro  H locs ls hf hP hD hS hl
    unfold f_X2_figure_36 at hf
    refine lv_bipush (pc := 36) (v := (-9 : Int32)) hx hb dX2_figure_36 (by decide) ?_
    exact b_38 _ H locs ls hf hP hD hS (lv_sub hl [] rfl)
  unfold f_X2_figure at hf
  refine lv_aload_n (pc := 0) hx hb dX2_figure_0 rfl (lv_at hl 0 rfl) ?_
  refine lv_iload_n (pc := 1) hx hb dX2_figure_1 rfl (lv_at hl 1 rfl) ?_
  refine lv_iload_n (pc := 2) hx hb dX2_figure_2 rfl (lv_at hl 2 rfl) ?_
  obtain ⟨r1, hc1, hf⟩ := ob1_some hf
  refine endi X.2.2.2.2 (runV (pc := 3) (As := [.int x1, .int x2]) (rest := []) X (c_X3_get_t G l A H.size b x1 x2 r1 hc1) gX2_figure_X3_get k_X3_get ⟨rfl, rfl⟩ ⟨Nat.le_of_ble_eq_true rfl, Nat.le_of_ble_eq_true rfl⟩ (EM.all (w_S4 G A b) (w_S4 G A b)) hP hD hS (ci := 3) rfl rfl (at_S4_0 G A b) rfl hl.1 rfl (Nat.le_of_ble_eq_true rfl) ⟨Nat.zero_le _, Nat.zero_le _⟩ dX2_figure_3) (EM.all (w_S4 G A b) (w_S4 G A b)) hP hD hS (fun H locs hP hD hS => ?_)
  refine lv_iload_n (pc := 6) hx hb dX2_figure_6 rfl (lv_at hl 3 rfl) ?_
  refine lv_isub (pc := 7) hx hb dX2_figure_7 ?_
  refine lv_istore (pc := 8) (lv' := [(5, .int (r1 - x3)), (0, .ref (A 0)), (1, .int x1), (2, .int x2), (3, .int x3), (4, .int x4)]) hx hb dX2_figure_8 hl (by decide) rfl (fun ls hl => ?_)
  refine lv_aload_n (pc := 10) hx hb dX2_figure_10 rfl (lv_at hl 1 rfl) ?_
  refine lv_iload_n (pc := 11) hx hb dX2_figure_11 rfl (lv_at hl 2 rfl) ?_
  refine lv_iload_n (pc := 12) hx hb dX2_figure_12 rfl (lv_at hl 3 rfl) ?_
  obtain ⟨r2, hc2, hf⟩ := ob1_some hf
  refine endi X.2.2.2.2 (runV (pc := 13) (As := [.int x1, .int x2]) (rest := []) X (c_X3_holds_t G l A H.size b x1 x2 r2 hc2) gX2_figure_X3_holds k_X3_holds ⟨rfl, rfl⟩ ⟨Nat.le_of_ble_eq_true rfl, Nat.le_of_ble_eq_true rfl⟩ (EM.all (w_S4 G A b) (w_S4 G A b)) hP hD hS (ci := 3) rfl rfl (at_S4_0 G A b) rfl hl.1 rfl (Nat.le_of_ble_eq_true rfl) ⟨Nat.zero_le _, Nat.zero_le _⟩ dX2_figure_13) (EM.all (w_S4 G A b) (w_S4 G A b)) hP hD hS (fun H locs hP hD hS => ?_)
  refine lv_if_eq (pc := 16) (tgt := 36) hx hb dX2_figure_16 (by decide) (fun h3 => ?_) (fun h3 => ?_)
  · have hf := br_y h3 hf
    exact b_36  H locs ls hf hP hD hS (lv_sub hl [] rfl)
  · have hf := br_n h3 hf
    refine lv_iload (pc := 19) hx hb dX2_figure_19 (lv_at hl 0 rfl) ?_
    refine lv_if_lt (pc := 21) (tgt := 36) hx hb dX2_figure_21 (by decide) (fun h2 => ?_) (fun h2 => ?_)
    · have hf := br_y h2 hf
      exact b_36  H locs ls hf hP hD hS (lv_sub hl [] rfl)
    · have hf := br_n h2 hf
      refine lv_iload (pc := 24) hx hb dX2_figure_24 (lv_at hl 0 rfl) ?_
      refine lv_iload (pc := 26) hx hb dX2_figure_26 (lv_at hl 5 rfl) ?_
      refine lv_icmp_ge (pc := 28) (tgt := 36) hx hb dX2_figure_28 (by decide) (fun h1 => ?_) (fun h1 => ?_)
      · have hf := br_y h1 hf
        exact b_36  H locs ls hf hP hD hS (lv_sub hl [] rfl)
      · have hf := br_n h1 hf
        refine lv_iload (pc := 31) hx hb dX2_figure_31 (lv_at hl 0 rfl) ?_
        refine lv_goto (pc := 33) (tgt := 38) hx hb dX2_figure_33 (by decide) ?_
        exact b_38 _ H locs ls hf hP hD hS (lv_sub hl [] rfl)
def r_X2_kindOf : Room := { frames := 0, cells := 0, slots := 0, locals := 0 }
set_option maxHeartbeats 4000000 in
set_option maxRecDepth 100000 in
theorem c_X2_kindOf (G : GT) (l : Launch) (sz : Nat) (x0 : Int32) (r : Int32) (hf : f_X2_kindOf x0 = some r) : MTi l yX2_kindOf wsX2_kindOf r_X2_kindOf [.int x0] G [] [] sz r := by
  refine MTi.of (cc := cX2_kindOf) (maxL := 2) (by decide +kernel) rfl (Nat.le_of_ble_eq_true rfl) (fun p e s m av below meth cd Q B H locs ls X hret hl hP hD hS => ?_)
  have hx := X.1.1
  have hb := X.1.2.1
  have hl : lv_has ls 2 [(0, .int x0)] := hl
  have l_2 : ∀ (n2 : Nat), ∀ (x0 : Int32) (x1 : Int32) (H : Heap) (locs : List Loc) (ls : Array Slot), f_X2_kindOf_2 n2 x0 x1 = some r → va_P G.1 vwCl [] H → va_D B [] → va_S B s.heap H locs → lv_has ls 2 [(0, .int x0), (1, .int x1)] → W p l e r_X2_kindOf s m av below meth cd H locs 0 0 Q (F0 m 2 ls []) := by
    intro n2
    induction n2 with
    | zero =>
      intro x0 x1 H locs ls hf hP hD hS hl
      rw [f_X2_kindOf_2] at hf
      cases hf
    | succ n2 ih2 =>
      intro x0 x1 H locs ls hf hP hD hS hl
      rw [f_X2_kindOf_2] at hf
      refine lv_iload_n (pc := 2) hx hb dX2_kindOf_2 rfl (lv_at hl 1 rfl) ?_
      refine lv_bipush (pc := 3) (v := (6 : Int32)) hx hb dX2_kindOf_3 (by decide) ?_
      refine lv_icmp_ge (pc := 5) (tgt := 25) hx hb dX2_kindOf_5 (by decide) (fun h2 => ?_) (fun h2 => ?_)
      · have hf := br_y h2 hf
        refine lv_bipush (pc := 25) (v := (-9 : Int32)) hx hb dX2_kindOf_25 (by decide) ?_
        cases hf
        exact hret _ _ _ _ dX2_kindOf_27 hP hD hS
      · have hf := br_n h2 hf
        refine wgsL (pc := 8) X hS (List.mem_of_getElem? (i := 18) rfl) dX2_kindOf_8 ?_
        refine lv_iload_n (pc := 11) hx hb dX2_kindOf_11 rfl (lv_at hl 1 rfl) ?_
        obtain ⟨hi, hf⟩ := ck_some hf
        refine wtiL (pc := 12) X hS hi dX2_kindOf_12 ?_
        refine lv_iload_n (pc := 13) hx hb dX2_kindOf_13 rfl (lv_at hl 0 rfl) ?_
        refine lv_icmp_ne (pc := 14) (tgt := 19) hx hb dX2_kindOf_14 (by decide) (fun h1 => ?_) (fun h1 => ?_)
        · have hf := br_n h1 hf
          refine lv_iinc (pc := 19) (v := (x1 + (1 : Int32))) (lv' := [(1, .int (x1 + (1 : Int32))), (0, .int x0)]) hx hb dX2_kindOf_19 hl (k := 1) rfl rfl (by decide) rfl (fun ls hl => ?_)
          refine lv_goto (pc := 22) (tgt := 2) hx hb dX2_kindOf_22 (by decide) ?_
          exact ih2 _ _ H locs ls hf hP hD hS (lv_sub hl [1, 0] rfl)
        · have hf := br_y h1 hf
          refine lv_iload_n (pc := 17) hx hb dX2_kindOf_17 rfl (lv_at hl 1 rfl) ?_
          cases hf
          exact hret _ _ _ _ dX2_kindOf_18 hP hD hS
  unfold f_X2_kindOf at hf
  refine lv_iconst (pc := 0) (v := (0 : Int32)) hx hb dX2_kindOf_0 (by decide) ?_
  refine lv_istore_n (pc := 1) (lv' := [(1, .int (0 : Int32)), (0, .int x0)]) hx hb dX2_kindOf_1 rfl hl (by decide) rfl (fun ls hl => ?_)
  exact l_2 FU _ _ H locs ls hf hP hD hS (lv_sub hl [1, 0] rfl)
def r_X2_readError : Room := { frames := 4, cells := 0, slots := 0, locals := 90 }
set_option maxHeartbeats 4000000 in
set_option maxRecDepth 100000 in
theorem c_X2_readError (G : GT) (l : Launch) (A : Nat → Nat) (sz : Nat) (c : CS) (b : CS) (x2 : Int32) (x3 : Int32) (r : Int32) (c' : CS) (hf : f_X2_readError c b x2 x3 = some (r, c')) : MTi l yX2_readError wsX2_readError r_X2_readError [.ref (A 0), .ref (A 11), .int x2, .int x3] G (w_RS G A c b) (w_RS G A c' b) sz r := by
  refine MTi.of (cc := cX2_readError) (maxL := 8) (by decide +kernel) rfl (Nat.le_of_ble_eq_true rfl) (fun p e s m av below meth cd Q B H locs ls X hret hl hP hD hS => ?_)
  have hx := X.1.1
  have hb := X.1.2.1
  have hl : lv_has ls 8 [(0, .ref (A 0)), (1, .ref (A 11)), (2, .int x2), (3, .int x3)] := hl
  have b_22 : ∀ (x3 : Int32) (c : CS) (H : Heap) (locs : List Loc) (ls : Array Slot), f_X2_readError_22 x3 c b = some (r, c') → va_P G.1 vwCl (w_RS G A c b) H → va_D B (w_RS G A c b) → va_S B s.heap H locs → lv_has ls 8 [(3, .int x3)] → W p l e r_X2_readError s m av below meth cd H locs 0 0 Q (F0 m 22 ls []) := by
    intro x3 c H locs ls hf hP hD hS hl
    unfold f_X2_readError_22 at hf
    refine lv_iload_n (pc := 22) hx hb dX2_readError_22 rfl (lv_at hl 0 rfl) ?_
    cases hf
    exact hret _ _ _ _ dX2_readError_23 hP hD hS
  have b_129 : ∀ (x3 : Int32) (c : CS) (H : Heap) (locs : List Loc) (ls : Array Slot), f_X2_readError_129 x3 c b = some (r, c') → va_P G.1 vwCl (w_RS G A c b) H → va_D B (w_RS G A c b) → va_S B s.heap H locs → lv_has ls 8 [(3, .int x3)] → W p l e r_X2_readError s m av below meth cd H locs 0 0 Q (F0 m 129 ls []) := by
    intro x3 c H locs ls hf hP hD hS hl
    unfold f_X2_readError_129 at hf
    refine lv_iload_n (pc := 129) hx hb dX2_readError_129 rfl (lv_at hl 0 rfl) ?_
    refine lv_iconst (pc := 130) (v := (4 : Int32)) hx hb dX2_readError_130 (by decide) ?_
    refine lv_iadd (pc := 131) hx hb dX2_readError_131 ?_
    cases hf
    exact hret _ _ _ _ dX2_readError_132 hP hD hS
  unfold f_X2_readError at hf
  refine lv_aload_n (pc := 0) hx hb dX2_readError_0 rfl (lv_at hl 0 rfl) ?_
  refine wget (pc := 1) X (fun _ h9 => List.mem_cons_of_mem _ (List.mem_append_left _ (List.mem_append_left _ (List.mem_append_right _ h9)))) hP 0 (at_RS_0 G A c b) rfl 0 (by decide) (List.mem_cons_of_mem _ (List.mem_append_left _ (List.mem_append_left _ (List.mem_append_left _ (List.mem_append_left _ (List.mem_of_getElem? (i := 0) rfl)))))) rfl (v := .ref (A 1)) rfl dX2_readError_1 ?_
  refine wgetN (pc := 4) X (fun _ h9 => List.mem_cons_of_mem _ (List.mem_append_left _ (List.mem_append_right _ h9))) hP 1 (at_RS_1 G A c b) rfl 0 (by decide) (List.mem_of_getElem? (i := 5) rfl) rfl (v := .int (c 0 0)) rfl dX2_readError_4 ?_
  refine lv_if_eq (pc := 7) (tgt := 22) hx hb dX2_readError_7 (by decide) (fun h7 => ?_) (fun h7 => ?_)
  · have hf := br_y h7 hf
    exact b_22 _ _ H locs ls hf hP hD hS (lv_sub hl [3] rfl)
  · have hf := br_n h7 hf
    refine lv_aload_n (pc := 10) hx hb dX2_readError_10 rfl (lv_at hl 0 rfl) ?_
    refine wget (pc := 11) X (fun _ h9 => List.mem_cons_of_mem _ (List.mem_append_left _ (List.mem_append_left _ (List.mem_append_right _ h9)))) hP 0 (at_RS_0 G A c b) rfl 0 (by decide) (List.mem_cons_of_mem _ (List.mem_append_left _ (List.mem_append_left _ (List.mem_append_left _ (List.mem_append_left _ (List.mem_of_getElem? (i := 0) rfl)))))) rfl (v := .ref (A 1)) rfl dX2_readError_11 ?_
    refine wgetN (pc := 14) X (fun _ h9 => List.mem_cons_of_mem _ (List.mem_append_left _ (List.mem_append_right _ h9))) hP 1 (at_RS_1 G A c b) rfl 1 (by decide) (List.mem_of_getElem? (i := 7) rfl) rfl (v := .int (c 1 0)) rfl dX2_readError_14 ?_
    refine lv_bipush (pc := 17) (v := (6 : Int32)) hx hb dX2_readError_17 (by decide) ?_
    refine lv_icmp_lt (pc := 19) (tgt := 24) hx hb dX2_readError_19 (by decide) (fun h6 => ?_) (fun h6 => ?_)
    · have hf := br_y h6 hf
      refine lv_aload_n (pc := 24) hx hb dX2_readError_24 rfl (lv_at hl 1 rfl) ?_
      refine lv_iload_n (pc := 25) hx hb dX2_readError_25 rfl (lv_at hl 2 rfl) ?_
      refine lv_iload_n (pc := 26) hx hb dX2_readError_26 rfl (lv_at hl 3 rfl) ?_
      refine lv_iconst (pc := 27) (v := (1 : Int32)) hx hb dX2_readError_27 (by decide) ?_
      refine lv_iadd (pc := 28) hx hb dX2_readError_28 ?_
      refine lv_bipush (pc := 29) (v := (48 : Int32)) hx hb dX2_readError_29 (by decide) ?_
      refine lv_iconst (pc := 31) (v := (5 : Int32)) hx hb dX2_readError_31 (by decide) ?_
      obtain ⟨r1, hc1, hf⟩ := ob1_some hf
      refine endi X.2.2.2.2 (runS (pc := 32) (As := [.ref (A 11), .int x2, .int (x3 + (1 : Int32)), .int (48 : Int32), .int (5 : Int32)]) (rest := []) X (c_X2_figure G l (fun k => A (11 + k)) H.size b x2 (x3 + (1 : Int32)) (48 : Int32) (5 : Int32) r1 hc1) gX2_readError_X2_figure k_X2_figure ⟨rfl, rfl⟩ ⟨Nat.le_of_ble_eq_true rfl, Nat.le_of_ble_eq_true rfl⟩ (em_RS_S4_11 G A c b ) hP hD hS rfl hl.1 rfl (Nat.le_of_ble_eq_true rfl) ⟨Nat.zero_le _, Nat.zero_le _⟩ dX2_readError_32) (em_RS_S4_11 G A c b ) hP hD hS (fun H locs hP hD hS => ?_)
      refine lv_istore (pc := 35) (lv' := [(4, .int r1), (0, .ref (A 0)), (1, .ref (A 11)), (2, .int x2), (3, .int x3)]) hx hb dX2_readError_35 hl (by decide) rfl (fun ls hl => ?_)
      refine lv_iload (pc := 37) hx hb dX2_readError_37 (lv_at hl 0 rfl) ?_
      refine lv_bipush (pc := 39) (v := (-9 : Int32)) hx hb dX2_readError_39 (by decide) ?_
      refine lv_icmp_ne (pc := 41) (tgt := 48) hx hb dX2_readError_41 (by decide) (fun h5 => ?_) (fun h5 => ?_)
      · have hf := br_n h5 hf
        refine lv_aload_n (pc := 48) hx hb dX2_readError_48 rfl (lv_at hl 2 rfl) ?_
        refine lv_iload_n (pc := 49) hx hb dX2_readError_49 rfl (lv_at hl 3 rfl) ?_
        refine lv_iload_n (pc := 50) hx hb dX2_readError_50 rfl (lv_at hl 4 rfl) ?_
        refine lv_iconst (pc := 51) (v := (2 : Int32)) hx hb dX2_readError_51 (by decide) ?_
        refine lv_iadd (pc := 52) hx hb dX2_readError_52 ?_
        refine lv_bipush (pc := 53) (v := (65 : Int32)) hx hb dX2_readError_53 (by decide) ?_
        refine lv_bipush (pc := 55) (v := (20 : Int32)) hx hb dX2_readError_55 (by decide) ?_
        obtain ⟨r2, hc2, hf⟩ := ob1_some hf
        refine endi X.2.2.2.2 (runS (pc := 57) (As := [.ref (A 11), .int x2, .int (x3 + (2 : Int32)), .int (65 : Int32), .int (20 : Int32)]) (rest := []) X (c_X2_figure G l (fun k => A (11 + k)) H.size b x2 (x3 + (2 : Int32)) (65 : Int32) (20 : Int32) r2 hc2) gX2_readError_X2_figure k_X2_figure ⟨rfl, rfl⟩ ⟨Nat.le_of_ble_eq_true rfl, Nat.le_of_ble_eq_true rfl⟩ (em_RS_S4_11 G A c b ) hP hD hS rfl hl.1 rfl (Nat.le_of_ble_eq_true rfl) ⟨Nat.zero_le _, Nat.zero_le _⟩ dX2_readError_57) (em_RS_S4_11 G A c b ) hP hD hS (fun H locs hP hD hS => ?_)
        refine lv_istore (pc := 60) (lv' := [(5, .int r2), (4, .int r1), (0, .ref (A 0)), (1, .ref (A 11)), (2, .int x2), (3, .int x3)]) hx hb dX2_readError_60 hl (by decide) rfl (fun ls hl => ?_)
        refine lv_iload (pc := 62) hx hb dX2_readError_62 (lv_at hl 0 rfl) ?_
        refine lv_bipush (pc := 64) (v := (-9 : Int32)) hx hb dX2_readError_64 (by decide) ?_
        refine lv_icmp_ne (pc := 66) (tgt := 73) hx hb dX2_readError_66 (by decide) (fun h4 => ?_) (fun h4 => ?_)
        · have hf := br_n h4 hf
          refine lv_aload_n (pc := 73) hx hb dX2_readError_73 rfl (lv_at hl 3 rfl) ?_
          refine lv_iload_n (pc := 74) hx hb dX2_readError_74 rfl (lv_at hl 4 rfl) ?_
          refine lv_iload_n (pc := 75) hx hb dX2_readError_75 rfl (lv_at hl 5 rfl) ?_
          refine lv_iconst (pc := 76) (v := (3 : Int32)) hx hb dX2_readError_76 (by decide) ?_
          refine lv_iadd (pc := 77) hx hb dX2_readError_77 ?_
          refine lv_bipush (pc := 78) (v := (48 : Int32)) hx hb dX2_readError_78 (by decide) ?_
          refine lv_aload_n (pc := 80) hx hb dX2_readError_80 rfl (lv_at hl 2 rfl) ?_
          refine wget (pc := 81) X (fun _ h9 => List.mem_cons_of_mem _ (List.mem_append_left _ (List.mem_append_left _ (List.mem_append_right _ h9)))) hP 0 (at_RS_0 G A c b) rfl 0 (by decide) (List.mem_cons_of_mem _ (List.mem_append_left _ (List.mem_append_left _ (List.mem_append_left _ (List.mem_append_left _ (List.mem_of_getElem? (i := 0) rfl)))))) rfl (v := .ref (A 1)) rfl dX2_readError_81 ?_
          refine wgetN (pc := 84) X (fun _ h9 => List.mem_cons_of_mem _ (List.mem_append_left _ (List.mem_append_right _ h9))) hP 1 (at_RS_1 G A c b) rfl 0 (by decide) (List.mem_of_getElem? (i := 5) rfl) rfl (v := .int (c 0 0)) rfl dX2_readError_84 ?_
          obtain ⟨r3, hc3, hf⟩ := ob1_some hf
          refine endi X.2.2.2.2 (runS (pc := 87) (As := [.ref (A 11), .int x2, .int (x3 + (3 : Int32)), .int (48 : Int32), .int (c 0 0)]) (rest := []) X (c_X2_figure G l (fun k => A (11 + k)) H.size b x2 (x3 + (3 : Int32)) (48 : Int32) (c 0 0) r3 hc3) gX2_readError_X2_figure k_X2_figure ⟨rfl, rfl⟩ ⟨Nat.le_of_ble_eq_true rfl, Nat.le_of_ble_eq_true rfl⟩ (em_RS_S4_11 G A c b ) hP hD hS rfl hl.1 rfl (Nat.le_of_ble_eq_true rfl) ⟨Nat.zero_le _, Nat.zero_le _⟩ dX2_readError_87) (em_RS_S4_11 G A c b ) hP hD hS (fun H locs hP hD hS => ?_)
          refine lv_istore (pc := 90) (lv' := [(6, .int r3), (5, .int r2), (4, .int r1), (0, .ref (A 0)), (1, .ref (A 11)), (2, .int x2), (3, .int x3)]) hx hb dX2_readError_90 hl (by decide) rfl (fun ls hl => ?_)
          refine lv_iload (pc := 92) hx hb dX2_readError_92 (lv_at hl 0 rfl) ?_
          refine lv_bipush (pc := 94) (v := (-9 : Int32)) hx hb dX2_readError_94 (by decide) ?_
          refine lv_icmp_ne (pc := 96) (tgt := 103) hx hb dX2_readError_96 (by decide) (fun h3 => ?_) (fun h3 => ?_)
          · have hf := br_n h3 hf
            refine lv_aload_n (pc := 103) hx hb dX2_readError_103 rfl (lv_at hl 4 rfl) ?_
            refine lv_iload_n (pc := 104) hx hb dX2_readError_104 rfl (lv_at hl 5 rfl) ?_
            refine lv_iload_n (pc := 105) hx hb dX2_readError_105 rfl (lv_at hl 6 rfl) ?_
            refine lv_iconst (pc := 106) (v := (4 : Int32)) hx hb dX2_readError_106 (by decide) ?_
            refine lv_iadd (pc := 107) hx hb dX2_readError_107 ?_
            refine lv_bipush (pc := 108) (v := (48 : Int32)) hx hb dX2_readError_108 (by decide) ?_
            refine lv_bipush (pc := 110) (v := (10 : Int32)) hx hb dX2_readError_110 (by decide) ?_
            obtain ⟨r4, hc4, hf⟩ := ob1_some hf
            refine endi X.2.2.2.2 (runS (pc := 112) (As := [.ref (A 11), .int x2, .int (x3 + (4 : Int32)), .int (48 : Int32), .int (10 : Int32)]) (rest := []) X (c_X2_figure G l (fun k => A (11 + k)) H.size b x2 (x3 + (4 : Int32)) (48 : Int32) (10 : Int32) r4 hc4) gX2_readError_X2_figure k_X2_figure ⟨rfl, rfl⟩ ⟨Nat.le_of_ble_eq_true rfl, Nat.le_of_ble_eq_true rfl⟩ (em_RS_S4_11 G A c b ) hP hD hS rfl hl.1 rfl (Nat.le_of_ble_eq_true rfl) ⟨Nat.zero_le _, Nat.zero_le _⟩ dX2_readError_112) (em_RS_S4_11 G A c b ) hP hD hS (fun H locs hP hD hS => ?_)
            refine lv_istore (pc := 115) (lv' := [(7, .int r4), (6, .int r3), (5, .int r2), (4, .int r1), (0, .ref (A 0)), (1, .ref (A 11)), (2, .int x2), (3, .int x3)]) hx hb dX2_readError_115 hl (by decide) rfl (fun ls hl => ?_)
            refine lv_iload (pc := 117) hx hb dX2_readError_117 (lv_at hl 0 rfl) ?_
            refine lv_bipush (pc := 119) (v := (-9 : Int32)) hx hb dX2_readError_119 (by decide) ?_
            refine lv_icmp_eq (pc := 121) (tgt := 129) hx hb dX2_readError_121 (by decide) (fun h2 => ?_) (fun h2 => ?_)
            · have hf := br_y h2 hf
              exact b_129 _ _ H locs ls hf hP hD hS (lv_sub hl [7] rfl)
            · have hf := br_n h2 hf
              refine lv_iload (pc := 124) hx hb dX2_readError_124 (lv_at hl 0 rfl) ?_
              refine lv_if_ne (pc := 126) (tgt := 133) hx hb dX2_readError_126 (by decide) (fun h1 => ?_) (fun h1 => ?_)
              · have hf := br_n h1 hf
                refine lv_aload_n (pc := 133) hx hb dX2_readError_133 rfl (lv_at hl 4 rfl) ?_
                refine wget (pc := 134) X (fun _ h9 => List.mem_cons_of_mem _ (List.mem_append_left _ (List.mem_append_left _ (List.mem_append_right _ h9)))) hP 0 (at_RS_0 G A c b) rfl 0 (by decide) (List.mem_cons_of_mem _ (List.mem_append_left _ (List.mem_append_left _ (List.mem_append_left _ (List.mem_append_left _ (List.mem_of_getElem? (i := 0) rfl)))))) rfl (v := .ref (A 1)) rfl dX2_readError_134 ?_
                refine lv_iload (pc := 137) hx hb dX2_readError_137 (lv_at hl 3 rfl) ?_
                refine lv_iload (pc := 139) hx hb dX2_readError_139 (lv_at hl 2 rfl) ?_
                refine lv_iload (pc := 141) hx hb dX2_readError_141 (lv_at hl 1 rfl) ?_
                refine lv_iload (pc := 143) hx hb dX2_readError_143 (lv_at hl 0 rfl) ?_
                obtain ⟨c5, hc5, hf⟩ := ob1_some hf
                refine endv X.2.2.2.2 (runV (pc := 145) (As := [.int r1, .int r2, .int r3, .int r4]) (rest := []) X (c_X0_addError G l (fun k => A (1 + k)) H.size c r1 r2 r3 r4 c5 hc5) gX2_readError_X0_addError k_X0_addError ⟨rfl, rfl⟩ ⟨Nat.le_of_ble_eq_true rfl, Nat.le_of_ble_eq_true rfl⟩ (em_RS_Ch_1_c G A c b c5) hP hD hS (ci := 0) rfl rfl (at_Ch_0 G (fun k => A (1 + k)) c) rfl hl.1 rfl (Nat.le_of_ble_eq_true rfl) ⟨Nat.zero_le _, Nat.zero_le _⟩ dX2_readError_145) (em_RS_Ch_1_c G A c b c5) hP hD hS (fun H locs hP hD hS => ?_)
                refine lv_bipush (pc := 148) (v := (-9 : Int32)) hx hb dX2_readError_148 (by decide) ?_
                cases hf
                exact hret _ _ _ _ dX2_readError_150 hP hD hS
              · have hf := br_y h1 hf
                exact b_129 _ _ H locs ls hf hP hD hS (lv_sub hl [7] rfl)
          · have hf := br_y h3 hf
            refine lv_iload_n (pc := 99) hx hb dX2_readError_99 rfl (lv_at hl 6 rfl) ?_
            refine lv_iconst (pc := 100) (v := (3 : Int32)) hx hb dX2_readError_100 (by decide) ?_
            refine lv_iadd (pc := 101) hx hb dX2_readError_101 ?_
            cases hf
            exact hret _ _ _ _ dX2_readError_102 hP hD hS
        · have hf := br_y h4 hf
          refine lv_iload_n (pc := 69) hx hb dX2_readError_69 rfl (lv_at hl 5 rfl) ?_
          refine lv_iconst (pc := 70) (v := (2 : Int32)) hx hb dX2_readError_70 (by decide) ?_
          refine lv_iadd (pc := 71) hx hb dX2_readError_71 ?_
          cases hf
          exact hret _ _ _ _ dX2_readError_72 hP hD hS
      · have hf := br_y h5 hf
        refine lv_iload_n (pc := 44) hx hb dX2_readError_44 rfl (lv_at hl 4 rfl) ?_
        refine lv_iconst (pc := 45) (v := (1 : Int32)) hx hb dX2_readError_45 (by decide) ?_
        refine lv_iadd (pc := 46) hx hb dX2_readError_46 ?_
        cases hf
        exact hret _ _ _ _ dX2_readError_47 hP hD hS
    · have hf := br_n h6 hf
      exact b_22 _ _ H locs ls hf hP hD hS (lv_sub hl [3] rfl)
def r_X2_readPerson : Room := { frames := 4, cells := 0, slots := 0, locals := 90 }
set_option maxHeartbeats 4000000 in
set_option maxRecDepth 100000 in
theorem c_X2_readPerson (G : GT) (l : Launch) (A : Nat → Nat) (sz : Nat) (c : CS) (b : CS) (x2 : Int32) (x3 : Int32) (r : Int32) (c' : CS) (hf : f_X2_readPerson c b x2 x3 = some (r, c')) : MTi l yX2_readPerson wsX2_readPerson r_X2_readPerson [.ref (A 0), .ref (A 11), .int x2, .int x3] G (w_RS G A c b) (w_RS G A c' b) sz r := by
  refine MTi.of (cc := cX2_readPerson) (maxL := 7) (by decide +kernel) rfl (Nat.le_of_ble_eq_true rfl) (fun p e s m av below meth cd Q B H locs ls X hret hl hP hD hS => ?_)
  have hx := X.1.1
  have hb := X.1.2.1
  have hl : lv_has ls 7 [(0, .ref (A 0)), (1, .ref (A 11)), (2, .int x2), (3, .int x3)] := hl
  have b_39 : ∀ (x3 : Int32) (c : CS) (H : Heap) (locs : List Loc) (ls : Array Slot), f_X2_readPerson_39 x3 c b = some (r, c') → va_P G.1 vwCl (w_RS G A c b) H → va_D B (w_RS G A c b) → va_S B s.heap H locs → lv_has ls 7 [(3, .int x3)] → W p l e r_X2_readPerson s m av below meth cd H locs 0 0 Q (F0 m 39 ls []) := by
    intro x3 c H locs ls hf hP hD hS hl
    unfold f_X2_readPerson_39 at hf
    refine lv_iload_n (pc := 39) hx hb dX2_readPerson_39 rfl (lv_at hl 0 rfl) ?_
    cases hf
    exact hret _ _ _ _ dX2_readPerson_40 hP hD hS
  unfold f_X2_readPerson at hf
  refine lv_aload_n (pc := 0) hx hb dX2_readPerson_0 rfl (lv_at hl 1 rfl) ?_
  refine lv_iload_n (pc := 1) hx hb dX2_readPerson_1 rfl (lv_at hl 2 rfl) ?_
  refine lv_iload_n (pc := 2) hx hb dX2_readPerson_2 rfl (lv_at hl 3 rfl) ?_
  obtain ⟨r1, hc1, hf⟩ := ob1_some hf
  refine endi X.2.2.2.2 (runV (pc := 3) (As := [.int x2, .int x3]) (rest := []) X (c_X3_get_t G l (fun k => A (11 + k)) H.size b x2 x3 r1 hc1) gX2_readPerson_X3_get k_X3_get ⟨rfl, rfl⟩ ⟨Nat.le_of_ble_eq_true rfl, Nat.le_of_ble_eq_true rfl⟩ (em_RS_S4_11 G A c b ) hP hD hS (ci := 3) rfl rfl (at_S4_0 G (fun k => A (11 + k)) b) rfl hl.1 rfl (Nat.le_of_ble_eq_true rfl) ⟨Nat.zero_le _, Nat.zero_le _⟩ dX2_readPerson_3) (em_RS_S4_11 G A c b ) hP hD hS (fun H locs hP hD hS => ?_)
  obtain ⟨r2, hc2, hf⟩ := ob1_some hf
  refine endi X.2.2.2.2 (runS (pc := 6) (As := [.int r1]) (rest := []) X (c_X2_kindOf G l  H.size r1 r2 hc2) gX2_readPerson_X2_kindOf k_X2_kindOf ⟨rfl, rfl⟩ ⟨Nat.le_of_ble_eq_true rfl, Nat.le_of_ble_eq_true rfl⟩ (EM.nil (w_RS G A c b)) hP hD hS rfl hl.1 rfl (Nat.le_of_ble_eq_true rfl) ⟨Nat.zero_le _, Nat.zero_le _⟩ dX2_readPerson_6) (EM.nil (w_RS G A c b)) hP hD hS (fun H locs hP hD hS => ?_)
  refine lv_istore (pc := 9) (lv' := [(4, .int r2), (0, .ref (A 0)), (1, .ref (A 11)), (2, .int x2), (3, .int x3)]) hx hb dX2_readPerson_9 hl (by decide) rfl (fun ls hl => ?_)
  refine lv_iload (pc := 11) hx hb dX2_readPerson_11 (lv_at hl 0 rfl) ?_
  refine lv_bipush (pc := 13) (v := (-9 : Int32)) hx hb dX2_readPerson_13 (by decide) ?_
  refine lv_icmp_eq (pc := 15) (tgt := 39) hx hb dX2_readPerson_15 (by decide) (fun h5 => ?_) (fun h5 => ?_)
  · have hf := br_y h5 hf
    exact b_39 _ _ H locs ls hf hP hD hS (lv_sub hl [4] rfl)
  · have hf := br_n h5 hf
    refine lv_aload_n (pc := 18) hx hb dX2_readPerson_18 rfl (lv_at hl 1 rfl) ?_
    refine wget (pc := 19) X (fun _ h9 => List.mem_cons_of_mem _ (List.mem_append_left _ (List.mem_append_left _ (List.mem_append_right _ h9)))) hP 0 (at_RS_0 G A c b) rfl 0 (by decide) (List.mem_cons_of_mem _ (List.mem_append_left _ (List.mem_append_left _ (List.mem_append_left _ (List.mem_append_left _ (List.mem_of_getElem? (i := 0) rfl)))))) rfl (v := .ref (A 1)) rfl dX2_readPerson_19 ?_
    refine wgetN (pc := 22) X (fun _ h9 => List.mem_cons_of_mem _ (List.mem_append_left _ (List.mem_append_right _ h9))) hP 1 (at_RS_1 G A c b) rfl 1 (by decide) (List.mem_of_getElem? (i := 7) rfl) rfl (v := .int (c 1 0)) rfl dX2_readPerson_22 ?_
    refine lv_if_gt (pc := 25) (tgt := 39) hx hb dX2_readPerson_25 (by decide) (fun h4 => ?_) (fun h4 => ?_)
    · have hf := br_y h4 hf
      exact b_39 _ _ H locs ls hf hP hD hS (lv_sub hl [4] rfl)
    · have hf := br_n h4 hf
      refine lv_aload_n (pc := 28) hx hb dX2_readPerson_28 rfl (lv_at hl 1 rfl) ?_
      refine wget (pc := 29) X (fun _ h9 => List.mem_cons_of_mem _ (List.mem_append_left _ (List.mem_append_left _ (List.mem_append_right _ h9)))) hP 0 (at_RS_0 G A c b) rfl 0 (by decide) (List.mem_cons_of_mem _ (List.mem_append_left _ (List.mem_append_left _ (List.mem_append_left _ (List.mem_append_left _ (List.mem_of_getElem? (i := 0) rfl)))))) rfl (v := .ref (A 1)) rfl dX2_readPerson_29 ?_
      refine wgetN (pc := 32) X (fun _ h9 => List.mem_cons_of_mem _ (List.mem_append_left _ (List.mem_append_right _ h9))) hP 1 (at_RS_1 G A c b) rfl 0 (by decide) (List.mem_of_getElem? (i := 5) rfl) rfl (v := .int (c 0 0)) rfl dX2_readPerson_32 ?_
      refine lv_iconst (pc := 35) (v := (5 : Int32)) hx hb dX2_readPerson_35 (by decide) ?_
      refine lv_icmp_lt (pc := 36) (tgt := 41) hx hb dX2_readPerson_36 (by decide) (fun h3 => ?_) (fun h3 => ?_)
      · have hf := br_y h3 hf
        refine lv_aload_n (pc := 41) hx hb dX2_readPerson_41 rfl (lv_at hl 2 rfl) ?_
        refine lv_iload_n (pc := 42) hx hb dX2_readPerson_42 rfl (lv_at hl 3 rfl) ?_
        refine lv_iload_n (pc := 43) hx hb dX2_readPerson_43 rfl (lv_at hl 4 rfl) ?_
        refine lv_iconst (pc := 44) (v := (1 : Int32)) hx hb dX2_readPerson_44 (by decide) ?_
        refine lv_iadd (pc := 45) hx hb dX2_readPerson_45 ?_
        refine lv_bipush (pc := 46) (v := (48 : Int32)) hx hb dX2_readPerson_46 (by decide) ?_
        refine lv_bipush (pc := 48) (v := (10 : Int32)) hx hb dX2_readPerson_48 (by decide) ?_
        obtain ⟨r3, hc3, hf⟩ := ob1_some hf
        refine endi X.2.2.2.2 (runS (pc := 50) (As := [.ref (A 11), .int x2, .int (x3 + (1 : Int32)), .int (48 : Int32), .int (10 : Int32)]) (rest := []) X (c_X2_figure G l (fun k => A (11 + k)) H.size b x2 (x3 + (1 : Int32)) (48 : Int32) (10 : Int32) r3 hc3) gX2_readPerson_X2_figure k_X2_figure ⟨rfl, rfl⟩ ⟨Nat.le_of_ble_eq_true rfl, Nat.le_of_ble_eq_true rfl⟩ (em_RS_S4_11 G A c b ) hP hD hS rfl hl.1 rfl (Nat.le_of_ble_eq_true rfl) ⟨Nat.zero_le _, Nat.zero_le _⟩ dX2_readPerson_50) (em_RS_S4_11 G A c b ) hP hD hS (fun H locs hP hD hS => ?_)
        refine lv_istore (pc := 53) (lv' := [(5, .int r3), (4, .int r2), (0, .ref (A 0)), (1, .ref (A 11)), (2, .int x2), (3, .int x3)]) hx hb dX2_readPerson_53 hl (by decide) rfl (fun ls hl => ?_)
        refine lv_iload (pc := 55) hx hb dX2_readPerson_55 (lv_at hl 0 rfl) ?_
        refine lv_bipush (pc := 57) (v := (-9 : Int32)) hx hb dX2_readPerson_57 (by decide) ?_
        refine lv_icmp_ne (pc := 59) (tgt := 66) hx hb dX2_readPerson_59 (by decide) (fun h2 => ?_) (fun h2 => ?_)
        · have hf := br_n h2 hf
          refine lv_aload_n (pc := 66) hx hb dX2_readPerson_66 rfl (lv_at hl 3 rfl) ?_
          refine lv_iload_n (pc := 67) hx hb dX2_readPerson_67 rfl (lv_at hl 4 rfl) ?_
          refine lv_iload_n (pc := 68) hx hb dX2_readPerson_68 rfl (lv_at hl 5 rfl) ?_
          refine lv_iconst (pc := 69) (v := (2 : Int32)) hx hb dX2_readPerson_69 (by decide) ?_
          refine lv_iadd (pc := 70) hx hb dX2_readPerson_70 ?_
          refine lv_bipush (pc := 71) (v := (48 : Int32)) hx hb dX2_readPerson_71 (by decide) ?_
          refine lv_bipush (pc := 73) (v := (10 : Int32)) hx hb dX2_readPerson_73 (by decide) ?_
          obtain ⟨r4, hc4, hf⟩ := ob1_some hf
          refine endi X.2.2.2.2 (runS (pc := 75) (As := [.ref (A 11), .int x2, .int (x3 + (2 : Int32)), .int (48 : Int32), .int (10 : Int32)]) (rest := []) X (c_X2_figure G l (fun k => A (11 + k)) H.size b x2 (x3 + (2 : Int32)) (48 : Int32) (10 : Int32) r4 hc4) gX2_readPerson_X2_figure k_X2_figure ⟨rfl, rfl⟩ ⟨Nat.le_of_ble_eq_true rfl, Nat.le_of_ble_eq_true rfl⟩ (em_RS_S4_11 G A c b ) hP hD hS rfl hl.1 rfl (Nat.le_of_ble_eq_true rfl) ⟨Nat.zero_le _, Nat.zero_le _⟩ dX2_readPerson_75) (em_RS_S4_11 G A c b ) hP hD hS (fun H locs hP hD hS => ?_)
          refine lv_istore (pc := 78) (lv' := [(6, .int r4), (5, .int r3), (4, .int r2), (0, .ref (A 0)), (1, .ref (A 11)), (2, .int x2), (3, .int x3)]) hx hb dX2_readPerson_78 hl (by decide) rfl (fun ls hl => ?_)
          refine lv_iload (pc := 80) hx hb dX2_readPerson_80 (lv_at hl 0 rfl) ?_
          refine lv_bipush (pc := 82) (v := (-9 : Int32)) hx hb dX2_readPerson_82 (by decide) ?_
          refine lv_icmp_ne (pc := 84) (tgt := 91) hx hb dX2_readPerson_84 (by decide) (fun h1 => ?_) (fun h1 => ?_)
          · have hf := br_n h1 hf
            refine lv_aload_n (pc := 91) hx hb dX2_readPerson_91 rfl (lv_at hl 3 rfl) ?_
            refine wget (pc := 92) X (fun _ h9 => List.mem_cons_of_mem _ (List.mem_append_left _ (List.mem_append_left _ (List.mem_append_right _ h9)))) hP 0 (at_RS_0 G A c b) rfl 0 (by decide) (List.mem_cons_of_mem _ (List.mem_append_left _ (List.mem_append_left _ (List.mem_append_left _ (List.mem_append_left _ (List.mem_of_getElem? (i := 0) rfl)))))) rfl (v := .ref (A 1)) rfl dX2_readPerson_92 ?_
            refine lv_iload (pc := 95) hx hb dX2_readPerson_95 (lv_at hl 2 rfl) ?_
            refine lv_iload (pc := 97) hx hb dX2_readPerson_97 (lv_at hl 1 rfl) ?_
            refine lv_iload (pc := 99) hx hb dX2_readPerson_99 (lv_at hl 0 rfl) ?_
            obtain ⟨c5, hc5, hf⟩ := ob1_some hf
            refine endv X.2.2.2.2 (runV (pc := 101) (As := [.int r2, .int r3, .int r4]) (rest := []) X (c_X0_addPerson G l (fun k => A (1 + k)) H.size c r2 r3 r4 c5 hc5) gX2_readPerson_X0_addPerson k_X0_addPerson ⟨rfl, rfl⟩ ⟨Nat.le_of_ble_eq_true rfl, Nat.le_of_ble_eq_true rfl⟩ (em_RS_Ch_1_c G A c b c5) hP hD hS (ci := 0) rfl rfl (at_Ch_0 G (fun k => A (1 + k)) c) rfl hl.1 rfl (Nat.le_of_ble_eq_true rfl) ⟨Nat.zero_le _, Nat.zero_le _⟩ dX2_readPerson_101) (em_RS_Ch_1_c G A c b c5) hP hD hS (fun H locs hP hD hS => ?_)
            refine lv_bipush (pc := 104) (v := (-9 : Int32)) hx hb dX2_readPerson_104 (by decide) ?_
            cases hf
            exact hret _ _ _ _ dX2_readPerson_106 hP hD hS
          · have hf := br_y h1 hf
            refine lv_iload_n (pc := 87) hx hb dX2_readPerson_87 rfl (lv_at hl 6 rfl) ?_
            refine lv_iconst (pc := 88) (v := (2 : Int32)) hx hb dX2_readPerson_88 (by decide) ?_
            refine lv_iadd (pc := 89) hx hb dX2_readPerson_89 ?_
            cases hf
            exact hret _ _ _ _ dX2_readPerson_90 hP hD hS
        · have hf := br_y h2 hf
          refine lv_iload_n (pc := 62) hx hb dX2_readPerson_62 rfl (lv_at hl 5 rfl) ?_
          refine lv_iconst (pc := 63) (v := (1 : Int32)) hx hb dX2_readPerson_63 (by decide) ?_
          refine lv_iadd (pc := 64) hx hb dX2_readPerson_64 ?_
          cases hf
          exact hret _ _ _ _ dX2_readPerson_65 hP hD hS
      · have hf := br_n h3 hf
        exact b_39 _ _ H locs ls hf hP hD hS (lv_sub hl [4] rfl)
def r_X2_read : Room := { frames := 5, cells := 0, slots := 0, locals := 117 }
set_option maxHeartbeats 4000000 in
set_option maxRecDepth 100000 in
theorem c_X2_read (G : GT) (l : Launch) (A : Nat → Nat) (sz : Nat) (c : CS) (b : CS) (x2 : Int32) (r : Int32) (c' : CS) (hf : f_X2_read c b x2 = some (r, c')) : MTi l yX2_read wsX2_read r_X2_read [.ref (A 0), .ref (A 11), .int x2] G (w_RS G A c b) (w_RS G A c' b) sz r := by
  refine MTi.of (cc := cX2_read) (maxL := 8) (by decide +kernel) rfl (Nat.le_of_ble_eq_true rfl) (fun p e s m av below meth cd Q B H locs ls X hret hl hP hD hS => ?_)
  have hx := X.1.1
  have hb := X.1.2.1
  have hl : lv_has ls 8 [(0, .ref (A 0)), (1, .ref (A 11)), (2, .int x2)] := hl
  have b_126 : ∀ (t0 : Int32) (c : CS) (H : Heap) (locs : List Loc) (ls : Array Slot), f_X2_read_126 t0 c b = some (r, c') → va_P G.1 vwCl (w_RS G A c b) H → va_D B (w_RS G A c b) → va_S B s.heap H locs → lv_has ls 8 [] → W p l e r_X2_read s m av below meth cd H locs 0 0 Q (F0 m 126 ls [.int t0]) := by
    intro t0 c H locs ls hf hP hD hS hl
    unfold f_X2_read_126 at hf
    cases hf
    exact hret _ _ _ _ dX2_read_126 hP hD hS
  have b_110 : ∀ (x3 : Int32) (c : CS) (H : Heap) (locs : List Loc) (ls : Array Slot), f_X2_read_110 x3 c b = some (r, c') → va_P G.1 vwCl (w_RS G A c b) H → va_D B (w_RS G A c b) → va_S B s.heap H locs → lv_has ls 8 [(0, .ref (A 0)), (3, .int x3)] → W p l e r_X2_read s m av below meth cd H locs 0 0 Q (F0 m 110 ls []) := by
    intro x3 c H locs ls hf hP hD hS hl
    unfold f_X2_read_110 at hf
    refine lv_aload_n (pc := 110) hx hb dX2_read_110 rfl (lv_at hl 0 rfl) ?_
    refine wget (pc := 111) X (fun _ h9 => List.mem_cons_of_mem _ (List.mem_append_left _ (List.mem_append_left _ (List.mem_append_right _ h9)))) hP 0 (at_RS_0 G A c b) rfl 0 (by decide) (List.mem_cons_of_mem _ (List.mem_append_left _ (List.mem_append_left _ (List.mem_append_left _ (List.mem_append_left _ (List.mem_of_getElem? (i := 0) rfl)))))) rfl (v := .ref (A 1)) rfl dX2_read_111 ?_
    refine wgetN (pc := 114) X (fun _ h9 => List.mem_cons_of_mem _ (List.mem_append_left _ (List.mem_append_right _ h9))) hP 1 (at_RS_1 G A c b) rfl 0 (by decide) (List.mem_of_getElem? (i := 5) rfl) rfl (v := .int (c 0 0)) rfl dX2_read_114 ?_
    refine lv_if_le (pc := 117) (tgt := 125) hx hb dX2_read_117 (by decide) (fun h1 => ?_) (fun h1 => ?_)
    · have hf := br_y h1 hf
      refine lv_iload_n (pc := 125) hx hb dX2_read_125 rfl (lv_at hl 1 rfl) ?_
      exact b_126 _ _ H locs ls hf hP hD hS (lv_sub hl [] rfl)
    · have hf := br_n h1 hf
      refine lv_bipush (pc := 120) (v := (-9 : Int32)) hx hb dX2_read_120 (by decide) ?_
      refine lv_goto (pc := 122) (tgt := 126) hx hb dX2_read_122 (by decide) ?_
      exact b_126 _ _ H locs ls hf hP hD hS (lv_sub hl [] rfl)
  have l_19 : ∀ (n19 : Nat), ∀ (x2 : Int32) (x3 : Int32) (x4 : Int32) (x5 : Int32) (c : CS) (H : Heap) (locs : List Loc) (ls : Array Slot), f_X2_read_19 n19 x2 x3 x4 x5 c b = some (r, c') → va_P G.1 vwCl (w_RS G A c b) H → va_D B (w_RS G A c b) → va_S B s.heap H locs → lv_has ls 8 [(0, .ref (A 0)), (1, .ref (A 11)), (2, .int x2), (3, .int x3), (4, .int x4), (5, .int x5)] → W p l e r_X2_read s m av below meth cd H locs 0 0 Q (F0 m 19 ls []) := by
    intro n19
    induction n19 with
    | zero =>
      intro x2 x3 x4 x5 c H locs ls hf hP hD hS hl
      rw [f_X2_read_19] at hf
      cases hf
    | succ n19 ih19 =>
      have b_94 : ∀ (x2 : Int32) (x3 : Int32) (x4 : Int32) (x5 : Int32) (x7 : Int32) (c : CS) (H : Heap) (locs : List Loc) (ls : Array Slot), f_X2_read_94 (f_X2_read_19 n19) x2 x3 x4 x5 x7 c b = some (r, c') → va_P G.1 vwCl (w_RS G A c b) H → va_D B (w_RS G A c b) → va_S B s.heap H locs → lv_has ls 8 [(0, .ref (A 0)), (1, .ref (A 11)), (2, .int x2), (3, .int x3), (4, .int x4), (5, .int x5), (7, .int x7)] → W p l e r_X2_read s m av below meth cd H locs 0 0 Q (F0 m 94 ls []) := by
        intro x2 x3 x4 x5 x7 c H locs ls hf hP hD hS hl
        unfold f_X2_read_94 at hf
        refine lv_iload (pc := 94) hx hb dX2_read_94 (lv_at hl 6 rfl) ?_
        refine lv_bipush (pc := 96) (v := (-9 : Int32)) hx hb dX2_read_96 (by decide) ?_
        refine lv_icmp_eq (pc := 98) (tgt := 104) hx hb dX2_read_98 (by decide) (fun h2 => ?_) (fun h2 => ?_)
        · have hf := br_y h2 hf
          refine lv_iinc (pc := 104) (v := (x5 + (1 : Int32))) (lv' := [(5, .int (x5 + (1 : Int32))), (0, .ref (A 0)), (1, .ref (A 11)), (2, .int x2), (3, .int x3), (4, .int x4), (7, .int x7)]) hx hb dX2_read_104 hl (k := 5) rfl rfl (by decide) rfl (fun ls hl => ?_)
          refine lv_goto (pc := 107) (tgt := 19) hx hb dX2_read_107 (by decide) ?_
          exact ih19 _ _ _ _ _ H locs ls hf hP hD hS (lv_sub hl [1, 2, 3, 4, 5, 0] rfl)
        · have hf := br_n h2 hf
          refine lv_iload (pc := 101) hx hb dX2_read_101 (lv_at hl 6 rfl) ?_
          cases hf
          exact hret _ _ _ _ dX2_read_103 hP hD hS
      intro x2 x3 x4 x5 c H locs ls hf hP hD hS hl
      rw [f_X2_read_19] at hf
      refine lv_iload (pc := 19) hx hb dX2_read_19 (lv_at hl 5 rfl) ?_
      refine lv_bipush (pc := 21) (v := (60 : Int32)) hx hb dX2_read_21 (by decide) ?_
      refine lv_icmp_gt (pc := 23) (tgt := 110) hx hb dX2_read_23 (by decide) (fun h6 => ?_) (fun h6 => ?_)
      · have hf := br_y h6 hf
        exact b_110 _ _ H locs ls hf hP hD hS (lv_sub hl [0, 3] rfl)
      · have hf := br_n h6 hf
        refine lv_iload (pc := 26) hx hb dX2_read_26 (lv_at hl 4 rfl) ?_
        refine lv_iload_n (pc := 28) hx hb dX2_read_28 rfl (lv_at hl 3 rfl) ?_
        refine lv_icmp_ge (pc := 29) (tgt := 110) hx hb dX2_read_29 (by decide) (fun h5 => ?_) (fun h5 => ?_)
        · have hf := br_y h5 hf
          exact b_110 _ _ H locs ls hf hP hD hS (lv_sub hl [0, 3] rfl)
        · have hf := br_n h5 hf
          refine lv_aload_n (pc := 32) hx hb dX2_read_32 rfl (lv_at hl 1 rfl) ?_
          refine lv_iload_n (pc := 33) hx hb dX2_read_33 rfl (lv_at hl 2 rfl) ?_
          refine lv_iload (pc := 34) hx hb dX2_read_34 (lv_at hl 4 rfl) ?_
          obtain ⟨r1, hc1, hf⟩ := ob1_some hf
          refine endi X.2.2.2.2 (runV (pc := 36) (As := [.int x2, .int x4]) (rest := []) X (c_X3_get_t G l (fun k => A (11 + k)) H.size b x2 x4 r1 hc1) gX2_read_X3_get k_X3_get ⟨rfl, rfl⟩ ⟨Nat.le_of_ble_eq_true rfl, Nat.le_of_ble_eq_true rfl⟩ (em_RS_S4_11 G A c b ) hP hD hS (ci := 3) rfl rfl (at_S4_0 G (fun k => A (11 + k)) b) rfl hl.1 rfl (Nat.le_of_ble_eq_true rfl) ⟨Nat.zero_le _, Nat.zero_le _⟩ dX2_read_36) (em_RS_S4_11 G A c b ) hP hD hS (fun H locs hP hD hS => ?_)
          refine lv_istore (pc := 39) (lv' := [(6, .int r1), (0, .ref (A 0)), (1, .ref (A 11)), (2, .int x2), (3, .int x3), (4, .int x4), (5, .int x5)]) hx hb dX2_read_39 hl (by decide) rfl (fun ls hl => ?_)
          refine lv_bipush (pc := 41) (v := (-9 : Int32)) hx hb dX2_read_41 (by decide) ?_
          refine lv_istore (pc := 43) (lv' := [(7, .int (-9 : Int32)), (6, .int r1), (0, .ref (A 0)), (1, .ref (A 11)), (2, .int x2), (3, .int x3), (4, .int x4), (5, .int x5)]) hx hb dX2_read_43 hl (by decide) rfl (fun ls hl => ?_)
          refine lv_iload (pc := 45) hx hb dX2_read_45 (lv_at hl 1 rfl) ?_
          refine lv_bipush (pc := 47) (v := (32 : Int32)) hx hb dX2_read_47 (by decide) ?_
          refine lv_icmp_ne (pc := 49) (tgt := 58) hx hb dX2_read_49 (by decide) (fun h4 => ?_) (fun h4 => ?_)
          · have hf := br_n h4 hf
            refine lv_iload (pc := 58) hx hb dX2_read_58 (lv_at hl 1 rfl) ?_
            refine lv_bipush (pc := 60) (v := (120 : Int32)) hx hb dX2_read_60 (by decide) ?_
            refine lv_icmp_ne (pc := 62) (tgt := 81) hx hb dX2_read_62 (by decide) (fun h3 => ?_) (fun h3 => ?_)
            · have hf := br_n h3 hf
              refine lv_aload_n (pc := 81) hx hb dX2_read_81 rfl (lv_at hl 2 rfl) ?_
              refine lv_aload_n (pc := 82) hx hb dX2_read_82 rfl (lv_at hl 3 rfl) ?_
              refine lv_iload_n (pc := 83) hx hb dX2_read_83 rfl (lv_at hl 4 rfl) ?_
              refine lv_iload (pc := 84) hx hb dX2_read_84 (lv_at hl 6 rfl) ?_
              obtain ⟨r2, c2, hc2, hf⟩ := ob2_some hf
              refine endi X.2.2.2.2 (runV (pc := 86) (As := [.ref (A 11), .int x2, .int x4]) (rest := []) X (c_X2_readPerson G l A H.size c b x2 x4 r2 c2 hc2) gX2_read_X2_readPerson k_X2_readPerson ⟨rfl, rfl⟩ ⟨Nat.le_of_ble_eq_true rfl, Nat.le_of_ble_eq_true rfl⟩ (EM.all (w_RS G A c b) (w_RS G A c2 b)) hP hD hS (ci := 2) rfl rfl (at_RS_0 G A c b) rfl hl.1 rfl (Nat.le_of_ble_eq_true rfl) ⟨Nat.zero_le _, Nat.zero_le _⟩ dX2_read_86) (EM.all (w_RS G A c b) (w_RS G A c2 b)) hP hD hS (fun H locs hP hD hS => ?_)
              refine lv_istore (pc := 89) (lv' := [(7, .int r2), (6, .int r1), (0, .ref (A 0)), (1, .ref (A 11)), (2, .int x2), (3, .int x3), (4, .int x4), (5, .int x5)]) hx hb dX2_read_89 hl (by decide) rfl (fun ls hl => ?_)
              refine lv_iinc (pc := 91) (v := (x4 + (3 : Int32))) (lv' := [(4, .int (x4 + (3 : Int32))), (7, .int r2), (6, .int r1), (0, .ref (A 0)), (1, .ref (A 11)), (2, .int x2), (3, .int x3), (5, .int x5)]) hx hb dX2_read_91 hl (k := 6) rfl rfl (by decide) rfl (fun ls hl => ?_)
              exact b_94 _ _ _ _ _ _ H locs ls hf hP hD hS (lv_sub hl [3, 4, 5, 6, 0, 7, 1] rfl)
            · have hf := br_y h3 hf
              refine lv_aload_n (pc := 65) hx hb dX2_read_65 rfl (lv_at hl 2 rfl) ?_
              refine lv_aload_n (pc := 66) hx hb dX2_read_66 rfl (lv_at hl 3 rfl) ?_
              refine lv_iload_n (pc := 67) hx hb dX2_read_67 rfl (lv_at hl 4 rfl) ?_
              refine lv_iload (pc := 68) hx hb dX2_read_68 (lv_at hl 6 rfl) ?_
              obtain ⟨r3, c3, hc3, hf⟩ := ob2_some hf
              refine endi X.2.2.2.2 (runV (pc := 70) (As := [.ref (A 11), .int x2, .int x4]) (rest := []) X (c_X2_readError G l A H.size c b x2 x4 r3 c3 hc3) gX2_read_X2_readError k_X2_readError ⟨rfl, rfl⟩ ⟨Nat.le_of_ble_eq_true rfl, Nat.le_of_ble_eq_true rfl⟩ (EM.all (w_RS G A c b) (w_RS G A c3 b)) hP hD hS (ci := 2) rfl rfl (at_RS_0 G A c b) rfl hl.1 rfl (Nat.le_of_ble_eq_true rfl) ⟨Nat.zero_le _, Nat.zero_le _⟩ dX2_read_70) (EM.all (w_RS G A c b) (w_RS G A c3 b)) hP hD hS (fun H locs hP hD hS => ?_)
              refine lv_istore (pc := 73) (lv' := [(7, .int r3), (6, .int r1), (0, .ref (A 0)), (1, .ref (A 11)), (2, .int x2), (3, .int x3), (4, .int x4), (5, .int x5)]) hx hb dX2_read_73 hl (by decide) rfl (fun ls hl => ?_)
              refine lv_iinc (pc := 75) (v := (x4 + (5 : Int32))) (lv' := [(4, .int (x4 + (5 : Int32))), (7, .int r3), (6, .int r1), (0, .ref (A 0)), (1, .ref (A 11)), (2, .int x2), (3, .int x3), (5, .int x5)]) hx hb dX2_read_75 hl (k := 6) rfl rfl (by decide) rfl (fun ls hl => ?_)
              refine lv_goto (pc := 78) (tgt := 94) hx hb dX2_read_78 (by decide) ?_
              exact b_94 _ _ _ _ _ _ H locs ls hf hP hD hS (lv_sub hl [3, 4, 5, 6, 0, 7, 1] rfl)
          · have hf := br_y h4 hf
            refine lv_iinc (pc := 52) (v := (x4 + (1 : Int32))) (lv' := [(4, .int (x4 + (1 : Int32))), (7, .int (-9 : Int32)), (6, .int r1), (0, .ref (A 0)), (1, .ref (A 11)), (2, .int x2), (3, .int x3), (5, .int x5)]) hx hb dX2_read_52 hl (k := 6) rfl rfl (by decide) rfl (fun ls hl => ?_)
            refine lv_goto (pc := 55) (tgt := 94) hx hb dX2_read_55 (by decide) ?_
            exact b_94 _ _ _ _ _ _ H locs ls hf hP hD hS (lv_sub hl [3, 4, 5, 6, 0, 7, 1] rfl)
  unfold f_X2_read at hf
  refine lv_aload_n (pc := 0) hx hb dX2_read_0 rfl (lv_at hl 0 rfl) ?_
  refine wget (pc := 1) X (fun _ h9 => List.mem_cons_of_mem _ (List.mem_append_left _ (List.mem_append_left _ (List.mem_append_right _ h9)))) hP 0 (at_RS_0 G A c b) rfl 0 (by decide) (List.mem_cons_of_mem _ (List.mem_append_left _ (List.mem_append_left _ (List.mem_append_left _ (List.mem_append_left _ (List.mem_of_getElem? (i := 0) rfl)))))) rfl (v := .ref (A 1)) rfl dX2_read_1 ?_
  obtain ⟨c1, hc1, hf⟩ := ob1_some hf
  refine endv X.2.2.2.2 (runV (pc := 4) (As := []) (rest := []) X (c_X0_clear G l (fun k => A (1 + k)) H.size c c1 hc1) gX2_read_X0_clear k_X0_clear ⟨rfl, rfl⟩ ⟨Nat.le_of_ble_eq_true rfl, Nat.le_of_ble_eq_true rfl⟩ (em_RS_Ch_1_c G A c b c1) hP hD hS (ci := 0) rfl rfl (at_Ch_0 G (fun k => A (1 + k)) c) rfl hl.1 rfl (Nat.le_of_ble_eq_true rfl) ⟨Nat.zero_le _, Nat.zero_le _⟩ dX2_read_4) (em_RS_Ch_1_c G A c b c1) hP hD hS (fun H locs hP hD hS => ?_)
  refine lv_aload_n (pc := 7) hx hb dX2_read_7 rfl (lv_at hl 1 rfl) ?_
  refine lv_iload_n (pc := 8) hx hb dX2_read_8 rfl (lv_at hl 2 rfl) ?_
  obtain ⟨r2, hc2, hf⟩ := ob1_some hf
  refine endi X.2.2.2.2 (runV (pc := 9) (As := [.int x2]) (rest := []) X (c_X3_sizeOf_t G l (fun k => A (11 + k)) H.size b x2 r2 hc2) gX2_read_X3_sizeOf k_X3_sizeOf ⟨rfl, rfl⟩ ⟨Nat.le_of_ble_eq_true rfl, Nat.le_of_ble_eq_true rfl⟩ (em_RS_S4_11 G A c1 b ) hP hD hS (ci := 3) rfl rfl (at_S4_0 G (fun k => A (11 + k)) b) rfl hl.1 rfl (Nat.le_of_ble_eq_true rfl) ⟨Nat.zero_le _, Nat.zero_le _⟩ dX2_read_9) (em_RS_S4_11 G A c1 b ) hP hD hS (fun H locs hP hD hS => ?_)
  refine lv_istore_n (pc := 12) (lv' := [(3, .int r2), (0, .ref (A 0)), (1, .ref (A 11)), (2, .int x2)]) hx hb dX2_read_12 rfl hl (by decide) rfl (fun ls hl => ?_)
  refine lv_iconst (pc := 13) (v := (0 : Int32)) hx hb dX2_read_13 (by decide) ?_
  refine lv_istore (pc := 14) (lv' := [(4, .int (0 : Int32)), (3, .int r2), (0, .ref (A 0)), (1, .ref (A 11)), (2, .int x2)]) hx hb dX2_read_14 hl (by decide) rfl (fun ls hl => ?_)
  refine lv_iconst (pc := 16) (v := (0 : Int32)) hx hb dX2_read_16 (by decide) ?_
  refine lv_istore (pc := 17) (lv' := [(5, .int (0 : Int32)), (4, .int (0 : Int32)), (3, .int r2), (0, .ref (A 0)), (1, .ref (A 11)), (2, .int x2)]) hx hb dX2_read_17 hl (by decide) rfl (fun ls hl => ?_)
  exact l_19 FU _ _ _ _ _ H locs ls hf hP hD hS (lv_sub hl [3, 4, 5, 2, 1, 0] rfl)
