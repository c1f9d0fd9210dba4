def r_X3_isNumber_r : Room := { frames := 0, cells := 0, slots := 0, locals := 0 }
set_option maxHeartbeats 4000000 in
set_option maxRecDepth 100000 in
theorem c_X3_isNumber_r (G : GT) (l : Launch) (A : Nat → Nat) (sz : Nat) (b : CS) (x1 : Int32) (r : Int32) (hf : f_X3_isNumber_r b x1 = some r) : MTi l yX3_isNumber wsX3_isNumber r_X3_isNumber_r [.ref (A 0), .int x1] G (w_S6 G A b) (w_S6 G A b) sz r := by
  refine MTz.of (cc := cX3_isNumber) (maxL := 2) (by decide +kernel) rfl (Nat.le_of_ble_eq_true rfl) (fun p e s m av below meth cd Q B H locs ls X hret hl hP hD hS => ?_)
  have hx := X.1.1
  have hb := X.1.2.1
  have hl : lv_has ls 2 [(0, .ref (A 0)), (1, .int x1)] := hl
  have b_18 : ∀ (t0 : Int32) (H : Heap) (locs : List Loc) (ls : Array Slot), f_X3_isNumber_r_18 t0 b = some r → va_P G.1 vwCl (w_S6 G A b) H → va_D B (w_S6 G A b) → va_S B s.heap H locs → lv_has ls 2 [] → W p l e r_X3_isNumber_r s m av below meth cd H locs 0 0 Q (F0 m 18 ls [.int t0]) := by
    intro t0 H locs ls hf hP hD hS hl
    unfold f_X3_isNumber_r_18 at hf
    obtain ⟨hz, hf⟩ := ck_some hf
    cases hf
    exact hret _ _ _ _ (isb_or hz) dX3_isNumber_18 hP hD hS
  have b_17 : ∀  (H : Heap) (locs : List Loc) (ls : Array Slot), f_X3_isNumber_r_17 b = some r → va_P G.1 vwCl (w_S6 G A b) H → va_D B (w_S6 G A b) → va_S B s.heap H locs → lv_has ls 2 [] → W p l e r_X3_isNumber_r s m av below meth cd H locs 0 0 Q (F0 m 17 ls []) := by
    intro  H locs ls hf hP hD hS hl
    unfold f_X3_isNumber_r_17 at hf
    refine lv_iconst (pc := 17) (v := (0 : Int32)) hx hb dX3_isNumber_17 (by decide) ?_
    exact b_18 _ H locs ls hf hP hD hS (lv_sub hl [] rfl)
  unfold f_X3_isNumber_r at hf
  refine lv_iload_n (pc := 0) hx hb dX3_isNumber_0 rfl (lv_at hl 1 rfl) ?_
  refine lv_if_lt (pc := 1) (tgt := 17) hx hb dX3_isNumber_1 (by decide) (fun h2 => ?_) (fun h2 => ?_)
  · have hf := br_y h2 hf
    exact b_17  H locs ls hf hP hD hS (lv_sub hl [] rfl)
  · have hf := br_n h2 hf
    refine lv_iload_n (pc := 4) hx hb dX3_isNumber_4 rfl (lv_at hl 1 rfl) ?_
    refine lv_aload_n (pc := 5) hx hb dX3_isNumber_5 rfl (lv_at hl 0 rfl) ?_
    refine wget (pc := 6) X (fun _ h9 => List.mem_cons_of_mem _ (List.mem_append_right _ h9)) hP 0 (at_S6_0 G A b) rfl 1 (by decide) (List.mem_cons_of_mem _ (List.mem_append_left _ (List.mem_of_getElem? (i := 0) rfl))) rfl (v := .ref (A 2)) rfl dX3_isNumber_6 ?_
    refine walen (pc := 9) X hP 2 0 (at_S6_2 G A b) rfl (v := (6 : Int32)) rfl dX3_isNumber_9 ?_
    refine lv_icmp_ge (pc := 10) (tgt := 17) hx hb dX3_isNumber_10 (by decide) (fun h1 => ?_) (fun h1 => ?_)
    · have hf := br_y h1 hf
      exact b_17  H locs ls hf hP hD hS (lv_sub hl [] rfl)
    · have hf := br_n h1 hf
      refine lv_iconst (pc := 13) (v := (1 : Int32)) hx hb dX3_isNumber_13 (by decide) ?_
      refine lv_goto (pc := 14) (tgt := 18) hx hb dX3_isNumber_14 (by decide) ?_
      exact b_18 _ H locs ls hf hP hD hS (lv_sub hl [] rfl)
def r_X3_holds_r : Room := { frames := 1, cells := 0, slots := 0, locals := 21 }
set_option maxHeartbeats 4000000 in
set_option maxRecDepth 100000 in
theorem c_X3_holds_r (G : GT) (l : Launch) (A : Nat → Nat) (sz : Nat) (b : CS) (x1 : Int32) (x2 : Int32) (r : Int32) (hf : f_X3_holds_r b x1 x2 = some r) : MTi l yX3_holds wsX3_holds r_X3_holds_r [.ref (A 0), .int x1, .int x2] G (w_S6 G A b) (w_S6 G A b) sz r := by
  refine MTz.of (cc := cX3_holds) (maxL := 3) (by decide +kernel) rfl (Nat.le_of_ble_eq_true rfl) (fun p e s m av below meth cd Q B H locs ls X hret hl hP hD hS => ?_)
  have hx := X.1.1
  have hb := X.1.2.1
  have hl : lv_has ls 3 [(0, .ref (A 0)), (1, .int x1), (2, .int x2)] := hl
  have b_27 : ∀ (t0 : Int32) (H : Heap) (locs : List Loc) (ls : Array Slot), f_X3_holds_r_27 t0 b = some r → va_P G.1 vwCl (w_S6 G A b) H → va_D B (w_S6 G A b) → va_S B s.heap H locs → lv_has ls 3 [] → W p l e r_X3_holds_r s m av below meth cd H locs 0 0 Q (F0 m 27 ls [.int t0]) := by
    intro t0 H locs ls hf hP hD hS hl
    unfold f_X3_holds_r_27 at hf
    obtain ⟨hz, hf⟩ := ck_some hf
    cases hf
    exact hret _ _ _ _ (isb_or hz) dX3_holds_27 hP hD hS
  have b_26 : ∀  (H : Heap) (locs : List Loc) (ls : Array Slot), f_X3_holds_r_26 b = some r → va_P G.1 vwCl (w_S6 G A b) H → va_D B (w_S6 G A b) → va_S B s.heap H locs → lv_has ls 3 [] → W p l e r_X3_holds_r s m av below meth cd H locs 0 0 Q (F0 m 26 ls []) := by
    intro  H locs ls hf hP hD hS hl
    unfold f_X3_holds_r_26 at hf
    refine lv_iconst (pc := 26) (v := (0 : Int32)) hx hb dX3_holds_26 (by decide) ?_
    exact b_27 _ H locs ls hf hP hD hS (lv_sub hl [] rfl)
  unfold f_X3_holds_r at hf
  refine lv_aload_n (pc := 0) hx hb dX3_holds_0 rfl (lv_at hl 0 rfl) ?_
  refine lv_iload_n (pc := 1) hx hb dX3_holds_1 rfl (lv_at hl 1 rfl) ?_
  obtain ⟨r1, hc1, hf⟩ := ob1_some hf
  refine endi X.2.2.2.2 (runV (pc := 2) (As := [.int x1]) (rest := []) X (c_X3_isNumber_r G l A H.size b x1 r1 hc1) gX3_holds_X3_isNumber k_X3_isNumber ⟨rfl, rfl⟩ ⟨Nat.le_of_ble_eq_true rfl, Nat.le_of_ble_eq_true rfl⟩ (EM.all (w_S6 G A b) (w_S6 G A b)) hP hD hS (ci := 3) rfl rfl (at_S6_0 G A b) rfl hl.1 rfl (Nat.le_of_ble_eq_true rfl) ⟨Nat.zero_le _, Nat.zero_le _⟩ dX3_holds_2) (EM.all (w_S6 G A b) (w_S6 G A b)) hP hD hS (fun H locs hP hD hS => ?_)
  refine lv_if_eq (pc := 5) (tgt := 26) hx hb dX3_holds_5 (by decide) (fun h3 => ?_) (fun h3 => ?_)
  · have hf := br_y h3 hf
    exact b_26  H locs ls hf hP hD hS (lv_sub hl [] rfl)
  · have hf := br_n h3 hf
    refine lv_iload_n (pc := 8) hx hb dX3_holds_8 rfl (lv_at hl 2 rfl) ?_
    refine lv_if_lt (pc := 9) (tgt := 26) hx hb dX3_holds_9 (by decide) (fun h2 => ?_) (fun h2 => ?_)
    · have hf := br_y h2 hf
      exact b_26  H locs ls hf hP hD hS (lv_sub hl [] rfl)
    · have hf := br_n h2 hf
      refine lv_iload_n (pc := 12) hx hb dX3_holds_12 rfl (lv_at hl 2 rfl) ?_
      refine lv_aload_n (pc := 13) hx hb dX3_holds_13 rfl (lv_at hl 0 rfl) ?_
      refine wget (pc := 14) X (fun _ h9 => List.mem_cons_of_mem _ (List.mem_append_right _ h9)) hP 0 (at_S6_0 G A b) rfl 1 (by decide) (List.mem_cons_of_mem _ (List.mem_append_left _ (List.mem_of_getElem? (i := 0) rfl))) rfl (v := .ref (A 2)) rfl dX3_holds_14 ?_
      refine lv_iload_n (pc := 17) hx hb dX3_holds_17 rfl (lv_at hl 1 rfl) ?_
      obtain ⟨hi, hf⟩ := ck_some hf
      refine wiald (pc := 18) X hP 2 (at_S6_2 G A b) hi rfl dX3_holds_18 ?_
      refine lv_icmp_ge (pc := 19) (tgt := 26) hx hb dX3_holds_19 (by decide) (fun h1 => ?_) (fun h1 => ?_)
      · have hf := br_y h1 hf
        exact b_26  H locs ls hf hP hD hS (lv_sub hl [] rfl)
      · have hf := br_n h1 hf
        refine lv_iconst (pc := 22) (v := (1 : Int32)) hx hb dX3_holds_22 (by decide) ?_
        refine lv_goto (pc := 23) (tgt := 27) hx hb dX3_holds_23 (by decide) ?_
        exact b_27 _ H locs ls hf hP hD hS (lv_sub hl [] rfl)
def r_X3_get_r : Room := { frames := 2, cells := 0, slots := 0, locals := 43 }
set_option maxHeartbeats 4000000 in
set_option maxRecDepth 100000 in
theorem c_X3_get_r (G : GT) (l : Launch) (A : Nat → Nat) (sz : Nat) (b : CS) (x1 : Int32) (x2 : Int32) (r : Int32) (hf : f_X3_get_r b x1 x2 = some r) : MTi l yX3_get wsX3_get r_X3_get_r [.ref (A 0), .int x1, .int x2] G (w_S6 G A b) (w_S6 G A b) sz r := by
  refine MTi.of (cc := cX3_get) (maxL := 3) (by decide +kernel) rfl (Nat.le_of_ble_eq_true rfl) (fun p e s m av below meth cd Q B H locs ls X hret hl hP hD hS => ?_)
  have hx := X.1.1
  have hb := X.1.2.1
  have hl : lv_has ls 3 [(0, .ref (A 0)), (1, .int x1), (2, .int x2)] := hl
  have b_21 : ∀ (t0 : Int32) (H : Heap) (locs : List Loc) (ls : Array Slot), f_X3_get_r_21 t0 b = some r → va_P G.1 vwCl (w_S6 G A b) H → va_D B (w_S6 G A b) → va_S B s.heap H locs → lv_has ls 3 [] → W p l e r_X3_get_r s m av below meth cd H locs 0 0 Q (F0 m 21 ls [.int t0]) := by
    intro t0 H locs ls hf hP hD hS hl
    unfold f_X3_get_r_21 at hf
    cases hf
    exact hret _ _ _ _ dX3_get_21 hP hD hS
  unfold f_X3_get_r at hf
  refine lv_aload_n (pc := 0) hx hb dX3_get_0 rfl (lv_at hl 0 rfl) ?_
  refine lv_iload_n (pc := 1) hx hb dX3_get_1 rfl (lv_at hl 1 rfl) ?_
  refine lv_iload_n (pc := 2) hx hb dX3_get_2 rfl (lv_at hl 2 rfl) ?_
  obtain ⟨r1, hc1, hf⟩ := ob1_some hf
  refine endi X.2.2.2.2 (runV (pc := 3) (As := [.int x1, .int x2]) (rest := []) X (c_X3_holds_r G l A H.size b x1 x2 r1 hc1) gX3_get_X3_holds k_X3_holds ⟨rfl, rfl⟩ ⟨Nat.le_of_ble_eq_true rfl, Nat.le_of_ble_eq_true rfl⟩ (EM.all (w_S6 G A b) (w_S6 G A b)) hP hD hS (ci := 3) rfl rfl (at_S6_0 G A b) rfl hl.1 rfl (Nat.le_of_ble_eq_true rfl) ⟨Nat.zero_le _, Nat.zero_le _⟩ dX3_get_3) (EM.all (w_S6 G A b) (w_S6 G A b)) hP hD hS (fun H locs hP hD hS => ?_)
  refine lv_if_eq (pc := 6) (tgt := 20) hx hb dX3_get_6 (by decide) (fun h1 => ?_) (fun h1 => ?_)
  · have hf := br_y h1 hf
    refine lv_iconst (pc := 20) (v := (0 : Int32)) hx hb dX3_get_20 (by decide) ?_
    exact b_21 _ H locs ls hf hP hD hS (lv_sub hl [] rfl)
  · have hf := br_n h1 hf
    refine lv_aload_n (pc := 9) hx hb dX3_get_9 rfl (lv_at hl 0 rfl) ?_
    refine wget (pc := 10) X (fun _ h9 => List.mem_cons_of_mem _ (List.mem_append_right _ h9)) hP 0 (at_S6_0 G A b) rfl 0 (by decide) (List.mem_cons_of_mem _ (List.mem_append_left _ (List.mem_of_getElem? (i := 0) rfl))) rfl (v := .ref (A 1)) rfl dX3_get_10 ?_
    refine lv_iload_n (pc := 13) hx hb dX3_get_13 rfl (lv_at hl 1 rfl) ?_
    obtain ⟨hi, hf⟩ := ck_some hf
    refine waaldI (pc := 14) X hP 1 (at_S6_1 G A b) hi (B := fun i => A (3 + i)) (fun i h => by rcases (show i = 0 ∨ i = 1 ∨ i = 2 ∨ i = 3 ∨ i = 4 ∨ i = 5 by omega) with rfl | rfl | rfl | rfl | rfl | rfl <;> rfl) dX3_get_14 ?_
    have hj := inb_lt hi
    generalize x1.toNatClampNeg = jj at hf hj ⊢
    rcases (show jj = 0 ∨ jj = 1 ∨ jj = 2 ∨ jj = 3 ∨ jj = 4 ∨ jj = 5 by omega) with rfl | rfl | rfl | rfl | rfl | rfl
    · refine lv_iload_n (pc := 15) hx hb dX3_get_15 rfl (lv_at hl 2 rfl) ?_
      obtain ⟨hi, hf⟩ := ck_some hf
      refine wiald (pc := 16) X hP 3 (at_S6_3 G A b) hi rfl dX3_get_16 ?_
      refine lv_goto (pc := 17) (tgt := 21) hx hb dX3_get_17 (by decide) ?_
      exact b_21 _ H locs ls hf hP hD hS (lv_sub hl [] rfl)
    · refine lv_iload_n (pc := 15) hx hb dX3_get_15 rfl (lv_at hl 2 rfl) ?_
      obtain ⟨hi, hf⟩ := ck_some hf
      refine wiald (pc := 16) X hP 4 (at_S6_4 G A b) hi rfl dX3_get_16 ?_
      refine lv_goto (pc := 17) (tgt := 21) hx hb dX3_get_17 (by decide) ?_
      exact b_21 _ H locs ls hf hP hD hS (lv_sub hl [] rfl)
    · refine lv_iload_n (pc := 15) hx hb dX3_get_15 rfl (lv_at hl 2 rfl) ?_
      obtain ⟨hi, hf⟩ := ck_some hf
      refine wiald (pc := 16) X hP 5 (at_S6_5 G A b) hi rfl dX3_get_16 ?_
      refine lv_goto (pc := 17) (tgt := 21) hx hb dX3_get_17 (by decide) ?_
      exact b_21 _ H locs ls hf hP hD hS (lv_sub hl [] rfl)
    · refine lv_iload_n (pc := 15) hx hb dX3_get_15 rfl (lv_at hl 2 rfl) ?_
      obtain ⟨hi, hf⟩ := ck_some hf
      refine wiald (pc := 16) X hP 6 (at_S6_6 G A b) hi rfl dX3_get_16 ?_
      refine lv_goto (pc := 17) (tgt := 21) hx hb dX3_get_17 (by decide) ?_
      exact b_21 _ H locs ls hf hP hD hS (lv_sub hl [] rfl)
    · refine lv_iload_n (pc := 15) hx hb dX3_get_15 rfl (lv_at hl 2 rfl) ?_
      obtain ⟨hi, hf⟩ := ck_some hf
      refine wiald (pc := 16) X hP 7 (at_S6_7 G A b) hi rfl dX3_get_16 ?_
      refine lv_goto (pc := 17) (tgt := 21) hx hb dX3_get_17 (by decide) ?_
      exact b_21 _ H locs ls hf hP hD hS (lv_sub hl [] rfl)
    · refine lv_iload_n (pc := 15) hx hb dX3_get_15 rfl (lv_at hl 2 rfl) ?_
      obtain ⟨hi, hf⟩ := ck_some hf
      refine wiald (pc := 16) X hP 8 (at_S6_8 G A b) hi rfl dX3_get_16 ?_
      refine lv_goto (pc := 17) (tgt := 21) hx hb dX3_get_17 (by decide) ?_
      exact b_21 _ H locs ls hf hP hD hS (lv_sub hl [] rfl)
def r_X3_sizeOf_r : Room := { frames := 1, cells := 0, slots := 0, locals := 21 }
set_option maxHeartbeats 4000000 in
set_option maxRecDepth 100000 in
theorem c_X3_sizeOf_r (G : GT) (l : Launch) (A : Nat → Nat) (sz : Nat) (b : CS) (x1 : Int32) (r : Int32) (hf : f_X3_sizeOf_r b x1 = some r) : MTi l yX3_sizeOf wsX3_sizeOf r_X3_sizeOf_r [.ref (A 0), .int x1] G (w_S6 G A b) (w_S6 G A b) sz r := by
  refine MTi.of (cc := cX3_sizeOf) (maxL := 2) (by decide +kernel) rfl (Nat.le_of_ble_eq_true rfl) (fun p e s m av below meth cd Q B H locs ls X hret hl hP hD hS => ?_)
  have hx := X.1.1
  have hb := X.1.2.1
  have hl : lv_has ls 2 [(0, .ref (A 0)), (1, .int x1)] := hl
  have b_18 : ∀ (t0 : Int32) (H : Heap) (locs : List Loc) (ls : Array Slot), f_X3_sizeOf_r_18 t0 b = some r → va_P G.1 vwCl (w_S6 G A b) H → va_D B (w_S6 G A b) → va_S B s.heap H locs → lv_has ls 2 [] → W p l e r_X3_sizeOf_r s m av below meth cd H locs 0 0 Q (F0 m 18 ls [.int t0]) := by
    intro t0 H locs ls hf hP hD hS hl
    unfold f_X3_sizeOf_r_18 at hf
    cases hf
    exact hret _ _ _ _ dX3_sizeOf_18 hP hD hS
  unfold f_X3_sizeOf_r at hf
  refine lv_aload_n (pc := 0) hx hb dX3_sizeOf_0 rfl (lv_at hl 0 rfl) ?_
  refine lv_iload_n (pc := 1) hx hb dX3_sizeOf_1 rfl (lv_at hl 1 rfl) ?_
  obtain ⟨r1, hc1, hf⟩ := ob1_some hf
  refine endi X.2.2.2.2 (runV (pc := 2) (As := [.int x1]) (rest := []) X (c_X3_isNumber_r G l A H.size b x1 r1 hc1) gX3_sizeOf_X3_isNumber k_X3_isNumber ⟨rfl, rfl⟩ ⟨Nat.le_of_ble_eq_true rfl, Nat.le_of_ble_eq_true rfl⟩ (EM.all (w_S6 G A b) (w_S6 G A b)) hP hD hS (ci := 3) rfl rfl (at_S6_0 G A b) rfl hl.1 rfl (Nat.le_of_ble_eq_true rfl) ⟨Nat.zero_le _, Nat.zero_le _⟩ dX3_sizeOf_2) (EM.all (w_S6 G A b) (w_S6 G A b)) hP hD hS (fun H locs hP hD hS => ?_)
  refine lv_if_eq (pc := 5) (tgt := 17) hx hb dX3_sizeOf_5 (by decide) (fun h1 => ?_) (fun h1 => ?_)
  · have hf := br_y h1 hf
    refine lv_iconst (pc := 17) (v := (-1 : Int32)) hx hb dX3_sizeOf_17 (by decide) ?_
    exact b_18 _ H locs ls hf hP hD hS (lv_sub hl [] rfl)
  · have hf := br_n h1 hf
    refine lv_aload_n (pc := 8) hx hb dX3_sizeOf_8 rfl (lv_at hl 0 rfl) ?_
    refine wget (pc := 9) X (fun _ h9 => List.mem_cons_of_mem _ (List.mem_append_right _ h9)) hP 0 (at_S6_0 G A b) rfl 1 (by decide) (List.mem_cons_of_mem _ (List.mem_append_left _ (List.mem_of_getElem? (i := 0) rfl))) rfl (v := .ref (A 2)) rfl dX3_sizeOf_9 ?_
    refine lv_iload_n (pc := 12) hx hb dX3_sizeOf_12 rfl (lv_at hl 1 rfl) ?_
    obtain ⟨hi, hf⟩ := ck_some hf
    refine wiald (pc := 13) X hP 2 (at_S6_2 G A b) hi rfl dX3_sizeOf_13 ?_
    refine lv_goto (pc := 14) (tgt := 18) hx hb dX3_sizeOf_14 (by decide) ?_
    exact b_18 _ H locs ls hf hP hD hS (lv_sub hl [] rfl)
def r_X3_isNumber_t : Room := { frames := 0, cells := 0, slots := 0, locals := 0 }
set_option maxHeartbeats 4000000 in
set_option maxRecDepth 100000 in
theorem c_X3_isNumber_t (G : GT) (l : Launch) (A : Nat → Nat) (sz : Nat) (b : CS) (x1 : Int32) (r : Int32) (hf : f_X3_isNumber_t b x1 = some r) : MTi l yX3_isNumber wsX3_isNumber r_X3_isNumber_t [.ref (A 0), .int x1] G (w_S4 G A b) (w_S4 G A b) sz r := by
  refine MTz.of (cc := cX3_isNumber) (maxL := 2) (by decide +kernel) rfl (Nat.le_of_ble_eq_true rfl) (fun p e s m av below meth cd Q B H locs ls X hret hl hP hD hS => ?_)
  have hx := X.1.1
  have hb := X.1.2.1
  have hl : lv_has ls 2 [(0, .ref (A 0)), (1, .int x1)] := hl
  have b_18 : ∀ (t0 : Int32) (H : Heap) (locs : List Loc) (ls : Array Slot), f_X3_isNumber_t_18 t0 b = some r → va_P G.1 vwCl (w_S4 G A b) H → va_D B (w_S4 G A b) → va_S B s.heap H locs → lv_has ls 2 [] → W p l e r_X3_isNumber_t s m av below meth cd H locs 0 0 Q (F0 m 18 ls [.int t0]) := by
    intro t0 H locs ls hf hP hD hS hl
    unfold f_X3_isNumber_t_18 at hf
    obtain ⟨hz, hf⟩ := ck_some hf
    cases hf
    exact hret _ _ _ _ (isb_or hz) dX3_isNumber_18 hP hD hS
  have b_17 : ∀  (H : Heap) (locs : List Loc) (ls : Array Slot), f_X3_isNumber_t_17 b = some r → va_P G.1 vwCl (w_S4 G A b) H → va_D B (w_S4 G A b) → va_S B s.heap H locs → lv_has ls 2 [] → W p l e r_X3_isNumber_t s m av below meth cd H locs 0 0 Q (F0 m 17 ls []) := by
    intro  H locs ls hf hP hD hS hl
    unfold f_X3_isNumber_t_17 at hf
    refine lv_iconst (pc := 17) (v := (0 : Int32)) hx hb dX3_isNumber_17 (by decide) ?_
    exact b_18 _ H locs ls hf hP hD hS (lv_sub hl [] rfl)
  unfold f_X3_isNumber_t at hf
  refine lv_iload_n (pc := 0) hx hb dX3_isNumber_0 rfl (lv_at hl 1 rfl) ?_
  refine lv_if_lt (pc := 1) (tgt := 17) hx hb dX3_isNumber_1 (by decide) (fun h2 => ?_) (fun h2 => ?_)
  · have hf := br_y h2 hf
    exact b_17  H locs ls hf hP hD hS (lv_sub hl [] rfl)
  · have hf := br_n h2 hf
    refine lv_iload_n (pc := 4) hx hb dX3_isNumber_4 rfl (lv_at hl 1 rfl) ?_
    refine lv_aload_n (pc := 5) hx hb dX3_isNumber_5 rfl (lv_at hl 0 rfl) ?_
    refine wget (pc := 6) X (fun _ h9 => List.mem_cons_of_mem _ (List.mem_append_right _ h9)) hP 0 (at_S4_0 G A b) rfl 1 (by decide) (List.mem_cons_of_mem _ (List.mem_append_left _ (List.mem_of_getElem? (i := 0) rfl))) rfl (v := .ref (A 2)) rfl dX3_isNumber_6 ?_
    refine walen (pc := 9) X hP 2 0 (at_S4_2 G A b) rfl (v := (4 : Int32)) rfl dX3_isNumber_9 ?_
    refine lv_icmp_ge (pc := 10) (tgt := 17) hx hb dX3_isNumber_10 (by decide) (fun h1 => ?_) (fun h1 => ?_)
    · have hf := br_y h1 hf
      exact b_17  H locs ls hf hP hD hS (lv_sub hl [] rfl)
    · have hf := br_n h1 hf
      refine lv_iconst (pc := 13) (v := (1 : Int32)) hx hb dX3_isNumber_13 (by decide) ?_
      refine lv_goto (pc := 14) (tgt := 18) hx hb dX3_isNumber_14 (by decide) ?_
      exact b_18 _ H locs ls hf hP hD hS (lv_sub hl [] rfl)
def r_X3_holds_t : Room := { frames := 1, cells := 0, slots := 0, locals := 21 }
set_option maxHeartbeats 4000000 in
set_option maxRecDepth 100000 in
theorem c_X3_holds_t (G : GT) (l : Launch) (A : Nat → Nat) (sz : Nat) (b : CS) (x1 : Int32) (x2 : Int32) (r : Int32) (hf : f_X3_holds_t b x1 x2 = some r) : MTi l yX3_holds wsX3_holds r_X3_holds_t [.ref (A 0), .int x1, .int x2] G (w_S4 G A b) (w_S4 G A b) sz r := by
  refine MTz.of (cc := cX3_holds) (maxL := 3) (by decide +kernel) rfl (Nat.le_of_ble_eq_true rfl) (fun p e s m av below meth cd Q B H locs ls X hret hl hP hD hS => ?_)
  have hx := X.1.1
  have hb := X.1.2.1
  have hl : lv_has ls 3 [(0, .ref (A 0)), (1, .int x1), (2, .int x2)] := hl
  have b_27 : ∀ (t0 : Int32) (H : Heap) (locs : List Loc) (ls : Array Slot), f_X3_holds_t_27 t0 b = some r → va_P G.1 vwCl (w_S4 G A b) H → va_D B (w_S4 G A b) → va_S B s.heap H locs → lv_has ls 3 [] → W p l e r_X3_holds_t s m av below meth cd H locs 0 0 Q (F0 m 27 ls [.int t0]) := by
    intro t0 H locs ls hf hP hD hS hl
    unfold f_X3_holds_t_27 at hf
    obtain ⟨hz, hf⟩ := ck_some hf
    cases hf
    exact hret _ _ _ _ (isb_or hz) dX3_holds_27 hP hD hS
  have b_26 : ∀  (H : Heap) (locs : List Loc) (ls : Array Slot), f_X3_holds_t_26 b = some r → va_P G.1 vwCl (w_S4 G A b) H → va_D B (w_S4 G A b) → va_S B s.heap H locs → lv_has ls 3 [] → W p l e r_X3_holds_t s m av below meth cd H locs 0 0 Q (F0 m 26 ls []) := by
    intro  H locs ls hf hP hD hS hl
    unfold f_X3_holds_t_26 at hf
    refine lv_iconst (pc := 26) (v := (0 : Int32)) hx hb dX3_holds_26 (by decide) ?_
    exact b_27 _ H locs ls hf hP hD hS (lv_sub hl [] rfl)
  unfold f_X3_holds_t at hf
  refine lv_aload_n (pc := 0) hx hb dX3_holds_0 rfl (lv_at hl 0 rfl) ?_
  refine lv_iload_n (pc := 1) hx hb dX3_holds_1 rfl (lv_at hl 1 rfl) ?_
  obtain ⟨r1, hc1, hf⟩ := ob1_some hf
  refine endi X.2.2.2.2 (runV (pc := 2) (As := [.int x1]) (rest := []) X (c_X3_isNumber_t G l A H.size b x1 r1 hc1) gX3_holds_X3_isNumber k_X3_isNumber ⟨rfl, rfl⟩ ⟨Nat.le_of_ble_eq_true rfl, Nat.le_of_ble_eq_true rfl⟩ (EM.all (w_S4 G A b) (w_S4 G A b)) hP hD hS (ci := 3) rfl rfl (at_S4_0 G A b) rfl hl.1 rfl (Nat.le_of_ble_eq_true rfl) ⟨Nat.zero_le _, Nat.zero_le _⟩ dX3_holds_2) (EM.all (w_S4 G A b) (w_S4 G A b)) hP hD hS (fun H locs hP hD hS => ?_)
  refine lv_if_eq (pc := 5) (tgt := 26) hx hb dX3_holds_5 (by decide) (fun h3 => ?_) (fun h3 => ?_)
  · have hf := br_y h3 hf
    exact b_26  H locs ls hf hP hD hS (lv_sub hl [] rfl)
  · have hf := br_n h3 hf
    refine lv_iload_n (pc := 8) hx hb dX3_holds_8 rfl (lv_at hl 2 rfl) ?_
    refine lv_if_lt (pc := 9) (tgt := 26) hx hb dX3_holds_9 (by decide) (fun h2 => ?_) (fun h2 => ?_)
    · have hf := br_y h2 hf
      exact b_26  H locs ls hf hP hD hS (lv_sub hl [] rfl)
    · have hf := br_n h2 hf
      refine lv_iload_n (pc := 12) hx hb dX3_holds_12 rfl (lv_at hl 2 rfl) ?_
      refine lv_aload_n (pc := 13) hx hb dX3_holds_13 rfl (lv_at hl 0 rfl) ?_
      refine wget (pc := 14) X (fun _ h9 => List.mem_cons_of_mem _ (List.mem_append_right _ h9)) hP 0 (at_S4_0 G A b) rfl 1 (by decide) (List.mem_cons_of_mem _ (List.mem_append_left _ (List.mem_of_getElem? (i := 0) rfl))) rfl (v := .ref (A 2)) rfl dX3_holds_14 ?_
      refine lv_iload_n (pc := 17) hx hb dX3_holds_17 rfl (lv_at hl 1 rfl) ?_
      obtain ⟨hi, hf⟩ := ck_some hf
      refine wiald (pc := 18) X hP 2 (at_S4_2 G A b) hi rfl dX3_holds_18 ?_
      refine lv_icmp_ge (pc := 19) (tgt := 26) hx hb dX3_holds_19 (by decide) (fun h1 => ?_) (fun h1 => ?_)
      · have hf := br_y h1 hf
        exact b_26  H locs ls hf hP hD hS (lv_sub hl [] rfl)
      · have hf := br_n h1 hf
        refine lv_iconst (pc := 22) (v := (1 : Int32)) hx hb dX3_holds_22 (by decide) ?_
        refine lv_goto (pc := 23) (tgt := 27) hx hb dX3_holds_23 (by decide) ?_
        exact b_27 _ H locs ls hf hP hD hS (lv_sub hl [] rfl)
def r_X3_get_t : Room := { frames := 2, cells := 0, slots := 0, locals := 43 }
set_option maxHeartbeats 4000000 in
set_option maxRecDepth 100000 in
theorem c_X3_get_t (G : GT) (l : Launch) (A : Nat → Nat) (sz : Nat) (b : CS) (x1 : Int32) (x2 : Int32) (r : Int32) (hf : f_X3_get_t b x1 x2 = some r) : MTi l yX3_get wsX3_get r_X3_get_t [.ref (A 0), .int x1, .int x2] G (w_S4 G A b) (w_S4 G A b) sz r := by
  refine MTi.of (cc := cX3_get) (maxL := 3) (by decide +kernel) rfl (Nat.le_of_ble_eq_true rfl) (fun p e s m av below meth cd Q B H locs ls X hret hl hP hD hS => ?_)
  have hx := X.1.1
  have hb := X.1.2.1
  have hl : lv_has ls 3 [(0, .ref (A 0)), (1, .int x1), (2, .int x2)] := hl
  have b_21 : ∀ (t0 : Int32) (H : Heap) (locs : List Loc) (ls : Array Slot), f_X3_get_t_21 t0 b = some r → va_P G.1 vwCl (w_S4 G A b) H → va_D B (w_S4 G A b) → va_S B s.heap H locs → lv_has ls 3 [] → W p l e r_X3_get_t s m av below meth cd H locs 0 0 Q (F0 m 21 ls [.int t0]) := by
    intro t0 H locs ls hf hP hD hS hl
    unfold f_X3_get_t_21 at hf
    cases hf
    exact hret _ _ _ _ dX3_get_21 hP hD hS
  unfold f_X3_get_t at hf
  refine lv_aload_n (pc := 0) hx hb dX3_get_0 rfl (lv_at hl 0 rfl) ?_
  refine lv_iload_n (pc := 1) hx hb dX3_get_1 rfl (lv_at hl 1 rfl) ?_
  refine lv_iload_n (pc := 2) hx hb dX3_get_2 rfl (lv_at hl 2 rfl) ?_
  obtain ⟨r1, hc1, hf⟩ := ob1_some hf
  refine endi X.2.2.2.2 (runV (pc := 3) (As := [.int x1, .int x2]) (rest := []) X (c_X3_holds_t G l A H.size b x1 x2 r1 hc1) gX3_get_X3_holds k_X3_holds ⟨rfl, rfl⟩ ⟨Nat.le_of_ble_eq_true rfl, Nat.le_of_ble_eq_true rfl⟩ (EM.all (w_S4 G A b) (w_S4 G A b)) hP hD hS (ci := 3) rfl rfl (at_S4_0 G A b) rfl hl.1 rfl (Nat.le_of_ble_eq_true rfl) ⟨Nat.zero_le _, Nat.zero_le _⟩ dX3_get_3) (EM.all (w_S4 G A b) (w_S4 G A b)) hP hD hS (fun H locs hP hD hS => ?_)
  refine lv_if_eq (pc := 6) (tgt := 20) hx hb dX3_get_6 (by decide) (fun h1 => ?_) (fun h1 => ?_)
  · have hf := br_y h1 hf
    refine lv_iconst (pc := 20) (v := (0 : Int32)) hx hb dX3_get_20 (by decide) ?_
    exact b_21 _ H locs ls hf hP hD hS (lv_sub hl [] rfl)
  · have hf := br_n h1 hf
    refine lv_aload_n (pc := 9) hx hb dX3_get_9 rfl (lv_at hl 0 rfl) ?_
    refine wget (pc := 10) X (fun _ h9 => List.mem_cons_of_mem _ (List.mem_append_right _ h9)) hP 0 (at_S4_0 G A b) rfl 0 (by decide) (List.mem_cons_of_mem _ (List.mem_append_left _ (List.mem_of_getElem? (i := 0) rfl))) rfl (v := .ref (A 1)) rfl dX3_get_10 ?_
    refine lv_iload_n (pc := 13) hx hb dX3_get_13 rfl (lv_at hl 1 rfl) ?_
    obtain ⟨hi, hf⟩ := ck_some hf
    refine waaldI (pc := 14) X hP 1 (at_S4_1 G A b) hi (B := fun i => A (3 + i)) (fun i h => by rcases (show i = 0 ∨ i = 1 ∨ i = 2 ∨ i = 3 by omega) with rfl | rfl | rfl | rfl <;> rfl) dX3_get_14 ?_
    have hj := inb_lt hi
    generalize x1.toNatClampNeg = jj at hf hj ⊢
    rcases (show jj = 0 ∨ jj = 1 ∨ jj = 2 ∨ jj = 3 by omega) with rfl | rfl | rfl | rfl
    · refine lv_iload_n (pc := 15) hx hb dX3_get_15 rfl (lv_at hl 2 rfl) ?_
      obtain ⟨hi, hf⟩ := ck_some hf
      refine wiald (pc := 16) X hP 3 (at_S4_3 G A b) hi rfl dX3_get_16 ?_
      refine lv_goto (pc := 17) (tgt := 21) hx hb dX3_get_17 (by decide) ?_
      exact b_21 _ H locs ls hf hP hD hS (lv_sub hl [] rfl)
    · refine lv_iload_n (pc := 15) hx hb dX3_get_15 rfl (lv_at hl 2 rfl) ?_
      obtain ⟨hi, hf⟩ := ck_some hf
      refine wiald (pc := 16) X hP 4 (at_S4_4 G A b) hi rfl dX3_get_16 ?_
      refine lv_goto (pc := 17) (tgt := 21) hx hb dX3_get_17 (by decide) ?_
      exact b_21 _ H locs ls hf hP hD hS (lv_sub hl [] rfl)
    · refine lv_iload_n (pc := 15) hx hb dX3_get_15 rfl (lv_at hl 2 rfl) ?_
      obtain ⟨hi, hf⟩ := ck_some hf
      refine wiald (pc := 16) X hP 5 (at_S4_5 G A b) hi rfl dX3_get_16 ?_
      refine lv_goto (pc := 17) (tgt := 21) hx hb dX3_get_17 (by decide) ?_
      exact b_21 _ H locs ls hf hP hD hS (lv_sub hl [] rfl)
    · refine lv_iload_n (pc := 15) hx hb dX3_get_15 rfl (lv_at hl 2 rfl) ?_
      obtain ⟨hi, hf⟩ := ck_some hf
      refine wiald (pc := 16) X hP 6 (at_S4_6 G A b) hi rfl dX3_get_16 ?_
      refine lv_goto (pc := 17) (tgt := 21) hx hb dX3_get_17 (by decide) ?_
      exact b_21 _ H locs ls hf hP hD hS (lv_sub hl [] rfl)
def r_X3_sizeOf_t : Room := { frames := 1, cells := 0, slots := 0, locals := 21 }
set_option maxHeartbeats 4000000 in
set_option maxRecDepth 100000 in
theorem c_X3_sizeOf_t (G : GT) (l : Launch) (A : Nat → Nat) (sz : Nat) (b : CS) (x1 : Int32) (r : Int32) (hf : f_X3_sizeOf_t b x1 = some r) : MTi l yX3_sizeOf wsX3_sizeOf r_X3_sizeOf_t [.ref (A 0), .int x1] G (w_S4 G A b) (w_S4 G A b) sz r := by
  refine MTi.of (cc := cX3_sizeOf) (maxL := 2) (by decide +kernel) rfl (Nat.le_of_ble_eq_true rfl) (fun p e s m av below meth cd Q B H locs ls X hret hl hP hD hS => ?_)
  have hx := X.1.1
  have hb := X.1.2.1
  have hl : lv_has ls 2 [(0, .ref (A 0)), (1, .int x1)] := hl
  have b_18 : ∀ (t0 : Int32) (H : Heap) (locs : List Loc) (ls : Array Slot), f_X3_sizeOf_t_18 t0 b = some r → va_P G.1 vwCl (w_S4 G A b) H → va_D B (w_S4 G A b) → va_S B s.heap H locs → lv_has ls 2 [] → W p l e r_X3_sizeOf_t s m av below meth cd H locs 0 0 Q (F0 m 18 ls [.int t0]) := by
    intro t0 H locs ls hf hP hD hS hl
    unfold f_X3_sizeOf_t_18 at hf
    cases hf
    exact hret _ _ _ _ dX3_sizeOf_18 hP hD hS
  unfold f_X3_sizeOf_t at hf
  refine lv_aload_n (pc := 0) hx hb dX3_sizeOf_0 rfl (lv_at hl 0 rfl) ?_
  refine lv_iload_n (pc := 1) hx hb dX3_sizeOf_1 rfl (lv_at hl 1 rfl) ?_
  obtain ⟨r1, hc1, hf⟩ := ob1_some hf
  refine endi X.2.2.2.2 (runV (pc := 2) (As := [.int x1]) (rest := []) X (c_X3_isNumber_t G l A H.size b x1 r1 hc1) gX3_sizeOf_X3_isNumber k_X3_isNumber ⟨rfl, rfl⟩ ⟨Nat.le_of_ble_eq_true rfl, Nat.le_of_ble_eq_true rfl⟩ (EM.all (w_S4 G A b) (w_S4 G A b)) hP hD hS (ci := 3) rfl rfl (at_S4_0 G A b) rfl hl.1 rfl (Nat.le_of_ble_eq_true rfl) ⟨Nat.zero_le _, Nat.zero_le _⟩ dX3_sizeOf_2) (EM.all (w_S4 G A b) (w_S4 G A b)) hP hD hS (fun H locs hP hD hS => ?_)
  refine lv_if_eq (pc := 5) (tgt := 17) hx hb dX3_sizeOf_5 (by decide) (fun h1 => ?_) (fun h1 => ?_)
  · have hf := br_y h1 hf
    refine lv_iconst (pc := 17) (v := (-1 : Int32)) hx hb dX3_sizeOf_17 (by decide) ?_
    exact b_18 _ H locs ls hf hP hD hS (lv_sub hl [] rfl)
  · have hf := br_n h1 hf
    refine lv_aload_n (pc := 8) hx hb dX3_sizeOf_8 rfl (lv_at hl 0 rfl) ?_
    refine wget (pc := 9) X (fun _ h9 => List.mem_cons_of_mem _ (List.mem_append_right _ h9)) hP 0 (at_S4_0 G A b) rfl 1 (by decide) (List.mem_cons_of_mem _ (List.mem_append_left _ (List.mem_of_getElem? (i := 0) rfl))) rfl (v := .ref (A 2)) rfl dX3_sizeOf_9 ?_
    refine lv_iload_n (pc := 12) hx hb dX3_sizeOf_12 rfl (lv_at hl 1 rfl) ?_
    obtain ⟨hi, hf⟩ := ck_some hf
    refine wiald (pc := 13) X hP 2 (at_S4_2 G A b) hi rfl dX3_sizeOf_13 ?_
    refine lv_goto (pc := 14) (tgt := 18) hx hb dX3_sizeOf_14 (by decide) ?_
    exact b_18 _ H locs ls hf hP hD hS (lv_sub hl [] rfl)
def r_X3_isThere_r : Room := { frames := 1, cells := 0, slots := 0, locals := 21 }
set_option maxHeartbeats 4000000 in
set_option maxRecDepth 100000 in
theorem c_X3_isThere_r (G : GT) (l : Launch) (A : Nat → Nat) (sz : Nat) (b : CS) (x1 : Int32) (r : Int32) (hf : f_X3_isThere_r b x1 = some r) : MTi l yX3_isThere wsX3_isThere r_X3_isThere_r [.ref (A 0), .int x1] G (w_S6 G A b) (w_S6 G A b) sz r := by
  refine MTz.of (cc := cX3_isThere) (maxL := 2) (by decide +kernel) rfl (Nat.le_of_ble_eq_true rfl) (fun p e s m av below meth cd Q B H locs ls X hret hl hP hD hS => ?_)
  have hx := X.1.1
  have hb := X.1.2.1
  have hl : lv_has ls 2 [(0, .ref (A 0)), (1, .int x1)] := hl
  have b_23 : ∀ (t0 : Int32) (H : Heap) (locs : List Loc) (ls : Array Slot), f_X3_isThere_r_23 t0 b = some r → va_P G.1 vwCl (w_S6 G A b) H → va_D B (w_S6 G A b) → va_S B s.heap H locs → lv_has ls 2 [] → W p l e r_X3_isThere_r s m av below meth cd H locs 0 0 Q (F0 m 23 ls [.int t0]) := by
    intro t0 H locs ls hf hP hD hS hl
    unfold f_X3_isThere_r_23 at hf
    obtain ⟨hz, hf⟩ := ck_some hf
    cases hf
    exact hret _ _ _ _ (isb_or hz) dX3_isThere_23 hP hD hS
  have b_22 : ∀  (H : Heap) (locs : List Loc) (ls : Array Slot), f_X3_isThere_r_22 b = some r → va_P G.1 vwCl (w_S6 G A b) H → va_D B (w_S6 G A b) → va_S B s.heap H locs → lv_has ls 2 [] → W p l e r_X3_isThere_r s m av below meth cd H locs 0 0 Q (F0 m 22 ls []) := by
    intro  H locs ls hf hP hD hS hl
    unfold f_X3_isThere_r_22 at hf
    refine lv_iconst (pc := 22) (v := (0 : Int32)) hx hb dX3_isThere_22 (by decide) ?_
    exact b_23 _ H locs ls hf hP hD hS (lv_sub hl [] rfl)
  unfold f_X3_isThere_r at hf
  refine lv_aload_n (pc := 0) hx hb dX3_isThere_0 rfl (lv_at hl 0 rfl) ?_
  refine lv_iload_n (pc := 1) hx hb dX3_isThere_1 rfl (lv_at hl 1 rfl) ?_
  obtain ⟨r1, hc1, hf⟩ := ob1_some hf
  refine endi X.2.2.2.2 (runV (pc := 2) (As := [.int x1]) (rest := []) X (c_X3_isNumber_r G l A H.size b x1 r1 hc1) gX3_isThere_X3_isNumber k_X3_isNumber ⟨rfl, rfl⟩ ⟨Nat.le_of_ble_eq_true rfl, Nat.le_of_ble_eq_true rfl⟩ (EM.all (w_S6 G A b) (w_S6 G A b)) hP hD hS (ci := 3) rfl rfl (at_S6_0 G A b) rfl hl.1 rfl (Nat.le_of_ble_eq_true rfl) ⟨Nat.zero_le _, Nat.zero_le _⟩ dX3_isThere_2) (EM.all (w_S6 G A b) (w_S6 G A b)) hP hD hS (fun H locs hP hD hS => ?_)
  refine lv_if_eq (pc := 5) (tgt := 22) hx hb dX3_isThere_5 (by decide) (fun h2 => ?_) (fun h2 => ?_)
  · have hf := br_y h2 hf
    exact b_22  H locs ls hf hP hD hS (lv_sub hl [] rfl)
  · have hf := br_n h2 hf
    refine lv_aload_n (pc := 8) hx hb dX3_isThere_8 rfl (lv_at hl 0 rfl) ?_
    refine wget (pc := 9) X (fun _ h9 => List.mem_cons_of_mem _ (List.mem_append_right _ h9)) hP 0 (at_S6_0 G A b) rfl 1 (by decide) (List.mem_cons_of_mem _ (List.mem_append_left _ (List.mem_of_getElem? (i := 0) rfl))) rfl (v := .ref (A 2)) rfl dX3_isThere_9 ?_
    refine lv_iload_n (pc := 12) hx hb dX3_isThere_12 rfl (lv_at hl 1 rfl) ?_
    obtain ⟨hi, hf⟩ := ck_some hf
    refine wiald (pc := 13) X hP 2 (at_S6_2 G A b) hi rfl dX3_isThere_13 ?_
    refine lv_iconst (pc := 14) (v := (-1 : Int32)) hx hb dX3_isThere_14 (by decide) ?_
    refine lv_icmp_eq (pc := 15) (tgt := 22) hx hb dX3_isThere_15 (by decide) (fun h1 => ?_) (fun h1 => ?_)
    · have hf := br_y h1 hf
      exact b_22  H locs ls hf hP hD hS (lv_sub hl [] rfl)
    · have hf := br_n h1 hf
      refine lv_iconst (pc := 18) (v := (1 : Int32)) hx hb dX3_isThere_18 (by decide) ?_
      refine lv_goto (pc := 19) (tgt := 23) hx hb dX3_isThere_19 (by decide) ?_
      exact b_23 _ H locs ls hf hP hD hS (lv_sub hl [] rfl)
def r_X3_holdsRun_r : Room := { frames := 2, cells := 0, slots := 0, locals := 42 }
set_option maxHeartbeats 4000000 in
set_option maxRecDepth 100000 in
theorem c_X3_holdsRun_r (G : GT) (l : Launch) (A : Nat → Nat) (sz : Nat) (b : CS) (x1 : Int32) (x2 : Int32) (x3 : Int32) (r : Int32) (hf : f_X3_holdsRun_r b x1 x2 x3 = some r) : MTi l yX3_holdsRun wsX3_holdsRun r_X3_holdsRun_r [.ref (A 0), .int x1, .int x2, .int x3] G (w_S6 G A b) (w_S6 G A b) sz r := by
  refine MTz.of (cc := cX3_holdsRun) (maxL := 4) (by decide +kernel) rfl (Nat.le_of_ble_eq_true rfl) (fun p e s m av below meth cd Q B H locs ls X hret hl hP hD hS => ?_)
  have hx := X.1.1
  have hb := X.1.2.1
  have hl : lv_has ls 4 [(0, .ref (A 0)), (1, .int x1), (2, .int x2), (3, .int x3)] := hl
  have b_43 : ∀ (t0 : Int32) (H : Heap) (locs : List Loc) (ls : Array Slot), f_X3_holdsRun_r_43 t0 b = some r → va_P G.1 vwCl (w_S6 G A b) H → va_D B (w_S6 G A b) → va_S B s.heap H locs → lv_has ls 4 [] → W p l e r_X3_holdsRun_r s m av below meth cd H locs 0 0 Q (F0 m 43 ls [.int t0]) := by
    intro t0 H locs ls hf hP hD hS hl
    unfold f_X3_holdsRun_r_43 at hf
    obtain ⟨hz, hf⟩ := ck_some hf
    cases hf
    exact hret _ _ _ _ (isb_or hz) dX3_holdsRun_43 hP hD hS
  have b_42 : ∀  (H : Heap) (locs : List Loc) (ls : Array Slot), f_X3_holdsRun_r_42 b = some r → va_P G.1 vwCl (w_S6 G A b) H → va_D B (w_S6 G A b) → va_S B s.heap H locs → lv_has ls 4 [] → W p l e r_X3_holdsRun_r s m av below meth cd H locs 0 0 Q (F0 m 42 ls []) := by
    intro  H locs ls hf hP hD hS hl
    unfold f_X3_holdsRun_r_42 at hf
    refine lv_iconst (pc := 42) (v := (0 : Int32)) hx hb dX3_holdsRun_42 (by decide) ?_
    exact b_43 _ H locs ls hf hP hD hS (lv_sub hl [] rfl)
  unfold f_X3_holdsRun_r at hf
  refine lv_aload_n (pc := 0) hx hb dX3_holdsRun_0 rfl (lv_at hl 0 rfl) ?_
  refine lv_iload_n (pc := 1) hx hb dX3_holdsRun_1 rfl (lv_at hl 1 rfl) ?_
  obtain ⟨r1, hc1, hf⟩ := ob1_some hf
  refine endi X.2.2.2.2 (runV (pc := 2) (As := [.int x1]) (rest := []) X (c_X3_isThere_r G l A H.size b x1 r1 hc1) gX3_holdsRun_X3_isThere k_X3_isThere ⟨rfl, rfl⟩ ⟨Nat.le_of_ble_eq_true rfl, Nat.le_of_ble_eq_true rfl⟩ (EM.all (w_S6 G A b) (w_S6 G A b)) hP hD hS (ci := 3) rfl rfl (at_S6_0 G A b) rfl hl.1 rfl (Nat.le_of_ble_eq_true rfl) ⟨Nat.zero_le _, Nat.zero_le _⟩ dX3_holdsRun_2) (EM.all (w_S6 G A b) (w_S6 G A b)) hP hD hS (fun H locs hP hD hS => ?_)
  refine lv_if_eq (pc := 5) (tgt := 42) hx hb dX3_holdsRun_5 (by decide) (fun h5 => ?_) (fun h5 => ?_)
  · have hf := br_y h5 hf
    exact b_42  H locs ls hf hP hD hS (lv_sub hl [] rfl)
  · have hf := br_n h5 hf
    refine lv_iload_n (pc := 8) hx hb dX3_holdsRun_8 rfl (lv_at hl 2 rfl) ?_
    refine lv_if_lt (pc := 9) (tgt := 42) hx hb dX3_holdsRun_9 (by decide) (fun h4 => ?_) (fun h4 => ?_)
    · have hf := br_y h4 hf
      exact b_42  H locs ls hf hP hD hS (lv_sub hl [] rfl)
    · have hf := br_n h4 hf
      refine lv_iload_n (pc := 12) hx hb dX3_holdsRun_12 rfl (lv_at hl 3 rfl) ?_
      refine lv_if_lt (pc := 13) (tgt := 42) hx hb dX3_holdsRun_13 (by decide) (fun h3 => ?_) (fun h3 => ?_)
      · have hf := br_y h3 hf
        exact b_42  H locs ls hf hP hD hS (lv_sub hl [] rfl)
      · have hf := br_n h3 hf
        refine lv_iload_n (pc := 16) hx hb dX3_holdsRun_16 rfl (lv_at hl 2 rfl) ?_
        refine lv_aload_n (pc := 17) hx hb dX3_holdsRun_17 rfl (lv_at hl 0 rfl) ?_
        refine wget (pc := 18) X (fun _ h9 => List.mem_cons_of_mem _ (List.mem_append_right _ h9)) hP 0 (at_S6_0 G A b) rfl 1 (by decide) (List.mem_cons_of_mem _ (List.mem_append_left _ (List.mem_of_getElem? (i := 0) rfl))) rfl (v := .ref (A 2)) rfl dX3_holdsRun_18 ?_
        refine lv_iload_n (pc := 21) hx hb dX3_holdsRun_21 rfl (lv_at hl 1 rfl) ?_
        obtain ⟨hi, hf⟩ := ck_some hf
        refine wiald (pc := 22) X hP 2 (at_S6_2 G A b) hi rfl dX3_holdsRun_22 ?_
        refine lv_icmp_gt (pc := 23) (tgt := 42) hx hb dX3_holdsRun_23 (by decide) (fun h2 => ?_) (fun h2 => ?_)
        · have hf := br_y h2 hf
          exact b_42  H locs ls hf hP hD hS (lv_sub hl [] rfl)
        · have hf := br_n h2 hf
          refine lv_iload_n (pc := 26) hx hb dX3_holdsRun_26 rfl (lv_at hl 3 rfl) ?_
          refine lv_aload_n (pc := 27) hx hb dX3_holdsRun_27 rfl (lv_at hl 0 rfl) ?_
          refine wget (pc := 28) X (fun _ h9 => List.mem_cons_of_mem _ (List.mem_append_right _ h9)) hP 0 (at_S6_0 G A b) rfl 1 (by decide) (List.mem_cons_of_mem _ (List.mem_append_left _ (List.mem_of_getElem? (i := 0) rfl))) rfl (v := .ref (A 2)) rfl dX3_holdsRun_28 ?_
          refine lv_iload_n (pc := 31) hx hb dX3_holdsRun_31 rfl (lv_at hl 1 rfl) ?_
          obtain ⟨hi, hf⟩ := ck_some hf
          refine wiald (pc := 32) X hP 2 (at_S6_2 G A b) hi rfl dX3_holdsRun_32 ?_
          refine lv_iload_n (pc := 33) hx hb dX3_holdsRun_33 rfl (lv_at hl 2 rfl) ?_
          refine lv_isub (pc := 34) hx hb dX3_holdsRun_34 ?_
          refine lv_icmp_gt (pc := 35) (tgt := 42) hx hb dX3_holdsRun_35 (by decide) (fun h1 => ?_) (fun h1 => ?_)
          · have hf := br_y h1 hf
            exact b_42  H locs ls hf hP hD hS (lv_sub hl [] rfl)
          · have hf := br_n h1 hf
            refine lv_iconst (pc := 38) (v := (1 : Int32)) hx hb dX3_holdsRun_38 (by decide) ?_
            refine lv_goto (pc := 39) (tgt := 43) hx hb dX3_holdsRun_39 (by decide) ?_
            exact b_43 _ H locs ls hf hP hD hS (lv_sub hl [] rfl)
def r_X3_copyRun_r : Room := { frames := 3, cells := 0, slots := 0, locals := 65 }
set_option maxHeartbeats 4000000 in
set_option maxRecDepth 100000 in
theorem c_X3_copyRun_r (G : GT) (l : Launch) (A : Nat → Nat) (sz : Nat) (b : CS) (x1 : Int32) (x2 : Int32) (x3 : Int32) (x4 : Int32) (x5 : Int32) (b' : CS) (hf : f_X3_copyRun_r b x1 x2 x3 x4 x5 = some b') : MTv l yX3_copyRun wsX3_copyRun r_X3_copyRun_r [.ref (A 0), .int x1, .int x2, .int x3, .int x4, .int x5] G (w_S6 G A b) (w_S6 G A b') sz := by
  refine MTv.of (cc := cX3_copyRun) (maxL := 6) (by decide +kernel) rfl (Nat.le_of_ble_eq_true rfl) (fun p e s m av below meth cd Q B H locs ls X hret hl hP hD hS => ?_)
  have hx := X.1.1
  have hb := X.1.2.1
  have hl : lv_has ls 6 [(0, .ref (A 0)), (1, .int x1), (2, .int x2), (3, .int x3), (4, .int x4), (5, .int x5)] := hl
  have b_43 : ∀ (b : CS) (H : Heap) (locs : List Loc) (ls : Array Slot), f_X3_copyRun_r_43 b = some b' → va_P G.1 vwCl (w_S6 G A b) H → va_D B (w_S6 G A b) → va_S B s.heap H locs → lv_has ls 6 [] → W p l e r_X3_copyRun_r s m av below meth cd H locs 0 0 Q (F0 m 43 ls []) := by
    intro b H locs ls hf hP hD hS hl
    unfold f_X3_copyRun_r_43 at hf
    cases hf
    exact hret _ _ _ _ dX3_copyRun_43 hP hD hS
  unfold f_X3_copyRun_r at hf
  refine lv_aload_n (pc := 0) hx hb dX3_copyRun_0 rfl (lv_at hl 0 rfl) ?_
  refine lv_iload_n (pc := 1) hx hb dX3_copyRun_1 rfl (lv_at hl 1 rfl) ?_
  refine lv_iload_n (pc := 2) hx hb dX3_copyRun_2 rfl (lv_at hl 2 rfl) ?_
  refine lv_iload (pc := 3) hx hb dX3_copyRun_3 (lv_at hl 5 rfl) ?_
  obtain ⟨r1, hc1, hf⟩ := ob1_some hf
  refine endi X.2.2.2.2 (runV (pc := 5) (As := [.int x1, .int x2, .int x5]) (rest := []) X (c_X3_holdsRun_r G l A H.size b x1 x2 x5 r1 hc1) gX3_copyRun_X3_holdsRun k_X3_holdsRun ⟨rfl, rfl⟩ ⟨Nat.le_of_ble_eq_true rfl, Nat.le_of_ble_eq_true rfl⟩ (EM.all (w_S6 G A b) (w_S6 G A b)) hP hD hS (ci := 3) rfl rfl (at_S6_0 G A b) rfl hl.1 rfl (Nat.le_of_ble_eq_true rfl) ⟨Nat.zero_le _, Nat.zero_le _⟩ dX3_copyRun_5) (EM.all (w_S6 G A b) (w_S6 G A b)) hP hD hS (fun H locs hP hD hS => ?_)
  refine lv_if_eq (pc := 8) (tgt := 43) hx hb dX3_copyRun_8 (by decide) (fun h2 => ?_) (fun h2 => ?_)
  · have hf := br_y h2 hf
    exact b_43 _ H locs ls hf hP hD hS (lv_sub hl [] rfl)
  · have hf := br_n h2 hf
    refine lv_aload_n (pc := 11) hx hb dX3_copyRun_11 rfl (lv_at hl 0 rfl) ?_
    refine lv_iload_n (pc := 12) hx hb dX3_copyRun_12 rfl (lv_at hl 3 rfl) ?_
    refine lv_iload (pc := 13) hx hb dX3_copyRun_13 (lv_at hl 4 rfl) ?_
    refine lv_iload (pc := 15) hx hb dX3_copyRun_15 (lv_at hl 5 rfl) ?_
    obtain ⟨r2, hc2, hf⟩ := ob1_some hf
    refine endi X.2.2.2.2 (runV (pc := 17) (As := [.int x3, .int x4, .int x5]) (rest := []) X (c_X3_holdsRun_r G l A H.size b x3 x4 x5 r2 hc2) gX3_copyRun_X3_holdsRun k_X3_holdsRun ⟨rfl, rfl⟩ ⟨Nat.le_of_ble_eq_true rfl, Nat.le_of_ble_eq_true rfl⟩ (EM.all (w_S6 G A b) (w_S6 G A b)) hP hD hS (ci := 3) rfl rfl (at_S6_0 G A b) rfl hl.1 rfl (Nat.le_of_ble_eq_true rfl) ⟨Nat.zero_le _, Nat.zero_le _⟩ dX3_copyRun_17) (EM.all (w_S6 G A b) (w_S6 G A b)) hP hD hS (fun H locs hP hD hS => ?_)
    refine lv_if_eq (pc := 20) (tgt := 43) hx hb dX3_copyRun_20 (by decide) (fun h1 => ?_) (fun h1 => ?_)
    · have hf := br_y h1 hf
      exact b_43 _ H locs ls hf hP hD hS (lv_sub hl [] rfl)
    · have hf := br_n h1 hf
      refine lv_aload_n (pc := 23) hx hb dX3_copyRun_23 rfl (lv_at hl 0 rfl) ?_
      refine wget (pc := 24) X (fun _ h9 => List.mem_cons_of_mem _ (List.mem_append_right _ h9)) hP 0 (at_S6_0 G A b) rfl 0 (by decide) (List.mem_cons_of_mem _ (List.mem_append_left _ (List.mem_of_getElem? (i := 0) rfl))) rfl (v := .ref (A 1)) rfl dX3_copyRun_24 ?_
      refine lv_iload_n (pc := 27) hx hb dX3_copyRun_27 rfl (lv_at hl 1 rfl) ?_
      obtain ⟨hi, hf⟩ := ck_some hf
      refine waaldI (pc := 28) X hP 1 (at_S6_1 G A b) hi (B := fun i => A (3 + i)) (fun i h => by rcases (show i = 0 ∨ i = 1 ∨ i = 2 ∨ i = 3 ∨ i = 4 ∨ i = 5 by omega) with rfl | rfl | rfl | rfl | rfl | rfl <;> rfl) dX3_copyRun_28 ?_
      have hj := inb_lt hi
      generalize x1.toNatClampNeg = jj at hf hj ⊢
      rcases (show jj = 0 ∨ jj = 1 ∨ jj = 2 ∨ jj = 3 ∨ jj = 4 ∨ jj = 5 by omega) with rfl | rfl | rfl | rfl | rfl | rfl
      · refine lv_iload_n (pc := 29) hx hb dX3_copyRun_29 rfl (lv_at hl 2 rfl) ?_
        refine lv_aload_n (pc := 30) hx hb dX3_copyRun_30 rfl (lv_at hl 0 rfl) ?_
        refine wget (pc := 31) X (fun _ h9 => List.mem_cons_of_mem _ (List.mem_append_right _ h9)) hP 0 (at_S6_0 G A b) rfl 0 (by decide) (List.mem_cons_of_mem _ (List.mem_append_left _ (List.mem_of_getElem? (i := 0) rfl))) rfl (v := .ref (A 1)) rfl dX3_copyRun_31 ?_
        refine lv_iload_n (pc := 34) hx hb dX3_copyRun_34 rfl (lv_at hl 3 rfl) ?_
        obtain ⟨hi, hf⟩ := ck_some hf
        refine waaldI (pc := 35) X hP 1 (at_S6_1 G A b) hi (B := fun i => A (3 + i)) (fun i h => by rcases (show i = 0 ∨ i = 1 ∨ i = 2 ∨ i = 3 ∨ i = 4 ∨ i = 5 by omega) with rfl | rfl | rfl | rfl | rfl | rfl <;> rfl) dX3_copyRun_35 ?_
        have hj := inb_lt hi
        generalize x3.toNatClampNeg = jj at hf hj ⊢
        rcases (show jj = 0 ∨ jj = 1 ∨ jj = 2 ∨ jj = 3 ∨ jj = 4 ∨ jj = 5 by omega) with rfl | rfl | rfl | rfl | rfl | rfl
        · refine lv_iload (pc := 36) hx hb dX3_copyRun_36 (lv_at hl 4 rfl) ?_
          refine lv_iload (pc := 38) hx hb dX3_copyRun_38 (lv_at hl 5 rfl) ?_
          obtain ⟨hc0, hf⟩ := ck_some hf
          obtain ⟨hc1, hf⟩ := ck_some hf
          refine wcopy (pc := 40) X hl.1 (List.mem_cons_of_mem _ (List.mem_append_left _ (List.mem_of_getElem? (i := 1) rfl))) (List.mem_cons_of_mem _ (List.mem_append_left _ (List.mem_of_getElem? (i := 2) rfl))) (List.mem_cons_of_mem _ (List.mem_append_left _ (List.mem_of_getElem? (i := 3) rfl))) (List.mem_cons_of_mem _ (List.mem_append_left _ (List.mem_of_getElem? (i := 4) rfl))) hP hD hS 3 3 (at_S6_3 G A b) (at_S6_3 G A b) hc0 hc1 (Nat.le_of_ble_eq_true rfl) (Nat.le_of_ble_eq_true rfl) (sa_S6_3 G A b _) dX3_copyRun_40 (fun H locs hP hD hS => ?_)
          have hP : va_P G.1 vwCl (w_S6 G A (csetA b 0 (va_cpy (b 0) (b 0) x2.toNatClampNeg x4.toNatClampNeg x5.toNatClampNeg))) H := hP
          have hD : va_D B (w_S6 G A (csetA b 0 (va_cpy (b 0) (b 0) x2.toNatClampNeg x4.toNatClampNeg x5.toNatClampNeg))) := hD
          exact b_43 _ H locs ls hf hP hD hS (lv_sub hl [] rfl)
        · refine lv_iload (pc := 36) hx hb dX3_copyRun_36 (lv_at hl 4 rfl) ?_
          refine lv_iload (pc := 38) hx hb dX3_copyRun_38 (lv_at hl 5 rfl) ?_
          obtain ⟨hc0, hf⟩ := ck_some hf
          obtain ⟨hc1, hf⟩ := ck_some hf
          refine wcopy (pc := 40) X hl.1 (List.mem_cons_of_mem _ (List.mem_append_left _ (List.mem_of_getElem? (i := 1) rfl))) (List.mem_cons_of_mem _ (List.mem_append_left _ (List.mem_of_getElem? (i := 2) rfl))) (List.mem_cons_of_mem _ (List.mem_append_left _ (List.mem_of_getElem? (i := 3) rfl))) (List.mem_cons_of_mem _ (List.mem_append_left _ (List.mem_of_getElem? (i := 4) rfl))) hP hD hS 3 4 (at_S6_3 G A b) (at_S6_4 G A b) hc0 hc1 (Nat.le_of_ble_eq_true rfl) (Nat.le_of_ble_eq_true rfl) (sa_S6_4 G A b _) dX3_copyRun_40 (fun H locs hP hD hS => ?_)
          have hP : va_P G.1 vwCl (w_S6 G A (csetA b 1 (va_cpy (b 0) (b 1) x2.toNatClampNeg x4.toNatClampNeg x5.toNatClampNeg))) H := hP
          have hD : va_D B (w_S6 G A (csetA b 1 (va_cpy (b 0) (b 1) x2.toNatClampNeg x4.toNatClampNeg x5.toNatClampNeg))) := hD
          exact b_43 _ H locs ls hf hP hD hS (lv_sub hl [] rfl)
        · refine lv_iload (pc := 36) hx hb dX3_copyRun_36 (lv_at hl 4 rfl) ?_
          refine lv_iload (pc := 38) hx hb dX3_copyRun_38 (lv_at hl 5 rfl) ?_
          obtain ⟨hc0, hf⟩ := ck_some hf
          obtain ⟨hc1, hf⟩ := ck_some hf
          refine wcopy (pc := 40) X hl.1 (List.mem_cons_of_mem _ (List.mem_append_left _ (List.mem_of_getElem? (i := 1) rfl))) (List.mem_cons_of_mem _ (List.mem_append_left _ (List.mem_of_getElem? (i := 2) rfl))) (List.mem_cons_of_mem _ (List.mem_append_left _ (List.mem_of_getElem? (i := 3) rfl))) (List.mem_cons_of_mem _ (List.mem_append_left _ (List.mem_of_getElem? (i := 4) rfl))) hP hD hS 3 5 (at_S6_3 G A b) (at_S6_5 G A b) hc0 hc1 (Nat.le_of_ble_eq_true rfl) (Nat.le_of_ble_eq_true rfl) (sa_S6_5 G A b _) dX3_copyRun_40 (fun H locs hP hD hS => ?_)
          have hP : va_P G.1 vwCl (w_S6 G A (csetA b 2 (va_cpy (b 0) (b 2) x2.toNatClampNeg x4.toNatClampNeg x5.toNatClampNeg))) H := hP
          have hD : va_D B (w_S6 G A (csetA b 2 (va_cpy (b 0) (b 2) x2.toNatClampNeg x4.toNatClampNeg x5.toNatClampNeg))) := hD
          exact b_43 _ H locs ls hf hP hD hS (lv_sub hl [] rfl)
        · refine lv_iload (pc := 36) hx hb dX3_copyRun_36 (lv_at hl 4 rfl) ?_
          refine lv_iload (pc := 38) hx hb dX3_copyRun_38 (lv_at hl 5 rfl) ?_
          obtain ⟨hc0, hf⟩ := ck_some hf
          obtain ⟨hc1, hf⟩ := ck_some hf
          refine wcopy (pc := 40) X hl.1 (List.mem_cons_of_mem _ (List.mem_append_left _ (List.mem_of_getElem? (i := 1) rfl))) (List.mem_cons_of_mem _ (List.mem_append_left _ (List.mem_of_getElem? (i := 2) rfl))) (List.mem_cons_of_mem _ (List.mem_append_left _ (List.mem_of_getElem? (i := 3) rfl))) (List.mem_cons_of_mem _ (List.mem_append_left _ (List.mem_of_getElem? (i := 4) rfl))) hP hD hS 3 6 (at_S6_3 G A b) (at_S6_6 G A b) hc0 hc1 (Nat.le_of_ble_eq_true rfl) (Nat.le_of_ble_eq_true rfl) (sa_S6_6 G A b _) dX3_copyRun_40 (fun H locs hP hD hS => ?_)
          have hP : va_P G.1 vwCl (w_S6 G A (csetA b 3 (va_cpy (b 0) (b 3) x2.toNatClampNeg x4.toNatClampNeg x5.toNatClampNeg))) H := hP
          have hD : va_D B (w_S6 G A (csetA b 3 (va_cpy (b 0) (b 3) x2.toNatClampNeg x4.toNatClampNeg x5.toNatClampNeg))) := hD
          exact b_43 _ H locs ls hf hP hD hS (lv_sub hl [] rfl)
        · refine lv_iload (pc := 36) hx hb dX3_copyRun_36 (lv_at hl 4 rfl) ?_
          refine lv_iload (pc := 38) hx hb dX3_copyRun_38 (lv_at hl 5 rfl) ?_
          obtain ⟨hc0, hf⟩ := ck_some hf
          obtain ⟨hc1, hf⟩ := ck_some hf
          refine wcopy (pc := 40) X hl.1 (List.mem_cons_of_mem _ (List.mem_append_left _ (List.mem_of_getElem? (i := 1) rfl))) (List.mem_cons_of_mem _ (List.mem_append_left _ (List.mem_of_getElem? (i := 2) rfl))) (List.mem_cons_of_mem _ (List.mem_append_left _ (List.mem_of_getElem? (i := 3) rfl))) (List.mem_cons_of_mem _ (List.mem_append_left _ (List.mem_of_getElem? (i := 4) rfl))) hP hD hS 3 7 (at_S6_3 G A b) (at_S6_7 G A b) hc0 hc1 (Nat.le_of_ble_eq_true rfl) (Nat.le_of_ble_eq_true rfl) (sa_S6_7 G A b _) dX3_copyRun_40 (fun H locs hP hD hS => ?_)
          have hP : va_P G.1 vwCl (w_S6 G A (csetA b 4 (va_cpy (b 0) (b 4) x2.toNatClampNeg x4.toNatClampNeg x5.toNatClampNeg))) H := hP
          have hD : va_D B (w_S6 G A (csetA b 4 (va_cpy (b 0) (b 4) x2.toNatClampNeg x4.toNatClampNeg x5.toNatClampNeg))) := hD
          exact b_43 _ H locs ls hf hP hD hS (lv_sub hl [] rfl)
        · refine lv_iload (pc := 36) hx hb dX3_copyRun_36 (lv_at hl 4 rfl) ?_
          refine lv_iload (pc := 38) hx hb dX3_copyRun_38 (lv_at hl 5 rfl) ?_
          obtain ⟨hc0, hf⟩ := ck_some hf
          obtain ⟨hc1, hf⟩ := ck_some hf
          refine wcopy (pc := 40) X hl.1 (List.mem_cons_of_mem _ (List.mem_append_left _ (List.mem_of_getElem? (i := 1) rfl))) (List.mem_cons_of_mem _ (List.mem_append_left _ (List.mem_of_getElem? (i := 2) rfl))) (List.mem_cons_of_mem _ (List.mem_append_left _ (List.mem_of_getElem? (i := 3) rfl))) (List.mem_cons_of_mem _ (List.mem_append_left _ (List.mem_of_getElem? (i := 4) rfl))) hP hD hS 3 8 (at_S6_3 G A b) (at_S6_8 G A b) hc0 hc1 (Nat.le_of_ble_eq_true rfl) (Nat.le_of_ble_eq_true rfl) (sa_S6_8 G A b _) dX3_copyRun_40 (fun H locs hP hD hS => ?_)
          have hP : va_P G.1 vwCl (w_S6 G A (csetA b 5 (va_cpy (b 0) (b 5) x2.toNatClampNeg x4.toNatClampNeg x5.toNatClampNeg))) H := hP
          have hD : va_D B (w_S6 G A (csetA b 5 (va_cpy (b 0) (b 5) x2.toNatClampNeg x4.toNatClampNeg x5.toNatClampNeg))) := hD
          exact b_43 _ H locs ls hf hP hD hS (lv_sub hl [] rfl)
      · refine lv_iload_n (pc := 29) hx hb dX3_copyRun_29 rfl (lv_at hl 2 rfl) ?_
        refine lv_aload_n (pc := 30) hx hb dX3_copyRun_30 rfl (lv_at hl 0 rfl) ?_
        refine wget (pc := 31) X (fun _ h9 => List.mem_cons_of_mem _ (List.mem_append_right _ h9)) hP 0 (at_S6_0 G A b) rfl 0 (by decide) (List.mem_cons_of_mem _ (List.mem_append_left _ (List.mem_of_getElem? (i := 0) rfl))) rfl (v := .ref (A 1)) rfl dX3_copyRun_31 ?_
        refine lv_iload_n (pc := 34) hx hb dX3_copyRun_34 rfl (lv_at hl 3 rfl) ?_
        obtain ⟨hi, hf⟩ := ck_some hf
        refine waaldI (pc := 35) X hP 1 (at_S6_1 G A b) hi (B := fun i => A (3 + i)) (fun i h => by rcases (show i = 0 ∨ i = 1 ∨ i = 2 ∨ i = 3 ∨ i = 4 ∨ i = 5 by omega) with rfl | rfl | rfl | rfl | rfl | rfl <;> rfl) dX3_copyRun_35 ?_
        have hj := inb_lt hi
        generalize x3.toNatClampNeg = jj at hf hj ⊢
        rcases (show jj = 0 ∨ jj = 1 ∨ jj = 2 ∨ jj = 3 ∨ jj = 4 ∨ jj = 5 by omega) with rfl | rfl | rfl | rfl | rfl | rfl
        · refine lv_iload (pc := 36) hx hb dX3_copyRun_36 (lv_at hl 4 rfl) ?_
          refine lv_iload (pc := 38) hx hb dX3_copyRun_38 (lv_at hl 5 rfl) ?_
          obtain ⟨hc0, hf⟩ := ck_some hf
          obtain ⟨hc1, hf⟩ := ck_some hf
          refine wcopy (pc := 40) X hl.1 (List.mem_cons_of_mem _ (List.mem_append_left _ (List.mem_of_getElem? (i := 1) rfl))) (List.mem_cons_of_mem _ (List.mem_append_left _ (List.mem_of_getElem? (i := 2) rfl))) (List.mem_cons_of_mem _ (List.mem_append_left _ (List.mem_of_getElem? (i := 3) rfl))) (List.mem_cons_of_mem _ (List.mem_append_left _ (List.mem_of_getElem? (i := 4) rfl))) hP hD hS 4 3 (at_S6_4 G A b) (at_S6_3 G A b) hc0 hc1 (Nat.le_of_ble_eq_true rfl) (Nat.le_of_ble_eq_true rfl) (sa_S6_3 G A b _) dX3_copyRun_40 (fun H locs hP hD hS => ?_)
          have hP : va_P G.1 vwCl (w_S6 G A (csetA b 0 (va_cpy (b 1) (b 0) x2.toNatClampNeg x4.toNatClampNeg x5.toNatClampNeg))) H := hP
          have hD : va_D B (w_S6 G A (csetA b 0 (va_cpy (b 1) (b 0) x2.toNatClampNeg x4.toNatClampNeg x5.toNatClampNeg))) := hD
          exact b_43 _ H locs ls hf hP hD hS (lv_sub hl [] rfl)
        · refine lv_iload (pc := 36) hx hb dX3_copyRun_36 (lv_at hl 4 rfl) ?_
          refine lv_iload (pc := 38) hx hb dX3_copyRun_38 (lv_at hl 5 rfl) ?_
          obtain ⟨hc0, hf⟩ := ck_some hf
          obtain ⟨hc1, hf⟩ := ck_some hf
          refine wcopy (pc := 40) X hl.1 (List.mem_cons_of_mem _ (List.mem_append_left _ (List.mem_of_getElem? (i := 1) rfl))) (List.mem_cons_of_mem _ (List.mem_append_left _ (List.mem_of_getElem? (i := 2) rfl))) (List.mem_cons_of_mem _ (List.mem_append_left _ (List.mem_of_getElem? (i := 3) rfl))) (List.mem_cons_of_mem _ (List.mem_append_left _ (List.mem_of_getElem? (i := 4) rfl))) hP hD hS 4 4 (at_S6_4 G A b) (at_S6_4 G A b) hc0 hc1 (Nat.le_of_ble_eq_true rfl) (Nat.le_of_ble_eq_true rfl) (sa_S6_4 G A b _) dX3_copyRun_40 (fun H locs hP hD hS => ?_)
          have hP : va_P G.1 vwCl (w_S6 G A (csetA b 1 (va_cpy (b 1) (b 1) x2.toNatClampNeg x4.toNatClampNeg x5.toNatClampNeg))) H := hP
          have hD : va_D B (w_S6 G A (csetA b 1 (va_cpy (b 1) (b 1) x2.toNatClampNeg x4.toNatClampNeg x5.toNatClampNeg))) := hD
          exact b_43 _ H locs ls hf hP hD hS (lv_sub hl [] rfl)
        · refine lv_iload (pc := 36) hx hb dX3_copyRun_36 (lv_at hl 4 rfl) ?_
          refine lv_iload (pc := 38) hx hb dX3_copyRun_38 (lv_at hl 5 rfl) ?_
          obtain ⟨hc0, hf⟩ := ck_some hf
          obtain ⟨hc1, hf⟩ := ck_some hf
          refine wcopy (pc := 40) X hl.1 (List.mem_cons_of_mem _ (List.mem_append_left _ (List.mem_of_getElem? (i := 1) rfl))) (List.mem_cons_of_mem _ (List.mem_append_left _ (List.mem_of_getElem? (i := 2) rfl))) (List.mem_cons_of_mem _ (List.mem_append_left _ (List.mem_of_getElem? (i := 3) rfl))) (List.mem_cons_of_mem _ (List.mem_append_left _ (List.mem_of_getElem? (i := 4) rfl))) hP hD hS 4 5 (at_S6_4 G A b) (at_S6_5 G A b) hc0 hc1 (Nat.le_of_ble_eq_true rfl) (Nat.le_of_ble_eq_true rfl) (sa_S6_5 G A b _) dX3_copyRun_40 (fun H locs hP hD hS => ?_)
          have hP : va_P G.1 vwCl (w_S6 G A (csetA b 2 (va_cpy (b 1) (b 2) x2.toNatClampNeg x4.toNatClampNeg x5.toNatClampNeg))) H := hP
          have hD : va_D B (w_S6 G A (csetA b 2 (va_cpy (b 1) (b 2) x2.toNatClampNeg x4.toNatClampNeg x5.toNatClampNeg))) := hD
          exact b_43 _ H locs ls hf hP hD hS (lv_sub hl [] rfl)
        · refine lv_iload (pc := 36) hx hb dX3_copyRun_36 (lv_at hl 4 rfl) ?_
          refine lv_iload (pc := 38) hx hb dX3_copyRun_38 (lv_at hl 5 rfl) ?_
          obtain ⟨hc0, hf⟩ := ck_some hf
          obtain ⟨hc1, hf⟩ := ck_some hf
          refine wcopy (pc := 40) X hl.1 (List.mem_cons_of_mem _ (List.mem_append_left _ (List.mem_of_getElem? (i := 1) rfl))) (List.mem_cons_of_mem _ (List.mem_append_left _ (List.mem_of_getElem? (i := 2) rfl))) (List.mem_cons_of_mem _ (List.mem_append_left _ (List.mem_of_getElem? (i := 3) rfl))) (List.mem_cons_of_mem _ (List.mem_append_left _ (List.mem_of_getElem? (i := 4) rfl))) hP hD hS 4 6 (at_S6_4 G A b) (at_S6_6 G A b) hc0 hc1 (Nat.le_of_ble_eq_true rfl) (Nat.le_of_ble_eq_true rfl) (sa_S6_6 G A b _) dX3_copyRun_40 (fun H locs hP hD hS => ?_)
          have hP : va_P G.1 vwCl (w_S6 G A (csetA b 3 (va_cpy (b 1) (b 3) x2.toNatClampNeg x4.toNatClampNeg x5.toNatClampNeg))) H := hP
          have hD : va_D B (w_S6 G A (csetA b 3 (va_cpy (b 1) (b 3) x2.toNatClampNeg x4.toNatClampNeg x5.toNatClampNeg))) := hD
          exact b_43 _ H locs ls hf hP hD hS (lv_sub hl [] rfl)
        · refine lv_iload (pc := 36) hx hb dX3_copyRun_36 (lv_at hl 4 rfl) ?_
          refine lv_iload (pc := 38) hx hb dX3_copyRun_38 (lv_at hl 5 rfl) ?_
          obtain ⟨hc0, hf⟩ := ck_some hf
          obtain ⟨hc1, hf⟩ := ck_some hf
          refine wcopy (pc := 40) X hl.1 (List.mem_cons_of_mem _ (List.mem_append_left _ (List.mem_of_getElem? (i := 1) rfl))) (List.mem_cons_of_mem _ (List.mem_append_left _ (List.mem_of_getElem? (i := 2) rfl))) (List.mem_cons_of_mem _ (List.mem_append_left _ (List.mem_of_getElem? (i := 3) rfl))) (List.mem_cons_of_mem _ (List.mem_append_left _ (List.mem_of_getElem? (i := 4) rfl))) hP hD hS 4 7 (at_S6_4 G A b) (at_S6_7 G A b) hc0 hc1 (Nat.le_of_ble_eq_true rfl) (Nat.le_of_ble_eq_true rfl) (sa_S6_7 G A b _) dX3_copyRun_40 (fun H locs hP hD hS => ?_)
          have hP : va_P G.1 vwCl (w_S6 G A (csetA b 4 (va_cpy (b 1) (b 4) x2.toNatClampNeg x4.toNatClampNeg x5.toNatClampNeg))) H := hP
          have hD : va_D B (w_S6 G A (csetA b 4 (va_cpy (b 1) (b 4) x2.toNatClampNeg x4.toNatClampNeg x5.toNatClampNeg))) := hD
          exact b_43 _ H locs ls hf hP hD hS (lv_sub hl [] rfl)
        · refine lv_iload (pc := 36) hx hb dX3_copyRun_36 (lv_at hl 4 rfl) ?_
          refine lv_iload (pc := 38) hx hb dX3_copyRun_38 (lv_at hl 5 rfl) ?_
          obtain ⟨hc0, hf⟩ := ck_some hf
          obtain ⟨hc1, hf⟩ := ck_some hf
          refine wcopy (pc := 40) X hl.1 (List.mem_cons_of_mem _ (List.mem_append_left _ (List.mem_of_getElem? (i := 1) rfl))) (List.mem_cons_of_mem _ (List.mem_append_left _ (List.mem_of_getElem? (i := 2) rfl))) (List.mem_cons_of_mem _ (List.mem_append_left _ (List.mem_of_getElem? (i := 3) rfl))) (List.mem_cons_of_mem _ (List.mem_append_left _ (List.mem_of_getElem? (i := 4) rfl))) hP hD hS 4 8 (at_S6_4 G A b) (at_S6_8 G A b) hc0 hc1 (Nat.le_of_ble_eq_true rfl) (Nat.le_of_ble_eq_true rfl) (sa_S6_8 G A b _) dX3_copyRun_40 (fun H locs hP hD hS => ?_)
          have hP : va_P G.1 vwCl (w_S6 G A (csetA b 5 (va_cpy (b 1) (b 5) x2.toNatClampNeg x4.toNatClampNeg x5.toNatClampNeg))) H := hP
          have hD : va_D B (w_S6 G A (csetA b 5 (va_cpy (b 1) (b 5) x2.toNatClampNeg x4.toNatClampNeg x5.toNatClampNeg))) := hD
          exact b_43 _ H locs ls hf hP hD hS (lv_sub hl [] rfl)
      · refine lv_iload_n (pc := 29) hx hb dX3_copyRun_29 rfl (lv_at hl 2 rfl) ?_
        refine lv_aload_n (pc := 30) hx hb dX3_copyRun_30 rfl (lv_at hl 0 rfl) ?_
        refine wget (pc := 31) X (fun _ h9 => List.mem_cons_of_mem _ (List.mem_append_right _ h9)) hP 0 (at_S6_0 G A b) rfl 0 (by decide) (List.mem_cons_of_mem _ (List.mem_append_left _ (List.mem_of_getElem? (i := 0) rfl))) rfl (v := .ref (A 1)) rfl dX3_copyRun_31 ?_
        refine lv_iload_n (pc := 34) hx hb dX3_copyRun_34 rfl (lv_at hl 3 rfl) ?_
        obtain ⟨hi, hf⟩ := ck_some hf
        refine waaldI (pc := 35) X hP 1 (at_S6_1 G A b) hi (B := fun i => A (3 + i)) (fun i h => by rcases (show i = 0 ∨ i = 1 ∨ i = 2 ∨ i = 3 ∨ i = 4 ∨ i = 5 by omega) with rfl | rfl | rfl | rfl | rfl | rfl <;> rfl) dX3_copyRun_35 ?_
        have hj := inb_lt hi
        generalize x3.toNatClampNeg = jj at hf hj ⊢
        rcases (show jj = 0 ∨ jj = 1 ∨ jj = 2 ∨ jj = 3 ∨ jj = 4 ∨ jj = 5 by omega) with rfl | rfl | rfl | rfl | rfl | rfl
        · refine lv_iload (pc := 36) hx hb dX3_copyRun_36 (lv_at hl 4 rfl) ?_
          refine lv_iload (pc := 38) hx hb dX3_copyRun_38 (lv_at hl 5 rfl) ?_
          obtain ⟨hc0, hf⟩ := ck_some hf
          obtain ⟨hc1, hf⟩ := ck_some hf
          refine wcopy (pc := 40) X hl.1 (List.mem_cons_of_mem _ (List.mem_append_left _ (List.mem_of_getElem? (i := 1) rfl))) (List.mem_cons_of_mem _ (List.mem_append_left _ (List.mem_of_getElem? (i := 2) rfl))) (List.mem_cons_of_mem _ (List.mem_append_left _ (List.mem_of_getElem? (i := 3) rfl))) (List.mem_cons_of_mem _ (List.mem_append_left _ (List.mem_of_getElem? (i := 4) rfl))) hP hD hS 5 3 (at_S6_5 G A b) (at_S6_3 G A b) hc0 hc1 (Nat.le_of_ble_eq_true rfl) (Nat.le_of_ble_eq_true rfl) (sa_S6_3 G A b _) dX3_copyRun_40 (fun H locs hP hD hS => ?_)
          have hP : va_P G.1 vwCl (w_S6 G A (csetA b 0 (va_cpy (b 2) (b 0) x2.toNatClampNeg x4.toNatClampNeg x5.toNatClampNeg))) H := hP
          have hD : va_D B (w_S6 G A (csetA b 0 (va_cpy (b 2) (b 0) x2.toNatClampNeg x4.toNatClampNeg x5.toNatClampNeg))) := hD
          exact b_43 _ H locs ls hf hP hD hS (lv_sub hl [] rfl)
        · refine lv_iload (pc := 36) hx hb dX3_copyRun_36 (lv_at hl 4 rfl) ?_
          refine lv_iload (pc := 38) hx hb dX3_copyRun_38 (lv_at hl 5 rfl) ?_
          obtain ⟨hc0, hf⟩ := ck_some hf
          obtain ⟨hc1, hf⟩ := ck_some hf
          refine wcopy (pc := 40) X hl.1 (List.mem_cons_of_mem _ (List.mem_append_left _ (List.mem_of_getElem? (i := 1) rfl))) (List.mem_cons_of_mem _ (List.mem_append_left _ (List.mem_of_getElem? (i := 2) rfl))) (List.mem_cons_of_mem _ (List.mem_append_left _ (List.mem_of_getElem? (i := 3) rfl))) (List.mem_cons_of_mem _ (List.mem_append_left _ (List.mem_of_getElem? (i := 4) rfl))) hP hD hS 5 4 (at_S6_5 G A b) (at_S6_4 G A b) hc0 hc1 (Nat.le_of_ble_eq_true rfl) (Nat.le_of_ble_eq_true rfl) (sa_S6_4 G A b _) dX3_copyRun_40 (fun H locs hP hD hS => ?_)
          have hP : va_P G.1 vwCl (w_S6 G A (csetA b 1 (va_cpy (b 2) (b 1) x2.toNatClampNeg x4.toNatClampNeg x5.toNatClampNeg))) H := hP
          have hD : va_D B (w_S6 G A (csetA b 1 (va_cpy (b 2) (b 1) x2.toNatClampNeg x4.toNatClampNeg x5.toNatClampNeg))) := hD
          exact b_43 _ H locs ls hf hP hD hS (lv_sub hl [] rfl)
        · refine lv_iload (pc := 36) hx hb dX3_copyRun_36 (lv_at hl 4 rfl) ?_
          refine lv_iload (pc := 38) hx hb dX3_copyRun_38 (lv_at hl 5 rfl) ?_
          obtain ⟨hc0, hf⟩ := ck_some hf
          obtain ⟨hc1, hf⟩ := ck_some hf
          refine wcopy (pc := 40) X hl.1 (List.mem_cons_of_mem _ (List.mem_append_left _ (List.mem_of_getElem? (i := 1) rfl))) (List.mem_cons_of_mem _ (List.mem_append_left _ (List.mem_of_getElem? (i := 2) rfl))) (List.mem_cons_of_mem _ (List.mem_append_left _ (List.mem_of_getElem? (i := 3) rfl))) (List.mem_cons_of_mem _ (List.mem_append_left _ (List.mem_of_getElem? (i := 4) rfl))) hP hD hS 5 5 (at_S6_5 G A b) (at_S6_5 G A b) hc0 hc1 (Nat.le_of_ble_eq_true rfl) (Nat.le_of_ble_eq_true rfl) (sa_S6_5 G A b _) dX3_copyRun_40 (fun H locs hP hD hS => ?_)
          have hP : va_P G.1 vwCl (w_S6 G A (csetA b 2 (va_cpy (b 2) (b 2) x2.toNatClampNeg x4.toNatClampNeg x5.toNatClampNeg))) H := hP
          have hD : va_D B (w_S6 G A (csetA b 2 (va_cpy (b 2) (b 2) x2.toNatClampNeg x4.toNatClampNeg x5.toNatClampNeg))) := hD
          exact b_43 _ H locs ls hf hP hD hS (lv_sub hl [] rfl)
        · refine lv_iload (pc := 36) hx hb dX3_copyRun_36 (lv_at hl 4 rfl) ?_
          refine lv_iload (pc := 38) hx hb dX3_copyRun_38 (lv_at hl 5 rfl) ?_
          obtain ⟨hc0, hf⟩ := ck_some hf
          obtain ⟨hc1, hf⟩ := ck_some hf
          refine wcopy (pc := 40) X hl.1 (List.mem_cons_of_mem _ (List.mem_append_left _ (List.mem_of_getElem? (i := 1) rfl))) (List.mem_cons_of_mem _ (List.mem_append_left _ (List.mem_of_getElem? (i := 2) rfl))) (List.mem_cons_of_mem _ (List.mem_append_left _ (List.mem_of_getElem? (i := 3) rfl))) (List.mem_cons_of_mem _ (List.mem_append_left _ (List.mem_of_getElem? (i := 4) rfl))) hP hD hS 5 6 (at_S6_5 G A b) (at_S6_6 G A b) hc0 hc1 (Nat.le_of_ble_eq_true rfl) (Nat.le_of_ble_eq_true rfl) (sa_S6_6 G A b _) dX3_copyRun_40 (fun H locs hP hD hS => ?_)
          have hP : va_P G.1 vwCl (w_S6 G A (csetA b 3 (va_cpy (b 2) (b 3) x2.toNatClampNeg x4.toNatClampNeg x5.toNatClampNeg))) H := hP
          have hD : va_D B (w_S6 G A (csetA b 3 (va_cpy (b 2) (b 3) x2.toNatClampNeg x4.toNatClampNeg x5.toNatClampNeg))) := hD
          exact b_43 _ H locs ls hf hP hD hS (lv_sub hl [] rfl)
        · refine lv_iload (pc := 36) hx hb dX3_copyRun_36 (lv_at hl 4 rfl) ?_
          refine lv_iload (pc := 38) hx hb dX3_copyRun_38 (lv_at hl 5 rfl) ?_
          obtain ⟨hc0, hf⟩ := ck_some hf
          obtain ⟨hc1, hf⟩ := ck_some hf
          refine wcopy (pc := 40) X hl.1 (List.mem_cons_of_mem _ (List.mem_append_left _ (List.mem_of_getElem? (i := 1) rfl))) (List.mem_cons_of_mem _ (List.mem_append_left _ (List.mem_of_getElem? (i := 2) rfl))) (List.mem_cons_of_mem _ (List.mem_append_left _ (List.mem_of_getElem? (i := 3) rfl))) (List.mem_cons_of_mem _ (List.mem_append_left _ (List.mem_of_getElem? (i := 4) rfl))) hP hD hS 5 7 (at_S6_5 G A b) (at_S6_7 G A b) hc0 hc1 (Nat.le_of_ble_eq_true rfl) (Nat.le_of_ble_eq_true rfl) (sa_S6_7 G A b _) dX3_copyRun_40 (fun H locs hP hD hS => ?_)
          have hP : va_P G.1 vwCl (w_S6 G A (csetA b 4 (va_cpy (b 2) (b 4) x2.toNatClampNeg x4.toNatClampNeg x5.toNatClampNeg))) H := hP
          have hD : va_D B (w_S6 G A (csetA b 4 (va_cpy (b 2) (b 4) x2.toNatClampNeg x4.toNatClampNeg x5.toNatClampNeg))) := hD
          exact b_43 _ H locs ls hf hP hD hS (lv_sub hl [] rfl)
        · refine lv_iload (pc := 36) hx hb dX3_copyRun_36 (lv_at hl 4 rfl) ?_
          refine lv_iload (pc := 38) hx hb dX3_copyRun_38 (lv_at hl 5 rfl) ?_
          obtain ⟨hc0, hf⟩ := ck_some hf
          obtain ⟨hc1, hf⟩ := ck_some hf
          refine wcopy (pc := 40) X hl.1 (List.mem_cons_of_mem _ (List.mem_append_left _ (List.mem_of_getElem? (i := 1) rfl))) (List.mem_cons_of_mem _ (List.mem_append_left _ (List.mem_of_getElem? (i := 2) rfl))) (List.mem_cons_of_mem _ (List.mem_append_left _ (List.mem_of_getElem? (i := 3) rfl))) (List.mem_cons_of_mem _ (List.mem_append_left _ (List.mem_of_getElem? (i := 4) rfl))) hP hD hS 5 8 (at_S6_5 G A b) (at_S6_8 G A b) hc0 hc1 (Nat.le_of_ble_eq_true rfl) (Nat.le_of_ble_eq_true rfl) (sa_S6_8 G A b _) dX3_copyRun_40 (fun H locs hP hD hS => ?_)
          have hP : va_P G.1 vwCl (w_S6 G A (csetA b 5 (va_cpy (b 2) (b 5) x2.toNatClampNeg x4.toNatClampNeg x5.toNatClampNeg))) H := hP
          have hD : va_D B (w_S6 G A (csetA b 5 (va_cpy (b 2) (b 5) x2.toNatClampNeg x4.toNatClampNeg x5.toNatClampNeg))) := hD
          exact b_43 _ H locs ls hf hP hD hS (lv_sub hl [] rfl)
      · refine lv_iload_n (pc := 29) hx hb dX3_copyRun_29 rfl (lv_at hl 2 rfl) ?_
        refine lv_aload_n (pc := 30) hx hb dX3_copyRun_30 rfl (lv_at hl 0 rfl) ?_
        refine wget (pc := 31) X (fun _ h9 => List.mem_cons_of_mem _ (List.mem_append_right _ h9)) hP 0 (at_S6_0 G A b) rfl 0 (by decide) (List.mem_cons_of_mem _ (List.mem_append_left _ (List.mem_of_getElem? (i := 0) rfl))) rfl (v := .ref (A 1)) rfl dX3_copyRun_31 ?_
        refine lv_iload_n (pc := 34) hx hb dX3_copyRun_34 rfl (lv_at hl 3 rfl) ?_
        obtain ⟨hi, hf⟩ := ck_some hf
        refine waaldI (pc := 35) X hP 1 (at_S6_1 G A b) hi (B := fun i => A (3 + i)) (fun i h => by rcases (show i = 0 ∨ i = 1 ∨ i = 2 ∨ i = 3 ∨ i = 4 ∨ i = 5 by omega) with rfl | rfl | rfl | rfl | rfl | rfl <;> rfl) dX3_copyRun_35 ?_
        have hj := inb_lt hi
        generalize x3.toNatClampNeg = jj at hf hj ⊢
        rcases (show jj = 0 ∨ jj = 1 ∨ jj = 2 ∨ jj = 3 ∨ jj = 4 ∨ jj = 5 by omega) with rfl | rfl | rfl | rfl | rfl | rfl
        · refine lv_iload (pc := 36) hx hb dX3_copyRun_36 (lv_at hl 4 rfl) ?_
          refine lv_iload (pc := 38) hx hb dX3_copyRun_38 (lv_at hl 5 rfl) ?_
          obtain ⟨hc0, hf⟩ := ck_some hf
          obtain ⟨hc1, hf⟩ := ck_some hf
          refine wcopy (pc := 40) X hl.1 (List.mem_cons_of_mem _ (List.mem_append_left _ (List.mem_of_getElem? (i := 1) rfl))) (List.mem_cons_of_mem _ (List.mem_append_left _ (List.mem_of_getElem? (i := 2) rfl))) (List.mem_cons_of_mem _ (List.mem_append_left _ (List.mem_of_getElem? (i := 3) rfl))) (List.mem_cons_of_mem _ (List.mem_append_left _ (List.mem_of_getElem? (i := 4) rfl))) hP hD hS 6 3 (at_S6_6 G A b) (at_S6_3 G A b) hc0 hc1 (Nat.le_of_ble_eq_true rfl) (Nat.le_of_ble_eq_true rfl) (sa_S6_3 G A b _) dX3_copyRun_40 (fun H locs hP hD hS => ?_)
          have hP : va_P G.1 vwCl (w_S6 G A (csetA b 0 (va_cpy (b 3) (b 0) x2.toNatClampNeg x4.toNatClampNeg x5.toNatClampNeg))) H := hP
          have hD : va_D B (w_S6 G A (csetA b 0 (va_cpy (b 3) (b 0) x2.toNatClampNeg x4.toNatClampNeg x5.toNatClampNeg))) := hD
          exact b_43 _ H locs ls hf hP hD hS (lv_sub hl [] rfl)
        · refine lv_iload (pc := 36) hx hb dX3_copyRun_36 (lv_at hl 4 rfl) ?_
          refine lv_iload (pc := 38) hx hb dX3_copyRun_38 (lv_at hl 5 rfl) ?_
          obtain ⟨hc0, hf⟩ := ck_some hf
          obtain ⟨hc1, hf⟩ := ck_some hf
          refine wcopy (pc := 40) X hl.1 (List.mem_cons_of_mem _ (List.mem_append_left _ (List.mem_of_getElem? (i := 1) rfl))) (List.mem_cons_of_mem _ (List.mem_append_left _ (List.mem_of_getElem? (i := 2) rfl))) (List.mem_cons_of_mem _ (List.mem_append_left _ (List.mem_of_getElem? (i := 3) rfl))) (List.mem_cons_of_mem _ (List.mem_append_left _ (List.mem_of_getElem? (i := 4) rfl))) hP hD hS 6 4 (at_S6_6 G A b) (at_S6_4 G A b) hc0 hc1 (Nat.le_of_ble_eq_true rfl) (Nat.le_of_ble_eq_true rfl) (sa_S6_4 G A b _) dX3_copyRun_40 (fun H locs hP hD hS => ?_)
          have hP : va_P G.1 vwCl (w_S6 G A (csetA b 1 (va_cpy (b 3) (b 1) x2.toNatClampNeg x4.toNatClampNeg x5.toNatClampNeg))) H := hP
          have hD : va_D B (w_S6 G A (csetA b 1 (va_cpy (b 3) (b 1) x2.toNatClampNeg x4.toNatClampNeg x5.toNatClampNeg))) := hD
          exact b_43 _ H locs ls hf hP hD hS (lv_sub hl [] rfl)
        · refine lv_iload (pc := 36) hx hb dX3_copyRun_36 (lv_at hl 4 rfl) ?_
          refine lv_iload (pc := 38) hx hb dX3_copyRun_38 (lv_at hl 5 rfl) ?_
          obtain ⟨hc0, hf⟩ := ck_some hf
          obtain ⟨hc1, hf⟩ := ck_some hf
          refine wcopy (pc := 40) X hl.1 (List.mem_cons_of_mem _ (List.mem_append_left _ (List.mem_of_getElem? (i := 1) rfl))) (List.mem_cons_of_mem _ (List.mem_append_left _ (List.mem_of_getElem? (i := 2) rfl))) (List.mem_cons_of_mem _ (List.mem_append_left _ (List.mem_of_getElem? (i := 3) rfl))) (List.mem_cons_of_mem _ (List.mem_append_left _ (List.mem_of_getElem? (i := 4) rfl))) hP hD hS 6 5 (at_S6_6 G A b) (at_S6_5 G A b) hc0 hc1 (Nat.le_of_ble_eq_true rfl) (Nat.le_of_ble_eq_true rfl) (sa_S6_5 G A b _) dX3_copyRun_40 (fun H locs hP hD hS => ?_)
          have hP : va_P G.1 vwCl (w_S6 G A (csetA b 2 (va_cpy (b 3) (b 2) x2.toNatClampNeg x4.toNatClampNeg x5.toNatClampNeg))) H := hP
          have hD : va_D B (w_S6 G A (csetA b 2 (va_cpy (b 3) (b 2) x2.toNatClampNeg x4.toNatClampNeg x5.toNatClampNeg))) := hD
          exact b_43 _ H locs ls hf hP hD hS (lv_sub hl [] rfl)
        · refine lv_iload (pc := 36) hx hb dX3_copyRun_36 (lv_at hl 4 rfl) ?_
          refine lv_iload (pc := 38) hx hb dX3_copyRun_38 (lv_at hl 5 rfl) ?_
          obtain ⟨hc0, hf⟩ := ck_some hf
          obtain ⟨hc1, hf⟩ := ck_some hf
          refine wcopy (pc := 40) X hl.1 (List.mem_cons_of_mem _ (List.mem_append_left _ (List.mem_of_getElem? (i := 1) rfl))) (List.mem_cons_of_mem _ (List.mem_append_left _ (List.mem_of_getElem? (i := 2) rfl))) (List.mem_cons_of_mem _ (List.mem_append_left _ (List.mem_of_getElem? (i := 3) rfl))) (List.mem_cons_of_mem _ (List.mem_append_left _ (List.mem_of_getElem? (i := 4) rfl))) hP hD hS 6 6 (at_S6_6 G A b) (at_S6_6 G A b) hc0 hc1 (Nat.le_of_ble_eq_true rfl) (Nat.le_of_ble_eq_true rfl) (sa_S6_6 G A b _) dX3_copyRun_40 (fun H locs hP hD hS => ?_)
          have hP : va_P G.1 vwCl (w_S6 G A (csetA b 3 (va_cpy (b 3) (b 3) x2.toNatClampNeg x4.toNatClampNeg x5.toNatClampNeg))) H := hP
          have hD : va_D B (w_S6 G A (csetA b 3 (va_cpy (b 3) (b 3) x2.toNatClampNeg x4.toNatClampNeg x5.toNatClampNeg))) := hD
          exact b_43 _ H locs ls hf hP hD hS (lv_sub hl [] rfl)
        · refine lv_iload (pc := 36) hx hb dX3_copyRun_36 (lv_at hl 4 rfl) ?_
          refine lv_iload (pc := 38) hx hb dX3_copyRun_38 (lv_at hl 5 rfl) ?_
          obtain ⟨hc0, hf⟩ := ck_some hf
          obtain ⟨hc1, hf⟩ := ck_some hf
          refine wcopy (pc := 40) X hl.1 (List.mem_cons_of_mem _ (List.mem_append_left _ (List.mem_of_getElem? (i := 1) rfl))) (List.mem_cons_of_mem _ (List.mem_append_left _ (List.mem_of_getElem? (i := 2) rfl))) (List.mem_cons_of_mem _ (List.mem_append_left _ (List.mem_of_getElem? (i := 3) rfl))) (List.mem_cons_of_mem _ (List.mem_append_left _ (List.mem_of_getElem? (i := 4) rfl))) hP hD hS 6 7 (at_S6_6 G A b) (at_S6_7 G A b) hc0 hc1 (Nat.le_of_ble_eq_true rfl) (Nat.le_of_ble_eq_true rfl) (sa_S6_7 G A b _) dX3_copyRun_40 (fun H locs hP hD hS => ?_)
          have hP : va_P G.1 vwCl (w_S6 G A (csetA b 4 (va_cpy (b 3) (b 4) x2.toNatClampNeg x4.toNatClampNeg x5.toNatClampNeg))) H := hP
          have hD : va_D B (w_S6 G A (csetA b 4 (va_cpy (b 3) (b 4) x2.toNatClampNeg x4.toNatClampNeg x5.toNatClampNeg))) := hD
          exact b_43 _ H locs ls hf hP hD hS (lv_sub hl [] rfl)
        · refine lv_iload (pc := 36) hx hb dX3_copyRun_36 (lv_at hl 4 rfl) ?_
          refine lv_iload (pc := 38) hx hb dX3_copyRun_38 (lv_at hl 5 rfl) ?_
          obtain ⟨hc0, hf⟩ := ck_some hf
          obtain ⟨hc1, hf⟩ := ck_some hf
          refine wcopy (pc := 40) X hl.1 (List.mem_cons_of_mem _ (List.mem_append_left _ (List.mem_of_getElem? (i := 1) rfl))) (List.mem_cons_of_mem _ (List.mem_append_left _ (List.mem_of_getElem? (i := 2) rfl))) (List.mem_cons_of_mem _ (List.mem_append_left _ (List.mem_of_getElem? (i := 3) rfl))) (List.mem_cons_of_mem _ (List.mem_append_left _ (List.mem_of_getElem? (i := 4) rfl))) hP hD hS 6 8 (at_S6_6 G A b) (at_S6_8 G A b) hc0 hc1 (Nat.le_of_ble_eq_true rfl) (Nat.le_of_ble_eq_true rfl) (sa_S6_8 G A b _) dX3_copyRun_40 (fun H locs hP hD hS => ?_)
          have hP : va_P G.1 vwCl (w_S6 G A (csetA b 5 (va_cpy (b 3) (b 5) x2.toNatClampNeg x4.toNatClampNeg x5.toNatClampNeg))) H := hP
          have hD : va_D B (w_S6 G A (csetA b 5 (va_cpy (b 3) (b 5) x2.toNatClampNeg x4.toNatClampNeg x5.toNatClampNeg))) := hD
          exact b_43 _ H locs ls hf hP hD hS (lv_sub hl [] rfl)
      · refine lv_iload_n (pc := 29) hx hb dX3_copyRun_29 rfl (lv_at hl 2 rfl) ?_
        refine lv_aload_n (pc := 30) hx hb dX3_copyRun_30 rfl (lv_at hl 0 rfl) ?_
        refine wget (pc := 31) X (fun _ h9 => List.mem_cons_of_mem _ (List.mem_append_right _ h9)) hP 0 (at_S6_0 G A b) rfl 0 (by decide) (List.mem_cons_of_mem _ (List.mem_append_left _ (List.mem_of_getElem? (i := 0) rfl))) rfl (v := .ref (A 1)) rfl dX3_copyRun_31 ?_
        refine lv_iload_n (pc := 34) hx hb dX3_copyRun_34 rfl (lv_at hl 3 rfl) ?_
        obtain ⟨hi, hf⟩ := ck_some hf
        refine waaldI (pc := 35) X hP 1 (at_S6_1 G A b) hi (B := fun i => A (3 + i)) (fun i h => by rcases (show i = 0 ∨ i = 1 ∨ i = 2 ∨ i = 3 ∨ i = 4 ∨ i = 5 by omega) with rfl | rfl | rfl | rfl | rfl | rfl <;> rfl) dX3_copyRun_35 ?_
        have hj := inb_lt hi
        generalize x3.toNatClampNeg = jj at hf hj ⊢
        rcases (show jj = 0 ∨ jj = 1 ∨ jj = 2 ∨ jj = 3 ∨ jj = 4 ∨ jj = 5 by omega) with rfl | rfl | rfl | rfl | rfl | rfl
        · refine lv_iload (pc := 36) hx hb dX3_copyRun_36 (lv_at hl 4 rfl) ?_
          refine lv_iload (pc := 38) hx hb dX3_copyRun_38 (lv_at hl 5 rfl) ?_
          obtain ⟨hc0, hf⟩ := ck_some hf
          obtain ⟨hc1, hf⟩ := ck_some hf
          refine wcopy (pc := 40) X hl.1 (List.mem_cons_of_mem _ (List.mem_append_left _ (List.mem_of_getElem? (i := 1) rfl))) (List.mem_cons_of_mem _ (List.mem_append_left _ (List.mem_of_getElem? (i := 2) rfl))) (List.mem_cons_of_mem _ (List.mem_append_left _ (List.mem_of_getElem? (i := 3) rfl))) (List.mem_cons_of_mem _ (List.mem_append_left _ (List.mem_of_getElem? (i := 4) rfl))) hP hD hS 7 3 (at_S6_7 G A b) (at_S6_3 G A b) hc0 hc1 (Nat.le_of_ble_eq_true rfl) (Nat.le_of_ble_eq_true rfl) (sa_S6_3 G A b _) dX3_copyRun_40 (fun H locs hP hD hS => ?_)
          have hP : va_P G.1 vwCl (w_S6 G A (csetA b 0 (va_cpy (b 4) (b 0) x2.toNatClampNeg x4.toNatClampNeg x5.toNatClampNeg))) H := hP
          have hD : va_D B (w_S6 G A (csetA b 0 (va_cpy (b 4) (b 0) x2.toNatClampNeg x4.toNatClampNeg x5.toNatClampNeg))) := hD
          exact b_43 _ H locs ls hf hP hD hS (lv_sub hl [] rfl)
        · refine lv_iload (pc := 36) hx hb dX3_copyRun_36 (lv_at hl 4 rfl) ?_
          refine lv_iload (pc := 38) hx hb dX3_copyRun_38 (lv_at hl 5 rfl) ?_
          obtain ⟨hc0, hf⟩ := ck_some hf
          obtain ⟨hc1, hf⟩ := ck_some hf
          refine wcopy (pc := 40) X hl.1 (List.mem_cons_of_mem _ (List.mem_append_left _ (List.mem_of_getElem? (i := 1) rfl))) (List.mem_cons_of_mem _ (List.mem_append_left _ (List.mem_of_getElem? (i := 2) rfl))) (List.mem_cons_of_mem _ (List.mem_append_left _ (List.mem_of_getElem? (i := 3) rfl))) (List.mem_cons_of_mem _ (List.mem_append_left _ (List.mem_of_getElem? (i := 4) rfl))) hP hD hS 7 4 (at_S6_7 G A b) (at_S6_4 G A b) hc0 hc1 (Nat.le_of_ble_eq_true rfl) (Nat.le_of_ble_eq_true rfl) (sa_S6_4 G A b _) dX3_copyRun_40 (fun H locs hP hD hS => ?_)
          have hP : va_P G.1 vwCl (w_S6 G A (csetA b 1 (va_cpy (b 4) (b 1) x2.toNatClampNeg x4.toNatClampNeg x5.toNatClampNeg))) H := hP
          have hD : va_D B (w_S6 G A (csetA b 1 (va_cpy (b 4) (b 1) x2.toNatClampNeg x4.toNatClampNeg x5.toNatClampNeg))) := hD
          exact b_43 _ H locs ls hf hP hD hS (lv_sub hl [] rfl)
        · refine lv_iload (pc := 36) hx hb dX3_copyRun_36 (lv_at hl 4 rfl) ?_
          refine lv_iload (pc := 38) hx hb dX3_copyRun_38 (lv_at hl 5 rfl) ?_
          obtain ⟨hc0, hf⟩ := ck_some hf
          obtain ⟨hc1, hf⟩ := ck_some hf
          refine wcopy (pc := 40) X hl.1 (List.mem_cons_of_mem _ (List.mem_append_left _ (List.mem_of_getElem? (i := 1) rfl))) (List.mem_cons_of_mem _ (List.mem_append_left _ (List.mem_of_getElem? (i := 2) rfl))) (List.mem_cons_of_mem _ (List.mem_append_left _ (List.mem_of_getElem? (i := 3) rfl))) (List.mem_cons_of_mem _ (List.mem_append_left _ (List.mem_of_getElem? (i := 4) rfl))) hP hD hS 7 5 (at_S6_7 G A b) (at_S6_5 G A b) hc0 hc1 (Nat.le_of_ble_eq_true rfl) (Nat.le_of_ble_eq_true rfl) (sa_S6_5 G A b _) dX3_copyRun_40 (fun H locs hP hD hS => ?_)
          have hP : va_P G.1 vwCl (w_S6 G A (csetA b 2 (va_cpy (b 4) (b 2) x2.toNatClampNeg x4.toNatClampNeg x5.toNatClampNeg))) H := hP
          have hD : va_D B (w_S6 G A (csetA b 2 (va_cpy (b 4) (b 2) x2.toNatClampNeg x4.toNatClampNeg x5.toNatClampNeg))) := hD
          exact b_43 _ H locs ls hf hP hD hS (lv_sub hl [] rfl)
        · refine lv_iload (pc := 36) hx hb dX3_copyRun_36 (lv_at hl 4 rfl) ?_
          refine lv_iload (pc := 38) hx hb dX3_copyRun_38 (lv_at hl 5 rfl) ?_
          obtain ⟨hc0, hf⟩ := ck_some hf
          obtain ⟨hc1, hf⟩ := ck_some hf
          refine wcopy (pc := 40) X hl.1 (List.mem_cons_of_mem _ (List.mem_append_left _ (List.mem_of_getElem? (i := 1) rfl))) (List.mem_cons_of_mem _ (List.mem_append_left _ (List.mem_of_getElem? (i := 2) rfl))) (List.mem_cons_of_mem _ (List.mem_append_left _ (List.mem_of_getElem? (i := 3) rfl))) (List.mem_cons_of_mem _ (List.mem_append_left _ (List.mem_of_getElem? (i := 4) rfl))) hP hD hS 7 6 (at_S6_7 G A b) (at_S6_6 G A b) hc0 hc1 (Nat.le_of_ble_eq_true rfl) (Nat.le_of_ble_eq_true rfl) (sa_S6_6 G A b _) dX3_copyRun_40 (fun H locs hP hD hS => ?_)
          have hP : va_P G.1 vwCl (w_S6 G A (csetA b 3 (va_cpy (b 4) (b 3) x2.toNatClampNeg x4.toNatClampNeg x5.toNatClampNeg))) H := hP
          have hD : va_D B (w_S6 G A (csetA b 3 (va_cpy (b 4) (b 3) x2.toNatClampNeg x4.toNatClampNeg x5.toNatClampNeg))) := hD
          exact b_43 _ H locs ls hf hP hD hS (lv_sub hl [] rfl)
        · refine lv_iload (pc := 36) hx hb dX3_copyRun_36 (lv_at hl 4 rfl) ?_
          refine lv_iload (pc := 38) hx hb dX3_copyRun_38 (lv_at hl 5 rfl) ?_
          obtain ⟨hc0, hf⟩ := ck_some hf
          obtain ⟨hc1, hf⟩ := ck_some hf
          refine wcopy (pc := 40) X hl.1 (List.mem_cons_of_mem _ (List.mem_append_left _ (List.mem_of_getElem? (i := 1) rfl))) (List.mem_cons_of_mem _ (List.mem_append_left _ (List.mem_of_getElem? (i := 2) rfl))) (List.mem_cons_of_mem _ (List.mem_append_left _ (List.mem_of_getElem? (i := 3) rfl))) (List.mem_cons_of_mem _ (List.mem_append_left _ (List.mem_of_getElem? (i := 4) rfl))) hP hD hS 7 7 (at_S6_7 G A b) (at_S6_7 G A b) hc0 hc1 (Nat.le_of_ble_eq_true rfl) (Nat.le_of_ble_eq_true rfl) (sa_S6_7 G A b _) dX3_copyRun_40 (fun H locs hP hD hS => ?_)
          have hP : va_P G.1 vwCl (w_S6 G A (csetA b 4 (va_cpy (b 4) (b 4) x2.toNatClampNeg x4.toNatClampNeg x5.toNatClampNeg))) H := hP
          have hD : va_D B (w_S6 G A (csetA b 4 (va_cpy (b 4) (b 4) x2.toNatClampNeg x4.toNatClampNeg x5.toNatClampNeg))) := hD
          exact b_43 _ H locs ls hf hP hD hS (lv_sub hl [] rfl)
        · refine lv_iload (pc := 36) hx hb dX3_copyRun_36 (lv_at hl 4 rfl) ?_
          refine lv_iload (pc := 38) hx hb dX3_copyRun_38 (lv_at hl 5 rfl) ?_
          obtain ⟨hc0, hf⟩ := ck_some hf
          obtain ⟨hc1, hf⟩ := ck_some hf
          refine wcopy (pc := 40) X hl.1 (List.mem_cons_of_mem _ (List.mem_append_left _ (List.mem_of_getElem? (i := 1) rfl))) (List.mem_cons_of_mem _ (List.mem_append_left _ (List.mem_of_getElem? (i := 2) rfl))) (List.mem_cons_of_mem _ (List.mem_append_left _ (List.mem_of_getElem? (i := 3) rfl))) (List.mem_cons_of_mem _ (List.mem_append_left _ (List.mem_of_getElem? (i := 4) rfl))) hP hD hS 7 8 (at_S6_7 G A b) (at_S6_8 G A b) hc0 hc1 (Nat.le_of_ble_eq_true rfl) (Nat.le_of_ble_eq_true rfl) (sa_S6_8 G A b _) dX3_copyRun_40 (fun H locs hP hD hS => ?_)
          have hP : va_P G.1 vwCl (w_S6 G A (csetA b 5 (va_cpy (b 4) (b 5) x2.toNatClampNeg x4.toNatClampNeg x5.toNatClampNeg))) H := hP
          have hD : va_D B (w_S6 G A (csetA b 5 (va_cpy (b 4) (b 5) x2.toNatClampNeg x4.toNatClampNeg x5.toNatClampNeg))) := hD
          exact b_43 _ H locs ls hf hP hD hS (lv_sub hl [] rfl)
      · refine lv_iload_n (pc := 29) hx hb dX3_copyRun_29 rfl (lv_at hl 2 rfl) ?_
        refine lv_aload_n (pc := 30) hx hb dX3_copyRun_30 rfl (lv_at hl 0 rfl) ?_
        refine wget (pc := 31) X (fun _ h9 => List.mem_cons_of_mem _ (List.mem_append_right _ h9)) hP 0 (at_S6_0 G A b) rfl 0 (by decide) (List.mem_cons_of_mem _ (List.mem_append_left _ (List.mem_of_getElem? (i := 0) rfl))) rfl (v := .ref (A 1)) rfl dX3_copyRun_31 ?_
        refine lv_iload_n (pc := 34) hx hb dX3_copyRun_34 rfl (lv_at hl 3 rfl) ?_
        obtain ⟨hi, hf⟩ := ck_some hf
        refine waaldI (pc := 35) X hP 1 (at_S6_1 G A b) hi (B := fun i => A (3 + i)) (fun i h => by rcases (show i = 0 ∨ i = 1 ∨ i = 2 ∨ i = 3 ∨ i = 4 ∨ i = 5 by omega) with rfl | rfl | rfl | rfl | rfl | rfl <;> rfl) dX3_copyRun_35 ?_
        have hj := inb_lt hi
        generalize x3.toNatClampNeg = jj at hf hj ⊢
        rcases (show jj = 0 ∨ jj = 1 ∨ jj = 2 ∨ jj = 3 ∨ jj = 4 ∨ jj = 5 by omega) with rfl | rfl | rfl | rfl | rfl | rfl
        · refine lv_iload (pc := 36) hx hb dX3_copyRun_36 (lv_at hl 4 rfl) ?_
          refine lv_iload (pc := 38) hx hb dX3_copyRun_38 (lv_at hl 5 rfl) ?_
          obtain ⟨hc0, hf⟩ := ck_some hf
          obtain ⟨hc1, hf⟩ := ck_some hf
          refine wcopy (pc := 40) X hl.1 (List.mem_cons_of_mem _ (List.mem_append_left _ (List.mem_of_getElem? (i := 1) rfl))) (List.mem_cons_of_mem _ (List.mem_append_left _ (List.mem_of_getElem? (i := 2) rfl))) (List.mem_cons_of_mem _ (List.mem_append_left _ (List.mem_of_getElem? (i := 3) rfl))) (List.mem_cons_of_mem _ (List.mem_append_left _ (List.mem_of_getElem? (i := 4) rfl))) hP hD hS 8 3 (at_S6_8 G A b) (at_S6_3 G A b) hc0 hc1 (Nat.le_of_ble_eq_true rfl) (Nat.le_of_ble_eq_true rfl) (sa_S6_3 G A b _) dX3_copyRun_40 (fun H locs hP hD hS => ?_)
          have hP : va_P G.1 vwCl (w_S6 G A (csetA b 0 (va_cpy (b 5) (b 0) x2.toNatClampNeg x4.toNatClampNeg x5.toNatClampNeg))) H := hP
          have hD : va_D B (w_S6 G A (csetA b 0 (va_cpy (b 5) (b 0) x2.toNatClampNeg x4.toNatClampNeg x5.toNatClampNeg))) := hD
          exact b_43 _ H locs ls hf hP hD hS (lv_sub hl [] rfl)
        · refine lv_iload (pc := 36) hx hb dX3_copyRun_36 (lv_at hl 4 rfl) ?_
          refine lv_iload (pc := 38) hx hb dX3_copyRun_38 (lv_at hl 5 rfl) ?_
          obtain ⟨hc0, hf⟩ := ck_some hf
          obtain ⟨hc1, hf⟩ := ck_some hf
          refine wcopy (pc := 40) X hl.1 (List.mem_cons_of_mem _ (List.mem_append_left _ (List.mem_of_getElem? (i := 1) rfl))) (List.mem_cons_of_mem _ (List.mem_append_left _ (List.mem_of_getElem? (i := 2) rfl))) (List.mem_cons_of_mem _ (List.mem_append_left _ (List.mem_of_getElem? (i := 3) rfl))) (List.mem_cons_of_mem _ (List.mem_append_left _ (List.mem_of_getElem? (i := 4) rfl))) hP hD hS 8 4 (at_S6_8 G A b) (at_S6_4 G A b) hc0 hc1 (Nat.le_of_ble_eq_true rfl) (Nat.le_of_ble_eq_true rfl) (sa_S6_4 G A b _) dX3_copyRun_40 (fun H locs hP hD hS => ?_)
          have hP : va_P G.1 vwCl (w_S6 G A (csetA b 1 (va_cpy (b 5) (b 1) x2.toNatClampNeg x4.toNatClampNeg x5.toNatClampNeg))) H := hP
          have hD : va_D B (w_S6 G A (csetA b 1 (va_cpy (b 5) (b 1) x2.toNatClampNeg x4.toNatClampNeg x5.toNatClampNeg))) := hD
          exact b_43 _ H locs ls hf hP hD hS (lv_sub hl [] rfl)
        · refine lv_iload (pc := 36) hx hb dX3_copyRun_36 (lv_at hl 4 rfl) ?_
          refine lv_iload (pc := 38) hx hb dX3_copyRun_38 (lv_at hl 5 rfl) ?_
          obtain ⟨hc0, hf⟩ := ck_some hf
          obtain ⟨hc1, hf⟩ := ck_some hf
          refine wcopy (pc := 40) X hl.1 (List.mem_cons_of_mem _ (List.mem_append_left _ (List.mem_of_getElem? (i := 1) rfl))) (List.mem_cons_of_mem _ (List.mem_append_left _ (List.mem_of_getElem? (i := 2) rfl))) (List.mem_cons_of_mem _ (List.mem_append_left _ (List.mem_of_getElem? (i := 3) rfl))) (List.mem_cons_of_mem _ (List.mem_append_left _ (List.mem_of_getElem? (i := 4) rfl))) hP hD hS 8 5 (at_S6_8 G A b) (at_S6_5 G A b) hc0 hc1 (Nat.le_of_ble_eq_true rfl) (Nat.le_of_ble_eq_true rfl) (sa_S6_5 G A b _) dX3_copyRun_40 (fun H locs hP hD hS => ?_)
          have hP : va_P G.1 vwCl (w_S6 G A (csetA b 2 (va_cpy (b 5) (b 2) x2.toNatClampNeg x4.toNatClampNeg x5.toNatClampNeg))) H := hP
          have hD : va_D B (w_S6 G A (csetA b 2 (va_cpy (b 5) (b 2) x2.toNatClampNeg x4.toNatClampNeg x5.toNatClampNeg))) := hD
          exact b_43 _ H locs ls hf hP hD hS (lv_sub hl [] rfl)
        · refine lv_iload (pc := 36) hx hb dX3_copyRun_36 (lv_at hl 4 rfl) ?_
          refine lv_iload (pc := 38) hx hb dX3_copyRun_38 (lv_at hl 5 rfl) ?_
          obtain ⟨hc0, hf⟩ := ck_some hf
          obtain ⟨hc1, hf⟩ := ck_some hf
          refine wcopy (pc := 40) X hl.1 (List.mem_cons_of_mem _ (List.mem_append_left _ (List.mem_of_getElem? (i := 1) rfl))) (List.mem_cons_of_mem _ (List.mem_append_left _ (List.mem_of_getElem? (i := 2) rfl))) (List.mem_cons_of_mem _ (List.mem_append_left _ (List.mem_of_getElem? (i := 3) rfl))) (List.mem_cons_of_mem _ (List.mem_append_left _ (List.mem_of_getElem? (i := 4) rfl))) hP hD hS 8 6 (at_S6_8 G A b) (at_S6_6 G A b) hc0 hc1 (Nat.le_of_ble_eq_true rfl) (Nat.le_of_ble_eq_true rfl) (sa_S6_6 G A b _) dX3_copyRun_40 (fun H locs hP hD hS => ?_)
          have hP : va_P G.1 vwCl (w_S6 G A (csetA b 3 (va_cpy (b 5) (b 3) x2.toNatClampNeg x4.toNatClampNeg x5.toNatClampNeg))) H := hP
          have hD : va_D B (w_S6 G A (csetA b 3 (va_cpy (b 5) (b 3) x2.toNatClampNeg x4.toNatClampNeg x5.toNatClampNeg))) := hD
          exact b_43 _ H locs ls hf hP hD hS (lv_sub hl [] rfl)
        · refine lv_iload (pc := 36) hx hb dX3_copyRun_36 (lv_at hl 4 rfl) ?_
          refine lv_iload (pc := 38) hx hb dX3_copyRun_38 (lv_at hl 5 rfl) ?_
          obtain ⟨hc0, hf⟩ := ck_some hf
          obtain ⟨hc1, hf⟩ := ck_some hf
          refine wcopy (pc := 40) X hl.1 (List.mem_cons_of_mem _ (List.mem_append_left _ (List.mem_of_getElem? (i := 1) rfl))) (List.mem_cons_of_mem _ (List.mem_append_left _ (List.mem_of_getElem? (i := 2) rfl))) (List.mem_cons_of_mem _ (List.mem_append_left _ (List.mem_of_getElem? (i := 3) rfl))) (List.mem_cons_of_mem _ (List.mem_append_left _ (List.mem_of_getElem? (i := 4) rfl))) hP hD hS 8 7 (at_S6_8 G A b) (at_S6_7 G A b) hc0 hc1 (Nat.le_of_ble_eq_true rfl) (Nat.le_of_ble_eq_true rfl) (sa_S6_7 G A b _) dX3_copyRun_40 (fun H locs hP hD hS => ?_)
          have hP : va_P G.1 vwCl (w_S6 G A (csetA b 4 (va_cpy (b 5) (b 4) x2.toNatClampNeg x4.toNatClampNeg x5.toNatClampNeg))) H := hP
          have hD : va_D B (w_S6 G A (csetA b 4 (va_cpy (b 5) (b 4) x2.toNatClampNeg x4.toNatClampNeg x5.toNatClampNeg))) := hD
          exact b_43 _ H locs ls hf hP hD hS (lv_sub hl [] rfl)
        · refine lv_iload (pc := 36) hx hb dX3_copyRun_36 (lv_at hl 4 rfl) ?_
          refine lv_iload (pc := 38) hx hb dX3_copyRun_38 (lv_at hl 5 rfl) ?_
          obtain ⟨hc0, hf⟩ := ck_some hf
          obtain ⟨hc1, hf⟩ := ck_some hf
          refine wcopy (pc := 40) X hl.1 (List.mem_cons_of_mem _ (List.mem_append_left _ (List.mem_of_getElem? (i := 1) rfl))) (List.mem_cons_of_mem _ (List.mem_append_left _ (List.mem_of_getElem? (i := 2) rfl))) (List.mem_cons_of_mem _ (List.mem_append_left _ (List.mem_of_getElem? (i := 3) rfl))) (List.mem_cons_of_mem _ (List.mem_append_left _ (List.mem_of_getElem? (i := 4) rfl))) hP hD hS 8 8 (at_S6_8 G A b) (at_S6_8 G A b) hc0 hc1 (Nat.le_of_ble_eq_true rfl) (Nat.le_of_ble_eq_true rfl) (sa_S6_8 G A b _) dX3_copyRun_40 (fun H locs hP hD hS => ?_)
          have hP : va_P G.1 vwCl (w_S6 G A (csetA b 5 (va_cpy (b 5) (b 5) x2.toNatClampNeg x4.toNatClampNeg x5.toNatClampNeg))) H := hP
          have hD : va_D B (w_S6 G A (csetA b 5 (va_cpy (b 5) (b 5) x2.toNatClampNeg x4.toNatClampNeg x5.toNatClampNeg))) := hD
          exact b_43 _ H locs ls hf hP hD hS (lv_sub hl [] rfl)
def r_X3_isThere_t : Room := { frames := 1, cells := 0, slots := 0, locals := 21 }
set_option maxHeartbeats 4000000 in
set_option maxRecDepth 100000 in
theorem c_X3_isThere_t (G : GT) (l : Launch) (A : Nat → Nat) (sz : Nat) (b : CS) (x1 : Int32) (r : Int32) (hf : f_X3_isThere_t b x1 = some r) : MTi l yX3_isThere wsX3_isThere r_X3_isThere_t [.ref (A 0), .int x1] G (w_S4 G A b) (w_S4 G A b) sz r := by
  refine MTz.of (cc := cX3_isThere) (maxL := 2) (by decide +kernel) rfl (Nat.le_of_ble_eq_true rfl) (fun p e s m av below meth cd Q B H locs ls X hret hl hP hD hS => ?_)
  have hx := X.1.1
  have hb := X.1.2.1
  have hl : lv_has ls 2 [(0, .ref (A 0)), (1, .int x1)] := hl
  have b_23 : ∀ (t0 : Int32) (H : Heap) (locs : List Loc) (ls : Array Slot), f_X3_isThere_t_23 t0 b = some r → va_P G.1 vwCl (w_S4 G A b) H → va_D B (w_S4 G A b) → va_S B s.heap H locs → lv_has ls 2 [] → W p l e r_X3_isThere_t s m av below meth cd H locs 0 0 Q (F0 m 23 ls [.int t0]) := by
    intro t0 H locs ls hf hP hD hS hl
    unfold f_X3_isThere_t_23 at hf
    obtain ⟨hz, hf⟩ := ck_some hf
    cases hf
    exact hret _ _ _ _ (isb_or hz) dX3_isThere_23 hP hD hS
  have b_22 : ∀  (H : Heap) (locs : List Loc) (ls : Array Slot), f_X3_isThere_t_22 b = some r → va_P G.1 vwCl (w_S4 G A b) H → va_D B (w_S4 G A b) → va_S B s.heap H locs → lv_has ls 2 [] → W p l e r_X3_isThere_t s m av below meth cd H locs 0 0 Q (F0 m 22 ls []) := by
    intro  H locs ls hf hP hD hS hl
    unfold f_X3_isThere_t_22 at hf
    refine lv_iconst (pc := 22) (v := (0 : Int32)) hx hb dX3_isThere_22 (by decide) ?_
    exact b_23 _ H locs ls hf hP hD hS (lv_sub hl [] rfl)
  unfold f_X3_isThere_t at hf
  refine lv_aload_n (pc := 0) hx hb dX3_isThere_0 rfl (lv_at hl 0 rfl) ?_
  refine lv_iload_n (pc := 1) hx hb dX3_isThere_1 rfl (lv_at hl 1 rfl) ?_
  obtain ⟨r1, hc1, hf⟩ := ob1_some hf
  refine endi X.2.2.2.2 (runV (pc := 2) (As := [.int x1]) (rest := []) X (c_X3_isNumber_t G l A H.size b x1 r1 hc1) gX3_isThere_X3_isNumber k_X3_isNumber ⟨rfl, rfl⟩ ⟨Nat.le_of_ble_eq_true rfl, Nat.le_of_ble_eq_true rfl⟩ (EM.all (w_S4 G A b) (w_S4 G A b)) hP hD hS (ci := 3) rfl rfl (at_S4_0 G A b) rfl hl.1 rfl (Nat.le_of_ble_eq_true rfl) ⟨Nat.zero_le _, Nat.zero_le _⟩ dX3_isThere_2) (EM.all (w_S4 G A b) (w_S4 G A b)) hP hD hS (fun H locs hP hD hS => ?_)
  refine lv_if_eq (pc := 5) (tgt := 22) hx hb dX3_isThere_5 (by decide) (fun h2 => ?_) (fun h2 => ?_)
  · have hf := br_y h2 hf
    exact b_22  H locs ls hf hP hD hS (lv_sub hl [] rfl)
  · have hf := br_n h2 hf
    refine lv_aload_n (pc := 8) hx hb dX3_isThere_8 rfl (lv_at hl 0 rfl) ?_
    refine wget (pc := 9) X (fun _ h9 => List.mem_cons_of_mem _ (List.mem_append_right _ h9)) hP 0 (at_S4_0 G A b) rfl 1 (by decide) (List.mem_cons_of_mem _ (List.mem_append_left _ (List.mem_of_getElem? (i := 0) rfl))) rfl (v := .ref (A 2)) rfl dX3_isThere_9 ?_
    refine lv_iload_n (pc := 12) hx hb dX3_isThere_12 rfl (lv_at hl 1 rfl) ?_
    obtain ⟨hi, hf⟩ := ck_some hf
    refine wiald (pc := 13) X hP 2 (at_S4_2 G A b) hi rfl dX3_isThere_13 ?_
    refine lv_iconst (pc := 14) (v := (-1 : Int32)) hx hb dX3_isThere_14 (by decide) ?_
    refine lv_icmp_eq (pc := 15) (tgt := 22) hx hb dX3_isThere_15 (by decide) (fun h1 => ?_) (fun h1 => ?_)
    · have hf := br_y h1 hf
      exact b_22  H locs ls hf hP hD hS (lv_sub hl [] rfl)
    · have hf := br_n h1 hf
      refine lv_iconst (pc := 18) (v := (1 : Int32)) hx hb dX3_isThere_18 (by decide) ?_
      refine lv_goto (pc := 19) (tgt := 23) hx hb dX3_isThere_19 (by decide) ?_
      exact b_23 _ H locs ls hf hP hD hS (lv_sub hl [] rfl)
def r_X3_holdsRun_t : Room := { frames := 2, cells := 0, slots := 0, locals := 42 }
set_option maxHeartbeats 4000000 in
set_option maxRecDepth 100000 in
theorem c_X3_holdsRun_t (G : GT) (l : Launch) (A : Nat → Nat) (sz : Nat) (b : CS) (x1 : Int32) (x2 : Int32) (x3 : Int32) (r : Int32) (hf : f_X3_holdsRun_t b x1 x2 x3 = some r) : MTi l yX3_holdsRun wsX3_holdsRun r_X3_holdsRun_t [.ref (A 0), .int x1, .int x2, .int x3] G (w_S4 G A b) (w_S4 G A b) sz r := by
  refine MTz.of (cc := cX3_holdsRun) (maxL := 4) (by decide +kernel) rfl (Nat.le_of_ble_eq_true rfl) (fun p e s m av below meth cd Q B H locs ls X hret hl hP hD hS => ?_)
  have hx := X.1.1
  have hb := X.1.2.1
  have hl : lv_has ls 4 [(0, .ref (A 0)), (1, .int x1), (2, .int x2), (3, .int x3)] := hl
  have b_43 : ∀ (t0 : Int32) (H : Heap) (locs : List Loc) (ls : Array Slot), f_X3_holdsRun_t_43 t0 b = some r → va_P G.1 vwCl (w_S4 G A b) H → va_D B (w_S4 G A b) → va_S B s.heap H locs → lv_has ls 4 [] → W p l e r_X3_holdsRun_t s m av below meth cd H locs 0 0 Q (F0 m 43 ls [.int t0]) := by
    intro t0 H locs ls hf hP hD hS hl
    unfold f_X3_holdsRun_t_43 at hf
    obtain ⟨hz, hf⟩ := ck_some hf
    cases hf
    exact hret _ _ _ _ (isb_or hz) dX3_holdsRun_43 hP hD hS
  have b_42 : ∀  (H : Heap) (locs : List Loc) (ls : Array Slot), f_X3_holdsRun_t_42 b = some r → va_P G.1 vwCl (w_S4 G A b) H → va_D B (w_S4 G A b) → va_S B s.heap H locs → lv_has ls 4 [] → W p l e r_X3_holdsRun_t s m av below meth cd H locs 0 0 Q (F0 m 42 ls []) := by
    intro  H locs ls hf hP hD hS hl
    unfold f_X3_holdsRun_t_42 at hf
    refine lv_iconst (pc := 42) (v := (0 : Int32)) hx hb dX3_holdsRun_42 (by decide) ?_
    exact b_43 _ H locs ls hf hP hD hS (lv_sub hl [] rfl)
  unfold f_X3_holdsRun_t at hf
  refine lv_aload_n (pc := 0) hx hb dX3_holdsRun_0 rfl (lv_at hl 0 rfl) ?_
  refine lv_iload_n (pc := 1) hx hb dX3_holdsRun_1 rfl (lv_at hl 1 rfl) ?_
  obtain ⟨r1, hc1, hf⟩ := ob1_some hf
  refine endi X.2.2.2.2 (runV (pc := 2) (As := [.int x1]) (rest := []) X (c_X3_isThere_t G l A H.size b x1 r1 hc1) gX3_holdsRun_X3_isThere k_X3_isThere ⟨rfl, rfl⟩ ⟨Nat.le_of_ble_eq_true rfl, Nat.le_of_ble_eq_true rfl⟩ (EM.all (w_S4 G A b) (w_S4 G A b)) hP hD hS (ci := 3) rfl rfl (at_S4_0 G A b) rfl hl.1 rfl (Nat.le_of_ble_eq_true rfl) ⟨Nat.zero_le _, Nat.zero_le _⟩ dX3_holdsRun_2) (EM.all (w_S4 G A b) (w_S4 G A b)) hP hD hS (fun H locs hP hD hS => ?_)
  refine lv_if_eq (pc := 5) (tgt := 42) hx hb dX3_holdsRun_5 (by decide) (fun h5 => ?_) (fun h5 => ?_)
  · have hf := br_y h5 hf
    exact b_42  H locs ls hf hP hD hS (lv_sub hl [] rfl)
  · have hf := br_n h5 hf
    refine lv_iload_n (pc := 8) hx hb dX3_holdsRun_8 rfl (lv_at hl 2 rfl) ?_
    refine lv_if_lt (pc := 9) (tgt := 42) hx hb dX3_holdsRun_9 (by decide) (fun h4 => ?_) (fun h4 => ?_)
    · have hf := br_y h4 hf
      exact b_42  H locs ls hf hP hD hS (lv_sub hl [] rfl)
    · have hf := br_n h4 hf
      refine lv_iload_n (pc := 12) hx hb dX3_holdsRun_12 rfl (lv_at hl 3 rfl) ?_
      refine lv_if_lt (pc := 13) (tgt := 42) hx hb dX3_holdsRun_13 (by decide) (fun h3 => ?_) (fun h3 => ?_)
      · have hf := br_y h3 hf
        exact b_42  H locs ls hf hP hD hS (lv_sub hl [] rfl)
      · have hf := br_n h3 hf
        refine lv_iload_n (pc := 16) hx hb dX3_holdsRun_16 rfl (lv_at hl 2 rfl) ?_
        refine lv_aload_n (pc := 17) hx hb dX3_holdsRun_17 rfl (lv_at hl 0 rfl) ?_
        refine wget (pc := 18) X (fun _ h9 => List.mem_cons_of_mem _ (List.mem_append_right _ h9)) hP 0 (at_S4_0 G A b) rfl 1 (by decide) (List.mem_cons_of_mem _ (List.mem_append_left _ (List.mem_of_getElem? (i := 0) rfl))) rfl (v := .ref (A 2)) rfl dX3_holdsRun_18 ?_
        refine lv_iload_n (pc := 21) hx hb dX3_holdsRun_21 rfl (lv_at hl 1 rfl) ?_
        obtain ⟨hi, hf⟩ := ck_some hf
        refine wiald (pc := 22) X hP 2 (at_S4_2 G A b) hi rfl dX3_holdsRun_22 ?_
        refine lv_icmp_gt (pc := 23) (tgt := 42) hx hb dX3_holdsRun_23 (by decide) (fun h2 => ?_) (fun h2 => ?_)
        · have hf := br_y h2 hf
          exact b_42  H locs ls hf hP hD hS (lv_sub hl [] rfl)
        · have hf := br_n h2 hf
          refine lv_iload_n (pc := 26) hx hb dX3_holdsRun_26 rfl (lv_at hl 3 rfl) ?_
          refine lv_aload_n (pc := 27) hx hb dX3_holdsRun_27 rfl (lv_at hl 0 rfl) ?_
          refine wget (pc := 28) X (fun _ h9 => List.mem_cons_of_mem _ (List.mem_append_right _ h9)) hP 0 (at_S4_0 G A b) rfl 1 (by decide) (List.mem_cons_of_mem _ (List.mem_append_left _ (List.mem_of_getElem? (i := 0) rfl))) rfl (v := .ref (A 2)) rfl dX3_holdsRun_28 ?_
          refine lv_iload_n (pc := 31) hx hb dX3_holdsRun_31 rfl (lv_at hl 1 rfl) ?_
          obtain ⟨hi, hf⟩ := ck_some hf
          refine wiald (pc := 32) X hP 2 (at_S4_2 G A b) hi rfl dX3_holdsRun_32 ?_
          refine lv_iload_n (pc := 33) hx hb dX3_holdsRun_33 rfl (lv_at hl 2 rfl) ?_
          refine lv_isub (pc := 34) hx hb dX3_holdsRun_34 ?_
          refine lv_icmp_gt (pc := 35) (tgt := 42) hx hb dX3_holdsRun_35 (by decide) (fun h1 => ?_) (fun h1 => ?_)
          · have hf := br_y h1 hf
            exact b_42  H locs ls hf hP hD hS (lv_sub hl [] rfl)
          · have hf := br_n h1 hf
            refine lv_iconst (pc := 38) (v := (1 : Int32)) hx hb dX3_holdsRun_38 (by decide) ?_
            refine lv_goto (pc := 39) (tgt := 43) hx hb dX3_holdsRun_39 (by decide) ?_
            exact b_43 _ H locs ls hf hP hD hS (lv_sub hl [] rfl)
