def r_X6_answer : Room := { frames := 0, cells := 0, slots := 0, locals := 0 }
set_option maxHeartbeats 4000000 in
set_option maxRecDepth 100000 in
theorem c_X6_answer (G : GT) (l : Launch) (A : Nat → Nat) (sz : Nat) (M : CS) (N : JS) (x1 : Int32) (x2 : Int32) (r : Int32) (M' : CS) (hf : f_X6_answer M N x1 x2 = some (r, M')) : MTi l yX6_answer wsX6_answer r_X6_answer [.ref (A 0), .int x1, .int x2] G (w_Mo G A M N) (w_Mo G A M' N) sz r := by
  refine MTi.of (cc := cX6_answer) (maxL := 3) (by decide +kernel) rfl (Nat.le_of_ble_eq_true rfl) (fun p e s m av below meth cd Q B H locs ls X hret hl hP hD hS => ?_)
  have hx := X.1.1
  have hb := X.1.2.1
  have hl : lv_has ls 3 [(0, .ref (A 0)), (1, .int x1), (2, .int x2)] := hl
  unfold f_X6_answer at hf
  refine lv_aload_n (pc := 0) hx hb dX6_answer_0 rfl (lv_at hl 0 rfl) ?_
  refine lv_iload_n (pc := 1) hx hb dX6_answer_1 rfl (lv_at hl 2 rfl) ?_
  refine wput (pc := 2) X (fun _ h9 => List.mem_cons_of_mem _ (List.mem_append_right _ h9)) tyX6 tyX6_ok nmX6 hP hD hS 0 (at_Mo_0 G A M N) rfl 7 (by decide) (List.mem_cons_of_mem _ (List.mem_append_left _ (List.mem_of_getElem? (i := 0) rfl))) rfl rfl (ty := .int) (v := .int x2) rfl rfl rfl (Nat.le_of_ble_eq_true rfl) (st_Mo_0_7 G A M N x2) dX6_answer_2 (fun H locs hP hD hS => ?_)
  refine lv_iload_n (pc := 5) hx hb dX6_answer_5 rfl (lv_at hl 1 rfl) ?_
  cases hf
  exact hret _ _ _ _ dX6_answer_6 hP hD hS
def r_X6_areTowns : Room := { frames := 0, cells := 0, slots := 0, locals := 0 }
set_option maxHeartbeats 4000000 in
set_option maxRecDepth 100000 in
theorem c_X6_areTowns (G : GT) (l : Launch) (sz : Nat) (x0 : Int32) (x1 : Int32) (r : Int32) (hf : f_X6_areTowns x0 x1 = some r) : MTi l yX6_areTowns wsX6_areTowns r_X6_areTowns [.int x0, .int x1] G [] [] sz r := by
  refine MTz.of (cc := cX6_areTowns) (maxL := 2) (by decide +kernel) rfl (Nat.le_of_ble_eq_true rfl) (fun p e s m av below meth cd Q B H locs ls X hret hl hP hD hS => ?_)
  have hx := X.1.1
  have hb := X.1.2.1
  have hl : lv_has ls 2 [(0, .int x0), (1, .int x1)] := hl
  have b_19 : ∀ (t0 : Int32) (H : Heap) (locs : List Loc) (ls : Array Slot), f_X6_areTowns_19 t0 = some r → va_P G.1 vwCl [] H → va_D B [] → va_S B s.heap H locs → lv_has ls 2 [] → W p l e r_X6_areTowns s m av below meth cd H locs 0 0 Q (F0 m 19 ls [.int t0]) := by
    intro t0 H locs ls hf hP hD hS hl
    unfold f_X6_areTowns_19 at hf
    obtain ⟨hz, hf⟩ := ck_some hf
    cases hf
    exact hret _ _ _ _ (isb_or hz) dX6_areTowns_19 hP hD hS
  have b_18 : ∀  (H : Heap) (locs : List Loc) (ls : Array Slot), f_X6_areTowns_18 = some r → va_P G.1 vwCl [] H → va_D B [] → va_S B s.heap H locs → lv_has ls 2 [] → W p l e r_X6_areTowns s m av below meth cd H locs 0 0 Q (F0 m 18 ls []) := by
    intro  H locs ls hf hP hD hS hl
    unfold f_X6_areTowns_18 at hf
    refine lv_iconst (pc := 18) (v := (0 : Int32)) hx hb dX6_areTowns_18 (by decide) ?_
    exact b_19 _ H locs ls hf hP hD hS (lv_sub hl [] rfl)
  unfold f_X6_areTowns at hf
  refine lv_iload_n (pc := 0) hx hb dX6_areTowns_0 rfl (lv_at hl 0 rfl) ?_
  refine lv_if_lt (pc := 1) (tgt := 18) hx hb dX6_areTowns_1 (by decide) (fun h3 => ?_) (fun h3 => ?_)
  · have hf := br_y h3 hf
    exact b_18  H locs ls hf hP hD hS (lv_sub hl [] rfl)
  · have hf := br_n h3 hf
    refine lv_iload_n (pc := 4) hx hb dX6_areTowns_4 rfl (lv_at hl 0 rfl) ?_
    refine lv_iload_n (pc := 5) hx hb dX6_areTowns_5 rfl (lv_at hl 1 rfl) ?_
    refine lv_icmp_ge (pc := 6) (tgt := 18) hx hb dX6_areTowns_6 (by decide) (fun h2 => ?_) (fun h2 => ?_)
    · have hf := br_y h2 hf
      exact b_18  H locs ls hf hP hD hS (lv_sub hl [] rfl)
    · have hf := br_n h2 hf
      refine lv_iload_n (pc := 9) hx hb dX6_areTowns_9 rfl (lv_at hl 1 rfl) ?_
      refine lv_iconst (pc := 10) (v := (5 : Int32)) hx hb dX6_areTowns_10 (by decide) ?_
      refine lv_icmp_ge (pc := 11) (tgt := 18) hx hb dX6_areTowns_11 (by decide) (fun h1 => ?_) (fun h1 => ?_)
      · have hf := br_y h1 hf
        exact b_18  H locs ls hf hP hD hS (lv_sub hl [] rfl)
      · have hf := br_n h1 hf
        refine lv_iconst (pc := 14) (v := (1 : Int32)) hx hb dX6_areTowns_14 (by decide) ?_
        refine lv_goto (pc := 15) (tgt := 19) hx hb dX6_areTowns_15 (by decide) ?_
        exact b_19 _ H locs ls hf hP hD hS (lv_sub hl [] rfl)
def r_X6_bits : Room := { frames := 0, cells := 0, slots := 0, locals := 0 }
set_option maxHeartbeats 4000000 in
set_option maxRecDepth 100000 in
theorem c_X6_bits (G : GT) (l : Launch) (sz : Nat) (x0 : Int32) (r : Int32) (hf : f_X6_bits x0 = some r) : MTi l yX6_bits wsX6_bits r_X6_bits [.int x0] G [] [] sz r := by
  refine MTi.of (cc := cX6_bits) (maxL := 3) (by decide +kernel) rfl (Nat.le_of_ble_eq_true rfl) (fun p e s m av below meth cd Q B H locs ls X hret hl hP hD hS => ?_)
  have hx := X.1.1
  have hb := X.1.2.1
  have hl : lv_has ls 3 [(0, .int x0)] := hl
  have l_4 : ∀ (n4 : Nat), ∀ (x1 : Int32) (x2 : Int32) (H : Heap) (locs : List Loc) (ls : Array Slot), f_X6_bits_4 n4 x1 x2 = some r → va_P G.1 vwCl [] H → va_D B [] → va_S B s.heap H locs → lv_has ls 3 [(1, .int x1), (2, .int x2)] → W p l e r_X6_bits s m av below meth cd H locs 0 0 Q (F0 m 4 ls []) := by
    intro n4
    induction n4 with
    | zero =>
      intro x1 x2 H locs ls hf hP hD hS hl
      rw [f_X6_bits_4] at hf
      cases hf
    | succ n4 ih4 =>
      intro x1 x2 H locs ls hf hP hD hS hl
      rw [f_X6_bits_4] at hf
      refine lv_iload_n (pc := 4) hx hb dX6_bits_4 rfl (lv_at hl 1 rfl) ?_
      refine lv_if_eq (pc := 5) (tgt := 20) hx hb dX6_bits_5 (by decide) (fun h1 => ?_) (fun h1 => ?_)
      · have hf := br_y h1 hf
        refine lv_iload_n (pc := 20) hx hb dX6_bits_20 rfl (lv_at hl 0 rfl) ?_
        cases hf
        exact hret _ _ _ _ dX6_bits_21 hP hD hS
      · have hf := br_n h1 hf
        refine lv_iinc (pc := 8) (v := (x1 + (1 : Int32))) (lv' := [(1, .int (x1 + (1 : Int32))), (2, .int x2)]) hx hb dX6_bits_8 hl (k := 0) rfl rfl (by decide) rfl (fun ls hl => ?_)
        refine lv_iload_n (pc := 11) hx hb dX6_bits_11 rfl (lv_at hl 1 rfl) ?_
        refine lv_iload_n (pc := 12) hx hb dX6_bits_12 rfl (lv_at hl 1 rfl) ?_
        refine lv_iconst (pc := 13) (v := (1 : Int32)) hx hb dX6_bits_13 (by decide) ?_
        refine lv_isub (pc := 14) hx hb dX6_bits_14 ?_
        refine lv_iand (pc := 15) hx hb dX6_bits_15 ?_
        refine lv_istore_n (pc := 16) (lv' := [(2, .int (x2 &&& (x2 - (1 : Int32)))), (1, .int (x1 + (1 : Int32)))]) hx hb dX6_bits_16 rfl hl (by decide) rfl (fun ls hl => ?_)
        refine lv_goto (pc := 17) (tgt := 4) hx hb dX6_bits_17 (by decide) ?_
        exact ih4 _ _ H locs ls hf hP hD hS (lv_sub hl [1, 0] rfl)
  unfold f_X6_bits at hf
  refine lv_iconst (pc := 0) (v := (0 : Int32)) hx hb dX6_bits_0 (by decide) ?_
  refine lv_istore_n (pc := 1) (lv' := [(1, .int (0 : Int32)), (0, .int x0)]) hx hb dX6_bits_1 rfl hl (by decide) rfl (fun ls hl => ?_)
  refine lv_iload_n (pc := 2) hx hb dX6_bits_2 rfl (lv_at hl 1 rfl) ?_
  refine lv_istore_n (pc := 3) (lv' := [(2, .int x0), (1, .int (0 : Int32)), (0, .int x0)]) hx hb dX6_bits_3 rfl hl (by decide) rfl (fun ls hl => ?_)
  exact l_4 FU _ _ H locs ls hf hP hD hS (lv_sub hl [1, 0] rfl)
def r_X6_differs : Room := { frames := 0, cells := 0, slots := 0, locals := 0 }
set_option maxHeartbeats 4000000 in
set_option maxRecDepth 100000 in
theorem c_X6_differs (G : GT) (l : Launch) (A : Nat → Nat) (sz : Nat) (M : CS) (N : JS) (x1 : Int32) (x2 : Int32) (x3 : Int32) (r : Int32) (hf : f_X6_differs M N x1 x2 x3 = some r) : MTi l yX6_differs wsX6_differs r_X6_differs [.ref (A 0), .int x1, .int x2, .int x3] G (w_Mo G A M N) (w_Mo G A M N) sz r := by
  refine MTz.of (cc := cX6_differs) (maxL := 4) (by decide +kernel) rfl (Nat.le_of_ble_eq_true rfl) (fun p e s m av below meth cd Q B H locs ls X hret hl hP hD hS => ?_)
  have hx := X.1.1
  have hb := X.1.2.1
  have hl : lv_has ls 4 [(0, .ref (A 0)), (1, .int x1), (2, .int x2), (3, .int x3)] := hl
  have b_34 : ∀ (t0 : Int32) (H : Heap) (locs : List Loc) (ls : Array Slot), f_X6_differs_34 t0 M N = some r → va_P G.1 vwCl (w_Mo G A M N) H → va_D B (w_Mo G A M N) → va_S B s.heap H locs → lv_has ls 4 [] → W p l e r_X6_differs s m av below meth cd H locs 0 0 Q (F0 m 34 ls [.int t0]) := by
    intro t0 H locs ls hf hP hD hS hl
    unfold f_X6_differs_34 at hf
    obtain ⟨hz, hf⟩ := ck_some hf
    cases hf
    exact hret _ _ _ _ (isb_or hz) dX6_differs_34 hP hD hS
  unfold f_X6_differs at hf
  refine lv_aload_n (pc := 0) hx hb dX6_differs_0 rfl (lv_at hl 0 rfl) ?_
  refine wget (pc := 1) X (fun _ h9 => List.mem_cons_of_mem _ (List.mem_append_right _ h9)) hP 0 (at_Mo_0 G A M N) rfl 15 (by decide) (List.mem_cons_of_mem _ (List.mem_append_left _ (List.mem_of_getElem? (i := 0) rfl))) rfl (v := .ref (A 11)) rfl dX6_differs_1 ?_
  refine lv_bipush (pc := 4) (v := (20 : Int32)) hx hb dX6_differs_4 (by decide) ?_
  refine lv_iload_n (pc := 6) hx hb dX6_differs_6 rfl (lv_at hl 2 rfl) ?_
  refine lv_imul (pc := 7) hx hb dX6_differs_7 ?_
  refine lv_iload_n (pc := 8) hx hb dX6_differs_8 rfl (lv_at hl 3 rfl) ?_
  refine lv_iadd (pc := 9) hx hb dX6_differs_9 ?_
  obtain ⟨hi, hf⟩ := ck_some hf
  refine wiald (pc := 10) X hP 11 (at_Mo_11 G A M N) hi rfl dX6_differs_10 ?_
  refine lv_aload_n (pc := 11) hx hb dX6_differs_11 rfl (lv_at hl 0 rfl) ?_
  refine wget (pc := 12) X (fun _ h9 => List.mem_cons_of_mem _ (List.mem_append_right _ h9)) hP 0 (at_Mo_0 G A M N) rfl 15 (by decide) (List.mem_cons_of_mem _ (List.mem_append_left _ (List.mem_of_getElem? (i := 0) rfl))) rfl (v := .ref (A 11)) rfl dX6_differs_12 ?_
  refine lv_bipush (pc := 15) (v := (20 : Int32)) hx hb dX6_differs_15 (by decide) ?_
  refine lv_iload_n (pc := 17) hx hb dX6_differs_17 rfl (lv_at hl 1 rfl) ?_
  refine lv_imul (pc := 18) hx hb dX6_differs_18 ?_
  refine lv_iload_n (pc := 19) hx hb dX6_differs_19 rfl (lv_at hl 3 rfl) ?_
  refine lv_iadd (pc := 20) hx hb dX6_differs_20 ?_
  refine lv_iload_n (pc := 21) hx hb dX6_differs_21 rfl (lv_at hl 2 rfl) ?_
  refine lv_iload_n (pc := 22) hx hb dX6_differs_22 rfl (lv_at hl 1 rfl) ?_
  refine lv_isub (pc := 23) hx hb dX6_differs_23 ?_
  refine lv_isub (pc := 24) hx hb dX6_differs_24 ?_
  obtain ⟨hi, hf⟩ := ck_some hf
  refine wiald (pc := 25) X hP 11 (at_Mo_11 G A M N) hi rfl dX6_differs_25 ?_
  refine lv_icmp_eq (pc := 26) (tgt := 33) hx hb dX6_differs_26 (by decide) (fun h1 => ?_) (fun h1 => ?_)
  · have hf := br_y h1 hf
    refine lv_iconst (pc := 33) (v := (0 : Int32)) hx hb dX6_differs_33 (by decide) ?_
    exact b_34 _ H locs ls hf hP hD hS (lv_sub hl [] rfl)
  · have hf := br_n h1 hf
    refine lv_iconst (pc := 29) (v := (1 : Int32)) hx hb dX6_differs_29 (by decide) ?_
    refine lv_goto (pc := 30) (tgt := 34) hx hb dX6_differs_30 (by decide) ?_
    exact b_34 _ H locs ls hf hP hD hS (lv_sub hl [] rfl)
def r_X6_beyond : Room := { frames := 0, cells := 0, slots := 0, locals := 0 }
set_option maxHeartbeats 4000000 in
set_option maxRecDepth 100000 in
theorem c_X6_beyond (G : GT) (l : Launch) (sz : Nat) (x0 : Int32) (x1 : Int32) (x2 : Int32) (r : Int32) (hf : f_X6_beyond x0 x1 x2 = some r) : MTi l yX6_beyond wsX6_beyond r_X6_beyond [.int x0, .int x1, .int x2] G [] [] sz r := by
  refine MTi.of (cc := cX6_beyond) (maxL := 3) (by decide +kernel) rfl (Nat.le_of_ble_eq_true rfl) (fun p e s m av below meth cd Q B H locs ls X hret hl hP hD hS => ?_)
  have hx := X.1.1
  have hb := X.1.2.1
  have hl : lv_has ls 3 [(0, .int x0), (1, .int x1), (2, .int x2)] := hl
  have b_52 : ∀ (t0 : Int32) (t1 : Int32) (H : Heap) (locs : List Loc) (ls : Array Slot), f_X6_beyond_52 t0 t1 = some r → va_P G.1 vwCl [] H → va_D B [] → va_S B s.heap H locs → lv_has ls 3 [] → W p l e r_X6_beyond s m av below meth cd H locs 0 0 Q (F0 m 52 ls [.int t1, .int t0]) := by
    intro t0 t1 H locs ls hf hP hD hS hl
    unfold f_X6_beyond_52 at hf
    refine lv_iadd (pc := 52) hx hb dX6_beyond_52 ?_
    cases hf
    exact hret _ _ _ _ dX6_beyond_53 hP hD hS
  have b_68 : ∀ (t0 : Int32) (H : Heap) (locs : List Loc) (ls : Array Slot), f_X6_beyond_68 t0 = some r → va_P G.1 vwCl [] H → va_D B [] → va_S B s.heap H locs → lv_has ls 3 [] → W p l e r_X6_beyond s m av below meth cd H locs 0 0 Q (F0 m 68 ls [.int t0]) := by
    intro t0 H locs ls hf hP hD hS hl
    unfold f_X6_beyond_68 at hf
    cases hf
    exact hret _ _ _ _ dX6_beyond_68 hP hD hS
  have b_69 : ∀ (x1 : Int32) (H : Heap) (locs : List Loc) (ls : Array Slot), f_X6_beyond_69 x1 = some r → va_P G.1 vwCl [] H → va_D B [] → va_S B s.heap H locs → lv_has ls 3 [(1, .int x1)] → W p l e r_X6_beyond s m av below meth cd H locs 0 0 Q (F0 m 69 ls []) := by
    intro x1 H locs ls hf hP hD hS hl
    unfold f_X6_beyond_69 at hf
    refine lv_iload_n (pc := 69) hx hb dX6_beyond_69 rfl (lv_at hl 0 rfl) ?_
    cases hf
    exact hret _ _ _ _ dX6_beyond_70 hP hD hS
  unfold f_X6_beyond at hf
  refine lv_iload_n (pc := 0) hx hb dX6_beyond_0 rfl (lv_at hl 0 rfl) ?_
  by_cases h3 : x0 = (1 : Int32)
  · have hf := br_y h3 hf
    refine lv_tableIn (pc := 1) (off := 35) (tgt := 36) hx hb dX6_beyond_1 (by rw [h3]; decide) (by rw [h3]; decide) (by rw [h3]; rfl) (by decide) ?_
    refine lv_iload_n (pc := 36) hx hb dX6_beyond_36 rfl (lv_at hl 1 rfl) ?_
    refine lv_iconst (pc := 37) (v := (1 : Int32)) hx hb dX6_beyond_37 (by decide) ?_
    refine lv_iadd (pc := 38) hx hb dX6_beyond_38 ?_
    cases hf
    exact hret _ _ _ _ dX6_beyond_39 hP hD hS
  · have hf := br_n h3 hf
    by_cases h4 : x0 = (2 : Int32)
    · have hf := br_y h4 hf
      refine lv_tableIn (pc := 1) (off := 68) (tgt := 69) hx hb dX6_beyond_1 (by rw [h4]; decide) (by rw [h4]; decide) (by rw [h4]; rfl) (by decide) ?_
      exact b_69 _ H locs ls hf hP hD hS (lv_sub hl [1] rfl)
    · have hf := br_n h4 hf
      by_cases h5 : x0 = (3 : Int32)
      · have hf := br_y h5 hf
        refine lv_tableIn (pc := 1) (off := 53) (tgt := 54) hx hb dX6_beyond_1 (by rw [h5]; decide) (by rw [h5]; decide) (by rw [h5]; rfl) (by decide) ?_
        refine lv_bipush (pc := 54) (v := (9 : Int32)) hx hb dX6_beyond_54 (by decide) ?_
        refine lv_iload_n (pc := 56) hx hb dX6_beyond_56 rfl (lv_at hl 1 rfl) ?_
        refine lv_isub (pc := 57) hx hb dX6_beyond_57 ?_
        cases hf
        exact hret _ _ _ _ dX6_beyond_58 hP hD hS
      · have hf := br_n h5 hf
        by_cases h6 : x0 = (4 : Int32)
        · have hf := br_y h6 hf
          refine lv_tableIn (pc := 1) (off := 39) (tgt := 40) hx hb dX6_beyond_1 (by rw [h6]; decide) (by rw [h6]; decide) (by rw [h6]; rfl) (by decide) ?_
          refine lv_iload_n (pc := 40) hx hb dX6_beyond_40 rfl (lv_at hl 1 rfl) ?_
          refine lv_iload_n (pc := 41) hx hb dX6_beyond_41 rfl (lv_at hl 2 rfl) ?_
          refine lv_iconst (pc := 42) (v := (3 : Int32)) hx hb dX6_beyond_42 (by decide) ?_
          refine wirem (pc := 43) hx hb dX6_beyond_43 (by decide) ?_
          refine lv_if_ne (pc := 44) (tgt := 51) hx hb dX6_beyond_44 (by decide) (fun h1 => ?_) (fun h1 => ?_)
          · have hf := br_n h1 hf
            refine lv_iconst (pc := 51) (v := (1 : Int32)) hx hb dX6_beyond_51 (by decide) ?_
            exact b_52 _ _ H locs ls hf hP hD hS (lv_sub hl [] rfl)
          · have hf := br_y h1 hf
            refine lv_iconst (pc := 47) (v := (2 : Int32)) hx hb dX6_beyond_47 (by decide) ?_
            refine lv_goto (pc := 48) (tgt := 52) hx hb dX6_beyond_48 (by decide) ?_
            exact b_52 _ _ H locs ls hf hP hD hS (lv_sub hl [] rfl)
        · have hf := br_n h6 hf
          by_cases h7 : x0 = (5 : Int32)
          · have hf := br_y h7 hf
            refine lv_tableIn (pc := 1) (off := 58) (tgt := 59) hx hb dX6_beyond_1 (by rw [h7]; decide) (by rw [h7]; decide) (by rw [h7]; rfl) (by decide) ?_
            refine lv_iload_n (pc := 59) hx hb dX6_beyond_59 rfl (lv_at hl 1 rfl) ?_
            refine lv_if_ne (pc := 60) (tgt := 67) hx hb dX6_beyond_60 (by decide) (fun h2 => ?_) (fun h2 => ?_)
            · have hf := br_n h2 hf
              refine lv_iload_n (pc := 67) hx hb dX6_beyond_67 rfl (lv_at hl 1 rfl) ?_
              exact b_68 _ H locs ls hf hP hD hS (lv_sub hl [] rfl)
            · have hf := br_y h2 hf
              refine lv_iconst (pc := 63) (v := (5 : Int32)) hx hb dX6_beyond_63 (by decide) ?_
              refine lv_goto (pc := 64) (tgt := 68) hx hb dX6_beyond_64 (by decide) ?_
              exact b_68 _ H locs ls hf hP hD hS (lv_sub hl [] rfl)
          · have hf := br_n h7 hf
            refine lv_tableOut (pc := 1) (tgt := 69) hx hb dX6_beyond_1 (by have := sw_ne (k := 1) (by decide) h3; have := sw_ne (k := 2) (by decide) h4; have := sw_ne (k := 3) (by decide) h5; have := sw_ne (k := 4) (by decide) h6; have := sw_ne (k := 5) (by decide) h7; omega) (by decide) ?_
            exact b_69 _ H locs ls hf hP hD hS (lv_sub hl [1] rfl)
def r_X6_has : Room := { frames := 0, cells := 0, slots := 0, locals := 0 }
set_option maxHeartbeats 4000000 in
set_option maxRecDepth 100000 in
theorem c_X6_has (G : GT) (l : Launch) (sz : Nat) (x0 : Int32) (x1 : Int32) (r : Int32) (hf : f_X6_has x0 x1 = some r) : MTi l yX6_has wsX6_has r_X6_has [.int x0, .int x1] G [] [] sz r := by
  refine MTz.of (cc := cX6_has) (maxL := 2) (by decide +kernel) rfl (Nat.le_of_ble_eq_true rfl) (fun p e s m av below meth cd Q B H locs ls X hret hl hP hD hS => ?_)
  have hx := X.1.1
  have hb := X.1.2.1
  have hl : lv_has ls 2 [(0, .int x0), (1, .int x1)] := hl
  have b_14 : ∀ (t0 : Int32) (H : Heap) (locs : List Loc) (ls : Array Slot), f_X6_has_14 t0 = some r → va_P G.1 vwCl [] H → va_D B [] → va_S B s.heap H locs → lv_has ls 2 [] → W p l e r_X6_has s m av below meth cd H locs 0 0 Q (F0 m 14 ls [.int t0]) := by
    intro t0 H locs ls hf hP hD hS hl
    unfold f_X6_has_14 at hf
    obtain ⟨hz, hf⟩ := ck_some hf
    cases hf
    exact hret _ _ _ _ (isb_or hz) dX6_has_14 hP hD hS
  unfold f_X6_has at hf
  refine lv_iload_n (pc := 0) hx hb dX6_has_0 rfl (lv_at hl 0 rfl) ?_
  refine lv_iload_n (pc := 1) hx hb dX6_has_1 rfl (lv_at hl 1 rfl) ?_
  refine lv_ishr (pc := 2) hx hb dX6_has_2 ?_
  refine lv_iconst (pc := 3) (v := (1 : Int32)) hx hb dX6_has_3 (by decide) ?_
  refine lv_iand (pc := 4) hx hb dX6_has_4 ?_
  refine lv_iconst (pc := 5) (v := (1 : Int32)) hx hb dX6_has_5 (by decide) ?_
  refine lv_icmp_ne (pc := 6) (tgt := 13) hx hb dX6_has_6 (by decide) (fun h1 => ?_) (fun h1 => ?_)
  · have hf := br_n h1 hf
    refine lv_iconst (pc := 13) (v := (0 : Int32)) hx hb dX6_has_13 (by decide) ?_
    exact b_14 _ H locs ls hf hP hD hS (lv_sub hl [] rfl)
  · have hf := br_y h1 hf
    refine lv_iconst (pc := 9) (v := (1 : Int32)) hx hb dX6_has_9 (by decide) ?_
    refine lv_goto (pc := 10) (tgt := 14) hx hb dX6_has_10 (by decide) ?_
    exact b_14 _ H locs ls hf hP hD hS (lv_sub hl [] rfl)
def r_X6_isOf : Room := { frames := 0, cells := 0, slots := 0, locals := 0 }
set_option maxHeartbeats 4000000 in
set_option maxRecDepth 100000 in
theorem c_X6_isOf (G : GT) (l : Launch) (sz : Nat) (x0 : Int32) (x1 : Int32) (r : Int32) (hf : f_X6_isOf x0 x1 = some r) : MTi l yX6_isOf wsX6_isOf r_X6_isOf [.int x0, .int x1] G [] [] sz r := by
  refine MTz.of (cc := cX6_isOf) (maxL := 2) (by decide +kernel) rfl (Nat.le_of_ble_eq_true rfl) (fun p e s m av below meth cd Q B H locs ls X hret hl hP hD hS => ?_)
  have hx := X.1.1
  have hb := X.1.2.1
  have hl : lv_has ls 2 [(0, .int x0), (1, .int x1)] := hl
  have b_34 : ∀ (t0 : Int32) (H : Heap) (locs : List Loc) (ls : Array Slot), f_X6_isOf_34 t0 = some r → va_P G.1 vwCl [] H → va_D B [] → va_S B s.heap H locs → lv_has ls 2 [] → W p l e r_X6_isOf s m av below meth cd H locs 0 0 Q (F0 m 34 ls [.int t0]) := by
    intro t0 H locs ls hf hP hD hS hl
    unfold f_X6_isOf_34 at hf
    obtain ⟨hz, hf⟩ := ck_some hf
    cases hf
    exact hret _ _ _ _ (isb_or hz) dX6_isOf_34 hP hD hS
  have b_29 : ∀  (H : Heap) (locs : List Loc) (ls : Array Slot), f_X6_isOf_29 = some r → va_P G.1 vwCl [] H → va_D B [] → va_S B s.heap H locs → lv_has ls 2 [] → W p l e r_X6_isOf s m av below meth cd H locs 0 0 Q (F0 m 29 ls []) := by
    intro  H locs ls hf hP hD hS hl
    unfold f_X6_isOf_29 at hf
    refine lv_iconst (pc := 29) (v := (1 : Int32)) hx hb dX6_isOf_29 (by decide) ?_
    refine lv_goto (pc := 30) (tgt := 34) hx hb dX6_isOf_30 (by decide) ?_
    exact b_34 _ H locs ls hf hP hD hS (lv_sub hl [] rfl)
  have b_33 : ∀  (H : Heap) (locs : List Loc) (ls : Array Slot), f_X6_isOf_33 = some r → va_P G.1 vwCl [] H → va_D B [] → va_S B s.heap H locs → lv_has ls 2 [] → W p l e r_X6_isOf s m av below meth cd H locs 0 0 Q (F0 m 33 ls []) := by
    intro  H locs ls hf hP hD hS hl
    unfold f_X6_isOf_33 at hf
    refine lv_iconst (pc := 33) (v := (0 : Int32)) hx hb dX6_isOf_33 (by decide) ?_
    exact b_34 _ H locs ls hf hP hD hS (lv_sub hl [] rfl)
  have b_19 : ∀ (x0 : Int32) (x1 : Int32) (H : Heap) (locs : List Loc) (ls : Array Slot), f_X6_isOf_19 x0 x1 = some r → va_P G.1 vwCl [] H → va_D B [] → va_S B s.heap H locs → lv_has ls 2 [(0, .int x0), (1, .int x1)] → W p l e r_X6_isOf s m av below meth cd H locs 0 0 Q (F0 m 19 ls []) := by
    intro x0 x1 H locs ls hf hP hD hS hl
    unfold f_X6_isOf_19 at hf
    refine lv_iload_n (pc := 19) hx hb dX6_isOf_19 rfl (lv_at hl 1 rfl) ?_
    refine lv_iconst (pc := 20) (v := (2 : Int32)) hx hb dX6_isOf_20 (by decide) ?_
    refine lv_icmp_ne (pc := 21) (tgt := 33) hx hb dX6_isOf_21 (by decide) (fun h2 => ?_) (fun h2 => ?_)
    · have hf := br_n h2 hf
      exact b_33  H locs ls hf hP hD hS (lv_sub hl [] rfl)
    · have hf := br_y h2 hf
      refine lv_iload_n (pc := 24) hx hb dX6_isOf_24 rfl (lv_at hl 0 rfl) ?_
      refine lv_iconst (pc := 25) (v := (5 : Int32)) hx hb dX6_isOf_25 (by decide) ?_
      refine lv_icmp_ne (pc := 26) (tgt := 33) hx hb dX6_isOf_26 (by decide) (fun h1 => ?_) (fun h1 => ?_)
      · have hf := br_n h1 hf
        exact b_33  H locs ls hf hP hD hS (lv_sub hl [] rfl)
      · have hf := br_y h1 hf
        exact b_29  H locs ls hf hP hD hS (lv_sub hl [] rfl)
  unfold f_X6_isOf at hf
  refine lv_iload_n (pc := 0) hx hb dX6_isOf_0 rfl (lv_at hl 1 rfl) ?_
  refine lv_if_eq (pc := 1) (tgt := 29) hx hb dX6_isOf_1 (by decide) (fun h6 => ?_) (fun h6 => ?_)
  · have hf := br_y h6 hf
    exact b_29  H locs ls hf hP hD hS (lv_sub hl [] rfl)
  · have hf := br_n h6 hf
    refine lv_iload_n (pc := 4) hx hb dX6_isOf_4 rfl (lv_at hl 0 rfl) ?_
    refine lv_iload_n (pc := 5) hx hb dX6_isOf_5 rfl (lv_at hl 1 rfl) ?_
    refine lv_icmp_eq (pc := 6) (tgt := 29) hx hb dX6_isOf_6 (by decide) (fun h5 => ?_) (fun h5 => ?_)
    · have hf := br_y h5 hf
      exact b_29  H locs ls hf hP hD hS (lv_sub hl [] rfl)
    · have hf := br_n h5 hf
      refine lv_iload_n (pc := 9) hx hb dX6_isOf_9 rfl (lv_at hl 1 rfl) ?_
      refine lv_iconst (pc := 10) (v := (1 : Int32)) hx hb dX6_isOf_10 (by decide) ?_
      refine lv_icmp_ne (pc := 11) (tgt := 19) hx hb dX6_isOf_11 (by decide) (fun h4 => ?_) (fun h4 => ?_)
      · have hf := br_n h4 hf
        exact b_19 _ _ H locs ls hf hP hD hS (lv_sub hl [0, 1] rfl)
      · have hf := br_y h4 hf
        refine lv_iload_n (pc := 14) hx hb dX6_isOf_14 rfl (lv_at hl 0 rfl) ?_
        refine lv_iconst (pc := 15) (v := (4 : Int32)) hx hb dX6_isOf_15 (by decide) ?_
        refine lv_icmp_eq (pc := 16) (tgt := 29) hx hb dX6_isOf_16 (by decide) (fun h3 => ?_) (fun h3 => ?_)
        · have hf := br_y h3 hf
          exact b_29  H locs ls hf hP hD hS (lv_sub hl [] rfl)
        · have hf := br_n h3 hf
          exact b_19 _ _ H locs ls hf hP hD hS (lv_sub hl [0, 1] rfl)
def r_X6_lays : Room := { frames := 1, cells := 0, slots := 0, locals := 22 }
set_option maxHeartbeats 4000000 in
set_option maxRecDepth 100000 in
theorem c_X6_lays (G : GT) (l : Launch) (A : Nat → Nat) (sz : Nat) (M : CS) (N : JS) (x1 : Int32) (x2 : Int32) (x3 : Int32) (M' : CS) (hf : f_X6_lays M N x1 x2 x3 = some M') : MTv l yX6_lays wsX6_lays r_X6_lays [.ref (A 0), .int x1, .int x2, .int x3] G (w_Mo G A M N) (w_Mo G A M' N) sz := by
  refine MTv.of (cc := cX6_lays) (maxL := 8) (by decide +kernel) rfl (Nat.le_of_ble_eq_true rfl) (fun p e s m av below meth cd Q B H locs ls X hret hl hP hD hS => ?_)
  have hx := X.1.1
  have hb := X.1.2.1
  have hl : lv_has ls 8 [(0, .ref (A 0)), (1, .int x1), (2, .int x2), (3, .int x3)] := hl
  have l_247 : ∀ (n247 : Nat), ∀ (x4 : Int32) (x5 : Int32) (M : CS) (H : Heap) (locs : List Loc) (ls : Array Slot), f_X6_lays_247 n247 x4 x5 M N = some M' → va_P G.1 vwCl (w_Mo G A M N) H → va_D B (w_Mo G A M N) → va_S B s.heap H locs → lv_has ls 8 [(0, .ref (A 0)), (4, .int x4), (5, .int x5)] → W p l e r_X6_lays s m av below meth cd H locs 0 0 Q (F0 m 247 ls []) := by
    intro n247
    induction n247 with
    | zero =>
      intro x4 x5 M H locs ls hf hP hD hS hl
      rw [f_X6_lays_247] at hf
      cases hf
    | succ n247 ih247 =>
      have l_256 : ∀ (n256 : Nat), ∀ (x4 : Int32) (x5 : Int32) (x6 : Int32) (M : CS) (H : Heap) (locs : List Loc) (ls : Array Slot), f_X6_lays_256 (f_X6_lays_247 n247) n256 x4 x5 x6 M N = some M' → va_P G.1 vwCl (w_Mo G A M N) H → va_D B (w_Mo G A M N) → va_S B s.heap H locs → lv_has ls 8 [(0, .ref (A 0)), (4, .int x4), (5, .int x5), (6, .int x6)] → W p l e r_X6_lays s m av below meth cd H locs 0 0 Q (F0 m 256 ls []) := by
        intro n256
        induction n256 with
        | zero =>
          intro x4 x5 x6 M H locs ls hf hP hD hS hl
          rw [f_X6_lays_256] at hf
          cases hf
        | succ n256 ih256 =>
          have b_319 : ∀ (x4 : Int32) (x5 : Int32) (x6 : Int32) (t1 : Int32) (t2 : Int32) (M : CS) (H : Heap) (locs : List Loc) (ls : Array Slot), f_X6_lays_319 (f_X6_lays_247 n247) (f_X6_lays_256 (f_X6_lays_247 n247) n256) x4 x5 x6 t1 t2 M N = some M' → va_P G.1 vwCl (w_Mo G A M N) H → va_D B (w_Mo G A M N) → va_S B s.heap H locs → lv_has ls 8 [(0, .ref (A 0)), (4, .int x4), (5, .int x5), (6, .int x6)] → W p l e r_X6_lays s m av below meth cd H locs 0 0 Q (F0 m 319 ls [.int t2, .int t1, .ref (A 11)]) := by
            intro x4 x5 x6 t1 t2 M H locs ls hf hP hD hS hl
            unfold f_X6_lays_319 at hf
            obtain ⟨hi, hf⟩ := ck_some hf
            refine wiast (pc := 319) X hP hD hS 11 (at_Mo_11 G A M N) hi rfl (sa_Mo_11 G A M N _) dX6_lays_319 (fun H locs hP hD hS => ?_)
            have hP : va_P G.1 vwCl (w_Mo G A (cset M 13 t1.toNatClampNeg t2) N) H := hP
            have hD : va_D B (w_Mo G A (cset M 13 t1.toNatClampNeg t2) N) := hD
            refine lv_iinc (pc := 320) (v := (x6 + (1 : Int32))) (lv' := [(6, .int (x6 + (1 : Int32))), (0, .ref (A 0)), (4, .int x4), (5, .int x5)]) hx hb dX6_lays_320 hl (k := 3) rfl rfl (by decide) rfl (fun ls hl => ?_)
            refine lv_goto (pc := 323) (tgt := 256) hx hb dX6_lays_323 (by decide) ?_
            exact ih256 _ _ _ _ H locs ls hf hP hD hS (lv_sub hl [1, 2, 3, 0] rfl)
          intro x4 x5 x6 M H locs ls hf hP hD hS hl
          rw [f_X6_lays_256] at hf
          refine lv_iload (pc := 256) hx hb dX6_lays_256 (lv_at hl 3 rfl) ?_
          refine lv_bipush (pc := 258) (v := (20 : Int32)) hx hb dX6_lays_258 (by decide) ?_
          refine lv_icmp_ge (pc := 260) (tgt := 326) hx hb dX6_lays_260 (by decide) (fun h2 => ?_) (fun h2 => ?_)
          · have hf := br_y h2 hf
            refine lv_iinc (pc := 326) (v := (x5 + (1 : Int32))) (lv' := [(5, .int (x5 + (1 : Int32))), (0, .ref (A 0)), (4, .int x4), (6, .int x6)]) hx hb dX6_lays_326 hl (k := 2) rfl rfl (by decide) rfl (fun ls hl => ?_)
            refine lv_goto (pc := 329) (tgt := 247) hx hb dX6_lays_329 (by decide) ?_
            exact ih247 _ _ _ H locs ls hf hP hD hS (lv_sub hl [1, 2, 0] rfl)
          · have hf := br_n h2 hf
            refine lv_bipush (pc := 263) (v := (20 : Int32)) hx hb dX6_lays_263 (by decide) ?_
            refine lv_iload (pc := 265) hx hb dX6_lays_265 (lv_at hl 2 rfl) ?_
            refine lv_imul (pc := 267) hx hb dX6_lays_267 ?_
            refine lv_iload (pc := 268) hx hb dX6_lays_268 (lv_at hl 3 rfl) ?_
            refine lv_iadd (pc := 270) hx hb dX6_lays_270 ?_
            refine lv_istore (pc := 271) (lv' := [(7, .int (((20 : Int32) * x5) + x6)), (0, .ref (A 0)), (4, .int x4), (5, .int x5), (6, .int x6)]) hx hb dX6_lays_271 hl (by decide) rfl (fun ls hl => ?_)
            refine lv_aload_n (pc := 273) hx hb dX6_lays_273 rfl (lv_at hl 1 rfl) ?_
            refine wget (pc := 274) X (fun _ h9 => List.mem_cons_of_mem _ (List.mem_append_right _ h9)) hP 0 (at_Mo_0 G A M N) rfl 15 (by decide) (List.mem_cons_of_mem _ (List.mem_append_left _ (List.mem_of_getElem? (i := 2) rfl))) rfl (v := .ref (A 11)) rfl dX6_lays_274 ?_
            refine lv_iload (pc := 277) hx hb dX6_lays_277 (lv_at hl 0 rfl) ?_
            refine lv_iload (pc := 279) hx hb dX6_lays_279 (lv_at hl 4 rfl) ?_
            refine lv_iload (pc := 281) hx hb dX6_lays_281 (lv_at hl 3 rfl) ?_
            refine lv_icmp_ge (pc := 283) (tgt := 291) hx hb dX6_lays_283 (by decide) (fun h1 => ?_) (fun h1 => ?_)
            · have hf := br_y h1 hf
              refine lv_iload (pc := 291) hx hb dX6_lays_291 (lv_at hl 2 rfl) ?_
              refine lv_aload_n (pc := 293) hx hb dX6_lays_293 rfl (lv_at hl 1 rfl) ?_
              refine wget (pc := 294) X (fun _ h9 => List.mem_cons_of_mem _ (List.mem_append_right _ h9)) hP 0 (at_Mo_0 G A M N) rfl 15 (by decide) (List.mem_cons_of_mem _ (List.mem_append_left _ (List.mem_of_getElem? (i := 2) rfl))) rfl (v := .ref (A 11)) rfl dX6_lays_294 ?_
              refine lv_iload (pc := 297) hx hb dX6_lays_297 (lv_at hl 0 rfl) ?_
              refine lv_bipush (pc := 299) (v := (21 : Int32)) hx hb dX6_lays_299 (by decide) ?_
              refine lv_isub (pc := 301) hx hb dX6_lays_301 ?_
              obtain ⟨hi, hf⟩ := ck_some hf
              refine wiald (pc := 302) X hP 11 (at_Mo_11 G A M N) hi rfl dX6_lays_302 ?_
              refine lv_iload (pc := 303) hx hb dX6_lays_303 (lv_at hl 4 rfl) ?_
              obtain ⟨r1, hc1, hf⟩ := ob1_some hf
              refine endi X.2.2.2.2 (runS (pc := 305) (As := [.int x4, .int ((M 13) ((((20 : Int32) * x5) + x6) - (21 : Int32)).toNatClampNeg), .int x6]) (rest := [.int (((20 : Int32) * x5) + x6), .ref (A 11)]) X (c_X6_beyond G l  H.size x4 ((M 13) ((((20 : Int32) * x5) + x6) - (21 : Int32)).toNatClampNeg) x6 r1 hc1) gX6_lays_X6_beyond k_X6_beyond ⟨rfl, rfl⟩ ⟨Nat.le_of_ble_eq_true rfl, Nat.le_of_ble_eq_true rfl⟩ (EM.nil (w_Mo G A M N)) hP hD hS rfl hl.1 rfl (Nat.le_of_ble_eq_true rfl) ⟨Nat.zero_le _, Nat.zero_le _⟩ dX6_lays_305) (EM.nil (w_Mo G A M N)) hP hD hS (fun H locs hP hD hS => ?_)
              refine lv_aload_n (pc := 308) hx hb dX6_lays_308 rfl (lv_at hl 1 rfl) ?_
              refine wget (pc := 309) X (fun _ h9 => List.mem_cons_of_mem _ (List.mem_append_right _ h9)) hP 0 (at_Mo_0 G A M N) rfl 14 (by decide) (List.mem_cons_of_mem _ (List.mem_append_left _ (List.mem_of_getElem? (i := 0) rfl))) rfl (v := .ref (A 10)) rfl dX6_lays_309 ?_
              refine lv_iload (pc := 312) hx hb dX6_lays_312 (lv_at hl 0 rfl) ?_
              obtain ⟨hi, hf⟩ := ck_some hf
              refine wiald (pc := 314) X hP 10 (at_Mo_10 G A M N) hi rfl dX6_lays_314 ?_
              refine lv_iadd (pc := 315) hx hb dX6_lays_315 ?_
              refine lv_bipush (pc := 316) (v := (10 : Int32)) hx hb dX6_lays_316 (by decide) ?_
              refine wirem (pc := 318) hx hb dX6_lays_318 (by decide) ?_
              exact b_319 _ _ _ _ _ _ H locs ls hf hP hD hS (lv_sub hl [1, 2, 3, 4] rfl)
            · have hf := br_n h1 hf
              refine lv_bipush (pc := 286) (v := (-9 : Int32)) hx hb dX6_lays_286 (by decide) ?_
              refine lv_goto (pc := 288) (tgt := 319) hx hb dX6_lays_288 (by decide) ?_
              exact b_319 _ _ _ _ _ _ H locs ls hf hP hD hS (lv_sub hl [1, 2, 3, 4] rfl)
      intro x4 x5 M H locs ls hf hP hD hS hl
      rw [f_X6_lays_247] at hf
      refine lv_iload (pc := 247) hx hb dX6_lays_247 (lv_at hl 2 rfl) ?_
      refine lv_iconst (pc := 249) (v := (5 : Int32)) hx hb dX6_lays_249 (by decide) ?_
      refine lv_icmp_ge (pc := 250) (tgt := 332) hx hb dX6_lays_250 (by decide) (fun h3 => ?_) (fun h3 => ?_)
      · have hf := br_y h3 hf
        cases hf
        exact hret _ _ _ _ dX6_lays_332 hP hD hS
      · have hf := br_n h3 hf
        refine lv_iconst (pc := 253) (v := (0 : Int32)) hx hb dX6_lays_253 (by decide) ?_
        refine lv_istore (pc := 254) (lv' := [(6, .int (0 : Int32)), (0, .ref (A 0)), (4, .int x4), (5, .int x5)]) hx hb dX6_lays_254 hl (by decide) rfl (fun ls hl => ?_)
        exact l_256 FU _ _ _ _ H locs ls hf hP hD hS (lv_sub hl [1, 2, 3, 0] rfl)
  have l_136 : ∀ (n136 : Nat), ∀ (x1 : Int32) (x4 : Int32) (x5 : Int32) (M : CS) (H : Heap) (locs : List Loc) (ls : Array Slot), f_X6_lays_136 n136 x1 x4 x5 M N = some M' → va_P G.1 vwCl (w_Mo G A M N) H → va_D B (w_Mo G A M N) → va_S B s.heap H locs → lv_has ls 8 [(0, .ref (A 0)), (1, .int x1), (4, .int x4), (5, .int x5)] → W p l e r_X6_lays s m av below meth cd H locs 0 0 Q (F0 m 136 ls []) := by
    intro n136
    induction n136 with
    | zero =>
      intro x1 x4 x5 M H locs ls hf hP hD hS hl
      rw [f_X6_lays_136] at hf
      cases hf
    | succ n136 ih136 =>
      have b_216 : ∀ (x1 : Int32) (x4 : Int32) (x5 : Int32) (t0 : Int32) (M : CS) (H : Heap) (locs : List Loc) (ls : Array Slot), f_X6_lays_216 (f_X6_lays_136 n136) x1 x4 x5 t0 M N = some M' → va_P G.1 vwCl (w_Mo G A M N) H → va_D B (w_Mo G A M N) → va_S B s.heap H locs → lv_has ls 8 [(0, .ref (A 0)), (1, .int x1), (4, .int x4), (5, .int x5)] → W p l e r_X6_lays s m av below meth cd H locs 0 0 Q (F0 m 216 ls [.int t0]) := by
        intro x1 x4 x5 t0 M H locs ls hf hP hD hS hl
        unfold f_X6_lays_216 at hf
        refine lv_istore (pc := 216) (lv' := [(7, .int t0), (0, .ref (A 0)), (1, .int x1), (4, .int x4), (5, .int x5)]) hx hb dX6_lays_216 hl (by decide) rfl (fun ls hl => ?_)
        refine lv_aload_n (pc := 218) hx hb dX6_lays_218 rfl (lv_at hl 1 rfl) ?_
        refine wget (pc := 219) X (fun _ h9 => List.mem_cons_of_mem _ (List.mem_append_right _ h9)) hP 0 (at_Mo_0 G A M N) rfl 15 (by decide) (List.mem_cons_of_mem _ (List.mem_append_left _ (List.mem_of_getElem? (i := 2) rfl))) rfl (v := .ref (A 11)) rfl dX6_lays_219 ?_
        refine lv_iload (pc := 222) hx hb dX6_lays_222 (lv_at hl 4 rfl) ?_
        refine lv_iload (pc := 224) hx hb dX6_lays_224 (lv_at hl 0 rfl) ?_
        refine lv_aload_n (pc := 226) hx hb dX6_lays_226 rfl (lv_at hl 1 rfl) ?_
        refine wget (pc := 227) X (fun _ h9 => List.mem_cons_of_mem _ (List.mem_append_right _ h9)) hP 0 (at_Mo_0 G A M N) rfl 14 (by decide) (List.mem_cons_of_mem _ (List.mem_append_left _ (List.mem_of_getElem? (i := 0) rfl))) rfl (v := .ref (A 10)) rfl dX6_lays_227 ?_
        refine lv_iload (pc := 230) hx hb dX6_lays_230 (lv_at hl 4 rfl) ?_
        obtain ⟨hi, hf⟩ := ck_some hf
        refine wiald (pc := 232) X hP 10 (at_Mo_10 G A M N) hi rfl dX6_lays_232 ?_
        refine lv_iadd (pc := 233) hx hb dX6_lays_233 ?_
        refine lv_bipush (pc := 234) (v := (10 : Int32)) hx hb dX6_lays_234 (by decide) ?_
        refine wirem (pc := 236) hx hb dX6_lays_236 (by decide) ?_
        obtain ⟨hi, hf⟩ := ck_some hf
        refine wiast (pc := 237) X hP hD hS 11 (at_Mo_11 G A M N) hi rfl (sa_Mo_11 G A M N _) dX6_lays_237 (fun H locs hP hD hS => ?_)
        have hP : va_P G.1 vwCl (w_Mo G A (cset M 13 x5.toNatClampNeg (jrem (t0 + ((M 12) x5.toNatClampNeg)) (10 : Int32))) N) H := hP
        have hD : va_D B (w_Mo G A (cset M 13 x5.toNatClampNeg (jrem (t0 + ((M 12) x5.toNatClampNeg)) (10 : Int32))) N) := hD
        refine lv_iinc (pc := 238) (v := (x5 + (1 : Int32))) (lv' := [(5, .int (x5 + (1 : Int32))), (7, .int t0), (0, .ref (A 0)), (1, .int x1), (4, .int x4)]) hx hb dX6_lays_238 hl (k := 4) rfl rfl (by decide) rfl (fun ls hl => ?_)
        refine lv_goto (pc := 241) (tgt := 136) hx hb dX6_lays_241 (by decide) ?_
        exact ih136 _ _ _ _ H locs ls hf hP hD hS (lv_sub hl [2, 3, 4, 0] rfl)
      have b_215 : ∀ (x1 : Int32) (x4 : Int32) (x5 : Int32) (t0 : Int32) (t1 : Int32) (M : CS) (H : Heap) (locs : List Loc) (ls : Array Slot), f_X6_lays_215 (f_X6_lays_136 n136) x1 x4 x5 t0 t1 M N = some M' → va_P G.1 vwCl (w_Mo G A M N) H → va_D B (w_Mo G A M N) → va_S B s.heap H locs → lv_has ls 8 [(0, .ref (A 0)), (1, .int x1), (4, .int x4), (5, .int x5)] → W p l e r_X6_lays s m av below meth cd H locs 0 0 Q (F0 m 215 ls [.int t1, .int t0]) := by
        intro x1 x4 x5 t0 t1 M H locs ls hf hP hD hS hl
        unfold f_X6_lays_215 at hf
        refine lv_iadd (pc := 215) hx hb dX6_lays_215 ?_
        exact b_216 _ _ _ _ _ H locs ls hf hP hD hS (lv_sub hl [0, 1, 2, 3] rfl)
      have b_169 : ∀ (x1 : Int32) (x4 : Int32) (x5 : Int32) (t0 : Int32) (M : CS) (H : Heap) (locs : List Loc) (ls : Array Slot), f_X6_lays_169 (f_X6_lays_136 n136) x1 x4 x5 t0 M N = some M' → va_P G.1 vwCl (w_Mo G A M N) H → va_D B (w_Mo G A M N) → va_S B s.heap H locs → lv_has ls 8 [(0, .ref (A 0)), (1, .int x1), (4, .int x4), (5, .int x5)] → W p l e r_X6_lays s m av below meth cd H locs 0 0 Q (F0 m 169 ls [.int t0]) := by
        intro x1 x4 x5 t0 M H locs ls hf hP hD hS hl
        unfold f_X6_lays_169 at hf
        refine lv_istore (pc := 169) (lv' := [(6, .int t0), (0, .ref (A 0)), (1, .int x1), (4, .int x4), (5, .int x5)]) hx hb dX6_lays_169 hl (by decide) rfl (fun ls hl => ?_)
        refine lv_iload (pc := 171) hx hb dX6_lays_171 (lv_at hl 4 rfl) ?_
        refine lv_if_ne (pc := 173) (tgt := 188) hx hb dX6_lays_173 (by decide) (fun h5 => ?_) (fun h5 => ?_)
        · have hf := br_n h5 hf
          refine lv_aload_n (pc := 188) hx hb dX6_lays_188 rfl (lv_at hl 1 rfl) ?_
          refine wget (pc := 189) X (fun _ h9 => List.mem_cons_of_mem _ (List.mem_append_right _ h9)) hP 0 (at_Mo_0 G A M N) rfl 15 (by decide) (List.mem_cons_of_mem _ (List.mem_append_left _ (List.mem_of_getElem? (i := 2) rfl))) rfl (v := .ref (A 11)) rfl dX6_lays_189 ?_
          refine lv_iload (pc := 192) hx hb dX6_lays_192 (lv_at hl 4 rfl) ?_
          refine lv_iconst (pc := 194) (v := (1 : Int32)) hx hb dX6_lays_194 (by decide) ?_
          refine lv_isub (pc := 195) hx hb dX6_lays_195 ?_
          obtain ⟨hi, hf⟩ := ck_some hf
          refine wiald (pc := 196) X hP 11 (at_Mo_11 G A M N) hi rfl dX6_lays_196 ?_
          refine lv_iload (pc := 197) hx hb dX6_lays_197 (lv_at hl 0 rfl) ?_
          refine lv_if_eq (pc := 199) (tgt := 214) hx hb dX6_lays_199 (by decide) (fun h4 => ?_) (fun h4 => ?_)
          · have hf := br_y h4 hf
            refine lv_iconst (pc := 214) (v := (0 : Int32)) hx hb dX6_lays_214 (by decide) ?_
            exact b_215 _ _ _ _ _ _ H locs ls hf hP hD hS (lv_sub hl [1, 2, 3, 4] rfl)
          · have hf := br_n h4 hf
            refine lv_aload_n (pc := 202) hx hb dX6_lays_202 rfl (lv_at hl 1 rfl) ?_
            refine wget (pc := 203) X (fun _ h9 => List.mem_cons_of_mem _ (List.mem_append_right _ h9)) hP 0 (at_Mo_0 G A M N) rfl 4 (by decide) (List.mem_cons_of_mem _ (List.mem_append_left _ (List.mem_of_getElem? (i := 1) rfl))) rfl (v := .ref (A 5)) rfl dX6_lays_203 ?_
            refine lv_bipush (pc := 206) (v := (14 : Int32)) hx hb dX6_lays_206 (by decide) ?_
            refine lv_iload_n (pc := 208) hx hb dX6_lays_208 rfl (lv_at hl 2 rfl) ?_
            refine lv_iadd (pc := 209) hx hb dX6_lays_209 ?_
            obtain ⟨hi, hf⟩ := ck_some hf
            refine wiald (pc := 210) X hP 5 (at_Mo_5 G A M N) hi rfl dX6_lays_210 ?_
            refine lv_goto (pc := 211) (tgt := 215) hx hb dX6_lays_211 (by decide) ?_
            exact b_215 _ _ _ _ _ _ H locs ls hf hP hD hS (lv_sub hl [1, 2, 3, 4] rfl)
        · have hf := br_y h5 hf
          refine lv_aload_n (pc := 176) hx hb dX6_lays_176 rfl (lv_at hl 1 rfl) ?_
          refine wget (pc := 177) X (fun _ h9 => List.mem_cons_of_mem _ (List.mem_append_right _ h9)) hP 0 (at_Mo_0 G A M N) rfl 4 (by decide) (List.mem_cons_of_mem _ (List.mem_append_left _ (List.mem_of_getElem? (i := 1) rfl))) rfl (v := .ref (A 5)) rfl dX6_lays_177 ?_
          refine lv_bipush (pc := 180) (v := (9 : Int32)) hx hb dX6_lays_180 (by decide) ?_
          refine lv_iload_n (pc := 182) hx hb dX6_lays_182 rfl (lv_at hl 2 rfl) ?_
          refine lv_iadd (pc := 183) hx hb dX6_lays_183 ?_
          obtain ⟨hi, hf⟩ := ck_some hf
          refine wiald (pc := 184) X hP 5 (at_Mo_5 G A M N) hi rfl dX6_lays_184 ?_
          refine lv_goto (pc := 185) (tgt := 216) hx hb dX6_lays_185 (by decide) ?_
          exact b_216 _ _ _ _ _ H locs ls hf hP hD hS (lv_sub hl [1, 2, 3, 4] rfl)
      have b_168 : ∀ (x1 : Int32) (x4 : Int32) (x5 : Int32) (M : CS) (H : Heap) (locs : List Loc) (ls : Array Slot), f_X6_lays_168 (f_X6_lays_136 n136) x1 x4 x5 M N = some M' → va_P G.1 vwCl (w_Mo G A M N) H → va_D B (w_Mo G A M N) → va_S B s.heap H locs → lv_has ls 8 [(0, .ref (A 0)), (1, .int x1), (4, .int x4), (5, .int x5)] → W p l e r_X6_lays s m av below meth cd H locs 0 0 Q (F0 m 168 ls []) := by
        intro x1 x4 x5 M H locs ls hf hP hD hS hl
        unfold f_X6_lays_168 at hf
        refine lv_iconst (pc := 168) (v := (0 : Int32)) hx hb dX6_lays_168 (by decide) ?_
        exact b_169 _ _ _ _ _ H locs ls hf hP hD hS (lv_sub hl [0, 1, 2, 3] rfl)
      have b_164 : ∀ (x1 : Int32) (x4 : Int32) (x5 : Int32) (M : CS) (H : Heap) (locs : List Loc) (ls : Array Slot), f_X6_lays_164 (f_X6_lays_136 n136) x1 x4 x5 M N = some M' → va_P G.1 vwCl (w_Mo G A M N) H → va_D B (w_Mo G A M N) → va_S B s.heap H locs → lv_has ls 8 [(0, .ref (A 0)), (1, .int x1), (4, .int x4), (5, .int x5)] → W p l e r_X6_lays s m av below meth cd H locs 0 0 Q (F0 m 164 ls []) := by
        intro x1 x4 x5 M H locs ls hf hP hD hS hl
        unfold f_X6_lays_164 at hf
        refine lv_iconst (pc := 164) (v := (1 : Int32)) hx hb dX6_lays_164 (by decide) ?_
        refine lv_goto (pc := 165) (tgt := 169) hx hb dX6_lays_165 (by decide) ?_
        exact b_169 _ _ _ _ _ H locs ls hf hP hD hS (lv_sub hl [0, 1, 2, 3] rfl)
      intro x1 x4 x5 M H locs ls hf hP hD hS hl
      rw [f_X6_lays_136] at hf
      refine lv_iload (pc := 136) hx hb dX6_lays_136 (lv_at hl 3 rfl) ?_
      refine lv_bipush (pc := 138) (v := (20 : Int32)) hx hb dX6_lays_138 (by decide) ?_
      refine lv_icmp_ge (pc := 140) (tgt := 244) hx hb dX6_lays_140 (by decide) (fun h9 => ?_) (fun h9 => ?_)
      · have hf := br_y h9 hf
        refine lv_iconst (pc := 244) (v := (1 : Int32)) hx hb dX6_lays_244 (by decide) ?_
        refine lv_istore (pc := 245) (lv' := [(5, .int (1 : Int32)), (0, .ref (A 0)), (1, .int x1), (4, .int x4)]) hx hb dX6_lays_245 hl (by decide) rfl (fun ls hl => ?_)
        exact l_247 FU _ _ _ H locs ls hf hP hD hS (lv_sub hl [1, 3, 0] rfl)
      · have hf := br_n h9 hf
        refine lv_iload (pc := 143) hx hb dX6_lays_143 (lv_at hl 3 rfl) ?_
        refine lv_if_le (pc := 145) (tgt := 168) hx hb dX6_lays_145 (by decide) (fun h8 => ?_) (fun h8 => ?_)
        · have hf := br_y h8 hf
          exact b_168 _ _ _ _ H locs ls hf hP hD hS (lv_sub hl [0, 1, 2, 3] rfl)
        · have hf := br_n h8 hf
          refine lv_iload (pc := 148) hx hb dX6_lays_148 (lv_at hl 2 rfl) ?_
          refine lv_iconst (pc := 150) (v := (2 : Int32)) hx hb dX6_lays_150 (by decide) ?_
          obtain ⟨r1, hc1, hf⟩ := ob1_some hf
          refine endi X.2.2.2.2 (runS (pc := 151) (As := [.int x4, .int (2 : Int32)]) (rest := []) X (c_X6_isOf G l  H.size x4 (2 : Int32) r1 hc1) gX6_lays_X6_isOf k_X6_isOf ⟨rfl, rfl⟩ ⟨Nat.le_of_ble_eq_true rfl, Nat.le_of_ble_eq_true rfl⟩ (EM.nil (w_Mo G A M N)) hP hD hS rfl hl.1 rfl (Nat.le_of_ble_eq_true rfl) ⟨Nat.zero_le _, Nat.zero_le _⟩ dX6_lays_151) (EM.nil (w_Mo G A M N)) hP hD hS (fun H locs hP hD hS => ?_)
          refine lv_if_eq (pc := 154) (tgt := 164) hx hb dX6_lays_154 (by decide) (fun h7 => ?_) (fun h7 => ?_)
          · have hf := br_y h7 hf
            exact b_164 _ _ _ _ H locs ls hf hP hD hS (lv_sub hl [0, 1, 2, 3] rfl)
          · have hf := br_n h7 hf
            refine lv_iload (pc := 157) hx hb dX6_lays_157 (lv_at hl 3 rfl) ?_
            refine lv_iconst (pc := 159) (v := (2 : Int32)) hx hb dX6_lays_159 (by decide) ?_
            refine wirem (pc := 160) hx hb dX6_lays_160 (by decide) ?_
            refine lv_if_ne (pc := 161) (tgt := 168) hx hb dX6_lays_161 (by decide) (fun h6 => ?_) (fun h6 => ?_)
            · have hf := br_n h6 hf
              exact b_168 _ _ _ _ H locs ls hf hP hD hS (lv_sub hl [0, 1, 2, 3] rfl)
            · have hf := br_y h6 hf
              exact b_164 _ _ _ _ H locs ls hf hP hD hS (lv_sub hl [0, 1, 2, 3] rfl)
  have l_37 : ∀ (n37 : Nat), ∀ (x1 : Int32) (x2 : Int32) (x4 : Int32) (M : CS) (H : Heap) (locs : List Loc) (ls : Array Slot), f_X6_lays_37 n37 x1 x2 x4 M N = some M' → va_P G.1 vwCl (w_Mo G A M N) H → va_D B (w_Mo G A M N) → va_S B s.heap H locs → lv_has ls 8 [(0, .ref (A 0)), (1, .int x1), (2, .int x2), (4, .int x4)] → W p l e r_X6_lays s m av below meth cd H locs 0 0 Q (F0 m 37 ls []) := by
    intro n37
    induction n37 with
    | zero =>
      intro x1 x2 x4 M H locs ls hf hP hD hS hl
      rw [f_X6_lays_37] at hf
      cases hf
    | succ n37 ih37 =>
      have b_115 : ∀ (x1 : Int32) (x2 : Int32) (x4 : Int32) (t1 : Int32) (t2 : Int32) (t3 : Int32) (M : CS) (H : Heap) (locs : List Loc) (ls : Array Slot), f_X6_lays_115 (f_X6_lays_37 n37) x1 x2 x4 t1 t2 t3 M N = some M' → va_P G.1 vwCl (w_Mo G A M N) H → va_D B (w_Mo G A M N) → va_S B s.heap H locs → lv_has ls 8 [(0, .ref (A 0)), (1, .int x1), (2, .int x2), (4, .int x4)] → W p l e r_X6_lays s m av below meth cd H locs 0 0 Q (F0 m 115 ls [.int t3, .int t2, .int t1, .ref (A 10)]) := by
        intro x1 x2 x4 t1 t2 t3 M H locs ls hf hP hD hS hl
        unfold f_X6_lays_115 at hf
        refine lv_iadd (pc := 115) hx hb dX6_lays_115 ?_
        obtain ⟨hi, hf⟩ := ck_some hf
        refine wiast (pc := 116) X hP hD hS 10 (at_Mo_10 G A M N) hi rfl (sa_Mo_10 G A M N _) dX6_lays_116 (fun H locs hP hD hS => ?_)
        have hP : va_P G.1 vwCl (w_Mo G A (cset M 12 t1.toNatClampNeg (t2 + t3)) N) H := hP
        have hD : va_D B (w_Mo G A (cset M 12 t1.toNatClampNeg (t2 + t3)) N) := hD
        refine lv_iinc (pc := 117) (v := (x4 + (1 : Int32))) (lv' := [(4, .int (x4 + (1 : Int32))), (0, .ref (A 0)), (1, .int x1), (2, .int x2)]) hx hb dX6_lays_117 hl (k := 3) rfl rfl (by decide) rfl (fun ls hl => ?_)
        refine lv_goto (pc := 120) (tgt := 37) hx hb dX6_lays_120 (by decide) ?_
        exact ih37 _ _ _ _ H locs ls hf hP hD hS (lv_sub hl [1, 2, 3, 0] rfl)
      have b_114 : ∀ (x1 : Int32) (x2 : Int32) (x4 : Int32) (t1 : Int32) (t2 : Int32) (M : CS) (H : Heap) (locs : List Loc) (ls : Array Slot), f_X6_lays_114 (f_X6_lays_37 n37) x1 x2 x4 t1 t2 M N = some M' → va_P G.1 vwCl (w_Mo G A M N) H → va_D B (w_Mo G A M N) → va_S B s.heap H locs → lv_has ls 8 [(0, .ref (A 0)), (1, .int x1), (2, .int x2), (4, .int x4)] → W p l e r_X6_lays s m av below meth cd H locs 0 0 Q (F0 m 114 ls [.int t2, .int t1, .ref (A 10)]) := by
        intro x1 x2 x4 t1 t2 M H locs ls hf hP hD hS hl
        unfold f_X6_lays_114 at hf
        refine lv_iconst (pc := 114) (v := (0 : Int32)) hx hb dX6_lays_114 (by decide) ?_
        exact b_115 _ _ _ _ _ _ _ H locs ls hf hP hD hS (lv_sub hl [0, 1, 2, 3] rfl)
      intro x1 x2 x4 M H locs ls hf hP hD hS hl
      rw [f_X6_lays_37] at hf
      refine lv_iload (pc := 37) hx hb dX6_lays_37 (lv_at hl 3 rfl) ?_
      refine lv_aload_n (pc := 39) hx hb dX6_lays_39 rfl (lv_at hl 0 rfl) ?_
      refine wget (pc := 40) X (fun _ h9 => List.mem_cons_of_mem _ (List.mem_append_right _ h9)) hP 0 (at_Mo_0 G A M N) rfl 4 (by decide) (List.mem_cons_of_mem _ (List.mem_append_left _ (List.mem_of_getElem? (i := 1) rfl))) rfl (v := .ref (A 5)) rfl dX6_lays_40 ?_
      refine lv_iconst (pc := 43) (v := (1 : Int32)) hx hb dX6_lays_43 (by decide) ?_
      refine wiald (pc := 44) X hP 5 (at_Mo_5 G A M N) (by decide) (j := 1) (by decide) dX6_lays_44 ?_
      refine lv_icmp_ge (pc := 45) (tgt := 123) hx hb dX6_lays_45 (by decide) (fun h12 => ?_) (fun h12 => ?_)
      · have hf := br_y h12 hf
        refine lv_aload_n (pc := 123) hx hb dX6_lays_123 rfl (lv_at hl 0 rfl) ?_
        refine wget (pc := 124) X (fun _ h9 => List.mem_cons_of_mem _ (List.mem_append_right _ h9)) hP 0 (at_Mo_0 G A M N) rfl 4 (by decide) (List.mem_cons_of_mem _ (List.mem_append_left _ (List.mem_of_getElem? (i := 1) rfl))) rfl (v := .ref (A 5)) rfl dX6_lays_124 ?_
        refine lv_iconst (pc := 127) (v := (4 : Int32)) hx hb dX6_lays_127 (by decide) ?_
        refine lv_iload_n (pc := 128) hx hb dX6_lays_128 rfl (lv_at hl 1 rfl) ?_
        refine lv_iadd (pc := 129) hx hb dX6_lays_129 ?_
        obtain ⟨hi, hf⟩ := ck_some hf
        refine wiald (pc := 130) X hP 5 (at_Mo_5 G A M N) hi rfl dX6_lays_130 ?_
        refine lv_istore (pc := 131) (lv' := [(4, .int ((M 4) ((4 : Int32) + x1).toNatClampNeg)), (0, .ref (A 0)), (1, .int x1), (2, .int x2)]) hx hb dX6_lays_131 hl (by decide) rfl (fun ls hl => ?_)
        refine lv_iconst (pc := 133) (v := (0 : Int32)) hx hb dX6_lays_133 (by decide) ?_
        refine lv_istore (pc := 134) (lv' := [(5, .int (0 : Int32)), (4, .int ((M 4) ((4 : Int32) + x1).toNatClampNeg)), (0, .ref (A 0)), (1, .int x1), (2, .int x2)]) hx hb dX6_lays_134 hl (by decide) rfl (fun ls hl => ?_)
        exact l_136 FU _ _ _ _ H locs ls hf hP hD hS (lv_sub hl [2, 3, 1, 0] rfl)
      · have hf := br_n h12 hf
        refine lv_aload_n (pc := 48) hx hb dX6_lays_48 rfl (lv_at hl 0 rfl) ?_
        refine wget (pc := 49) X (fun _ h9 => List.mem_cons_of_mem _ (List.mem_append_right _ h9)) hP 0 (at_Mo_0 G A M N) rfl 14 (by decide) (List.mem_cons_of_mem _ (List.mem_append_left _ (List.mem_of_getElem? (i := 0) rfl))) rfl (v := .ref (A 10)) rfl dX6_lays_49 ?_
        refine lv_bipush (pc := 52) (v := (20 : Int32)) hx hb dX6_lays_52 (by decide) ?_
        refine lv_aload_n (pc := 54) hx hb dX6_lays_54 rfl (lv_at hl 0 rfl) ?_
        refine wget (pc := 55) X (fun _ h9 => List.mem_cons_of_mem _ (List.mem_append_right _ h9)) hP 0 (at_Mo_0 G A M N) rfl 4 (by decide) (List.mem_cons_of_mem _ (List.mem_append_left _ (List.mem_of_getElem? (i := 1) rfl))) rfl (v := .ref (A 5)) rfl dX6_lays_55 ?_
        refine lv_bipush (pc := 58) (v := (19 : Int32)) hx hb dX6_lays_58 (by decide) ?_
        refine lv_iload (pc := 60) hx hb dX6_lays_60 (lv_at hl 3 rfl) ?_
        refine lv_iadd (pc := 62) hx hb dX6_lays_62 ?_
        obtain ⟨hi, hf⟩ := ck_some hf
        refine wiald (pc := 63) X hP 5 (at_Mo_5 G A M N) hi rfl dX6_lays_63 ?_
        refine lv_imul (pc := 64) hx hb dX6_lays_64 ?_
        refine lv_aload_n (pc := 65) hx hb dX6_lays_65 rfl (lv_at hl 0 rfl) ?_
        refine wget (pc := 66) X (fun _ h9 => List.mem_cons_of_mem _ (List.mem_append_right _ h9)) hP 0 (at_Mo_0 G A M N) rfl 4 (by decide) (List.mem_cons_of_mem _ (List.mem_append_left _ (List.mem_of_getElem? (i := 1) rfl))) rfl (v := .ref (A 5)) rfl dX6_lays_66 ?_
        refine lv_bipush (pc := 69) (v := (31 : Int32)) hx hb dX6_lays_69 (by decide) ?_
        refine lv_iload (pc := 71) hx hb dX6_lays_71 (lv_at hl 3 rfl) ?_
        refine lv_iadd (pc := 73) hx hb dX6_lays_73 ?_
        obtain ⟨hi, hf⟩ := ck_some hf
        refine wiald (pc := 74) X hP 5 (at_Mo_5 G A M N) hi rfl dX6_lays_74 ?_
        refine lv_iadd (pc := 75) hx hb dX6_lays_75 ?_
        refine lv_dup2_11 (pc := 76) hx hb dX6_lays_76 rfl rfl ?_
        obtain ⟨hi, hf⟩ := ck_some hf
        refine wiald (pc := 77) X hP 10 (at_Mo_10 G A M N) hi rfl dX6_lays_77 ?_
        refine lv_aload_n (pc := 78) hx hb dX6_lays_78 rfl (lv_at hl 0 rfl) ?_
        refine wget (pc := 79) X (fun _ h9 => List.mem_cons_of_mem _ (List.mem_append_right _ h9)) hP 0 (at_Mo_0 G A M N) rfl 4 (by decide) (List.mem_cons_of_mem _ (List.mem_append_left _ (List.mem_of_getElem? (i := 1) rfl))) rfl (v := .ref (A 5)) rfl dX6_lays_79 ?_
        refine lv_bipush (pc := 82) (v := (43 : Int32)) hx hb dX6_lays_82 (by decide) ?_
        refine lv_iload (pc := 84) hx hb dX6_lays_84 (lv_at hl 3 rfl) ?_
        refine lv_iadd (pc := 86) hx hb dX6_lays_86 ?_
        obtain ⟨hi, hf⟩ := ck_some hf
        refine wiald (pc := 87) X hP 5 (at_Mo_5 G A M N) hi rfl dX6_lays_87 ?_
        refine lv_iload_n (pc := 88) hx hb dX6_lays_88 rfl (lv_at hl 1 rfl) ?_
        refine lv_icmp_ne (pc := 89) (tgt := 114) hx hb dX6_lays_89 (by decide) (fun h11 => ?_) (fun h11 => ?_)
        · have hf := br_n h11 hf
          exact b_114 _ _ _ _ _ _ H locs ls hf hP hD hS (lv_sub hl [0, 1, 2, 3] rfl)
        · have hf := br_y h11 hf
          refine lv_iload_n (pc := 92) hx hb dX6_lays_92 rfl (lv_at hl 2 rfl) ?_
          refine lv_iload (pc := 93) hx hb dX6_lays_93 (lv_at hl 3 rfl) ?_
          obtain ⟨r1, hc1, hf⟩ := ob1_some hf
          refine endi X.2.2.2.2 (runS (pc := 95) (As := [.int x2, .int x4]) (rest := [.int ((M 12) (((20 : Int32) * ((M 4) ((19 : Int32) + x4).toNatClampNeg)) + ((M 4) ((31 : Int32) + x4).toNatClampNeg)).toNatClampNeg), .int (((20 : Int32) * ((M 4) ((19 : Int32) + x4).toNatClampNeg)) + ((M 4) ((31 : Int32) + x4).toNatClampNeg)), .ref (A 10)]) X (c_X6_has G l  H.size x2 x4 r1 hc1) gX6_lays_X6_has k_X6_has ⟨rfl, rfl⟩ ⟨Nat.le_of_ble_eq_true rfl, Nat.le_of_ble_eq_true rfl⟩ (EM.nil (w_Mo G A M N)) hP hD hS rfl hl.1 rfl (Nat.le_of_ble_eq_true rfl) ⟨Nat.zero_le _, Nat.zero_le _⟩ dX6_lays_95) (EM.nil (w_Mo G A M N)) hP hD hS (fun H locs hP hD hS => ?_)
          refine lv_if_eq (pc := 98) (tgt := 114) hx hb dX6_lays_98 (by decide) (fun h10 => ?_) (fun h10 => ?_)
          · have hf := br_y h10 hf
            exact b_114 _ _ _ _ _ _ H locs ls hf hP hD hS (lv_sub hl [0, 1, 2, 3] rfl)
          · have hf := br_n h10 hf
            refine lv_aload_n (pc := 101) hx hb dX6_lays_101 rfl (lv_at hl 0 rfl) ?_
            refine wget (pc := 102) X (fun _ h9 => List.mem_cons_of_mem _ (List.mem_append_right _ h9)) hP 0 (at_Mo_0 G A M N) rfl 4 (by decide) (List.mem_cons_of_mem _ (List.mem_append_left _ (List.mem_of_getElem? (i := 1) rfl))) rfl (v := .ref (A 5)) rfl dX6_lays_102 ?_
            refine lv_bipush (pc := 105) (v := (55 : Int32)) hx hb dX6_lays_105 (by decide) ?_
            refine lv_iload (pc := 107) hx hb dX6_lays_107 (lv_at hl 3 rfl) ?_
            refine lv_iadd (pc := 109) hx hb dX6_lays_109 ?_
            obtain ⟨hi, hf⟩ := ck_some hf
            refine wiald (pc := 110) X hP 5 (at_Mo_5 G A M N) hi rfl dX6_lays_110 ?_
            refine lv_goto (pc := 111) (tgt := 115) hx hb dX6_lays_111 (by decide) ?_
            exact b_115 _ _ _ _ _ _ _ H locs ls hf hP hD hS (lv_sub hl [0, 1, 2, 3] rfl)
  have l_3 : ∀ (n3 : Nat), ∀ (x1 : Int32) (x2 : Int32) (x3 : Int32) (x4 : Int32) (M : CS) (H : Heap) (locs : List Loc) (ls : Array Slot), f_X6_lays_3 n3 x1 x2 x3 x4 M N = some M' → va_P G.1 vwCl (w_Mo G A M N) H → va_D B (w_Mo G A M N) → va_S B s.heap H locs → lv_has ls 8 [(0, .ref (A 0)), (1, .int x1), (2, .int x2), (3, .int x3), (4, .int x4)] → W p l e r_X6_lays s m av below meth cd H locs 0 0 Q (F0 m 3 ls []) := by
    intro n3
    induction n3 with
    | zero =>
      intro x1 x2 x3 x4 M H locs ls hf hP hD hS hl
      rw [f_X6_lays_3] at hf
      cases hf
    | succ n3 ih3 =>
      have b_27 : ∀ (x1 : Int32) (x2 : Int32) (x3 : Int32) (x4 : Int32) (t1 : Int32) (t2 : Int32) (M : CS) (H : Heap) (locs : List Loc) (ls : Array Slot), f_X6_lays_27 (f_X6_lays_3 n3) x1 x2 x3 x4 t1 t2 M N = some M' → va_P G.1 vwCl (w_Mo G A M N) H → va_D B (w_Mo G A M N) → va_S B s.heap H locs → lv_has ls 8 [(0, .ref (A 0)), (1, .int x1), (2, .int x2), (3, .int x3), (4, .int x4)] → W p l e r_X6_lays s m av below meth cd H locs 0 0 Q (F0 m 27 ls [.int t2, .int t1, .ref (A 10)]) := by
        intro x1 x2 x3 x4 t1 t2 M H locs ls hf hP hD hS hl
        unfold f_X6_lays_27 at hf
        obtain ⟨hi, hf⟩ := ck_some hf
        refine wiast (pc := 27) X hP hD hS 10 (at_Mo_10 G A M N) hi rfl (sa_Mo_10 G A M N _) dX6_lays_27 (fun H locs hP hD hS => ?_)
        have hP : va_P G.1 vwCl (w_Mo G A (cset M 12 t1.toNatClampNeg t2) N) H := hP
        have hD : va_D B (w_Mo G A (cset M 12 t1.toNatClampNeg t2) N) := hD
        refine lv_iinc (pc := 28) (v := (x4 + (1 : Int32))) (lv' := [(4, .int (x4 + (1 : Int32))), (0, .ref (A 0)), (1, .int x1), (2, .int x2), (3, .int x3)]) hx hb dX6_lays_28 hl (k := 4) rfl rfl (by decide) rfl (fun ls hl => ?_)
        refine lv_goto (pc := 31) (tgt := 3) hx hb dX6_lays_31 (by decide) ?_
        exact ih3 _ _ _ _ _ H locs ls hf hP hD hS (lv_sub hl [1, 2, 3, 4, 0] rfl)
      intro x1 x2 x3 x4 M H locs ls hf hP hD hS hl
      rw [f_X6_lays_3] at hf
      refine lv_iload (pc := 3) hx hb dX6_lays_3 (lv_at hl 4 rfl) ?_
      refine lv_bipush (pc := 5) (v := (100 : Int32)) hx hb dX6_lays_5 (by decide) ?_
      refine lv_icmp_ge (pc := 7) (tgt := 34) hx hb dX6_lays_7 (by decide) (fun h14 => ?_) (fun h14 => ?_)
      · have hf := br_y h14 hf
        refine lv_iconst (pc := 34) (v := (0 : Int32)) hx hb dX6_lays_34 (by decide) ?_
        refine lv_istore (pc := 35) (lv' := [(4, .int (0 : Int32)), (0, .ref (A 0)), (1, .int x1), (2, .int x2), (3, .int x3)]) hx hb dX6_lays_35 hl (by decide) rfl (fun ls hl => ?_)
        exact l_37 FU _ _ _ _ H locs ls hf hP hD hS (lv_sub hl [1, 2, 3, 0] rfl)
      · have hf := br_n h14 hf
        refine lv_aload_n (pc := 10) hx hb dX6_lays_10 rfl (lv_at hl 0 rfl) ?_
        refine wget (pc := 11) X (fun _ h9 => List.mem_cons_of_mem _ (List.mem_append_right _ h9)) hP 0 (at_Mo_0 G A M N) rfl 14 (by decide) (List.mem_cons_of_mem _ (List.mem_append_left _ (List.mem_of_getElem? (i := 0) rfl))) rfl (v := .ref (A 10)) rfl dX6_lays_11 ?_
        refine lv_iload (pc := 14) hx hb dX6_lays_14 (lv_at hl 4 rfl) ?_
        refine lv_iload (pc := 16) hx hb dX6_lays_16 (lv_at hl 4 rfl) ?_
        refine lv_iload_n (pc := 18) hx hb dX6_lays_18 rfl (lv_at hl 3 rfl) ?_
        refine lv_icmp_ne (pc := 19) (tgt := 26) hx hb dX6_lays_19 (by decide) (fun h13 => ?_) (fun h13 => ?_)
        · have hf := br_n h13 hf
          refine lv_iconst (pc := 26) (v := (0 : Int32)) hx hb dX6_lays_26 (by decide) ?_
          exact b_27 _ _ _ _ _ _ _ H locs ls hf hP hD hS (lv_sub hl [0, 1, 2, 3, 4] rfl)
        · have hf := br_y h13 hf
          refine lv_iconst (pc := 22) (v := (5 : Int32)) hx hb dX6_lays_22 (by decide) ?_
          refine lv_goto (pc := 23) (tgt := 27) hx hb dX6_lays_23 (by decide) ?_
          exact b_27 _ _ _ _ _ _ _ H locs ls hf hP hD hS (lv_sub hl [0, 1, 2, 3, 4] rfl)
  unfold f_X6_lays at hf
  refine lv_iconst (pc := 0) (v := (0 : Int32)) hx hb dX6_lays_0 (by decide) ?_
  refine lv_istore (pc := 1) (lv' := [(4, .int (0 : Int32)), (0, .ref (A 0)), (1, .int x1), (2, .int x2), (3, .int x3)]) hx hb dX6_lays_1 hl (by decide) rfl (fun ls hl => ?_)
  exact l_3 FU _ _ _ _ _ H locs ls hf hP hD hS (lv_sub hl [1, 2, 3, 4, 0] rfl)
def r_X6_differing : Room := { frames := 2, cells := 0, slots := 0, locals := 49 }
set_option maxHeartbeats 4000000 in
set_option maxRecDepth 100000 in
theorem c_X6_differing (G : GT) (l : Launch) (A : Nat → Nat) (sz : Nat) (M : CS) (N : JS) (x1 : Int32) (x2 : Int32) (x3 : Int32) (x4 : Int32) (r : Int32) (M' : CS) (hf : f_X6_differing M N x1 x2 x3 x4 = some (r, M')) : MTi l yX6_differing wsX6_differing r_X6_differing [.ref (A 0), .int x1, .int x2, .int x3, .int x4] G (w_Mo G A M N) (w_Mo G A M' N) sz r := by
  refine MTi.of (cc := cX6_differing) (maxL := 7) (by decide +kernel) rfl (Nat.le_of_ble_eq_true rfl) (fun p e s m av below meth cd Q B H locs ls X hret hl hP hD hS => ?_)
  have hx := X.1.1
  have hb := X.1.2.1
  have hl : lv_has ls 7 [(0, .ref (A 0)), (1, .int x1), (2, .int x2), (3, .int x3), (4, .int x4)] := hl
  have l_6 : ∀ (n6 : Nat), ∀ (x1 : Int32) (x2 : Int32) (x3 : Int32) (x4 : Int32) (x5 : Int32) (x6 : Int32) (M : CS) (H : Heap) (locs : List Loc) (ls : Array Slot), f_X6_differing_6 n6 x1 x2 x3 x4 x5 x6 M N = some (r, M') → va_P G.1 vwCl (w_Mo G A M N) H → va_D B (w_Mo G A M N) → va_S B s.heap H locs → lv_has ls 7 [(0, .ref (A 0)), (1, .int x1), (2, .int x2), (3, .int x3), (4, .int x4), (5, .int x5), (6, .int x6)] → W p l e r_X6_differing s m av below meth cd H locs 0 0 Q (F0 m 6 ls []) := by
    intro n6
    induction n6 with
    | zero =>
      intro x1 x2 x3 x4 x5 x6 M H locs ls hf hP hD hS hl
      rw [f_X6_differing_6] at hf
      cases hf
    | succ n6 ih6 =>
      have b_46 : ∀ (x1 : Int32) (x2 : Int32) (x3 : Int32) (x4 : Int32) (x6 : Int32) (t0 : Int32) (t1 : Int32) (M : CS) (H : Heap) (locs : List Loc) (ls : Array Slot), f_X6_differing_46 (f_X6_differing_6 n6) x1 x2 x3 x4 x6 t0 t1 M N = some (r, M') → va_P G.1 vwCl (w_Mo G A M N) H → va_D B (w_Mo G A M N) → va_S B s.heap H locs → lv_has ls 7 [(0, .ref (A 0)), (1, .int x1), (2, .int x2), (3, .int x3), (4, .int x4), (6, .int x6)] → W p l e r_X6_differing s m av below meth cd H locs 0 0 Q (F0 m 46 ls [.int t1, .int t0]) := by
        intro x1 x2 x3 x4 x6 t0 t1 M H locs ls hf hP hD hS hl
        unfold f_X6_differing_46 at hf
        refine lv_ior (pc := 46) hx hb dX6_differing_46 ?_
        refine lv_istore (pc := 47) (lv' := [(5, .int (t0 ||| t1)), (0, .ref (A 0)), (1, .int x1), (2, .int x2), (3, .int x3), (4, .int x4), (6, .int x6)]) hx hb dX6_differing_47 hl (by decide) rfl (fun ls hl => ?_)
        refine lv_iinc (pc := 49) (v := (x6 + (1 : Int32))) (lv' := [(6, .int (x6 + (1 : Int32))), (5, .int (t0 ||| t1)), (0, .ref (A 0)), (1, .int x1), (2, .int x2), (3, .int x3), (4, .int x4)]) hx hb dX6_differing_49 hl (k := 6) rfl rfl (by decide) rfl (fun ls hl => ?_)
        refine lv_goto (pc := 52) (tgt := 6) hx hb dX6_differing_52 (by decide) ?_
        exact ih6 _ _ _ _ _ _ _ H locs ls hf hP hD hS (lv_sub hl [2, 3, 4, 5, 6, 1, 0] rfl)
      intro x1 x2 x3 x4 x5 x6 M H locs ls hf hP hD hS hl
      rw [f_X6_differing_6] at hf
      refine lv_iload (pc := 6) hx hb dX6_differing_6 (lv_at hl 6 rfl) ?_
      refine lv_aload_n (pc := 8) hx hb dX6_differing_8 rfl (lv_at hl 0 rfl) ?_
      refine wget (pc := 9) X (fun _ h9 => List.mem_cons_of_mem _ (List.mem_append_right _ h9)) hP 0 (at_Mo_0 G A M N) rfl 4 (by decide) (List.mem_cons_of_mem _ (List.mem_append_left _ (List.mem_of_getElem? (i := 0) rfl))) rfl (v := .ref (A 5)) rfl dX6_differing_9 ?_
      refine lv_iconst (pc := 12) (v := (0 : Int32)) hx hb dX6_differing_12 (by decide) ?_
      refine wiald (pc := 13) X hP 5 (at_Mo_5 G A M N) (by decide) (j := 0) (by decide) dX6_differing_13 ?_
      refine lv_icmp_ge (pc := 14) (tgt := 55) hx hb dX6_differing_14 (by decide) (fun h2 => ?_) (fun h2 => ?_)
      · have hf := br_y h2 hf
        refine lv_iload (pc := 55) hx hb dX6_differing_55 (lv_at hl 5 rfl) ?_
        cases hf
        exact hret _ _ _ _ dX6_differing_57 hP hD hS
      · have hf := br_n h2 hf
        refine lv_aload_n (pc := 17) hx hb dX6_differing_17 rfl (lv_at hl 0 rfl) ?_
        refine lv_iload (pc := 18) hx hb dX6_differing_18 (lv_at hl 6 rfl) ?_
        refine lv_iload (pc := 20) hx hb dX6_differing_20 (lv_at hl 4 rfl) ?_
        refine lv_iconst (pc := 22) (v := (-1 : Int32)) hx hb dX6_differing_22 (by decide) ?_
        obtain ⟨M1, hc1, hf⟩ := ob1_some hf
        refine endv X.2.2.2.2 (runV (pc := 23) (As := [.int x6, .int x4, .int (-1 : Int32)]) (rest := []) X (c_X6_lays G l A H.size M N x6 x4 (-1 : Int32) M1 hc1) gX6_differing_X6_lays k_X6_lays ⟨rfl, rfl⟩ ⟨Nat.le_of_ble_eq_true rfl, Nat.le_of_ble_eq_true rfl⟩ (EM.all (w_Mo G A M N) (w_Mo G A M1 N)) hP hD hS (ci := 6) rfl rfl (at_Mo_0 G A M N) rfl hl.1 rfl (Nat.le_of_ble_eq_true rfl) ⟨Nat.zero_le _, Nat.zero_le _⟩ dX6_differing_23) (EM.all (w_Mo G A M N) (w_Mo G A M1 N)) hP hD hS (fun H locs hP hD hS => ?_)
        refine lv_iload (pc := 26) hx hb dX6_differing_26 (lv_at hl 5 rfl) ?_
        refine lv_aload_n (pc := 28) hx hb dX6_differing_28 rfl (lv_at hl 0 rfl) ?_
        refine lv_iload_n (pc := 29) hx hb dX6_differing_29 rfl (lv_at hl 1 rfl) ?_
        refine lv_iload_n (pc := 30) hx hb dX6_differing_30 rfl (lv_at hl 2 rfl) ?_
        refine lv_iload_n (pc := 31) hx hb dX6_differing_31 rfl (lv_at hl 3 rfl) ?_
        obtain ⟨r2, hc2, hf⟩ := ob1_some hf
        refine endi X.2.2.2.2 (runV (pc := 32) (As := [.int x1, .int x2, .int x3]) (rest := [.int x5]) X (c_X6_differs G l A H.size M1 N x1 x2 x3 r2 hc2) gX6_differing_X6_differs k_X6_differs ⟨rfl, rfl⟩ ⟨Nat.le_of_ble_eq_true rfl, Nat.le_of_ble_eq_true rfl⟩ (EM.all (w_Mo G A M1 N) (w_Mo G A M1 N)) hP hD hS (ci := 6) rfl rfl (at_Mo_0 G A M1 N) rfl hl.1 rfl (Nat.le_of_ble_eq_true rfl) ⟨Nat.zero_le _, Nat.zero_le _⟩ dX6_differing_32) (EM.all (w_Mo G A M1 N) (w_Mo G A M1 N)) hP hD hS (fun H locs hP hD hS => ?_)
        refine lv_if_eq (pc := 35) (tgt := 45) hx hb dX6_differing_35 (by decide) (fun h1 => ?_) (fun h1 => ?_)
        · have hf := br_y h1 hf
          refine lv_iconst (pc := 45) (v := (0 : Int32)) hx hb dX6_differing_45 (by decide) ?_
          exact b_46 _ _ _ _ _ _ _ _ H locs ls hf hP hD hS (lv_sub hl [0, 1, 2, 3, 4, 6] rfl)
        · have hf := br_n h1 hf
          refine lv_iconst (pc := 38) (v := (1 : Int32)) hx hb dX6_differing_38 (by decide) ?_
          refine lv_iload (pc := 39) hx hb dX6_differing_39 (lv_at hl 6 rfl) ?_
          refine lv_ishl (pc := 41) hx hb dX6_differing_41 ?_
          refine lv_goto (pc := 42) (tgt := 46) hx hb dX6_differing_42 (by decide) ?_
          exact b_46 _ _ _ _ _ _ _ _ H locs ls hf hP hD hS (lv_sub hl [0, 1, 2, 3, 4, 6] rfl)
  unfold f_X6_differing at hf
  refine lv_iconst (pc := 0) (v := (0 : Int32)) hx hb dX6_differing_0 (by decide) ?_
  refine lv_istore (pc := 1) (lv' := [(5, .int (0 : Int32)), (0, .ref (A 0)), (1, .int x1), (2, .int x2), (3, .int x3), (4, .int x4)]) hx hb dX6_differing_1 hl (by decide) rfl (fun ls hl => ?_)
  refine lv_iconst (pc := 3) (v := (0 : Int32)) hx hb dX6_differing_3 (by decide) ?_
  refine lv_istore (pc := 4) (lv' := [(6, .int (0 : Int32)), (5, .int (0 : Int32)), (0, .ref (A 0)), (1, .int x1), (2, .int x2), (3, .int x3), (4, .int x4)]) hx hb dX6_differing_4 hl (by decide) rfl (fun ls hl => ?_)
  exact l_6 FU _ _ _ _ _ _ _ H locs ls hf hP hD hS (lv_sub hl [2, 3, 4, 5, 6, 1, 0] rfl)
def r_X6_in : Room := { frames := 0, cells := 0, slots := 0, locals := 0 }
set_option maxHeartbeats 4000000 in
set_option maxRecDepth 100000 in
theorem c_X6_in (G : GT) (l : Launch) (sz : Nat) (x0 : Int64) (x2 : Int64) (x4 : Int64) (r : Int32) (hf : f_X6_in x0 x2 x4 = some r) : MTi l yX6_in wsX6_in r_X6_in [.long x0, .long x2, .long x4] G [] [] sz r := by
  refine MTz.of (cc := cX6_in) (maxL := 6) (by decide +kernel) rfl (Nat.le_of_ble_eq_true rfl) (fun p e s m av below meth cd Q B H locs ls X hret hl hP hD hS => ?_)
  have hx := X.1.1
  have hb := X.1.2.1
  have hl : lv_has ls 6 [(0, .long x0), (2, .long x2), (4, .long x4)] := hl
  have b_18 : ∀ (t0 : Int32) (H : Heap) (locs : List Loc) (ls : Array Slot), f_X6_in_18 t0 = some r → va_P G.1 vwCl [] H → va_D B [] → va_S B s.heap H locs → lv_has ls 6 [] → W p l e r_X6_in s m av below meth cd H locs 0 0 Q (F0 m 18 ls [.int t0]) := by
    intro t0 H locs ls hf hP hD hS hl
    unfold f_X6_in_18 at hf
    obtain ⟨hz, hf⟩ := ck_some hf
    cases hf
    exact hret _ _ _ _ (isb_or hz) dX6_in_18 hP hD hS
  have b_17 : ∀  (H : Heap) (locs : List Loc) (ls : Array Slot), f_X6_in_17 = some r → va_P G.1 vwCl [] H → va_D B [] → va_S B s.heap H locs → lv_has ls 6 [] → W p l e r_X6_in s m av below meth cd H locs 0 0 Q (F0 m 17 ls []) := by
    intro  H locs ls hf hP hD hS hl
    unfold f_X6_in_17 at hf
    refine lv_iconst (pc := 17) (v := (0 : Int32)) hx hb dX6_in_17 (by decide) ?_
    exact b_18 _ H locs ls hf hP hD hS (lv_sub hl [] rfl)
  unfold f_X6_in at hf
  refine lv_lload_n (pc := 0) hx hb dX6_in_0 rfl (lv_at hl 0 rfl) ?_
  refine lv_lload_n (pc := 1) hx hb dX6_in_1 rfl (lv_at hl 1 rfl) ?_
  refine W.lcmp (pc := 2) hx hb dX6_in_2 ?_
  refine lv_if_lt (pc := 3) (tgt := 17) hx hb dX6_in_3 (by decide) (fun h2 => ?_) (fun h2 => ?_)
  · have hf := br_y h2 hf
    exact b_17  H locs ls hf hP hD hS (lv_sub hl [] rfl)
  · have hf := br_n h2 hf
    refine lv_lload_n (pc := 6) hx hb dX6_in_6 rfl (lv_at hl 0 rfl) ?_
    refine lv_lload (pc := 7) hx hb dX6_in_7 (lv_at hl 2 rfl) ?_
    refine W.lcmp (pc := 9) hx hb dX6_in_9 ?_
    refine lv_if_gt (pc := 10) (tgt := 17) hx hb dX6_in_10 (by decide) (fun h1 => ?_) (fun h1 => ?_)
    · have hf := br_y h1 hf
      exact b_17  H locs ls hf hP hD hS (lv_sub hl [] rfl)
    · have hf := br_n h1 hf
      refine lv_iconst (pc := 13) (v := (1 : Int32)) hx hb dX6_in_13 (by decide) ?_
      refine lv_goto (pc := 14) (tgt := 18) hx hb dX6_in_14 (by decide) ?_
      exact b_18 _ H locs ls hf hP hD hS (lv_sub hl [] rfl)
def r_X6_live : Room := { frames := 0, cells := 0, slots := 0, locals := 0 }
set_option maxHeartbeats 4000000 in
set_option maxRecDepth 100000 in
theorem c_X6_live (G : GT) (l : Launch) (A : Nat → Nat) (sz : Nat) (M : CS) (N : JS) (r : Int32) (hf : f_X6_live M N = some r) : MTi l yX6_live wsX6_live r_X6_live [.ref (A 0)] G (w_Mo G A M N) (w_Mo G A M N) sz r := by
  refine MTi.of (cc := cX6_live) (maxL := 3) (by decide +kernel) rfl (Nat.le_of_ble_eq_true rfl) (fun p e s m av below meth cd Q B H locs ls X hret hl hP hD hS => ?_)
  have hx := X.1.1
  have hb := X.1.2.1
  have hl : lv_has ls 3 [(0, .ref (A 0))] := hl
  have l_4 : ∀ (n4 : Nat), ∀ (x1 : Int32) (x2 : Int32) (H : Heap) (locs : List Loc) (ls : Array Slot), f_X6_live_4 n4 x1 x2 M N = some r → va_P G.1 vwCl (w_Mo G A M N) H → va_D B (w_Mo G A M N) → va_S B s.heap H locs → lv_has ls 3 [(0, .ref (A 0)), (1, .int x1), (2, .int x2)] → W p l e r_X6_live s m av below meth cd H locs 0 0 Q (F0 m 4 ls []) := by
    intro n4
    induction n4 with
    | zero =>
      intro x1 x2 H locs ls hf hP hD hS hl
      rw [f_X6_live_4] at hf
      cases hf
    | succ n4 ih4 =>
      have b_34 : ∀ (x2 : Int32) (t0 : Int32) (t1 : Int32) (H : Heap) (locs : List Loc) (ls : Array Slot), f_X6_live_34 (f_X6_live_4 n4) x2 t0 t1 M N = some r → va_P G.1 vwCl (w_Mo G A M N) H → va_D B (w_Mo G A M N) → va_S B s.heap H locs → lv_has ls 3 [(0, .ref (A 0)), (2, .int x2)] → W p l e r_X6_live s m av below meth cd H locs 0 0 Q (F0 m 34 ls [.int t1, .int t0]) := by
        intro x2 t0 t1 H locs ls hf hP hD hS hl
        unfold f_X6_live_34 at hf
        refine lv_ior (pc := 34) hx hb dX6_live_34 ?_
        refine lv_istore_n (pc := 35) (lv' := [(1, .int (t0 ||| t1)), (0, .ref (A 0)), (2, .int x2)]) hx hb dX6_live_35 rfl hl (by decide) rfl (fun ls hl => ?_)
        refine lv_iinc (pc := 36) (v := (x2 + (1 : Int32))) (lv' := [(2, .int (x2 + (1 : Int32))), (1, .int (t0 ||| t1)), (0, .ref (A 0))]) hx hb dX6_live_36 hl (k := 2) rfl rfl (by decide) rfl (fun ls hl => ?_)
        refine lv_goto (pc := 39) (tgt := 4) hx hb dX6_live_39 (by decide) ?_
        exact ih4 _ _ H locs ls hf hP hD hS (lv_sub hl [2, 1, 0] rfl)
      intro x1 x2 H locs ls hf hP hD hS hl
      rw [f_X6_live_4] at hf
      refine lv_iload_n (pc := 4) hx hb dX6_live_4 rfl (lv_at hl 2 rfl) ?_
      refine lv_aload_n (pc := 5) hx hb dX6_live_5 rfl (lv_at hl 0 rfl) ?_
      refine wget (pc := 6) X (fun _ h9 => List.mem_cons_of_mem _ (List.mem_append_right _ h9)) hP 0 (at_Mo_0 G A M N) rfl 4 (by decide) (List.mem_cons_of_mem _ (List.mem_append_left _ (List.mem_of_getElem? (i := 0) rfl))) rfl (v := .ref (A 5)) rfl dX6_live_6 ?_
      refine lv_iconst (pc := 9) (v := (1 : Int32)) hx hb dX6_live_9 (by decide) ?_
      refine wiald (pc := 10) X hP 5 (at_Mo_5 G A M N) (by decide) (j := 1) (by decide) dX6_live_10 ?_
      refine lv_icmp_ge (pc := 11) (tgt := 42) hx hb dX6_live_11 (by decide) (fun h2 => ?_) (fun h2 => ?_)
      · have hf := br_y h2 hf
        refine lv_iload_n (pc := 42) hx hb dX6_live_42 rfl (lv_at hl 1 rfl) ?_
        cases hf
        exact hret _ _ _ _ dX6_live_43 hP hD hS
      · have hf := br_n h2 hf
        refine lv_iload_n (pc := 14) hx hb dX6_live_14 rfl (lv_at hl 1 rfl) ?_
        refine lv_aload_n (pc := 15) hx hb dX6_live_15 rfl (lv_at hl 0 rfl) ?_
        refine wget (pc := 16) X (fun _ h9 => List.mem_cons_of_mem _ (List.mem_append_right _ h9)) hP 0 (at_Mo_0 G A M N) rfl 4 (by decide) (List.mem_cons_of_mem _ (List.mem_append_left _ (List.mem_of_getElem? (i := 0) rfl))) rfl (v := .ref (A 5)) rfl dX6_live_16 ?_
        refine lv_bipush (pc := 19) (v := (67 : Int32)) hx hb dX6_live_19 (by decide) ?_
        refine lv_iload_n (pc := 21) hx hb dX6_live_21 rfl (lv_at hl 2 rfl) ?_
        refine lv_iadd (pc := 22) hx hb dX6_live_22 ?_
        obtain ⟨hi, hf⟩ := ck_some hf
        refine wiald (pc := 23) X hP 5 (at_Mo_5 G A M N) hi rfl dX6_live_23 ?_
        refine lv_if_ne (pc := 24) (tgt := 33) hx hb dX6_live_24 (by decide) (fun h1 => ?_) (fun h1 => ?_)
        · have hf := br_n h1 hf
          refine lv_iconst (pc := 33) (v := (0 : Int32)) hx hb dX6_live_33 (by decide) ?_
          exact b_34 _ _ _ H locs ls hf hP hD hS (lv_sub hl [0, 2] rfl)
        · have hf := br_y h1 hf
          refine lv_iconst (pc := 27) (v := (1 : Int32)) hx hb dX6_live_27 (by decide) ?_
          refine lv_iload_n (pc := 28) hx hb dX6_live_28 rfl (lv_at hl 2 rfl) ?_
          refine lv_ishl (pc := 29) hx hb dX6_live_29 ?_
          refine lv_goto (pc := 30) (tgt := 34) hx hb dX6_live_30 (by decide) ?_
          exact b_34 _ _ _ H locs ls hf hP hD hS (lv_sub hl [0, 2] rfl)
  unfold f_X6_live at hf
  refine lv_iconst (pc := 0) (v := (0 : Int32)) hx hb dX6_live_0 (by decide) ?_
  refine lv_istore_n (pc := 1) (lv' := [(1, .int (0 : Int32)), (0, .ref (A 0))]) hx hb dX6_live_1 rfl hl (by decide) rfl (fun ls hl => ?_)
  refine lv_iconst (pc := 2) (v := (0 : Int32)) hx hb dX6_live_2 (by decide) ?_
  refine lv_istore_n (pc := 3) (lv' := [(2, .int (0 : Int32)), (1, .int (0 : Int32)), (0, .ref (A 0))]) hx hb dX6_live_3 rfl hl (by decide) rfl (fun ls hl => ?_)
  exact l_4 FU _ _ H locs ls hf hP hD hS (lv_sub hl [2, 1, 0] rfl)
def r_X6_agree : Room := { frames := 3, cells := 0, slots := 0, locals := 75 }
set_option maxHeartbeats 4000000 in
set_option maxRecDepth 100000 in
theorem c_X6_agree (G : GT) (l : Launch) (A : Nat → Nat) (sz : Nat) (M : CS) (N : JS) (x1 : Int32) (x2 : Int32) (x3 : Int32) (r : Int32) (M' : CS) (hf : f_X6_agree M N x1 x2 x3 = some (r, M')) : MTi l yX6_agree wsX6_agree r_X6_agree [.ref (A 0), .int x1, .int x2, .int x3] G (w_Mo G A M N) (w_Mo G A M' N) sz r := by
  refine MTi.of (cc := cX6_agree) (maxL := 8) (by decide +kernel) rfl (Nat.le_of_ble_eq_true rfl) (fun p e s m av below meth cd Q B H locs ls X hret hl hP hD hS => ?_)
  have hx := X.1.1
  have hb := X.1.2.1
  have hl : lv_has ls 8 [(0, .ref (A 0)), (1, .int x1), (2, .int x2), (3, .int x3)] := hl
  have b_21 : ∀ (M : CS) (H : Heap) (locs : List Loc) (ls : Array Slot), f_X6_agree_21 M N = some (r, M') → va_P G.1 vwCl (w_Mo G A M N) H → va_D B (w_Mo G A M N) → va_S B s.heap H locs → lv_has ls 8 [] → W p l e r_X6_agree s m av below meth cd H locs 0 0 Q (F0 m 21 ls []) := by
    intro M H locs ls hf hP hD hS hl
    unfold f_X6_agree_21 at hf
    refine lv_iconst (pc := 21) (v := (-1 : Int32)) hx hb dX6_agree_21 (by decide) ?_
    cases hf
    exact hret _ _ _ _ dX6_agree_22 hP hD hS
  have b_140 : ∀ (t0 : Int32) (M : CS) (H : Heap) (locs : List Loc) (ls : Array Slot), f_X6_agree_140 t0 M N = some (r, M') → va_P G.1 vwCl (w_Mo G A M N) H → va_D B (w_Mo G A M N) → va_S B s.heap H locs → lv_has ls 8 [] → W p l e r_X6_agree s m av below meth cd H locs 0 0 Q (F0 m 140 ls [.int t0]) := by
    intro t0 M H locs ls hf hP hD hS hl
    unfold f_X6_agree_140 at hf
    cases hf
    exact hret _ _ _ _ dX6_agree_140 hP hD hS
  have l_36 : ∀ (n36 : Nat), ∀ (x1 : Int32) (x2 : Int32) (x3 : Int32) (x4 : Int32) (x5 : Int32) (x6 : Int32) (M : CS) (H : Heap) (locs : List Loc) (ls : Array Slot), f_X6_agree_36 n36 x1 x2 x3 x4 x5 x6 M N = some (r, M') → va_P G.1 vwCl (w_Mo G A M N) H → va_D B (w_Mo G A M N) → va_S B s.heap H locs → lv_has ls 8 [(0, .ref (A 0)), (1, .int x1), (2, .int x2), (3, .int x3), (4, .int x4), (5, .int x5), (6, .int x6)] → W p l e r_X6_agree s m av below meth cd H locs 0 0 Q (F0 m 36 ls []) := by
    intro n36
    induction n36 with
    | zero =>
      intro x1 x2 x3 x4 x5 x6 M H locs ls hf hP hD hS hl
      rw [f_X6_agree_36] at hf
      cases hf
    | succ n36 ih36 =>
      have b_109 : ∀ (x1 : Int32) (x2 : Int32) (x3 : Int32) (x4 : Int32) (x6 : Int32) (t0 : Int32) (M : CS) (H : Heap) (locs : List Loc) (ls : Array Slot), f_X6_agree_109 (f_X6_agree_36 n36) x1 x2 x3 x4 x6 t0 M N = some (r, M') → va_P G.1 vwCl (w_Mo G A M N) H → va_D B (w_Mo G A M N) → va_S B s.heap H locs → lv_has ls 8 [(0, .ref (A 0)), (1, .int x1), (2, .int x2), (3, .int x3), (4, .int x4), (6, .int x6)] → W p l e r_X6_agree s m av below meth cd H locs 0 0 Q (F0 m 109 ls [.int t0]) := by
        intro x1 x2 x3 x4 x6 t0 M H locs ls hf hP hD hS hl
        unfold f_X6_agree_109 at hf
        refine lv_istore (pc := 109) (lv' := [(5, .int t0), (0, .ref (A 0)), (1, .int x1), (2, .int x2), (3, .int x3), (4, .int x4), (6, .int x6)]) hx hb dX6_agree_109 hl (by decide) rfl (fun ls hl => ?_)
        refine lv_iinc (pc := 111) (v := (x6 + (1 : Int32))) (lv' := [(6, .int (x6 + (1 : Int32))), (5, .int t0), (0, .ref (A 0)), (1, .int x1), (2, .int x2), (3, .int x3), (4, .int x4)]) hx hb dX6_agree_111 hl (k := 6) rfl rfl (by decide) rfl (fun ls hl => ?_)
        refine lv_goto (pc := 114) (tgt := 36) hx hb dX6_agree_114 (by decide) ?_
        exact ih36 _ _ _ _ _ _ _ H locs ls hf hP hD hS (lv_sub hl [2, 3, 4, 5, 6, 1, 0] rfl)
      have b_107 : ∀ (x1 : Int32) (x2 : Int32) (x3 : Int32) (x4 : Int32) (x5 : Int32) (x6 : Int32) (M : CS) (H : Heap) (locs : List Loc) (ls : Array Slot), f_X6_agree_107 (f_X6_agree_36 n36) x1 x2 x3 x4 x5 x6 M N = some (r, M') → va_P G.1 vwCl (w_Mo G A M N) H → va_D B (w_Mo G A M N) → va_S B s.heap H locs → lv_has ls 8 [(0, .ref (A 0)), (1, .int x1), (2, .int x2), (3, .int x3), (4, .int x4), (5, .int x5), (6, .int x6)] → W p l e r_X6_agree s m av below meth cd H locs 0 0 Q (F0 m 107 ls []) := by
        intro x1 x2 x3 x4 x5 x6 M H locs ls hf hP hD hS hl
        unfold f_X6_agree_107 at hf
        refine lv_iload (pc := 107) hx hb dX6_agree_107 (lv_at hl 5 rfl) ?_
        exact b_109 _ _ _ _ _ _ _ H locs ls hf hP hD hS (lv_sub hl [0, 1, 2, 3, 4, 6] rfl)
      have b_78 : ∀ (x1 : Int32) (x2 : Int32) (x3 : Int32) (x4 : Int32) (x5 : Int32) (x6 : Int32) (t0 : Int32) (M : CS) (H : Heap) (locs : List Loc) (ls : Array Slot), f_X6_agree_78 (f_X6_agree_36 n36) x1 x2 x3 x4 x5 x6 t0 M N = some (r, M') → va_P G.1 vwCl (w_Mo G A M N) H → va_D B (w_Mo G A M N) → va_S B s.heap H locs → lv_has ls 8 [(0, .ref (A 0)), (1, .int x1), (2, .int x2), (3, .int x3), (4, .int x4), (5, .int x5), (6, .int x6)] → W p l e r_X6_agree s m av below meth cd H locs 0 0 Q (F0 m 78 ls [.int t0]) := by
        intro x1 x2 x3 x4 x5 x6 t0 M H locs ls hf hP hD hS hl
        unfold f_X6_agree_78 at hf
        refine lv_istore (pc := 78) (lv' := [(7, .int t0), (0, .ref (A 0)), (1, .int x1), (2, .int x2), (3, .int x3), (4, .int x4), (5, .int x5), (6, .int x6)]) hx hb dX6_agree_78 hl (by decide) rfl (fun ls hl => ?_)
        refine lv_iload (pc := 80) hx hb dX6_agree_80 (lv_at hl 0 rfl) ?_
        refine lv_if_eq (pc := 82) (tgt := 107) hx hb dX6_agree_82 (by decide) (fun h2 => ?_) (fun h2 => ?_)
        · have hf := br_y h2 hf
          exact b_107 _ _ _ _ _ _ _ H locs ls hf hP hD hS (lv_sub hl [1, 2, 3, 4, 5, 6, 7] rfl)
        · have hf := br_n h2 hf
          refine lv_aload_n (pc := 85) hx hb dX6_agree_85 rfl (lv_at hl 1 rfl) ?_
          refine lv_iload_n (pc := 86) hx hb dX6_agree_86 rfl (lv_at hl 2 rfl) ?_
          refine lv_iload_n (pc := 87) hx hb dX6_agree_87 rfl (lv_at hl 3 rfl) ?_
          refine lv_iload_n (pc := 88) hx hb dX6_agree_88 rfl (lv_at hl 4 rfl) ?_
          refine lv_iload (pc := 89) hx hb dX6_agree_89 (lv_at hl 5 rfl) ?_
          refine lv_iload (pc := 91) hx hb dX6_agree_91 (lv_at hl 7 rfl) ?_
          refine lv_iconst (pc := 93) (v := (-1 : Int32)) hx hb dX6_agree_93 (by decide) ?_
          refine lv_ixor (pc := 94) hx hb dX6_agree_94 ?_
          refine lv_iand (pc := 95) hx hb dX6_agree_95 ?_
          obtain ⟨r1, M1, hc1, hf⟩ := ob2_some hf
          refine endi X.2.2.2.2 (runV (pc := 96) (As := [.int x1, .int x2, .int x3, .int (x4 &&& (x6 ^^^ (-1 : Int32)))]) (rest := []) X (c_X6_differing G l A H.size M N x1 x2 x3 (x4 &&& (x6 ^^^ (-1 : Int32))) r1 M1 hc1) gX6_agree_X6_differing k_X6_differing ⟨rfl, rfl⟩ ⟨Nat.le_of_ble_eq_true rfl, Nat.le_of_ble_eq_true rfl⟩ (EM.all (w_Mo G A M N) (w_Mo G A M1 N)) hP hD hS (ci := 6) rfl rfl (at_Mo_0 G A M N) rfl hl.1 rfl (Nat.le_of_ble_eq_true rfl) ⟨Nat.zero_le _, Nat.zero_le _⟩ dX6_agree_96) (EM.all (w_Mo G A M N) (w_Mo G A M1 N)) hP hD hS (fun H locs hP hD hS => ?_)
          refine lv_if_ne (pc := 99) (tgt := 107) hx hb dX6_agree_99 (by decide) (fun h1 => ?_) (fun h1 => ?_)
          · have hf := br_n h1 hf
            exact b_107 _ _ _ _ _ _ _ H locs ls hf hP hD hS (lv_sub hl [1, 2, 3, 4, 5, 6, 7] rfl)
          · have hf := br_y h1 hf
            refine lv_iload (pc := 102) hx hb dX6_agree_102 (lv_at hl 7 rfl) ?_
            refine lv_goto (pc := 104) (tgt := 109) hx hb dX6_agree_104 (by decide) ?_
            exact b_109 _ _ _ _ _ _ _ H locs ls hf hP hD hS (lv_sub hl [1, 2, 3, 4, 5, 7] rfl)
      have b_73 : ∀ (x1 : Int32) (x2 : Int32) (x3 : Int32) (x4 : Int32) (x5 : Int32) (x6 : Int32) (M : CS) (H : Heap) (locs : List Loc) (ls : Array Slot), f_X6_agree_73 (f_X6_agree_36 n36) x1 x2 x3 x4 x5 x6 M N = some (r, M') → va_P G.1 vwCl (w_Mo G A M N) H → va_D B (w_Mo G A M N) → va_S B s.heap H locs → lv_has ls 8 [(0, .ref (A 0)), (1, .int x1), (2, .int x2), (3, .int x3), (4, .int x4), (5, .int x5), (6, .int x6)] → W p l e r_X6_agree s m av below meth cd H locs 0 0 Q (F0 m 73 ls []) := by
        intro x1 x2 x3 x4 x5 x6 M H locs ls hf hP hD hS hl
        unfold f_X6_agree_73 at hf
        refine lv_iconst (pc := 73) (v := (1 : Int32)) hx hb dX6_agree_73 (by decide) ?_
        refine lv_goto (pc := 74) (tgt := 78) hx hb dX6_agree_74 (by decide) ?_
        exact b_78 _ _ _ _ _ _ _ _ H locs ls hf hP hD hS (lv_sub hl [0, 1, 2, 3, 4, 5, 6] rfl)
      have b_77 : ∀ (x1 : Int32) (x2 : Int32) (x3 : Int32) (x4 : Int32) (x5 : Int32) (x6 : Int32) (M : CS) (H : Heap) (locs : List Loc) (ls : Array Slot), f_X6_agree_77 (f_X6_agree_36 n36) x1 x2 x3 x4 x5 x6 M N = some (r, M') → va_P G.1 vwCl (w_Mo G A M N) H → va_D B (w_Mo G A M N) → va_S B s.heap H locs → lv_has ls 8 [(0, .ref (A 0)), (1, .int x1), (2, .int x2), (3, .int x3), (4, .int x4), (5, .int x5), (6, .int x6)] → W p l e r_X6_agree s m av below meth cd H locs 0 0 Q (F0 m 77 ls []) := by
        intro x1 x2 x3 x4 x5 x6 M H locs ls hf hP hD hS hl
        unfold f_X6_agree_77 at hf
        refine lv_iconst (pc := 77) (v := (0 : Int32)) hx hb dX6_agree_77 (by decide) ?_
        exact b_78 _ _ _ _ _ _ _ _ H locs ls hf hP hD hS (lv_sub hl [0, 1, 2, 3, 4, 5, 6] rfl)
      intro x1 x2 x3 x4 x5 x6 M H locs ls hf hP hD hS hl
      rw [f_X6_agree_36] at hf
      refine lv_iload (pc := 36) hx hb dX6_agree_36 (lv_at hl 6 rfl) ?_
      refine lv_iload (pc := 38) hx hb dX6_agree_38 (lv_at hl 4 rfl) ?_
      refine lv_icmp_gt (pc := 40) (tgt := 117) hx hb dX6_agree_40 (by decide) (fun h7 => ?_) (fun h7 => ?_)
      · have hf := br_y h7 hf
        refine lv_iload (pc := 117) hx hb dX6_agree_117 (lv_at hl 5 rfl) ?_
        refine lv_bipush (pc := 119) (v := (-9 : Int32)) hx hb dX6_agree_119 (by decide) ?_
        refine lv_icmp_ne (pc := 121) (tgt := 129) hx hb dX6_agree_121 (by decide) (fun h3 => ?_) (fun h3 => ?_)
        · have hf := br_n h3 hf
          refine lv_aload_n (pc := 129) hx hb dX6_agree_129 rfl (lv_at hl 0 rfl) ?_
          refine lv_iload (pc := 130) hx hb dX6_agree_130 (lv_at hl 5 rfl) ?_
          obtain ⟨r1, hc1, hf⟩ := ob1_some hf
          refine endi X.2.2.2.2 (runS (pc := 132) (As := [.int x5]) (rest := [.ref (A 0)]) X (c_X6_bits G l  H.size x5 r1 hc1) gX6_agree_X6_bits k_X6_bits ⟨rfl, rfl⟩ ⟨Nat.le_of_ble_eq_true rfl, Nat.le_of_ble_eq_true rfl⟩ (EM.nil (w_Mo G A M N)) hP hD hS rfl hl.1 rfl (Nat.le_of_ble_eq_true rfl) ⟨Nat.zero_le _, Nat.zero_le _⟩ dX6_agree_132) (EM.nil (w_Mo G A M N)) hP hD hS (fun H locs hP hD hS => ?_)
          refine lv_iload (pc := 135) hx hb dX6_agree_135 (lv_at hl 5 rfl) ?_
          obtain ⟨r2, M2, hc2, hf⟩ := ob2_some hf
          refine endi X.2.2.2.2 (runV (pc := 137) (As := [.int r1, .int x5]) (rest := []) X (c_X6_answer G l A H.size M N r1 x5 r2 M2 hc2) gX6_agree_X6_answer k_X6_answer ⟨rfl, rfl⟩ ⟨Nat.le_of_ble_eq_true rfl, Nat.le_of_ble_eq_true rfl⟩ (EM.all (w_Mo G A M N) (w_Mo G A M2 N)) hP hD hS (ci := 6) rfl rfl (at_Mo_0 G A M N) rfl hl.1 rfl (Nat.le_of_ble_eq_true rfl) ⟨Nat.zero_le _, Nat.zero_le _⟩ dX6_agree_137) (EM.all (w_Mo G A M N) (w_Mo G A M2 N)) hP hD hS (fun H locs hP hD hS => ?_)
          exact b_140 _ _ H locs ls hf hP hD hS (lv_sub hl [] rfl)
        · have hf := br_y h3 hf
          refine lv_bipush (pc := 124) (v := (-9 : Int32)) hx hb dX6_agree_124 (by decide) ?_
          refine lv_goto (pc := 126) (tgt := 140) hx hb dX6_agree_126 (by decide) ?_
          exact b_140 _ _ H locs ls hf hP hD hS (lv_sub hl [] rfl)
      · have hf := br_n h7 hf
        refine lv_iload (pc := 43) hx hb dX6_agree_43 (lv_at hl 6 rfl) ?_
        refine lv_iload (pc := 45) hx hb dX6_agree_45 (lv_at hl 4 rfl) ?_
        refine lv_iconst (pc := 47) (v := (-1 : Int32)) hx hb dX6_agree_47 (by decide) ?_
        refine lv_ixor (pc := 48) hx hb dX6_agree_48 ?_
        refine lv_iand (pc := 49) hx hb dX6_agree_49 ?_
        refine lv_if_ne (pc := 50) (tgt := 77) hx hb dX6_agree_50 (by decide) (fun h6 => ?_) (fun h6 => ?_)
        · have hf := br_n h6 hf
          exact b_77 _ _ _ _ _ _ _ H locs ls hf hP hD hS (lv_sub hl [0, 1, 2, 3, 4, 5, 6] rfl)
        · have hf := br_y h6 hf
          refine lv_iload (pc := 53) hx hb dX6_agree_53 (lv_at hl 5 rfl) ?_
          refine lv_bipush (pc := 55) (v := (-9 : Int32)) hx hb dX6_agree_55 (by decide) ?_
          refine lv_icmp_eq (pc := 57) (tgt := 73) hx hb dX6_agree_57 (by decide) (fun h5 => ?_) (fun h5 => ?_)
          · have hf := br_y h5 hf
            exact b_73 _ _ _ _ _ _ _ H locs ls hf hP hD hS (lv_sub hl [0, 1, 2, 3, 4, 5, 6] rfl)
          · have hf := br_n h5 hf
            refine lv_iload (pc := 60) hx hb dX6_agree_60 (lv_at hl 6 rfl) ?_
            obtain ⟨r3, hc3, hf⟩ := ob1_some hf
            refine endi X.2.2.2.2 (runS (pc := 62) (As := [.int x6]) (rest := []) X (c_X6_bits G l  H.size x6 r3 hc3) gX6_agree_X6_bits k_X6_bits ⟨rfl, rfl⟩ ⟨Nat.le_of_ble_eq_true rfl, Nat.le_of_ble_eq_true rfl⟩ (EM.nil (w_Mo G A M N)) hP hD hS rfl hl.1 rfl (Nat.le_of_ble_eq_true rfl) ⟨Nat.zero_le _, Nat.zero_le _⟩ dX6_agree_62) (EM.nil (w_Mo G A M N)) hP hD hS (fun H locs hP hD hS => ?_)
            refine lv_iload (pc := 65) hx hb dX6_agree_65 (lv_at hl 5 rfl) ?_
            obtain ⟨r4, hc4, hf⟩ := ob1_some hf
            refine endi X.2.2.2.2 (runS (pc := 67) (As := [.int x5]) (rest := [.int r3]) X (c_X6_bits G l  H.size x5 r4 hc4) gX6_agree_X6_bits k_X6_bits ⟨rfl, rfl⟩ ⟨Nat.le_of_ble_eq_true rfl, Nat.le_of_ble_eq_true rfl⟩ (EM.nil (w_Mo G A M N)) hP hD hS rfl hl.1 rfl (Nat.le_of_ble_eq_true rfl) ⟨Nat.zero_le _, Nat.zero_le _⟩ dX6_agree_67) (EM.nil (w_Mo G A M N)) hP hD hS (fun H locs hP hD hS => ?_)
            refine lv_icmp_ge (pc := 70) (tgt := 77) hx hb dX6_agree_70 (by decide) (fun h4 => ?_) (fun h4 => ?_)
            · have hf := br_y h4 hf
              exact b_77 _ _ _ _ _ _ _ H locs ls hf hP hD hS (lv_sub hl [0, 1, 2, 3, 4, 5, 6] rfl)
            · have hf := br_n h4 hf
              exact b_73 _ _ _ _ _ _ _ H locs ls hf hP hD hS (lv_sub hl [0, 1, 2, 3, 4, 5, 6] rfl)
  unfold f_X6_agree at hf
  refine lv_iload_n (pc := 0) hx hb dX6_agree_0 rfl (lv_at hl 1 rfl) ?_
  refine lv_iload_n (pc := 1) hx hb dX6_agree_1 rfl (lv_at hl 2 rfl) ?_
  obtain ⟨r1, hc1, hf⟩ := ob1_some hf
  refine endi X.2.2.2.2 (runS (pc := 2) (As := [.int x1, .int x2]) (rest := []) X (c_X6_areTowns G l  H.size x1 x2 r1 hc1) gX6_agree_X6_areTowns k_X6_areTowns ⟨rfl, rfl⟩ ⟨Nat.le_of_ble_eq_true rfl, Nat.le_of_ble_eq_true rfl⟩ (EM.nil (w_Mo G A M N)) hP hD hS rfl hl.1 rfl (Nat.le_of_ble_eq_true rfl) ⟨Nat.zero_le _, Nat.zero_le _⟩ dX6_agree_2) (EM.nil (w_Mo G A M N)) hP hD hS (fun H locs hP hD hS => ?_)
  refine lv_if_eq (pc := 5) (tgt := 21) hx hb dX6_agree_5 (by decide) (fun h9 => ?_) (fun h9 => ?_)
  · have hf := br_y h9 hf
    exact b_21 _ H locs ls hf hP hD hS (lv_sub hl [] rfl)
  · have hf := br_n h9 hf
    refine lv_iload_n (pc := 8) hx hb dX6_agree_8 rfl (lv_at hl 3 rfl) ?_
    refine lv_i2l (pc := 9) (v := (x3).toInt64) hx hb dX6_agree_9 rfl ?_
    refine lv_iload_n (pc := 10) hx hb dX6_agree_10 rfl (lv_at hl 2 rfl) ?_
    refine lv_i2l (pc := 11) (v := (x2).toInt64) hx hb dX6_agree_11 rfl ?_
    refine lv_ldc2 (pc := 12) (v := 19) hx hb X.1.2.2.2.1 (X.1.2.2.2.2 _ (List.mem_cons_of_mem _ (List.mem_append_left _ (List.mem_append_left _ (List.mem_of_getElem? (i := 0) rfl))))) dX6_agree_12 ?_
    obtain ⟨r2, hc2, hf⟩ := ob1_some hf
    refine endi X.2.2.2.2 (runS (pc := 15) (As := [.long ((x3).toInt64), .long ((x2).toInt64), .long (19 : Int64)]) (rest := []) X (c_X6_in G l  H.size ((x3).toInt64) ((x2).toInt64) (19 : Int64) r2 hc2) gX6_agree_X6_in k_X6_in ⟨rfl, rfl⟩ ⟨Nat.le_of_ble_eq_true rfl, Nat.le_of_ble_eq_true rfl⟩ (EM.nil (w_Mo G A M N)) hP hD hS rfl hl.1 rfl (Nat.le_of_ble_eq_true rfl) ⟨Nat.zero_le _, Nat.zero_le _⟩ dX6_agree_15) (EM.nil (w_Mo G A M N)) hP hD hS (fun H locs hP hD hS => ?_)
    refine lv_if_ne (pc := 18) (tgt := 23) hx hb dX6_agree_18 (by decide) (fun h8 => ?_) (fun h8 => ?_)
    · have hf := br_n h8 hf
      refine lv_aload_n (pc := 23) hx hb dX6_agree_23 rfl (lv_at hl 0 rfl) ?_
      obtain ⟨r3, hc3, hf⟩ := ob1_some hf
      refine endi X.2.2.2.2 (runV (pc := 24) (As := []) (rest := []) X (c_X6_live G l A H.size M N r3 hc3) gX6_agree_X6_live k_X6_live ⟨rfl, rfl⟩ ⟨Nat.le_of_ble_eq_true rfl, Nat.le_of_ble_eq_true rfl⟩ (EM.all (w_Mo G A M N) (w_Mo G A M N)) hP hD hS (ci := 6) rfl rfl (at_Mo_0 G A M N) rfl hl.1 rfl (Nat.le_of_ble_eq_true rfl) ⟨Nat.zero_le _, Nat.zero_le _⟩ dX6_agree_24) (EM.all (w_Mo G A M N) (w_Mo G A M N)) hP hD hS (fun H locs hP hD hS => ?_)
      refine lv_istore (pc := 27) (lv' := [(4, .int r3), (0, .ref (A 0)), (1, .int x1), (2, .int x2), (3, .int x3)]) hx hb dX6_agree_27 hl (by decide) rfl (fun ls hl => ?_)
      refine lv_bipush (pc := 29) (v := (-9 : Int32)) hx hb dX6_agree_29 (by decide) ?_
      refine lv_istore (pc := 31) (lv' := [(5, .int (-9 : Int32)), (4, .int r3), (0, .ref (A 0)), (1, .int x1), (2, .int x2), (3, .int x3)]) hx hb dX6_agree_31 hl (by decide) rfl (fun ls hl => ?_)
      refine lv_iconst (pc := 33) (v := (0 : Int32)) hx hb dX6_agree_33 (by decide) ?_
      refine lv_istore (pc := 34) (lv' := [(6, .int (0 : Int32)), (5, .int (-9 : Int32)), (4, .int r3), (0, .ref (A 0)), (1, .int x1), (2, .int x2), (3, .int x3)]) hx hb dX6_agree_34 hl (by decide) rfl (fun ls hl => ?_)
      exact l_36 FU _ _ _ _ _ _ _ H locs ls hf hP hD hS (lv_sub hl [3, 4, 5, 6, 2, 1, 0] rfl)
    · have hf := br_y h8 hf
      exact b_21 _ H locs ls hf hP hD hS (lv_sub hl [] rfl)
