def r_X5_digest : Room := { frames := 6, cells := 0, slots := 0, locals := 147 }
set_option maxHeartbeats 4000000 in
set_option maxRecDepth 100000 in
theorem c_X5_digest (G : GT) (l : Launch) (A : Nat → Nat) (sz : Nat) (I : Nat → CS) (J : Nat → JS) (r : Int64) (I' : Nat → CS) (hf : f_X5_digest I J = some (r, I')) : MTl l yX5_digest wsX5_digest r_X5_digest [.ref (A 0)] G (w_Tw G A I J) (w_Tw G A I' J) sz r := by
  refine MTl.of (cc := cX5_digest) (maxL := 4) (by decide +kernel) rfl (Nat.le_of_ble_eq_true rfl) (fun p e s m av below meth cd Q B H locs ls X hret hl hP hD hS => ?_)
  have hx := X.1.1
  have hb := X.1.2.1
  have hl : lv_has ls 4 [(0, .ref (A 0))] := hl
  have l_42 : ∀ (n42 : Nat), ∀ (x1 : Int64) (x3 : Int32) (I : Nat → CS) (H : Heap) (locs : List Loc) (ls : Array Slot), f_X5_digest_42 n42 x1 x3 I J = some (r, I') → va_P G.1 vwCl (w_Tw G A I J) H → va_D B (w_Tw G A I J) → va_S B s.heap H locs → lv_has ls 4 [(0, .ref (A 0)), (1, .long x1), (3, .int x3)] → W p l e r_X5_digest s m av below meth cd H locs 0 0 Q (F0 m 42 ls []) := by
    intro n42
    induction n42 with
    | zero =>
      intro x1 x3 I H locs ls hf hP hD hS hl
      rw [f_X5_digest_42] at hf
      cases hf
    | succ n42 ih42 =>
      have b_73 : ∀ (x3 : Int32) (t0 : Int64) (t1 : Int32) (I : Nat → CS) (H : Heap) (locs : List Loc) (ls : Array Slot), f_X5_digest_73 (f_X5_digest_42 n42) x3 t0 t1 I J = some (r, I') → va_P G.1 vwCl (w_Tw G A I J) H → va_D B (w_Tw G A I J) → va_S B s.heap H locs → lv_has ls 4 [(0, .ref (A 0)), (3, .int x3)] → W p l e r_X5_digest s m av below meth cd H locs 0 0 Q (F0 m 73 ls [.int t1, .long t0]) := by
        intro x3 t0 t1 I H locs ls hf hP hD hS hl
        unfold f_X5_digest_73 at hf
        refine lv_i2l (pc := 73) (v := (t1).toInt64) hx hb dX5_digest_73 rfl ?_
        refine lv_ladd (pc := 74) hx hb dX5_digest_74 ?_
        refine lv_lstore_n (pc := 75) (lv' := [(1, .long (t0 + ((t1).toInt64))), (0, .ref (A 0)), (3, .int x3)]) hx hb dX5_digest_75 rfl hl (by decide) rfl (fun ls hl => ?_)
        refine lv_iinc (pc := 76) (v := (x3 + (1 : Int32))) (lv' := [(3, .int (x3 + (1 : Int32))), (1, .long (t0 + ((t1).toInt64))), (0, .ref (A 0))]) hx hb dX5_digest_76 hl (k := 2) rfl rfl (by decide) rfl (fun ls hl => ?_)
        refine lv_goto (pc := 79) (tgt := 42) hx hb dX5_digest_79 (by decide) ?_
        exact ih42 _ _ _ H locs ls hf hP hD hS (lv_sub hl [2, 1, 0] rfl)
      intro x1 x3 I H locs ls hf hP hD hS hl
      rw [f_X5_digest_42] at hf
      refine lv_iload_n (pc := 42) hx hb dX5_digest_42 rfl (lv_at hl 2 rfl) ?_
      refine lv_iconst (pc := 43) (v := (3 : Int32)) hx hb dX5_digest_43 (by decide) ?_
      refine lv_icmp_ge (pc := 44) (tgt := 82) hx hb dX5_digest_44 (by decide) (fun h2 => ?_) (fun h2 => ?_)
      · have hf := br_y h2 hf
        refine lv_aload_n (pc := 82) hx hb dX5_digest_82 rfl (lv_at hl 0 rfl) ?_
        refine wget (pc := 83) X (fun _ h9 => List.mem_cons_of_mem _ (List.mem_append_left _ (List.mem_append_left _ (List.mem_append_right _ h9)))) hP 0 (at_Tw_0 G A I J) rfl 0 (by decide) (List.mem_cons_of_mem _ (List.mem_append_left _ (List.mem_append_left _ (List.mem_append_left _ (List.mem_append_left _ (List.mem_of_getElem? (i := 4) rfl)))))) rfl (v := .ref (A 1)) rfl dX5_digest_83 ?_
        refine lv_lload_n (pc := 86) hx hb dX5_digest_86 rfl (lv_at hl 1 rfl) ?_
        obtain ⟨r1, hc1, hf⟩ := ob1_some hf
        refine endl X.2.2.2.2 (runV (pc := 87) (As := [.long x1]) (rest := []) X (c_X3_digestOn_r G l (fun k => A (1 + k)) H.size (I 5) x1 r1 hc1) gX5_digest_X3_digestOn k_X3_digestOn ⟨rfl, rfl⟩ ⟨Nat.le_of_ble_eq_true rfl, Nat.le_of_ble_eq_true rfl⟩ (em_Tw_S6_1 G A I J ) hP hD hS (ci := 3) rfl rfl (at_S6_0 G (fun k => A (1 + k)) (I 5)) rfl hl.1 rfl (Nat.le_of_ble_eq_true rfl) ⟨Nat.zero_le _, Nat.zero_le _⟩ dX5_digest_87) (em_Tw_S6_1 G A I J ) hP hD hS (fun H locs hP hD hS => ?_)
        refine lv_lstore_n (pc := 90) (lv' := [(1, .long r1), (0, .ref (A 0)), (3, .int x3)]) hx hb dX5_digest_90 rfl hl (by decide) rfl (fun ls hl => ?_)
        refine lv_aload_n (pc := 91) hx hb dX5_digest_91 rfl (lv_at hl 1 rfl) ?_
        refine wget (pc := 92) X (fun _ h9 => List.mem_cons_of_mem _ (List.mem_append_left _ (List.mem_append_left _ (List.mem_append_right _ h9)))) hP 0 (at_Tw_0 G A I J) rfl 1 (by decide) (List.mem_cons_of_mem _ (List.mem_append_left _ (List.mem_append_left _ (List.mem_append_left _ (List.mem_append_left _ (List.mem_of_getElem? (i := 5) rfl)))))) rfl (v := .ref (A 10)) rfl dX5_digest_92 ?_
        refine lv_lload_n (pc := 95) hx hb dX5_digest_95 rfl (lv_at hl 0 rfl) ?_
        obtain ⟨r2, hc2, hf⟩ := ob1_some hf
        refine endl X.2.2.2.2 (runV (pc := 96) (As := [.long r1]) (rest := []) X (c_X3_digestOn_t G l (fun k => A (10 + k)) H.size (I 6) r1 r2 hc2) gX5_digest_X3_digestOn k_X3_digestOn ⟨rfl, rfl⟩ ⟨Nat.le_of_ble_eq_true rfl, Nat.le_of_ble_eq_true rfl⟩ (em_Tw_S4_10 G A I J ) hP hD hS (ci := 3) rfl rfl (at_S4_0 G (fun k => A (10 + k)) (I 6)) rfl hl.1 rfl (Nat.le_of_ble_eq_true rfl) ⟨Nat.zero_le _, Nat.zero_le _⟩ dX5_digest_96) (em_Tw_S4_10 G A I J ) hP hD hS (fun H locs hP hD hS => ?_)
        cases hf
        exact hret _ _ _ _ dX5_digest_99 hP hD hS
      · have hf := br_n h2 hf
        refine lv_ldc2 (pc := 47) (v := 31) hx hb X.1.2.2.2.1 (X.1.2.2.2.2 _ (List.mem_cons_of_mem _ (List.mem_append_left _ (List.mem_append_left _ (List.mem_append_left _ (List.mem_append_left _ (List.mem_of_getElem? (i := 1) rfl))))))) dX5_digest_47 ?_
        refine lv_lload_n (pc := 50) hx hb dX5_digest_50 rfl (lv_at hl 1 rfl) ?_
        refine lv_lmul (pc := 51) hx hb dX5_digest_51 ?_
        refine lv_aload_n (pc := 52) hx hb dX5_digest_52 rfl (lv_at hl 0 rfl) ?_
        refine lv_iload_n (pc := 53) hx hb dX5_digest_53 rfl (lv_at hl 2 rfl) ?_
        obtain ⟨r3, hc3, hf⟩ := ob1_some hf
        refine endi X.2.2.2.2 (runV (pc := 54) (As := [.int x3]) (rest := [.long ((31 : Int64) * x1)]) X (c_X5_isKept G l A H.size I J x3 r3 hc3) gX5_digest_X5_isKept k_X5_isKept ⟨rfl, rfl⟩ ⟨Nat.le_of_ble_eq_true rfl, Nat.le_of_ble_eq_true rfl⟩ (EM.all (w_Tw G A I J) (w_Tw G A I J)) hP hD hS (ci := 5) rfl rfl (at_Tw_0 G A I J) rfl hl.1 rfl (Nat.le_of_ble_eq_true rfl) ⟨Nat.zero_le _, Nat.zero_le _⟩ dX5_digest_54) (EM.all (w_Tw G A I J) (w_Tw G A I J)) hP hD hS (fun H locs hP hD hS => ?_)
        refine lv_if_eq (pc := 57) (tgt := 72) hx hb dX5_digest_57 (by decide) (fun h1 => ?_) (fun h1 => ?_)
        · have hf := br_y h1 hf
          refine lv_iconst (pc := 72) (v := (-1 : Int32)) hx hb dX5_digest_72 (by decide) ?_
          exact b_73 _ _ _ _ H locs ls hf hP hD hS (lv_sub hl [0, 2] rfl)
        · have hf := br_n h1 hf
          refine lv_aload_n (pc := 60) hx hb dX5_digest_60 rfl (lv_at hl 0 rfl) ?_
          refine wget (pc := 61) X (fun _ h9 => List.mem_cons_of_mem _ (List.mem_append_left _ (List.mem_append_left _ (List.mem_append_right _ h9)))) hP 0 (at_Tw_0 G A I J) rfl 6 (by decide) (List.mem_cons_of_mem _ (List.mem_append_left _ (List.mem_append_left _ (List.mem_append_left _ (List.mem_append_left _ (List.mem_of_getElem? (i := 3) rfl)))))) rfl (v := .ref (A 41)) rfl dX5_digest_61 ?_
          refine lv_iload_n (pc := 64) hx hb dX5_digest_64 rfl (lv_at hl 2 rfl) ?_
          obtain ⟨hi, hf⟩ := ck_some hf
          refine waaldC (pc := 65) X hP 41 (at_Tw_41 G A I J) hi (B := fun i => A (42 + 10 * i)) (fun i h => by rcases (show i = 0 ∨ i = 1 ∨ i = 2 by omega) with rfl | rfl | rfl <;> rfl) dX5_digest_65 ?_
          have hj := inb_lt hi
          generalize x3.toNatClampNeg = jj at hf hj ⊢
          rcases (show jj = 0 ∨ jj = 1 ∨ jj = 2 by omega) with rfl | rfl | rfl
          · refine wgetN (pc := 66) X (fun _ h9 => List.mem_cons_of_mem _ (List.mem_append_left _ (List.mem_append_right _ h9))) hP 42 (at_Tw_42 G A I J) rfl 4 (by decide) (List.mem_of_getElem? (i := 11) rfl) rfl (v := .int ((I 2) 4 0)) rfl dX5_digest_66 ?_
            refine lv_goto (pc := 69) (tgt := 73) hx hb dX5_digest_69 (by decide) ?_
            exact b_73 _ _ _ _ H locs ls hf hP hD hS (lv_sub hl [0, 2] rfl)
          · refine wgetN (pc := 66) X (fun _ h9 => List.mem_cons_of_mem _ (List.mem_append_left _ (List.mem_append_right _ h9))) hP 52 (at_Tw_52 G A I J) rfl 4 (by decide) (List.mem_of_getElem? (i := 11) rfl) rfl (v := .int ((I 3) 4 0)) rfl dX5_digest_66 ?_
            refine lv_goto (pc := 69) (tgt := 73) hx hb dX5_digest_69 (by decide) ?_
            exact b_73 _ _ _ _ H locs ls hf hP hD hS (lv_sub hl [0, 2] rfl)
          · refine wgetN (pc := 66) X (fun _ h9 => List.mem_cons_of_mem _ (List.mem_append_left _ (List.mem_append_right _ h9))) hP 62 (at_Tw_62 G A I J) rfl 4 (by decide) (List.mem_of_getElem? (i := 11) rfl) rfl (v := .int ((I 4) 4 0)) rfl dX5_digest_66 ?_
            refine lv_goto (pc := 69) (tgt := 73) hx hb dX5_digest_69 (by decide) ?_
            exact b_73 _ _ _ _ H locs ls hf hP hD hS (lv_sub hl [0, 2] rfl)
  have l_6 : ∀ (n6 : Nat), ∀ (x1 : Int64) (x3 : Int32) (I : Nat → CS) (H : Heap) (locs : List Loc) (ls : Array Slot), f_X5_digest_6 n6 x1 x3 I J = some (r, I') → va_P G.1 vwCl (w_Tw G A I J) H → va_D B (w_Tw G A I J) → va_S B s.heap H locs → lv_has ls 4 [(0, .ref (A 0)), (1, .long x1), (3, .int x3)] → W p l e r_X5_digest s m av below meth cd H locs 0 0 Q (F0 m 6 ls []) := by
    intro n6
    induction n6 with
    | zero =>
      intro x1 x3 I H locs ls hf hP hD hS hl
      rw [f_X5_digest_6] at hf
      cases hf
    | succ n6 ih6 =>
      intro x1 x3 I H locs ls hf hP hD hS hl
      rw [f_X5_digest_6] at hf
      refine lv_iload_n (pc := 6) hx hb dX5_digest_6 rfl (lv_at hl 2 rfl) ?_
      refine lv_bipush (pc := 7) (v := (9 : Int32)) hx hb dX5_digest_7 (by decide) ?_
      refine lv_icmp_ge (pc := 9) (tgt := 31) hx hb dX5_digest_9 (by decide) (fun h3 => ?_) (fun h3 => ?_)
      · have hf := br_y h3 hf
        refine lv_aload_n (pc := 31) hx hb dX5_digest_31 rfl (lv_at hl 0 rfl) ?_
        refine wget (pc := 32) X (fun _ h9 => List.mem_cons_of_mem _ (List.mem_append_left _ (List.mem_append_left _ (List.mem_append_right _ h9)))) hP 0 (at_Tw_0 G A I J) rfl 5 (by decide) (List.mem_cons_of_mem _ (List.mem_append_left _ (List.mem_append_left _ (List.mem_append_left _ (List.mem_append_left _ (List.mem_of_getElem? (i := 2) rfl)))))) rfl (v := .ref (A 31)) rfl dX5_digest_32 ?_
        refine lv_lload_n (pc := 35) hx hb dX5_digest_35 rfl (lv_at hl 1 rfl) ?_
        obtain ⟨r1, c1, hc1, hf⟩ := ob2_some hf
        refine endl X.2.2.2.2 (runV (pc := 36) (As := [.long x1]) (rest := []) X (c_X0_digestOn G l (fun k => A (31 + k)) H.size (I 0) x1 r1 c1 hc1) gX5_digest_X0_digestOn k_X0_digestOn ⟨rfl, rfl⟩ ⟨Nat.le_of_ble_eq_true rfl, Nat.le_of_ble_eq_true rfl⟩ (em_Tw_Ch_31_c G A I J c1) hP hD hS (ci := 0) rfl rfl (at_Ch_0 G (fun k => A (31 + k)) (I 0)) rfl hl.1 rfl (Nat.le_of_ble_eq_true rfl) ⟨Nat.zero_le _, Nat.zero_le _⟩ dX5_digest_36) (em_Tw_Ch_31_c G A I J c1) hP hD hS (fun H locs hP hD hS => ?_)
        refine lv_lstore_n (pc := 39) (lv' := [(1, .long r1), (0, .ref (A 0)), (3, .int x3)]) hx hb dX5_digest_39 rfl hl (by decide) rfl (fun ls hl => ?_)
        refine lv_iconst (pc := 40) (v := (0 : Int32)) hx hb dX5_digest_40 (by decide) ?_
        refine lv_istore_n (pc := 41) (lv' := [(3, .int (0 : Int32)), (1, .long r1), (0, .ref (A 0))]) hx hb dX5_digest_41 rfl hl (by decide) rfl (fun ls hl => ?_)
        exact l_42 FU _ _ _ H locs ls hf hP hD hS (lv_sub hl [2, 1, 0] rfl)
      · have hf := br_n h3 hf
        refine lv_ldc2 (pc := 12) (v := 31) hx hb X.1.2.2.2.1 (X.1.2.2.2.2 _ (List.mem_cons_of_mem _ (List.mem_append_left _ (List.mem_append_left _ (List.mem_append_left _ (List.mem_append_left _ (List.mem_of_getElem? (i := 1) rfl))))))) dX5_digest_12 ?_
        refine lv_lload_n (pc := 15) hx hb dX5_digest_15 rfl (lv_at hl 1 rfl) ?_
        refine lv_lmul (pc := 16) hx hb dX5_digest_16 ?_
        refine lv_aload_n (pc := 17) hx hb dX5_digest_17 rfl (lv_at hl 0 rfl) ?_
        refine lv_iload_n (pc := 18) hx hb dX5_digest_18 rfl (lv_at hl 2 rfl) ?_
        obtain ⟨r2, hc2, hf⟩ := ob1_some hf
        refine endi X.2.2.2.2 (runV (pc := 19) (As := [.int x3]) (rest := [.long ((31 : Int64) * x1)]) X (c_X5_howMany G l A H.size I J x3 r2 hc2) gX5_digest_X5_howMany k_X5_howMany ⟨rfl, rfl⟩ ⟨Nat.le_of_ble_eq_true rfl, Nat.le_of_ble_eq_true rfl⟩ (EM.all (w_Tw G A I J) (w_Tw G A I J)) hP hD hS (ci := 5) rfl rfl (at_Tw_0 G A I J) rfl hl.1 rfl (Nat.le_of_ble_eq_true rfl) ⟨Nat.zero_le _, Nat.zero_le _⟩ dX5_digest_19) (EM.all (w_Tw G A I J) (w_Tw G A I J)) hP hD hS (fun H locs hP hD hS => ?_)
        refine lv_i2l (pc := 22) (v := (r2).toInt64) hx hb dX5_digest_22 rfl ?_
        refine lv_ladd (pc := 23) hx hb dX5_digest_23 ?_
        refine lv_lstore_n (pc := 24) (lv' := [(1, .long (((31 : Int64) * x1) + ((r2).toInt64))), (0, .ref (A 0)), (3, .int x3)]) hx hb dX5_digest_24 rfl hl (by decide) rfl (fun ls hl => ?_)
        refine lv_iinc (pc := 25) (v := (x3 + (1 : Int32))) (lv' := [(3, .int (x3 + (1 : Int32))), (1, .long (((31 : Int64) * x1) + ((r2).toInt64))), (0, .ref (A 0))]) hx hb dX5_digest_25 hl (k := 2) rfl rfl (by decide) rfl (fun ls hl => ?_)
        refine lv_goto (pc := 28) (tgt := 6) hx hb dX5_digest_28 (by decide) ?_
        exact ih6 _ _ _ H locs ls hf hP hD hS (lv_sub hl [2, 1, 0] rfl)
  unfold f_X5_digest at hf
  refine lv_ldc2 (pc := 0) (v := 17) hx hb X.1.2.2.2.1 (X.1.2.2.2.2 _ (List.mem_cons_of_mem _ (List.mem_append_left _ (List.mem_append_left _ (List.mem_append_left _ (List.mem_append_left _ (List.mem_of_getElem? (i := 0) rfl))))))) dX5_digest_0 ?_
  refine lv_lstore_n (pc := 3) (lv' := [(1, .long (17 : Int64)), (0, .ref (A 0))]) hx hb dX5_digest_3 rfl hl (by decide) rfl (fun ls hl => ?_)
  refine lv_iconst (pc := 4) (v := (0 : Int32)) hx hb dX5_digest_4 (by decide) ?_
  refine lv_istore_n (pc := 5) (lv' := [(3, .int (0 : Int32)), (1, .long (17 : Int64)), (0, .ref (A 0))]) hx hb dX5_digest_5 rfl hl (by decide) rfl (fun ls hl => ?_)
  exact l_6 FU _ _ _ H locs ls hf hP hD hS (lv_sub hl [2, 1, 0] rfl)
def r_X5_does : Room := { frames := 4, cells := 0, slots := 0, locals := 99 }
set_option maxHeartbeats 4000000 in
set_option maxRecDepth 100000 in
theorem c_X5_does (G : GT) (l : Launch) (A : Nat → Nat) (sz : Nat) (I : Nat → CS) (J : Nat → JS) (x1 : Int32) (x2 : Int32) (x3 : Int32) (r : Int32) (I' : Nat → CS) (hf : f_X5_does I J x1 x2 x3 = some (r, I')) : MTi l yX5_does wsX5_does r_X5_does [.ref (A 0), .int x1, .int x2, .int x3] G (w_Tw G A I J) (w_Tw G A I' J) sz r := by
  refine MTi.of (cc := cX5_does) (maxL := 4) (by decide +kernel) rfl (Nat.le_of_ble_eq_true rfl) (fun p e s m av below meth cd Q B H locs ls X hret hl hP hD hS => ?_)
  have hx := X.1.1
  have hb := X.1.2.1
  have hl : lv_has ls 4 [(0, .ref (A 0)), (1, .int x1), (2, .int x2), (3, .int x3)] := hl
  have b_25 : ∀ (I : Nat → CS) (H : Heap) (locs : List Loc) (ls : Array Slot), f_X5_does_25 I J = some (r, I') → va_P G.1 vwCl (w_Tw G A I J) H → va_D B (w_Tw G A I J) → va_S B s.heap H locs → lv_has ls 4 [] → W p l e r_X5_does s m av below meth cd H locs 0 0 Q (F0 m 25 ls []) := by
    intro I H locs ls hf hP hD hS hl
    unfold f_X5_does_25 at hf
    refine lv_iconst (pc := 25) (v := (-1 : Int32)) hx hb dX5_does_25 (by decide) ?_
    cases hf
    exact hret _ _ _ _ dX5_does_26 hP hD hS
  unfold f_X5_does at hf
  refine lv_iload_n (pc := 0) hx hb dX5_does_0 rfl (lv_at hl 1 rfl) ?_
  obtain ⟨r1, hc1, hf⟩ := ob1_some hf
  refine endi X.2.2.2.2 (runS (pc := 1) (As := [.int x1]) (rest := []) X (c_X5_isTown G l  H.size x1 r1 hc1) gX5_does_X5_isTown k_X5_isTown ⟨rfl, rfl⟩ ⟨Nat.le_of_ble_eq_true rfl, Nat.le_of_ble_eq_true rfl⟩ (EM.nil (w_Tw G A I J)) hP hD hS rfl hl.1 rfl (Nat.le_of_ble_eq_true rfl) ⟨Nat.zero_le _, Nat.zero_le _⟩ dX5_does_1) (EM.nil (w_Tw G A I J)) hP hD hS (fun H locs hP hD hS => ?_)
  refine lv_if_eq (pc := 4) (tgt := 25) hx hb dX5_does_4 (by decide) (fun h3 => ?_) (fun h3 => ?_)
  · have hf := br_y h3 hf
    exact b_25 _ H locs ls hf hP hD hS (lv_sub hl [] rfl)
  · have hf := br_n h3 hf
    refine lv_iload_n (pc := 7) hx hb dX5_does_7 rfl (lv_at hl 2 rfl) ?_
    obtain ⟨r2, hc2, hf⟩ := ob1_some hf
    refine endi X.2.2.2.2 (runS (pc := 8) (As := [.int x2]) (rest := []) X (c_X5_isDay G l  H.size x2 r2 hc2) gX5_does_X5_isDay k_X5_isDay ⟨rfl, rfl⟩ ⟨Nat.le_of_ble_eq_true rfl, Nat.le_of_ble_eq_true rfl⟩ (EM.nil (w_Tw G A I J)) hP hD hS rfl hl.1 rfl (Nat.le_of_ble_eq_true rfl) ⟨Nat.zero_le _, Nat.zero_le _⟩ dX5_does_8) (EM.nil (w_Tw G A I J)) hP hD hS (fun H locs hP hD hS => ?_)
    refine lv_if_eq (pc := 11) (tgt := 25) hx hb dX5_does_11 (by decide) (fun h2 => ?_) (fun h2 => ?_)
    · have hf := br_y h2 hf
      exact b_25 _ H locs ls hf hP hD hS (lv_sub hl [] rfl)
    · have hf := br_n h2 hf
      refine lv_aload_n (pc := 14) hx hb dX5_does_14 rfl (lv_at hl 0 rfl) ?_
      refine wget (pc := 15) X (fun _ h9 => List.mem_cons_of_mem _ (List.mem_append_left _ (List.mem_append_right _ h9))) hP 0 (at_Tw_0 G A I J) rfl 5 (by decide) (List.mem_cons_of_mem _ (List.mem_append_left _ (List.mem_append_left _ (List.mem_append_left _ (List.mem_of_getElem? (i := 0) rfl))))) rfl (v := .ref (A 31)) rfl dX5_does_15 ?_
      refine lv_iload_n (pc := 18) hx hb dX5_does_18 rfl (lv_at hl 3 rfl) ?_
      obtain ⟨r3, hc3, hf⟩ := ob1_some hf
      refine endi X.2.2.2.2 (runV (pc := 19) (As := [.int x3]) (rest := []) X (c_X0_isPerson G l (fun k => A (31 + k)) H.size (I 0) x3 r3 hc3) gX5_does_X0_isPerson k_X0_isPerson ⟨rfl, rfl⟩ ⟨Nat.le_of_ble_eq_true rfl, Nat.le_of_ble_eq_true rfl⟩ (em_Tw_Ch_31 G A I J ) hP hD hS (ci := 0) rfl rfl (at_Ch_0 G (fun k => A (31 + k)) (I 0)) rfl hl.1 rfl (Nat.le_of_ble_eq_true rfl) ⟨Nat.zero_le _, Nat.zero_le _⟩ dX5_does_19) (em_Tw_Ch_31 G A I J ) hP hD hS (fun H locs hP hD hS => ?_)
      refine lv_if_ne (pc := 22) (tgt := 27) hx hb dX5_does_22 (by decide) (fun h1 => ?_) (fun h1 => ?_)
      · have hf := br_n h1 hf
        refine lv_aload_n (pc := 27) hx hb dX5_does_27 rfl (lv_at hl 0 rfl) ?_
        refine wget (pc := 28) X (fun _ h9 => List.mem_cons_of_mem _ (List.mem_append_left _ (List.mem_append_right _ h9))) hP 0 (at_Tw_0 G A I J) rfl 5 (by decide) (List.mem_cons_of_mem _ (List.mem_append_left _ (List.mem_append_left _ (List.mem_append_left _ (List.mem_of_getElem? (i := 0) rfl))))) rfl (v := .ref (A 31)) rfl dX5_does_28 ?_
        refine lv_iload_n (pc := 31) hx hb dX5_does_31 rfl (lv_at hl 1 rfl) ?_
        refine lv_iload_n (pc := 32) hx hb dX5_does_32 rfl (lv_at hl 2 rfl) ?_
        refine lv_iload_n (pc := 33) hx hb dX5_does_33 rfl (lv_at hl 3 rfl) ?_
        obtain ⟨r4, c4, hc4, hf⟩ := ob2_some hf
        refine endi X.2.2.2.2 (runV (pc := 34) (As := [.int x1, .int x2, .int x3]) (rest := []) X (c_X0_done G l (fun k => A (31 + k)) H.size (I 0) x1 x2 x3 r4 c4 hc4) gX5_does_X0_done k_X0_done ⟨rfl, rfl⟩ ⟨Nat.le_of_ble_eq_true rfl, Nat.le_of_ble_eq_true rfl⟩ (em_Tw_Ch_31_c G A I J c4) hP hD hS (ci := 0) rfl rfl (at_Ch_0 G (fun k => A (31 + k)) (I 0)) rfl hl.1 rfl (Nat.le_of_ble_eq_true rfl) ⟨Nat.zero_le _, Nat.zero_le _⟩ dX5_does_34) (em_Tw_Ch_31_c G A I J c4) hP hD hS (fun H locs hP hD hS => ?_)
        cases hf
        exact hret _ _ _ _ dX5_does_37 hP hD hS
      · have hf := br_y h1 hf
        exact b_25 _ H locs ls hf hP hD hS (lv_sub hl [] rfl)
def r_X5_err : Room := { frames := 2, cells := 0, slots := 0, locals := 48 }
set_option maxHeartbeats 4000000 in
set_option maxRecDepth 100000 in
theorem c_X5_err (G : GT) (l : Launch) (A : Nat → Nat) (sz : Nat) (I : Nat → CS) (J : Nat → JS) (x1 : Int32) (x2 : Int32) (r : Int32) (I' : Nat → CS) (hf : f_X5_err I J x1 x2 = some (r, I')) : MTi l yX5_err wsX5_err r_X5_err [.ref (A 0), .int x1, .int x2] G (w_Tw G A I J) (w_Tw G A I' J) sz r := by
  refine MTi.of (cc := cX5_err) (maxL := 6) (by decide +kernel) rfl (Nat.le_of_ble_eq_true rfl) (fun p e s m av below meth cd Q B H locs ls X hret hl hP hD hS => ?_)
  have hx := X.1.1
  have hb := X.1.2.1
  have hl : lv_has ls 6 [(0, .ref (A 0)), (1, .int x1), (2, .int x2)] := hl
  have b_15 : ∀ (I : Nat → CS) (H : Heap) (locs : List Loc) (ls : Array Slot), f_X5_err_15 I J = some (r, I') → va_P G.1 vwCl (w_Tw G A I J) H → va_D B (w_Tw G A I J) → va_S B s.heap H locs → lv_has ls 6 [] → W p l e r_X5_err s m av below meth cd H locs 0 0 Q (F0 m 15 ls []) := by
    intro I H locs ls hf hP hD hS hl
    unfold f_X5_err_15 at hf
    refine lv_iconst (pc := 15) (v := (-1 : Int32)) hx hb dX5_err_15 (by decide) ?_
    cases hf
    exact hret _ _ _ _ dX5_err_16 hP hD hS
  have b_66 : ∀ (I : Nat → CS) (H : Heap) (locs : List Loc) (ls : Array Slot), f_X5_err_66 I J = some (r, I') → va_P G.1 vwCl (w_Tw G A I J) H → va_D B (w_Tw G A I J) → va_S B s.heap H locs → lv_has ls 6 [] → W p l e r_X5_err s m av below meth cd H locs 0 0 Q (F0 m 66 ls []) := by
    intro I H locs ls hf hP hD hS hl
    unfold f_X5_err_66 at hf
    refine lv_iconst (pc := 66) (v := (-1 : Int32)) hx hb dX5_err_66 (by decide) ?_
    cases hf
    exact hret _ _ _ _ dX5_err_67 hP hD hS
  have b_90 : ∀ (I : Nat → CS) (H : Heap) (locs : List Loc) (ls : Array Slot), f_X5_err_90 I J = some (r, I') → va_P G.1 vwCl (w_Tw G A I J) H → va_D B (w_Tw G A I J) → va_S B s.heap H locs → lv_has ls 6 [] → W p l e r_X5_err s m av below meth cd H locs 0 0 Q (F0 m 90 ls []) := by
    intro I H locs ls hf hP hD hS hl
    unfold f_X5_err_90 at hf
    refine lv_bipush (pc := 90) (v := (-2 : Int32)) hx hb dX5_err_90 (by decide) ?_
    cases hf
    exact hret _ _ _ _ dX5_err_92 hP hD hS
  unfold f_X5_err at hf
  refine lv_iload_n (pc := 0) hx hb dX5_err_0 rfl (lv_at hl 1 rfl) ?_
  refine lv_if_lt (pc := 1) (tgt := 15) hx hb dX5_err_1 (by decide) (fun h8 => ?_) (fun h8 => ?_)
  · have hf := br_y h8 hf
    exact b_15 _ H locs ls hf hP hD hS (lv_sub hl [] rfl)
  · have hf := br_n h8 hf
    refine lv_iload_n (pc := 4) hx hb dX5_err_4 rfl (lv_at hl 2 rfl) ?_
    refine lv_iconst (pc := 5) (v := (1 : Int32)) hx hb dX5_err_5 (by decide) ?_
    refine lv_icmp_lt (pc := 6) (tgt := 15) hx hb dX5_err_6 (by decide) (fun h7 => ?_) (fun h7 => ?_)
    · have hf := br_y h7 hf
      exact b_15 _ H locs ls hf hP hD hS (lv_sub hl [] rfl)
    · have hf := br_n h7 hf
      refine lv_iload_n (pc := 9) hx hb dX5_err_9 rfl (lv_at hl 2 rfl) ?_
      refine lv_bipush (pc := 10) (v := (10 : Int32)) hx hb dX5_err_10 (by decide) ?_
      refine lv_icmp_lt (pc := 12) (tgt := 17) hx hb dX5_err_12 (by decide) (fun h6 => ?_) (fun h6 => ?_)
      · have hf := br_y h6 hf
        refine lv_iload_n (pc := 17) hx hb dX5_err_17 rfl (lv_at hl 1 rfl) ?_
        refine lv_sipush (pc := 18) (v := (1000 : Int32)) hx hb dX5_err_18 (by decide) ?_
        refine lv_idiv (pc := 21) hx hb dX5_err_21 (by decide) ?_
        refine lv_istore_n (pc := 22) (lv' := [(3, .int (x1 / (1000 : Int32))), (0, .ref (A 0)), (1, .int x1), (2, .int x2)]) hx hb dX5_err_22 rfl hl (by decide) rfl (fun ls hl => ?_)
        refine lv_iload_n (pc := 23) hx hb dX5_err_23 rfl (lv_at hl 2 rfl) ?_
        refine lv_sipush (pc := 24) (v := (1000 : Int32)) hx hb dX5_err_24 (by decide) ?_
        refine wirem (pc := 27) hx hb dX5_err_27 (by decide) ?_
        refine lv_bipush (pc := 28) (v := (10 : Int32)) hx hb dX5_err_28 (by decide) ?_
        refine lv_idiv (pc := 30) hx hb dX5_err_30 (by decide) ?_
        refine lv_istore (pc := 31) (lv' := [(4, .int ((jrem x1 (1000 : Int32)) / (10 : Int32))), (3, .int (x1 / (1000 : Int32))), (0, .ref (A 0)), (1, .int x1), (2, .int x2)]) hx hb dX5_err_31 hl (by decide) rfl (fun ls hl => ?_)
        refine lv_iload_n (pc := 33) hx hb dX5_err_33 rfl (lv_at hl 3 rfl) ?_
        refine lv_bipush (pc := 34) (v := (10 : Int32)) hx hb dX5_err_34 (by decide) ?_
        refine wirem (pc := 36) hx hb dX5_err_36 (by decide) ?_
        refine lv_istore (pc := 37) (lv' := [(5, .int (jrem x1 (10 : Int32))), (4, .int ((jrem x1 (1000 : Int32)) / (10 : Int32))), (3, .int (x1 / (1000 : Int32))), (0, .ref (A 0)), (1, .int x1), (2, .int x2)]) hx hb dX5_err_37 hl (by decide) rfl (fun ls hl => ?_)
        refine lv_iload_n (pc := 39) hx hb dX5_err_39 rfl (lv_at hl 2 rfl) ?_
        obtain ⟨r1, hc1, hf⟩ := ob1_some hf
        refine endi X.2.2.2.2 (runS (pc := 40) (As := [.int (x1 / (1000 : Int32))]) (rest := []) X (c_X5_isTown G l  H.size (x1 / (1000 : Int32)) r1 hc1) gX5_err_X5_isTown k_X5_isTown ⟨rfl, rfl⟩ ⟨Nat.le_of_ble_eq_true rfl, Nat.le_of_ble_eq_true rfl⟩ (EM.nil (w_Tw G A I J)) hP hD hS rfl hl.1 rfl (Nat.le_of_ble_eq_true rfl) ⟨Nat.zero_le _, Nat.zero_le _⟩ dX5_err_40) (EM.nil (w_Tw G A I J)) hP hD hS (fun H locs hP hD hS => ?_)
        refine lv_if_eq (pc := 43) (tgt := 66) hx hb dX5_err_43 (by decide) (fun h5 => ?_) (fun h5 => ?_)
        · have hf := br_y h5 hf
          exact b_66 _ H locs ls hf hP hD hS (lv_sub hl [] rfl)
        · have hf := br_n h5 hf
          refine lv_iload (pc := 46) hx hb dX5_err_46 (lv_at hl 1 rfl) ?_
          obtain ⟨r2, hc2, hf⟩ := ob1_some hf
          refine endi X.2.2.2.2 (runS (pc := 48) (As := [.int ((jrem x1 (1000 : Int32)) / (10 : Int32))]) (rest := []) X (c_X5_isDay G l  H.size ((jrem x1 (1000 : Int32)) / (10 : Int32)) r2 hc2) gX5_err_X5_isDay k_X5_isDay ⟨rfl, rfl⟩ ⟨Nat.le_of_ble_eq_true rfl, Nat.le_of_ble_eq_true rfl⟩ (EM.nil (w_Tw G A I J)) hP hD hS rfl hl.1 rfl (Nat.le_of_ble_eq_true rfl) ⟨Nat.zero_le _, Nat.zero_le _⟩ dX5_err_48) (EM.nil (w_Tw G A I J)) hP hD hS (fun H locs hP hD hS => ?_)
          refine lv_if_eq (pc := 51) (tgt := 66) hx hb dX5_err_51 (by decide) (fun h4 => ?_) (fun h4 => ?_)
          · have hf := br_y h4 hf
            exact b_66 _ H locs ls hf hP hD hS (lv_sub hl [] rfl)
          · have hf := br_n h4 hf
            refine lv_aload_n (pc := 54) hx hb dX5_err_54 rfl (lv_at hl 3 rfl) ?_
            refine wget (pc := 55) X (fun _ h9 => List.mem_cons_of_mem _ (List.mem_append_left _ (List.mem_append_right _ h9))) hP 0 (at_Tw_0 G A I J) rfl 5 (by decide) (List.mem_cons_of_mem _ (List.mem_append_left _ (List.mem_append_left _ (List.mem_append_left _ (List.mem_of_getElem? (i := 0) rfl))))) rfl (v := .ref (A 31)) rfl dX5_err_55 ?_
            refine lv_iload (pc := 58) hx hb dX5_err_58 (lv_at hl 0 rfl) ?_
            obtain ⟨r3, hc3, hf⟩ := ob1_some hf
            refine endi X.2.2.2.2 (runV (pc := 60) (As := [.int (jrem x1 (10 : Int32))]) (rest := []) X (c_X0_isPerson G l (fun k => A (31 + k)) H.size (I 0) (jrem x1 (10 : Int32)) r3 hc3) gX5_err_X0_isPerson k_X0_isPerson ⟨rfl, rfl⟩ ⟨Nat.le_of_ble_eq_true rfl, Nat.le_of_ble_eq_true rfl⟩ (em_Tw_Ch_31 G A I J ) hP hD hS (ci := 0) rfl rfl (at_Ch_0 G (fun k => A (31 + k)) (I 0)) rfl hl.1 rfl (Nat.le_of_ble_eq_true rfl) ⟨Nat.zero_le _, Nat.zero_le _⟩ dX5_err_60) (em_Tw_Ch_31 G A I J ) hP hD hS (fun H locs hP hD hS => ?_)
            refine lv_if_ne (pc := 63) (tgt := 68) hx hb dX5_err_63 (by decide) (fun h3 => ?_) (fun h3 => ?_)
            · have hf := br_n h3 hf
              refine lv_aload_n (pc := 68) hx hb dX5_err_68 rfl (lv_at hl 3 rfl) ?_
              refine wget (pc := 69) X (fun _ h9 => List.mem_cons_of_mem _ (List.mem_append_left _ (List.mem_append_right _ h9))) hP 0 (at_Tw_0 G A I J) rfl 5 (by decide) (List.mem_cons_of_mem _ (List.mem_append_left _ (List.mem_append_left _ (List.mem_append_left _ (List.mem_of_getElem? (i := 0) rfl))))) rfl (v := .ref (A 31)) rfl dX5_err_69 ?_
              refine lv_iconst (pc := 72) (v := (1 : Int32)) hx hb dX5_err_72 (by decide) ?_
              obtain ⟨r4, hc4, hf⟩ := ob1_some hf
              refine endi X.2.2.2.2 (runV (pc := 73) (As := [.int (1 : Int32)]) (rest := []) X (c_X0_hasErrorsLeft G l (fun k => A (31 + k)) H.size (I 0) (1 : Int32) r4 hc4) gX5_err_X0_hasErrorsLeft k_X0_hasErrorsLeft ⟨rfl, rfl⟩ ⟨Nat.le_of_ble_eq_true rfl, Nat.le_of_ble_eq_true rfl⟩ (em_Tw_Ch_31 G A I J ) hP hD hS (ci := 0) rfl rfl (at_Ch_0 G (fun k => A (31 + k)) (I 0)) rfl hl.1 rfl (Nat.le_of_ble_eq_true rfl) ⟨Nat.zero_le _, Nat.zero_le _⟩ dX5_err_73) (em_Tw_Ch_31 G A I J ) hP hD hS (fun H locs hP hD hS => ?_)
              refine lv_if_eq (pc := 76) (tgt := 90) hx hb dX5_err_76 (by decide) (fun h2 => ?_) (fun h2 => ?_)
              · have hf := br_y h2 hf
                exact b_90 _ H locs ls hf hP hD hS (lv_sub hl [] rfl)
              · have hf := br_n h2 hf
                refine lv_aload_n (pc := 79) hx hb dX5_err_79 rfl (lv_at hl 3 rfl) ?_
                refine wget (pc := 80) X (fun _ h9 => List.mem_cons_of_mem _ (List.mem_append_left _ (List.mem_append_right _ h9))) hP 0 (at_Tw_0 G A I J) rfl 5 (by decide) (List.mem_cons_of_mem _ (List.mem_append_left _ (List.mem_append_left _ (List.mem_append_left _ (List.mem_of_getElem? (i := 0) rfl))))) rfl (v := .ref (A 31)) rfl dX5_err_80 ?_
                refine lv_iconst (pc := 83) (v := (1 : Int32)) hx hb dX5_err_83 (by decide) ?_
                obtain ⟨r5, hc5, hf⟩ := ob1_some hf
                refine endi X.2.2.2.2 (runV (pc := 84) (As := [.int (1 : Int32)]) (rest := []) X (c_X0_hasTurnsLeft G l (fun k => A (31 + k)) H.size (I 0) (1 : Int32) r5 hc5) gX5_err_X0_hasTurnsLeft k_X0_hasTurnsLeft ⟨rfl, rfl⟩ ⟨Nat.le_of_ble_eq_true rfl, Nat.le_of_ble_eq_true rfl⟩ (em_Tw_Ch_31 G A I J ) hP hD hS (ci := 0) rfl rfl (at_Ch_0 G (fun k => A (31 + k)) (I 0)) rfl hl.1 rfl (Nat.le_of_ble_eq_true rfl) ⟨Nat.zero_le _, Nat.zero_le _⟩ dX5_err_84) (em_Tw_Ch_31 G A I J ) hP hD hS (fun H locs hP hD hS => ?_)
                refine lv_if_ne (pc := 87) (tgt := 93) hx hb dX5_err_87 (by decide) (fun h1 => ?_) (fun h1 => ?_)
                · have hf := br_n h1 hf
                  refine lv_aload_n (pc := 93) hx hb dX5_err_93 rfl (lv_at hl 3 rfl) ?_
                  refine wget (pc := 94) X (fun _ h9 => List.mem_cons_of_mem _ (List.mem_append_left _ (List.mem_append_right _ h9))) hP 0 (at_Tw_0 G A I J) rfl 5 (by decide) (List.mem_cons_of_mem _ (List.mem_append_left _ (List.mem_append_left _ (List.mem_append_left _ (List.mem_of_getElem? (i := 0) rfl))))) rfl (v := .ref (A 31)) rfl dX5_err_94 ?_
                  refine lv_iload_n (pc := 97) hx hb dX5_err_97 rfl (lv_at hl 2 rfl) ?_
                  refine lv_iload (pc := 98) hx hb dX5_err_98 (lv_at hl 1 rfl) ?_
                  refine lv_iload (pc := 100) hx hb dX5_err_100 (lv_at hl 0 rfl) ?_
                  refine lv_iload_n (pc := 102) hx hb dX5_err_102 rfl (lv_at hl 5 rfl) ?_
                  obtain ⟨c6, hc6, hf⟩ := ob1_some hf
                  refine endv X.2.2.2.2 (runV (pc := 103) (As := [.int (x1 / (1000 : Int32)), .int ((jrem x1 (1000 : Int32)) / (10 : Int32)), .int (jrem x1 (10 : Int32)), .int x2]) (rest := []) X (c_X0_turnErred G l (fun k => A (31 + k)) H.size (I 0) (x1 / (1000 : Int32)) ((jrem x1 (1000 : Int32)) / (10 : Int32)) (jrem x1 (10 : Int32)) x2 c6 hc6) gX5_err_X0_turnErred k_X0_turnErred ⟨rfl, rfl⟩ ⟨Nat.le_of_ble_eq_true rfl, Nat.le_of_ble_eq_true rfl⟩ (em_Tw_Ch_31_c G A I J c6) hP hD hS (ci := 0) rfl rfl (at_Ch_0 G (fun k => A (31 + k)) (I 0)) rfl hl.1 rfl (Nat.le_of_ble_eq_true rfl) ⟨Nat.zero_le _, Nat.zero_le _⟩ dX5_err_103) (em_Tw_Ch_31_c G A I J c6) hP hD hS (fun H locs hP hD hS => ?_)
                  refine lv_aload_n (pc := 106) hx hb dX5_err_106 rfl (lv_at hl 3 rfl) ?_
                  refine wget (pc := 107) X (fun _ h9 => List.mem_cons_of_mem _ (List.mem_append_left _ (List.mem_append_right _ h9))) hP 0 (at_Tw_0 G A (gset I 0 c6) J) rfl 5 (by decide) (List.mem_cons_of_mem _ (List.mem_append_left _ (List.mem_append_left _ (List.mem_append_left _ (List.mem_of_getElem? (i := 0) rfl))))) rfl (v := .ref (A 31)) rfl dX5_err_107 ?_
                  refine wgetN (pc := 110) X (fun _ h9 => List.mem_cons_of_mem _ (List.mem_append_right _ h9)) hP 31 (at_Tw_31 G A (gset I 0 c6) J) rfl 1 (by decide) (List.mem_of_getElem? (i := 8) rfl) rfl (v := .int (c6 1 0)) rfl dX5_err_110 ?_
                  refine lv_iconst (pc := 113) (v := (1 : Int32)) hx hb dX5_err_113 (by decide) ?_
                  refine lv_isub (pc := 114) hx hb dX5_err_114 ?_
                  cases hf
                  exact hret _ _ _ _ dX5_err_115 hP hD hS
                · have hf := br_y h1 hf
                  exact b_90 _ H locs ls hf hP hD hS (lv_sub hl [] rfl)
            · have hf := br_y h3 hf
              exact b_66 _ H locs ls hf hP hD hS (lv_sub hl [] rfl)
      · have hf := br_n h6 hf
        exact b_15 _ H locs ls hf hP hD hS (lv_sub hl [] rfl)
def r_X5_error : Room := { frames := 2, cells := 0, slots := 0, locals := 43 }
set_option maxHeartbeats 4000000 in
set_option maxRecDepth 100000 in
theorem c_X5_error (G : GT) (l : Launch) (A : Nat → Nat) (sz : Nat) (I : Nat → CS) (J : Nat → JS) (x1 : Int32) (x2 : Int32) (r : Int32) (I' : Nat → CS) (hf : f_X5_error I J x1 x2 = some (r, I')) : MTi l yX5_error wsX5_error r_X5_error [.ref (A 0), .int x1, .int x2] G (w_Tw G A I J) (w_Tw G A I' J) sz r := by
  refine MTi.of (cc := cX5_error) (maxL := 3) (by decide +kernel) rfl (Nat.le_of_ble_eq_true rfl) (fun p e s m av below meth cd Q B H locs ls X hret hl hP hD hS => ?_)
  have hx := X.1.1
  have hb := X.1.2.1
  have hl : lv_has ls 3 [(0, .ref (A 0)), (1, .int x1), (2, .int x2)] := hl
  have b_20 : ∀ (I : Nat → CS) (H : Heap) (locs : List Loc) (ls : Array Slot), f_X5_error_20 I J = some (r, I') → va_P G.1 vwCl (w_Tw G A I J) H → va_D B (w_Tw G A I J) → va_S B s.heap H locs → lv_has ls 3 [] → W p l e r_X5_error s m av below meth cd H locs 0 0 Q (F0 m 20 ls []) := by
    intro I H locs ls hf hP hD hS hl
    unfold f_X5_error_20 at hf
    refine lv_iconst (pc := 20) (v := (-1 : Int32)) hx hb dX5_error_20 (by decide) ?_
    cases hf
    exact hret _ _ _ _ dX5_error_21 hP hD hS
  unfold f_X5_error at hf
  refine lv_aload_n (pc := 0) hx hb dX5_error_0 rfl (lv_at hl 0 rfl) ?_
  refine wget (pc := 1) X (fun _ h9 => List.mem_cons_of_mem _ (List.mem_append_left _ (List.mem_append_left _ (List.mem_append_right _ h9)))) hP 0 (at_Tw_0 G A I J) rfl 5 (by decide) (List.mem_cons_of_mem _ (List.mem_append_left _ (List.mem_append_left _ (List.mem_append_left _ (List.mem_of_getElem? (i := 0) rfl))))) rfl (v := .ref (A 31)) rfl dX5_error_1 ?_
  refine lv_iload_n (pc := 4) hx hb dX5_error_4 rfl (lv_at hl 1 rfl) ?_
  obtain ⟨r1, hc1, hf⟩ := ob1_some hf
  refine endi X.2.2.2.2 (runV (pc := 5) (As := [.int x1]) (rest := []) X (c_X0_isError G l (fun k => A (31 + k)) H.size (I 0) x1 r1 hc1) gX5_error_X0_isError k_X0_isError ⟨rfl, rfl⟩ ⟨Nat.le_of_ble_eq_true rfl, Nat.le_of_ble_eq_true rfl⟩ (em_Tw_Ch_31 G A I J ) hP hD hS (ci := 0) rfl rfl (at_Ch_0 G (fun k => A (31 + k)) (I 0)) rfl hl.1 rfl (Nat.le_of_ble_eq_true rfl) ⟨Nat.zero_le _, Nat.zero_le _⟩ dX5_error_5) (em_Tw_Ch_31 G A I J ) hP hD hS (fun H locs hP hD hS => ?_)
  refine lv_if_eq (pc := 8) (tgt := 20) hx hb dX5_error_8 (by decide) (fun h3 => ?_) (fun h3 => ?_)
  · have hf := br_y h3 hf
    exact b_20 _ H locs ls hf hP hD hS (lv_sub hl [] rfl)
  · have hf := br_n h3 hf
    refine lv_iload_n (pc := 11) hx hb dX5_error_11 rfl (lv_at hl 2 rfl) ?_
    refine lv_if_lt (pc := 12) (tgt := 20) hx hb dX5_error_12 (by decide) (fun h2 => ?_) (fun h2 => ?_)
    · have hf := br_y h2 hf
      exact b_20 _ H locs ls hf hP hD hS (lv_sub hl [] rfl)
    · have hf := br_n h2 hf
      refine lv_iload_n (pc := 15) hx hb dX5_error_15 rfl (lv_at hl 2 rfl) ?_
      refine lv_iconst (pc := 16) (v := (5 : Int32)) hx hb dX5_error_16 (by decide) ?_
      refine lv_icmp_lt (pc := 17) (tgt := 22) hx hb dX5_error_17 (by decide) (fun h1 => ?_) (fun h1 => ?_)
      · have hf := br_y h1 hf
        refine lv_aload_n (pc := 22) hx hb dX5_error_22 rfl (lv_at hl 0 rfl) ?_
        refine wget (pc := 23) X (fun _ h9 => List.mem_cons_of_mem _ (List.mem_append_left _ (List.mem_append_left _ (List.mem_append_right _ h9)))) hP 0 (at_Tw_0 G A I J) rfl 2 (by decide) (List.mem_cons_of_mem _ (List.mem_append_left _ (List.mem_append_left _ (List.mem_append_left _ (List.mem_of_getElem? (i := 1) rfl))))) rfl (v := .ref (A 17)) rfl dX5_error_23 ?_
        refine lv_aload_n (pc := 26) hx hb dX5_error_26 rfl (lv_at hl 0 rfl) ?_
        refine wget (pc := 27) X (fun _ h9 => List.mem_cons_of_mem _ (List.mem_append_left _ (List.mem_append_left _ (List.mem_append_right _ h9)))) hP 0 (at_Tw_0 G A I J) rfl 5 (by decide) (List.mem_cons_of_mem _ (List.mem_append_left _ (List.mem_append_left _ (List.mem_append_left _ (List.mem_of_getElem? (i := 0) rfl))))) rfl (v := .ref (A 31)) rfl dX5_error_27 ?_
        refine lv_iload_n (pc := 30) hx hb dX5_error_30 rfl (lv_at hl 1 rfl) ?_
        refine lv_iload_n (pc := 31) hx hb dX5_error_31 rfl (lv_at hl 2 rfl) ?_
        obtain ⟨r2, hc2, hf⟩ := ob1_some hf
        refine endi X.2.2.2.2 (runV (pc := 32) (As := [.int x1, .int x2]) (rest := [.ref (A 17)]) X (c_X0_errorTrait G l (fun k => A (31 + k)) H.size (I 0) x1 x2 r2 hc2) gX5_error_X0_errorTrait k_X0_errorTrait ⟨rfl, rfl⟩ ⟨Nat.le_of_ble_eq_true rfl, Nat.le_of_ble_eq_true rfl⟩ (em_Tw_Ch_31 G A I J ) hP hD hS (ci := 0) rfl rfl (at_Ch_0 G (fun k => A (31 + k)) (I 0)) rfl hl.1 rfl (Nat.le_of_ble_eq_true rfl) ⟨Nat.zero_le _, Nat.zero_le _⟩ dX5_error_32) (em_Tw_Ch_31 G A I J ) hP hD hS (fun H locs hP hD hS => ?_)
        refine wputN (pc := 35) X (fun _ h9 => List.mem_cons_of_mem _ (List.mem_append_left _ (List.mem_append_right _ h9))) tyX4 tyX4_ok nmX4 hP hD hS 17 (at_Tw_17 G A I J) rfl 0 (by decide) (List.mem_of_getElem? (i := 0) rfl) rfl rfl (ty := .int) (v := .int r2) rfl rfl rfl (Nat.le_of_ble_eq_true rfl) (st_Tw_17_0 G A I J r2) dX5_error_35 (fun H locs hP hD hS => ?_)
        refine lv_iconst (pc := 38) (v := (1 : Int32)) hx hb dX5_error_38 (by decide) ?_
        cases hf
        exact hret _ _ _ _ dX5_error_39 hP hD hS
      · have hf := br_n h1 hf
        exact b_20 _ H locs ls hf hP hD hS (lv_sub hl [] rfl)
def r_X5_fault : Room := { frames := 6, cells := 0, slots := 0, locals := 144 }
set_option maxHeartbeats 4000000 in
set_option maxRecDepth 100000 in
theorem c_X5_fault (G : GT) (l : Launch) (A : Nat → Nat) (sz : Nat) (I : Nat → CS) (J : Nat → JS) (x1 : Int32) (r : Int32) (I' : Nat → CS) (hf : f_X5_fault I J x1 = some (r, I')) : MTi l yX5_fault wsX5_fault r_X5_fault [.ref (A 0), .int x1] G (w_Tw G A I J) (w_Tw G A I' J) sz r := by
  refine MTi.of (cc := cX5_fault) (maxL := 3) (by decide +kernel) rfl (Nat.le_of_ble_eq_true rfl) (fun p e s m av below meth cd Q B H locs ls X hret hl hP hD hS => ?_)
  have hx := X.1.1
  have hb := X.1.2.1
  have hl : lv_has ls 3 [(0, .ref (A 0)), (1, .int x1)] := hl
  unfold f_X5_fault at hf
  refine lv_aload_n (pc := 0) hx hb dX5_fault_0 rfl (lv_at hl 0 rfl) ?_
  refine lv_aload_n (pc := 1) hx hb dX5_fault_1 rfl (lv_at hl 0 rfl) ?_
  refine wget (pc := 2) X (fun _ h9 => List.mem_cons_of_mem _ (List.mem_append_left _ (List.mem_append_left _ (List.mem_append_left _ (List.mem_append_left _ (List.mem_append_right _ h9)))))) hP 0 (at_Tw_0 G A I J) rfl 1 (by decide) (List.mem_cons_of_mem _ (List.mem_append_left _ (List.mem_append_left _ (List.mem_append_left _ (List.mem_append_left _ (List.mem_append_left _ (List.mem_append_left _ (List.mem_of_getElem? (i := 0) rfl)))))))) rfl (v := .ref (A 10)) rfl dX5_fault_2 ?_
  refine lv_iload_n (pc := 5) hx hb dX5_fault_5 rfl (lv_at hl 1 rfl) ?_
  obtain ⟨r1, I1, hc1, hf⟩ := ob2_some hf
  refine endi X.2.2.2.2 (runV (pc := 6) (As := [.ref (A 10), .int x1]) (rest := []) X (c_X5_missingRefused_t G l A H.size I J x1 r1 I1 hc1) gX5_fault_X5_missingRefused k_X5_missingRefused ⟨rfl, rfl⟩ ⟨Nat.le_of_ble_eq_true rfl, Nat.le_of_ble_eq_true rfl⟩ (EM.all (w_Tw G A I J) (w_Tw G A I1 J)) hP hD hS (ci := 5) rfl rfl (at_Tw_0 G A I J) rfl hl.1 rfl (Nat.le_of_ble_eq_true rfl) ⟨Nat.zero_le _, Nat.zero_le _⟩ dX5_fault_6) (EM.all (w_Tw G A I J) (w_Tw G A I1 J)) hP hD hS (fun H locs hP hD hS => ?_)
  refine lv_istore_n (pc := 9) (lv' := [(2, .int r1), (0, .ref (A 0)), (1, .int x1)]) hx hb dX5_fault_9 rfl hl (by decide) rfl (fun ls hl => ?_)
  refine lv_iload_n (pc := 10) hx hb dX5_fault_10 rfl (lv_at hl 0 rfl) ?_
  refine lv_if_eq (pc := 11) (tgt := 16) hx hb dX5_fault_11 (by decide) (fun h1 => ?_) (fun h1 => ?_)
  · have hf := br_y h1 hf
    refine lv_aload_n (pc := 16) hx hb dX5_fault_16 rfl (lv_at hl 1 rfl) ?_
    refine wget (pc := 17) X (fun _ h9 => List.mem_cons_of_mem _ (List.mem_append_left _ (List.mem_append_left _ (List.mem_append_left _ (List.mem_append_left _ (List.mem_append_right _ h9)))))) hP 0 (at_Tw_0 G A I1 J) rfl 3 (by decide) (List.mem_cons_of_mem _ (List.mem_append_left _ (List.mem_append_left _ (List.mem_append_left _ (List.mem_append_left _ (List.mem_append_left _ (List.mem_append_left _ (List.mem_of_getElem? (i := 1) rfl)))))))) rfl (v := .ref (A 19)) rfl dX5_fault_17 ?_
    refine lv_aload_n (pc := 20) hx hb dX5_fault_20 rfl (lv_at hl 1 rfl) ?_
    refine wget (pc := 21) X (fun _ h9 => List.mem_cons_of_mem _ (List.mem_append_left _ (List.mem_append_left _ (List.mem_append_left _ (List.mem_append_left _ (List.mem_append_right _ h9)))))) hP 0 (at_Tw_0 G A I1 J) rfl 1 (by decide) (List.mem_cons_of_mem _ (List.mem_append_left _ (List.mem_append_left _ (List.mem_append_left _ (List.mem_append_left _ (List.mem_append_left _ (List.mem_append_left _ (List.mem_of_getElem? (i := 0) rfl)))))))) rfl (v := .ref (A 10)) rfl dX5_fault_21 ?_
    refine lv_iload_n (pc := 24) hx hb dX5_fault_24 rfl (lv_at hl 2 rfl) ?_
    obtain ⟨r2, c2, hc2, hf⟩ := ob2_some hf
    refine endi X.2.2.2.2 (runV (pc := 25) (As := [.ref (A 10), .int x1]) (rest := []) X (c_X2_read G l (fun k => A (bif Nat.blt k 11 then 19 + k else k - 1)) H.size (I1 1) (I1 6) x1 r2 c2 hc2) gX5_fault_X2_read k_X2_read ⟨rfl, rfl⟩ ⟨Nat.le_of_ble_eq_true rfl, Nat.le_of_ble_eq_true rfl⟩ (em_Tw_RS_19_10_c G A I1 J c2) hP hD hS (ci := 2) rfl rfl (at_RS_0 G (fun k => A (bif Nat.blt k 11 then 19 + k else k - 1)) (I1 1) (I1 6)) rfl hl.1 rfl (Nat.le_of_ble_eq_true rfl) ⟨Nat.zero_le _, Nat.zero_le _⟩ dX5_fault_25) (em_Tw_RS_19_10_c G A I1 J c2) hP hD hS (fun H locs hP hD hS => ?_)
    cases hf
    exact hret _ _ _ _ dX5_fault_28 hP hD hS
  · have hf := br_n h1 hf
    refine lv_iload_n (pc := 14) hx hb dX5_fault_14 rfl (lv_at hl 0 rfl) ?_
    cases hf
    exact hret _ _ _ _ dX5_fault_15 hP hD hS
def r_X5_finding : Room := { frames := 0, cells := 0, slots := 0, locals := 0 }
set_option maxHeartbeats 4000000 in
set_option maxRecDepth 100000 in
theorem c_X5_finding (G : GT) (l : Launch) (A : Nat → Nat) (sz : Nat) (I : Nat → CS) (J : Nat → JS) (r : Int32) (hf : f_X5_finding I J = some r) : MTi l yX5_finding wsX5_finding r_X5_finding [.ref (A 0)] G (w_Tw G A I J) (w_Tw G A I J) sz r := by
  refine MTi.of (cc := cX5_finding) (maxL := 1) (by decide +kernel) rfl (Nat.le_of_ble_eq_true rfl) (fun p e s m av below meth cd Q B H locs ls X hret hl hP hD hS => ?_)
  have hx := X.1.1
  have hb := X.1.2.1
  have hl : lv_has ls 1 [(0, .ref (A 0))] := hl
  unfold f_X5_finding at hf
  refine lv_aload_n (pc := 0) hx hb dX5_finding_0 rfl (lv_at hl 0 rfl) ?_
  refine wget (pc := 1) X (fun _ h9 => List.mem_cons_of_mem _ (List.mem_append_left _ (List.mem_append_right _ h9))) hP 0 (at_Tw_0 G A I J) rfl 2 (by decide) (List.mem_cons_of_mem _ (List.mem_append_left _ (List.mem_append_left _ (List.mem_of_getElem? (i := 0) rfl)))) rfl (v := .ref (A 17)) rfl dX5_finding_1 ?_
  refine wgetN (pc := 4) X (fun _ h9 => List.mem_cons_of_mem _ (List.mem_append_right _ h9)) hP 17 (at_Tw_17 G A I J) rfl 3 (by decide) (List.mem_of_getElem? (i := 3) rfl) rfl (v := .int ((I 7) 1 0)) rfl dX5_finding_4 ?_
  cases hf
  exact hret _ _ _ _ dX5_finding_7 hP hD hS
def r_X5_findings : Room := { frames := 0, cells := 0, slots := 0, locals := 0 }
set_option maxHeartbeats 4000000 in
set_option maxRecDepth 100000 in
theorem c_X5_findings (G : GT) (l : Launch) (A : Nat → Nat) (sz : Nat) (I : Nat → CS) (J : Nat → JS) (x1 : Int32) (r : Int32) (hf : f_X5_findings I J x1 = some r) : MTi l yX5_findings wsX5_findings r_X5_findings [.ref (A 0), .int x1] G (w_Tw G A I J) (w_Tw G A I J) sz r := by
  refine MTi.of (cc := cX5_findings) (maxL := 2) (by decide +kernel) rfl (Nat.le_of_ble_eq_true rfl) (fun p e s m av below meth cd Q B H locs ls X hret hl hP hD hS => ?_)
  have hx := X.1.1
  have hb := X.1.2.1
  have hl : lv_has ls 2 [(0, .ref (A 0)), (1, .int x1)] := hl
  have b_10 : ∀  (H : Heap) (locs : List Loc) (ls : Array Slot), f_X5_findings_10 I J = some r → va_P G.1 vwCl (w_Tw G A I J) H → va_D B (w_Tw G A I J) → va_S B s.heap H locs → lv_has ls 2 [] → W p l e r_X5_findings s m av below meth cd H locs 0 0 Q (F0 m 10 ls []) := by
    intro  H locs ls hf hP hD hS hl
    unfold f_X5_findings_10 at hf
    refine lv_iconst (pc := 10) (v := (-1 : Int32)) hx hb dX5_findings_10 (by decide) ?_
    cases hf
    exact hret _ _ _ _ dX5_findings_11 hP hD hS
  unfold f_X5_findings at hf
  refine lv_iload_n (pc := 0) hx hb dX5_findings_0 rfl (lv_at hl 1 rfl) ?_
  refine lv_iconst (pc := 1) (v := (1 : Int32)) hx hb dX5_findings_1 (by decide) ?_
  refine lv_icmp_lt (pc := 2) (tgt := 10) hx hb dX5_findings_2 (by decide) (fun h2 => ?_) (fun h2 => ?_)
  · have hf := br_y h2 hf
    exact b_10  H locs ls hf hP hD hS (lv_sub hl [] rfl)
  · have hf := br_n h2 hf
    refine lv_iload_n (pc := 5) hx hb dX5_findings_5 rfl (lv_at hl 1 rfl) ?_
    refine lv_iconst (pc := 6) (v := (5 : Int32)) hx hb dX5_findings_6 (by decide) ?_
    refine lv_icmp_le (pc := 7) (tgt := 12) hx hb dX5_findings_7 (by decide) (fun h1 => ?_) (fun h1 => ?_)
    · have hf := br_y h1 hf
      refine lv_aload_n (pc := 12) hx hb dX5_findings_12 rfl (lv_at hl 0 rfl) ?_
      refine wget (pc := 13) X (fun _ h9 => List.mem_cons_of_mem _ (List.mem_append_left _ (List.mem_append_right _ h9))) hP 0 (at_Tw_0 G A I J) rfl 2 (by decide) (List.mem_cons_of_mem _ (List.mem_append_left _ (List.mem_append_left _ (List.mem_of_getElem? (i := 0) rfl)))) rfl (v := .ref (A 17)) rfl dX5_findings_13 ?_
      refine wgetN (pc := 16) X (fun _ h9 => List.mem_cons_of_mem _ (List.mem_append_right _ h9)) hP 17 (at_Tw_17 G A I J) rfl 4 (by decide) (List.mem_of_getElem? (i := 4) rfl) rfl (v := .ref (A 18)) rfl dX5_findings_16 ?_
      refine lv_iload_n (pc := 19) hx hb dX5_findings_19 rfl (lv_at hl 1 rfl) ?_
      obtain ⟨hi, hf⟩ := ck_some hf
      refine wiald (pc := 20) X hP 18 (at_Tw_18 G A I J) hi rfl dX5_findings_20 ?_
      cases hf
      exact hret _ _ _ _ dX5_findings_21 hP hD hS
    · have hf := br_n h1 hf
      exact b_10  H locs ls hf hP hD hS (lv_sub hl [] rfl)
def r_X5_foursRefused : Room := { frames := 4, cells := 0, slots := 0, locals := 89 }
set_option maxHeartbeats 4000000 in
set_option maxRecDepth 100000 in
theorem c_X5_foursRefused (G : GT) (l : Launch) (A : Nat → Nat) (sz : Nat) (I : Nat → CS) (J : Nat → JS) (x1 : Int32) (r : Int32) (I' : Nat → CS) (hf : f_X5_foursRefused I J x1 = some (r, I')) : MTi l yX5_foursRefused wsX5_foursRefused r_X5_foursRefused [.ref (A 0), .int x1] G (w_Tw G A I J) (w_Tw G A I' J) sz r := by
  refine MTi.of (cc := cX5_foursRefused) (maxL := 2) (by decide +kernel) rfl (Nat.le_of_ble_eq_true rfl) (fun p e s m av below meth cd Q B H locs ls X hret hl hP hD hS => ?_)
  have hx := X.1.1
  have hb := X.1.2.1
  have hl : lv_has ls 2 [(0, .ref (A 0)), (1, .int x1)] := hl
  have b_88 : ∀ (t0 : Int32) (I : Nat → CS) (H : Heap) (locs : List Loc) (ls : Array Slot), f_X5_foursRefused_88 t0 I J = some (r, I') → va_P G.1 vwCl (w_Tw G A I J) H → va_D B (w_Tw G A I J) → va_S B s.heap H locs → lv_has ls 2 [] → W p l e r_X5_foursRefused s m av below meth cd H locs 0 0 Q (F0 m 88 ls [.int t0]) := by
    intro t0 I H locs ls hf hP hD hS hl
    unfold f_X5_foursRefused_88 at hf
    cases hf
    exact hret _ _ _ _ dX5_foursRefused_88 hP hD hS
  unfold f_X5_foursRefused at hf
  refine lv_aload_n (pc := 0) hx hb dX5_foursRefused_0 rfl (lv_at hl 0 rfl) ?_
  refine wget (pc := 1) X (fun _ h9 => List.mem_cons_of_mem _ (List.mem_append_left _ (List.mem_append_left _ (List.mem_append_left _ (List.mem_append_right _ h9))))) hP 0 (at_Tw_0 G A I J) rfl 0 (by decide) (List.mem_cons_of_mem _ (List.mem_append_left _ (List.mem_append_left _ (List.mem_append_left _ (List.mem_append_left _ (List.mem_append_left _ (List.mem_of_getElem? (i := 0) rfl))))))) rfl (v := .ref (A 1)) rfl dX5_foursRefused_1 ?_
  refine lv_iload_n (pc := 4) hx hb dX5_foursRefused_4 rfl (lv_at hl 1 rfl) ?_
  obtain ⟨r1, hc1, hf⟩ := ob1_some hf
  refine endi X.2.2.2.2 (runV (pc := 5) (As := [.int x1]) (rest := []) X (c_X3_isNumber_r G l (fun k => A (1 + k)) H.size (I 5) x1 r1 hc1) gX5_foursRefused_X3_isNumber k_X3_isNumber ⟨rfl, rfl⟩ ⟨Nat.le_of_ble_eq_true rfl, Nat.le_of_ble_eq_true rfl⟩ (em_Tw_S6_1 G A I J ) hP hD hS (ci := 3) rfl rfl (at_S6_0 G (fun k => A (1 + k)) (I 5)) rfl hl.1 rfl (Nat.le_of_ble_eq_true rfl) ⟨Nat.zero_le _, Nat.zero_le _⟩ dX5_foursRefused_5) (em_Tw_S6_1 G A I J ) hP hD hS (fun H locs hP hD hS => ?_)
  refine lv_if_ne (pc := 8) (tgt := 13) hx hb dX5_foursRefused_8 (by decide) (fun h5 => ?_) (fun h5 => ?_)
  · have hf := br_n h5 hf
    refine lv_aload_n (pc := 13) hx hb dX5_foursRefused_13 rfl (lv_at hl 0 rfl) ?_
    refine wget (pc := 14) X (fun _ h9 => List.mem_cons_of_mem _ (List.mem_append_left _ (List.mem_append_left _ (List.mem_append_left _ (List.mem_append_right _ h9))))) hP 0 (at_Tw_0 G A I J) rfl 5 (by decide) (List.mem_cons_of_mem _ (List.mem_append_left _ (List.mem_append_left _ (List.mem_append_left _ (List.mem_append_left _ (List.mem_append_left _ (List.mem_of_getElem? (i := 1) rfl))))))) rfl (v := .ref (A 31)) rfl dX5_foursRefused_14 ?_
    refine wgetN (pc := 17) X (fun _ h9 => List.mem_cons_of_mem _ (List.mem_append_left _ (List.mem_append_left _ (List.mem_append_right _ h9)))) hP 31 (at_Tw_31 G A I J) rfl 0 (by decide) (List.mem_of_getElem? (i := 6) rfl) rfl (v := .int ((I 0) 0 0)) rfl dX5_foursRefused_17 ?_
    refine lv_if_ne (pc := 20) (tgt := 26) hx hb dX5_foursRefused_20 (by decide) (fun h4 => ?_) (fun h4 => ?_)
    · have hf := br_n h4 hf
      refine lv_aload_n (pc := 26) hx hb dX5_foursRefused_26 rfl (lv_at hl 0 rfl) ?_
      refine wget (pc := 27) X (fun _ h9 => List.mem_cons_of_mem _ (List.mem_append_left _ (List.mem_append_left _ (List.mem_append_left _ (List.mem_append_right _ h9))))) hP 0 (at_Tw_0 G A I J) rfl 0 (by decide) (List.mem_cons_of_mem _ (List.mem_append_left _ (List.mem_append_left _ (List.mem_append_left _ (List.mem_append_left _ (List.mem_append_left _ (List.mem_of_getElem? (i := 0) rfl))))))) rfl (v := .ref (A 1)) rfl dX5_foursRefused_27 ?_
      refine lv_iload_n (pc := 30) hx hb dX5_foursRefused_30 rfl (lv_at hl 1 rfl) ?_
      obtain ⟨r2, hc2, hf⟩ := ob1_some hf
      refine endi X.2.2.2.2 (runV (pc := 31) (As := [.int x1]) (rest := []) X (c_X3_isThere_r G l (fun k => A (1 + k)) H.size (I 5) x1 r2 hc2) gX5_foursRefused_X3_isThere k_X3_isThere ⟨rfl, rfl⟩ ⟨Nat.le_of_ble_eq_true rfl, Nat.le_of_ble_eq_true rfl⟩ (em_Tw_S6_1 G A I J ) hP hD hS (ci := 3) rfl rfl (at_S6_0 G (fun k => A (1 + k)) (I 5)) rfl hl.1 rfl (Nat.le_of_ble_eq_true rfl) ⟨Nat.zero_le _, Nat.zero_le _⟩ dX5_foursRefused_31) (em_Tw_S6_1 G A I J ) hP hD hS (fun H locs hP hD hS => ?_)
      refine lv_if_ne (pc := 34) (tgt := 46) hx hb dX5_foursRefused_34 (by decide) (fun h3 => ?_) (fun h3 => ?_)
      · have hf := br_n h3 hf
        refine lv_aload_n (pc := 46) hx hb dX5_foursRefused_46 rfl (lv_at hl 0 rfl) ?_
        refine wget (pc := 47) X (fun _ h9 => List.mem_cons_of_mem _ (List.mem_append_left _ (List.mem_append_left _ (List.mem_append_left _ (List.mem_append_right _ h9))))) hP 0 (at_Tw_0 G A I J) rfl 0 (by decide) (List.mem_cons_of_mem _ (List.mem_append_left _ (List.mem_append_left _ (List.mem_append_left _ (List.mem_append_left _ (List.mem_append_left _ (List.mem_of_getElem? (i := 0) rfl))))))) rfl (v := .ref (A 1)) rfl dX5_foursRefused_47 ?_
        refine lv_iload_n (pc := 50) hx hb dX5_foursRefused_50 rfl (lv_at hl 1 rfl) ?_
        obtain ⟨r3, hc3, hf⟩ := ob1_some hf
        refine endi X.2.2.2.2 (runV (pc := 51) (As := [.int x1]) (rest := []) X (c_X3_sizeOf_r G l (fun k => A (1 + k)) H.size (I 5) x1 r3 hc3) gX5_foursRefused_X3_sizeOf k_X3_sizeOf ⟨rfl, rfl⟩ ⟨Nat.le_of_ble_eq_true rfl, Nat.le_of_ble_eq_true rfl⟩ (em_Tw_S6_1 G A I J ) hP hD hS (ci := 3) rfl rfl (at_S6_0 G (fun k => A (1 + k)) (I 5)) rfl hl.1 rfl (Nat.le_of_ble_eq_true rfl) ⟨Nat.zero_le _, Nat.zero_le _⟩ dX5_foursRefused_51) (em_Tw_S6_1 G A I J ) hP hD hS (fun H locs hP hD hS => ?_)
        refine lv_iconst (pc := 54) (v := (4 : Int32)) hx hb dX5_foursRefused_54 (by decide) ?_
        refine wirem (pc := 55) hx hb dX5_foursRefused_55 (by decide) ?_
        refine lv_if_eq (pc := 56) (tgt := 68) hx hb dX5_foursRefused_56 (by decide) (fun h2 => ?_) (fun h2 => ?_)
        · have hf := br_y h2 hf
          refine lv_aload_n (pc := 68) hx hb dX5_foursRefused_68 rfl (lv_at hl 0 rfl) ?_
          refine lv_iload_n (pc := 69) hx hb dX5_foursRefused_69 rfl (lv_at hl 1 rfl) ?_
          obtain ⟨r4, hc4, hf⟩ := ob1_some hf
          refine endi X.2.2.2.2 (runV (pc := 70) (As := [.int x1]) (rest := []) X (c_X5_areFours G l A H.size I J x1 r4 hc4) gX5_foursRefused_X5_areFours k_X5_areFours ⟨rfl, rfl⟩ ⟨Nat.le_of_ble_eq_true rfl, Nat.le_of_ble_eq_true rfl⟩ (EM.all (w_Tw G A I J) (w_Tw G A I J)) hP hD hS (ci := 5) rfl rfl (at_Tw_0 G A I J) rfl hl.1 rfl (Nat.le_of_ble_eq_true rfl) ⟨Nat.zero_le _, Nat.zero_le _⟩ dX5_foursRefused_70) (EM.all (w_Tw G A I J) (w_Tw G A I J)) hP hD hS (fun H locs hP hD hS => ?_)
          refine lv_if_eq (pc := 73) (tgt := 80) hx hb dX5_foursRefused_73 (by decide) (fun h1 => ?_) (fun h1 => ?_)
          · have hf := br_y h1 hf
            refine lv_aload_n (pc := 80) hx hb dX5_foursRefused_80 rfl (lv_at hl 0 rfl) ?_
            refine wget (pc := 81) X (fun _ h9 => List.mem_cons_of_mem _ (List.mem_append_left _ (List.mem_append_left _ (List.mem_append_left _ (List.mem_append_right _ h9))))) hP 0 (at_Tw_0 G A I J) rfl 2 (by decide) (List.mem_cons_of_mem _ (List.mem_append_left _ (List.mem_append_left _ (List.mem_append_left _ (List.mem_append_left _ (List.mem_append_left _ (List.mem_of_getElem? (i := 2) rfl))))))) rfl (v := .ref (A 17)) rfl dX5_foursRefused_81 ?_
            refine lv_iconst (pc := 84) (v := (3 : Int32)) hx hb dX5_foursRefused_84 (by decide) ?_
            obtain ⟨r5, o5, hc5, hf⟩ := ob2_some hf
            refine endi X.2.2.2.2 (runV (pc := 85) (As := [.int (3 : Int32)]) (rest := []) X (c_X4_found G l (fun k => A (17 + k)) H.size (I 7) (J 0) (3 : Int32) r5 o5 hc5) gX5_foursRefused_X4_found k_X4_found ⟨rfl, rfl⟩ ⟨Nat.le_of_ble_eq_true rfl, Nat.le_of_ble_eq_true rfl⟩ (em_Tw_To_17_o G A I J o5) hP hD hS (ci := 4) rfl rfl (at_To_0 G (fun k => A (17 + k)) (I 7) (J 0)) rfl hl.1 rfl (Nat.le_of_ble_eq_true rfl) ⟨Nat.zero_le _, Nat.zero_le _⟩ dX5_foursRefused_85) (em_Tw_To_17_o G A I J o5) hP hD hS (fun H locs hP hD hS => ?_)
            exact b_88 _ _ H locs ls hf hP hD hS (lv_sub hl [] rfl)
          · have hf := br_n h1 hf
            refine lv_iconst (pc := 76) (v := (0 : Int32)) hx hb dX5_foursRefused_76 (by decide) ?_
            refine lv_goto (pc := 77) (tgt := 88) hx hb dX5_foursRefused_77 (by decide) ?_
            exact b_88 _ _ H locs ls hf hP hD hS (lv_sub hl [] rfl)
        · have hf := br_n h2 hf
          refine lv_aload_n (pc := 59) hx hb dX5_foursRefused_59 rfl (lv_at hl 0 rfl) ?_
          refine wget (pc := 60) X (fun _ h9 => List.mem_cons_of_mem _ (List.mem_append_left _ (List.mem_append_left _ (List.mem_append_left _ (List.mem_append_right _ h9))))) hP 0 (at_Tw_0 G A I J) rfl 2 (by decide) (List.mem_cons_of_mem _ (List.mem_append_left _ (List.mem_append_left _ (List.mem_append_left _ (List.mem_append_left _ (List.mem_append_left _ (List.mem_of_getElem? (i := 2) rfl))))))) rfl (v := .ref (A 17)) rfl dX5_foursRefused_60 ?_
          refine lv_iconst (pc := 63) (v := (5 : Int32)) hx hb dX5_foursRefused_63 (by decide) ?_
          obtain ⟨r6, o6, hc6, hf⟩ := ob2_some hf
          refine endi X.2.2.2.2 (runV (pc := 64) (As := [.int (5 : Int32)]) (rest := []) X (c_X4_found G l (fun k => A (17 + k)) H.size (I 7) (J 0) (5 : Int32) r6 o6 hc6) gX5_foursRefused_X4_found k_X4_found ⟨rfl, rfl⟩ ⟨Nat.le_of_ble_eq_true rfl, Nat.le_of_ble_eq_true rfl⟩ (em_Tw_To_17_o G A I J o6) hP hD hS (ci := 4) rfl rfl (at_To_0 G (fun k => A (17 + k)) (I 7) (J 0)) rfl hl.1 rfl (Nat.le_of_ble_eq_true rfl) ⟨Nat.zero_le _, Nat.zero_le _⟩ dX5_foursRefused_64) (em_Tw_To_17_o G A I J o6) hP hD hS (fun H locs hP hD hS => ?_)
          cases hf
          exact hret _ _ _ _ dX5_foursRefused_67 hP hD hS
      · have hf := br_y h3 hf
        refine lv_aload_n (pc := 37) hx hb dX5_foursRefused_37 rfl (lv_at hl 0 rfl) ?_
        refine wget (pc := 38) X (fun _ h9 => List.mem_cons_of_mem _ (List.mem_append_left _ (List.mem_append_left _ (List.mem_append_left _ (List.mem_append_right _ h9))))) hP 0 (at_Tw_0 G A I J) rfl 2 (by decide) (List.mem_cons_of_mem _ (List.mem_append_left _ (List.mem_append_left _ (List.mem_append_left _ (List.mem_append_left _ (List.mem_append_left _ (List.mem_of_getElem? (i := 2) rfl))))))) rfl (v := .ref (A 17)) rfl dX5_foursRefused_38 ?_
        refine lv_iconst (pc := 41) (v := (1 : Int32)) hx hb dX5_foursRefused_41 (by decide) ?_
        obtain ⟨r7, o7, hc7, hf⟩ := ob2_some hf
        refine endi X.2.2.2.2 (runV (pc := 42) (As := [.int (1 : Int32)]) (rest := []) X (c_X4_found G l (fun k => A (17 + k)) H.size (I 7) (J 0) (1 : Int32) r7 o7 hc7) gX5_foursRefused_X4_found k_X4_found ⟨rfl, rfl⟩ ⟨Nat.le_of_ble_eq_true rfl, Nat.le_of_ble_eq_true rfl⟩ (em_Tw_To_17_o G A I J o7) hP hD hS (ci := 4) rfl rfl (at_To_0 G (fun k => A (17 + k)) (I 7) (J 0)) rfl hl.1 rfl (Nat.le_of_ble_eq_true rfl) ⟨Nat.zero_le _, Nat.zero_le _⟩ dX5_foursRefused_42) (em_Tw_To_17_o G A I J o7) hP hD hS (fun H locs hP hD hS => ?_)
        cases hf
        exact hret _ _ _ _ dX5_foursRefused_45 hP hD hS
    · have hf := br_y h4 hf
      refine lv_bipush (pc := 23) (v := (-4 : Int32)) hx hb dX5_foursRefused_23 (by decide) ?_
      cases hf
      exact hret _ _ _ _ dX5_foursRefused_25 hP hD hS
  · have hf := br_y h5 hf
    refine lv_iconst (pc := 11) (v := (-1 : Int32)) hx hb dX5_foursRefused_11 (by decide) ?_
    cases hf
    exact hret _ _ _ _ dX5_foursRefused_12 hP hD hS
def r_X5_fits : Room := { frames := 6, cells := 0, slots := 0, locals := 155 }
set_option maxHeartbeats 4000000 in
set_option maxRecDepth 100000 in
theorem c_X5_fits (G : GT) (l : Launch) (A : Nat → Nat) (sz : Nat) (I : Nat → CS) (J : Nat → JS) (x1 : Int32) (r : Int32) (I' : Nat → CS) (J' : Nat → JS) (hf : f_X5_fits I J x1 = some (r, I', J')) : MTi l yX5_fits wsX5_fits r_X5_fits [.ref (A 0), .int x1] G (w_Tw G A I J) (w_Tw G A I' J') sz r := by
  refine MTi.of (cc := cX5_fits) (maxL := 3) (by decide +kernel) rfl (Nat.le_of_ble_eq_true rfl) (fun p e s m av below meth cd Q B H locs ls X hret hl hP hD hS => ?_)
  have hx := X.1.1
  have hb := X.1.2.1
  have hl : lv_has ls 3 [(0, .ref (A 0)), (1, .int x1)] := hl
  unfold f_X5_fits at hf
  refine lv_aload_n (pc := 0) hx hb dX5_fits_0 rfl (lv_at hl 0 rfl) ?_
  refine lv_iload_n (pc := 1) hx hb dX5_fits_1 rfl (lv_at hl 1 rfl) ?_
  obtain ⟨r1, I1, hc1, hf⟩ := ob2_some hf
  refine endi X.2.2.2.2 (runV (pc := 2) (As := [.int x1]) (rest := []) X (c_X5_foursRefused G l A H.size I J x1 r1 I1 hc1) gX5_fits_X5_foursRefused k_X5_foursRefused ⟨rfl, rfl⟩ ⟨Nat.le_of_ble_eq_true rfl, Nat.le_of_ble_eq_true rfl⟩ (EM.all (w_Tw G A I J) (w_Tw G A I1 J)) hP hD hS (ci := 5) rfl rfl (at_Tw_0 G A I J) rfl hl.1 rfl (Nat.le_of_ble_eq_true rfl) ⟨Nat.zero_le _, Nat.zero_le _⟩ dX5_fits_2) (EM.all (w_Tw G A I J) (w_Tw G A I1 J)) hP hD hS (fun H locs hP hD hS => ?_)
  refine lv_istore_n (pc := 5) (lv' := [(2, .int r1), (0, .ref (A 0)), (1, .int x1)]) hx hb dX5_fits_5 rfl hl (by decide) rfl (fun ls hl => ?_)
  refine lv_iload_n (pc := 6) hx hb dX5_fits_6 rfl (lv_at hl 0 rfl) ?_
  refine lv_if_eq (pc := 7) (tgt := 12) hx hb dX5_fits_7 (by decide) (fun h1 => ?_) (fun h1 => ?_)
  · have hf := br_y h1 hf
    refine lv_aload_n (pc := 12) hx hb dX5_fits_12 rfl (lv_at hl 1 rfl) ?_
    refine wget (pc := 13) X (fun _ h9 => List.mem_cons_of_mem _ (List.mem_append_left _ (List.mem_append_left _ (List.mem_append_left _ (List.mem_append_left _ (List.mem_append_right _ h9)))))) hP 0 (at_Tw_0 G A I1 J) rfl 4 (by decide) (List.mem_cons_of_mem _ (List.mem_append_left _ (List.mem_append_left _ (List.mem_append_left _ (List.mem_append_left _ (List.mem_append_left _ (List.mem_append_left _ (List.mem_of_getElem? (i := 0) rfl)))))))) rfl (v := .ref (A 30)) rfl dX5_fits_13 ?_
    refine lv_aload_n (pc := 16) hx hb dX5_fits_16 rfl (lv_at hl 1 rfl) ?_
    refine wget (pc := 17) X (fun _ h9 => List.mem_cons_of_mem _ (List.mem_append_left _ (List.mem_append_left _ (List.mem_append_left _ (List.mem_append_left _ (List.mem_append_right _ h9)))))) hP 0 (at_Tw_0 G A I1 J) rfl 5 (by decide) (List.mem_cons_of_mem _ (List.mem_append_left _ (List.mem_append_left _ (List.mem_append_left _ (List.mem_append_left _ (List.mem_append_left _ (List.mem_append_left _ (List.mem_of_getElem? (i := 1) rfl)))))))) rfl (v := .ref (A 31)) rfl dX5_fits_17 ?_
    refine lv_aload_n (pc := 20) hx hb dX5_fits_20 rfl (lv_at hl 1 rfl) ?_
    refine wget (pc := 21) X (fun _ h9 => List.mem_cons_of_mem _ (List.mem_append_left _ (List.mem_append_left _ (List.mem_append_left _ (List.mem_append_left _ (List.mem_append_right _ h9)))))) hP 0 (at_Tw_0 G A I1 J) rfl 0 (by decide) (List.mem_cons_of_mem _ (List.mem_append_left _ (List.mem_append_left _ (List.mem_append_left _ (List.mem_append_left _ (List.mem_append_left _ (List.mem_append_left _ (List.mem_of_getElem? (i := 2) rfl)))))))) rfl (v := .ref (A 1)) rfl dX5_fits_21 ?_
    refine lv_iload_n (pc := 24) hx hb dX5_fits_24 rfl (lv_at hl 2 rfl) ?_
    obtain ⟨o2, j2, c2, hc2, hf⟩ := ob3_some hf
    refine endv X.2.2.2.2 (runV (pc := 25) (As := [.ref (A 31), .ref (A 1), .int x1]) (rest := []) X (c_X1_find G l (fun k => A (bif Nat.blt k 11 then 30 + k else k - 10)) H.size (I1 8) (J 1) (I1 0) (I1 5) x1 o2 j2 c2 hc2) gX5_fits_X1_find k_X1_find ⟨rfl, rfl⟩ ⟨Nat.le_of_ble_eq_true rfl, Nat.le_of_ble_eq_true rfl⟩ (em_Tw_FCS_30_31_1_ojc G A I1 J o2 j2 c2) hP hD hS (ci := 1) rfl rfl (at_FCS_0 G (fun k => A (bif Nat.blt k 11 then 30 + k else k - 10)) (I1 8) (J 1) (I1 0) (I1 5)) rfl hl.1 rfl (Nat.le_of_ble_eq_true rfl) ⟨Nat.zero_le _, Nat.zero_le _⟩ dX5_fits_25) (em_Tw_FCS_30_31_1_ojc G A I1 J o2 j2 c2) hP hD hS (fun H locs hP hD hS => ?_)
    refine lv_aload_n (pc := 28) hx hb dX5_fits_28 rfl (lv_at hl 1 rfl) ?_
    refine wget (pc := 29) X (fun _ h9 => List.mem_cons_of_mem _ (List.mem_append_left _ (List.mem_append_left _ (List.mem_append_left _ (List.mem_append_left _ (List.mem_append_right _ h9)))))) hP 0 (at_Tw_0 G A (gset (gset I1 8 o2) 0 c2) (hset J 1 j2)) rfl 2 (by decide) (List.mem_cons_of_mem _ (List.mem_append_left _ (List.mem_append_left _ (List.mem_append_left _ (List.mem_append_left _ (List.mem_append_left _ (List.mem_append_left _ (List.mem_of_getElem? (i := 3) rfl)))))))) rfl (v := .ref (A 17)) rfl dX5_fits_29 ?_
    refine lv_aload_n (pc := 32) hx hb dX5_fits_32 rfl (lv_at hl 1 rfl) ?_
    refine wget (pc := 33) X (fun _ h9 => List.mem_cons_of_mem _ (List.mem_append_left _ (List.mem_append_left _ (List.mem_append_left _ (List.mem_append_left _ (List.mem_append_right _ h9)))))) hP 0 (at_Tw_0 G A (gset (gset I1 8 o2) 0 c2) (hset J 1 j2)) rfl 4 (by decide) (List.mem_cons_of_mem _ (List.mem_append_left _ (List.mem_append_left _ (List.mem_append_left _ (List.mem_append_left _ (List.mem_append_left _ (List.mem_append_left _ (List.mem_of_getElem? (i := 0) rfl)))))))) rfl (v := .ref (A 30)) rfl dX5_fits_33 ?_
    refine wgetN (pc := 36) X (fun _ h9 => List.mem_cons_of_mem _ (List.mem_append_left _ (List.mem_append_left _ (List.mem_append_left _ (List.mem_append_right _ h9))))) hP 30 (at_Tw_30 G A (gset (gset I1 8 o2) 0 c2) (hset J 1 j2)) rfl 1 (by decide) (List.mem_of_getElem? (i := 15) rfl) rfl (v := .int (o2 0 0)) rfl dX5_fits_36 ?_
    refine wputN (pc := 39) X (fun _ h9 => List.mem_cons_of_mem _ (List.mem_append_left _ (List.mem_append_left _ (List.mem_append_right _ h9)))) tyX4 tyX4_ok nmX4 hP hD hS 17 (at_Tw_17 G A (gset (gset I1 8 o2) 0 c2) (hset J 1 j2)) rfl 0 (by decide) (List.mem_of_getElem? (i := 0) rfl) rfl rfl (ty := .int) (v := .int (o2 0 0)) rfl rfl rfl (Nat.le_of_ble_eq_true rfl) (st_Tw_17_0 G A (gset (gset I1 8 o2) 0 c2) (hset J 1 j2) (o2 0 0)) dX5_fits_39 (fun H locs hP hD hS => ?_)
    refine lv_aload_n (pc := 42) hx hb dX5_fits_42 rfl (lv_at hl 1 rfl) ?_
    refine wget (pc := 43) X (fun _ h9 => List.mem_cons_of_mem _ (List.mem_append_left _ (List.mem_append_left _ (List.mem_append_left _ (List.mem_append_left _ (List.mem_append_right _ h9)))))) hP 0 (at_Tw_0 G A (gset (gset (gset I1 8 o2) 0 c2) 7 (cset (I1 7) 0 0 (o2 0 0))) (hset J 1 j2)) rfl 2 (by decide) (List.mem_cons_of_mem _ (List.mem_append_left _ (List.mem_append_left _ (List.mem_append_left _ (List.mem_append_left _ (List.mem_append_left _ (List.mem_append_left _ (List.mem_of_getElem? (i := 3) rfl)))))))) rfl (v := .ref (A 17)) rfl dX5_fits_43 ?_
    refine lv_aload_n (pc := 46) hx hb dX5_fits_46 rfl (lv_at hl 1 rfl) ?_
    refine wget (pc := 47) X (fun _ h9 => List.mem_cons_of_mem _ (List.mem_append_left _ (List.mem_append_left _ (List.mem_append_left _ (List.mem_append_left _ (List.mem_append_right _ h9)))))) hP 0 (at_Tw_0 G A (gset (gset (gset I1 8 o2) 0 c2) 7 (cset (I1 7) 0 0 (o2 0 0))) (hset J 1 j2)) rfl 4 (by decide) (List.mem_cons_of_mem _ (List.mem_append_left _ (List.mem_append_left _ (List.mem_append_left _ (List.mem_append_left _ (List.mem_append_left _ (List.mem_append_left _ (List.mem_of_getElem? (i := 0) rfl)))))))) rfl (v := .ref (A 30)) rfl dX5_fits_47 ?_
    refine wgetN (pc := 50) X (fun _ h9 => List.mem_cons_of_mem _ (List.mem_append_left _ (List.mem_append_left _ (List.mem_append_left _ (List.mem_append_right _ h9))))) hP 30 (at_Tw_30 G A (gset (gset (gset I1 8 o2) 0 c2) 7 (cset (I1 7) 0 0 (o2 0 0))) (hset J 1 j2)) rfl 0 (by decide) (List.mem_of_getElem? (i := 14) rfl) rfl (v := .long (j2 0)) rfl dX5_fits_50 ?_
    refine lv_lconst (pc := 53) (v := (1 : Int64)) hx hb dX5_fits_53 (by decide) ?_
    obtain ⟨j3, hc3, hf⟩ := ob1_some hf
    refine endv X.2.2.2.2 (runV (pc := 54) (As := [.long (j2 0), .long (1 : Int64)]) (rest := []) X (c_X4_tell G l (fun k => A (17 + k)) H.size (cset (I1 7) 0 0 (o2 0 0)) (J 0) (j2 0) (1 : Int64) j3 hc3) gX5_fits_X4_tell k_X4_tell ⟨rfl, rfl⟩ ⟨Nat.le_of_ble_eq_true rfl, Nat.le_of_ble_eq_true rfl⟩ (em_Tw_To_17_j G A (gset (gset (gset I1 8 o2) 0 c2) 7 (cset (I1 7) 0 0 (o2 0 0))) (hset J 1 j2) j3) hP hD hS (ci := 4) rfl rfl (at_To_0 G (fun k => A (17 + k)) (cset (I1 7) 0 0 (o2 0 0)) (J 0)) rfl hl.1 rfl (Nat.le_of_ble_eq_true rfl) ⟨Nat.zero_le _, Nat.zero_le _⟩ dX5_fits_54) (em_Tw_To_17_j G A (gset (gset (gset I1 8 o2) 0 c2) 7 (cset (I1 7) 0 0 (o2 0 0))) (hset J 1 j2) j3) hP hD hS (fun H locs hP hD hS => ?_)
    refine lv_iconst (pc := 57) (v := (1 : Int32)) hx hb dX5_fits_57 (by decide) ?_
    cases hf
    exact hret _ _ _ _ dX5_fits_58 hP hD hS
  · have hf := br_n h1 hf
    refine lv_iload_n (pc := 10) hx hb dX5_fits_10 rfl (lv_at hl 0 rfl) ?_
    cases hf
    exact hret _ _ _ _ dX5_fits_11 hP hD hS
def r_X5_keep : Room := { frames := 2, cells := 0, slots := 0, locals := 81 }
set_option maxHeartbeats 4000000 in
set_option maxRecDepth 100000 in
theorem c_X5_keep (G : GT) (l : Launch) (A : Nat → Nat) (sz : Nat) (I : Nat → CS) (J : Nat → JS) (x1 : Int32) (r : Int32) (I' : Nat → CS) (hf : f_X5_keep I J x1 = some (r, I')) : MTi l yX5_keep wsX5_keep r_X5_keep [.ref (A 0), .int x1] G (w_Tw G A I J) (w_Tw G A I' J) sz r := by
  refine MTi.of (cc := cX5_keep) (maxL := 2) (by decide +kernel) rfl (Nat.le_of_ble_eq_true rfl) (fun p e s m av below meth cd Q B H locs ls X hret hl hP hD hS => ?_)
  have hx := X.1.1
  have hb := X.1.2.1
  have hl : lv_has ls 2 [(0, .ref (A 0)), (1, .int x1)] := hl
  unfold f_X5_keep at hf
  refine lv_iload_n (pc := 0) hx hb dX5_keep_0 rfl (lv_at hl 1 rfl) ?_
  obtain ⟨r1, hc1, hf⟩ := ob1_some hf
  refine endi X.2.2.2.2 (runS (pc := 1) (As := [.int x1]) (rest := []) X (c_X5_isPlace G l  H.size x1 r1 hc1) gX5_keep_X5_isPlace k_X5_isPlace ⟨rfl, rfl⟩ ⟨Nat.le_of_ble_eq_true rfl, Nat.le_of_ble_eq_true rfl⟩ (EM.nil (w_Tw G A I J)) hP hD hS rfl hl.1 rfl (Nat.le_of_ble_eq_true rfl) ⟨Nat.zero_le _, Nat.zero_le _⟩ dX5_keep_1) (EM.nil (w_Tw G A I J)) hP hD hS (fun H locs hP hD hS => ?_)
  refine lv_if_ne (pc := 4) (tgt := 9) hx hb dX5_keep_4 (by decide) (fun h2 => ?_) (fun h2 => ?_)
  · have hf := br_n h2 hf
    refine lv_aload_n (pc := 9) hx hb dX5_keep_9 rfl (lv_at hl 0 rfl) ?_
    refine wget (pc := 10) X (fun _ h9 => List.mem_cons_of_mem _ (List.mem_append_left _ (List.mem_append_right _ h9))) hP 0 (at_Tw_0 G A I J) rfl 5 (by decide) (List.mem_cons_of_mem _ (List.mem_append_left _ (List.mem_append_left _ (List.mem_append_left _ (List.mem_of_getElem? (i := 0) rfl))))) rfl (v := .ref (A 31)) rfl dX5_keep_10 ?_
    refine wgetN (pc := 13) X (fun _ h9 => List.mem_cons_of_mem _ (List.mem_append_right _ h9)) hP 31 (at_Tw_31 G A I J) rfl 0 (by decide) (List.mem_of_getElem? (i := 6) rfl) rfl (v := .int ((I 0) 0 0)) rfl dX5_keep_13 ?_
    refine lv_if_ne (pc := 16) (tgt := 22) hx hb dX5_keep_16 (by decide) (fun h1 => ?_) (fun h1 => ?_)
    · have hf := br_n h1 hf
      refine lv_aload_n (pc := 22) hx hb dX5_keep_22 rfl (lv_at hl 0 rfl) ?_
      refine wget (pc := 23) X (fun _ h9 => List.mem_cons_of_mem _ (List.mem_append_left _ (List.mem_append_right _ h9))) hP 0 (at_Tw_0 G A I J) rfl 6 (by decide) (List.mem_cons_of_mem _ (List.mem_append_left _ (List.mem_append_left _ (List.mem_append_left _ (List.mem_of_getElem? (i := 1) rfl))))) rfl (v := .ref (A 41)) rfl dX5_keep_23 ?_
      refine lv_iload_n (pc := 26) hx hb dX5_keep_26 rfl (lv_at hl 1 rfl) ?_
      obtain ⟨hi, hf⟩ := ck_some hf
      refine waaldC (pc := 27) X hP 41 (at_Tw_41 G A I J) hi (B := fun i => A (42 + 10 * i)) (fun i h => by rcases (show i = 0 ∨ i = 1 ∨ i = 2 by omega) with rfl | rfl | rfl <;> rfl) dX5_keep_27 ?_
      have hj := inb_lt hi
      generalize x1.toNatClampNeg = jj at hf hj ⊢
      rcases (show jj = 0 ∨ jj = 1 ∨ jj = 2 by omega) with rfl | rfl | rfl
      · refine lv_aload_n (pc := 28) hx hb dX5_keep_28 rfl (lv_at hl 0 rfl) ?_
        refine wget (pc := 29) X (fun _ h9 => List.mem_cons_of_mem _ (List.mem_append_left _ (List.mem_append_right _ h9))) hP 0 (at_Tw_0 G A I J) rfl 5 (by decide) (List.mem_cons_of_mem _ (List.mem_append_left _ (List.mem_append_left _ (List.mem_append_left _ (List.mem_of_getElem? (i := 0) rfl))))) rfl (v := .ref (A 31)) rfl dX5_keep_29 ?_
        obtain ⟨c2, hc2, hf⟩ := ob1_some hf
        refine endv X.2.2.2.2 (runV (pc := 32) (As := [.ref (A 31)]) (rest := []) X (c_X0_takeFrom G l (fun k => A (bif Nat.blt k 10 then 42 + k else 21 + k)) H.size (I 2) (I 0) c2 hc2) gX5_keep_X0_takeFrom k_X0_takeFrom ⟨rfl, rfl⟩ ⟨Nat.le_of_ble_eq_true rfl, Nat.le_of_ble_eq_true rfl⟩ (em_Tw_CC_42_31_c G A I J c2) hP hD hS (ci := 0) rfl rfl (at_CC_0 G (fun k => A (bif Nat.blt k 10 then 42 + k else 21 + k)) (I 2) (I 0)) rfl hl.1 rfl (Nat.le_of_ble_eq_true rfl) ⟨Nat.zero_le _, Nat.zero_le _⟩ dX5_keep_32) (em_Tw_CC_42_31_c G A I J c2) hP hD hS (fun H locs hP hD hS => ?_)
        refine lv_aload_n (pc := 35) hx hb dX5_keep_35 rfl (lv_at hl 0 rfl) ?_
        refine wget (pc := 36) X (fun _ h9 => List.mem_cons_of_mem _ (List.mem_append_left _ (List.mem_append_right _ h9))) hP 0 (at_Tw_0 G A (gset I 2 c2) J) rfl 5 (by decide) (List.mem_cons_of_mem _ (List.mem_append_left _ (List.mem_append_left _ (List.mem_append_left _ (List.mem_of_getElem? (i := 0) rfl))))) rfl (v := .ref (A 31)) rfl dX5_keep_36 ?_
        refine wgetN (pc := 39) X (fun _ h9 => List.mem_cons_of_mem _ (List.mem_append_right _ h9)) hP 31 (at_Tw_31 G A (gset I 2 c2) J) rfl 4 (by decide) (List.mem_of_getElem? (i := 11) rfl) rfl (v := .int ((I 0) 4 0)) rfl dX5_keep_39 ?_
        cases hf
        exact hret _ _ _ _ dX5_keep_42 hP hD hS
      · refine lv_aload_n (pc := 28) hx hb dX5_keep_28 rfl (lv_at hl 0 rfl) ?_
        refine wget (pc := 29) X (fun _ h9 => List.mem_cons_of_mem _ (List.mem_append_left _ (List.mem_append_right _ h9))) hP 0 (at_Tw_0 G A I J) rfl 5 (by decide) (List.mem_cons_of_mem _ (List.mem_append_left _ (List.mem_append_left _ (List.mem_append_left _ (List.mem_of_getElem? (i := 0) rfl))))) rfl (v := .ref (A 31)) rfl dX5_keep_29 ?_
        obtain ⟨c3, hc3, hf⟩ := ob1_some hf
        refine endv X.2.2.2.2 (runV (pc := 32) (As := [.ref (A 31)]) (rest := []) X (c_X0_takeFrom G l (fun k => A (bif Nat.blt k 10 then 52 + k else 21 + k)) H.size (I 3) (I 0) c3 hc3) gX5_keep_X0_takeFrom k_X0_takeFrom ⟨rfl, rfl⟩ ⟨Nat.le_of_ble_eq_true rfl, Nat.le_of_ble_eq_true rfl⟩ (em_Tw_CC_52_31_c G A I J c3) hP hD hS (ci := 0) rfl rfl (at_CC_0 G (fun k => A (bif Nat.blt k 10 then 52 + k else 21 + k)) (I 3) (I 0)) rfl hl.1 rfl (Nat.le_of_ble_eq_true rfl) ⟨Nat.zero_le _, Nat.zero_le _⟩ dX5_keep_32) (em_Tw_CC_52_31_c G A I J c3) hP hD hS (fun H locs hP hD hS => ?_)
        refine lv_aload_n (pc := 35) hx hb dX5_keep_35 rfl (lv_at hl 0 rfl) ?_
        refine wget (pc := 36) X (fun _ h9 => List.mem_cons_of_mem _ (List.mem_append_left _ (List.mem_append_right _ h9))) hP 0 (at_Tw_0 G A (gset I 3 c3) J) rfl 5 (by decide) (List.mem_cons_of_mem _ (List.mem_append_left _ (List.mem_append_left _ (List.mem_append_left _ (List.mem_of_getElem? (i := 0) rfl))))) rfl (v := .ref (A 31)) rfl dX5_keep_36 ?_
        refine wgetN (pc := 39) X (fun _ h9 => List.mem_cons_of_mem _ (List.mem_append_right _ h9)) hP 31 (at_Tw_31 G A (gset I 3 c3) J) rfl 4 (by decide) (List.mem_of_getElem? (i := 11) rfl) rfl (v := .int ((I 0) 4 0)) rfl dX5_keep_39 ?_
        cases hf
        exact hret _ _ _ _ dX5_keep_42 hP hD hS
      · refine lv_aload_n (pc := 28) hx hb dX5_keep_28 rfl (lv_at hl 0 rfl) ?_
        refine wget (pc := 29) X (fun _ h9 => List.mem_cons_of_mem _ (List.mem_append_left _ (List.mem_append_right _ h9))) hP 0 (at_Tw_0 G A I J) rfl 5 (by decide) (List.mem_cons_of_mem _ (List.mem_append_left _ (List.mem_append_left _ (List.mem_append_left _ (List.mem_of_getElem? (i := 0) rfl))))) rfl (v := .ref (A 31)) rfl dX5_keep_29 ?_
        obtain ⟨c4, hc4, hf⟩ := ob1_some hf
        refine endv X.2.2.2.2 (runV (pc := 32) (As := [.ref (A 31)]) (rest := []) X (c_X0_takeFrom G l (fun k => A (bif Nat.blt k 10 then 62 + k else 21 + k)) H.size (I 4) (I 0) c4 hc4) gX5_keep_X0_takeFrom k_X0_takeFrom ⟨rfl, rfl⟩ ⟨Nat.le_of_ble_eq_true rfl, Nat.le_of_ble_eq_true rfl⟩ (em_Tw_CC_62_31_c G A I J c4) hP hD hS (ci := 0) rfl rfl (at_CC_0 G (fun k => A (bif Nat.blt k 10 then 62 + k else 21 + k)) (I 4) (I 0)) rfl hl.1 rfl (Nat.le_of_ble_eq_true rfl) ⟨Nat.zero_le _, Nat.zero_le _⟩ dX5_keep_32) (em_Tw_CC_62_31_c G A I J c4) hP hD hS (fun H locs hP hD hS => ?_)
        refine lv_aload_n (pc := 35) hx hb dX5_keep_35 rfl (lv_at hl 0 rfl) ?_
        refine wget (pc := 36) X (fun _ h9 => List.mem_cons_of_mem _ (List.mem_append_left _ (List.mem_append_right _ h9))) hP 0 (at_Tw_0 G A (gset I 4 c4) J) rfl 5 (by decide) (List.mem_cons_of_mem _ (List.mem_append_left _ (List.mem_append_left _ (List.mem_append_left _ (List.mem_of_getElem? (i := 0) rfl))))) rfl (v := .ref (A 31)) rfl dX5_keep_36 ?_
        refine wgetN (pc := 39) X (fun _ h9 => List.mem_cons_of_mem _ (List.mem_append_right _ h9)) hP 31 (at_Tw_31 G A (gset I 4 c4) J) rfl 4 (by decide) (List.mem_of_getElem? (i := 11) rfl) rfl (v := .int ((I 0) 4 0)) rfl dX5_keep_39 ?_
        cases hf
        exact hret _ _ _ _ dX5_keep_42 hP hD hS
    · have hf := br_y h1 hf
      refine lv_bipush (pc := 19) (v := (-4 : Int32)) hx hb dX5_keep_19 (by decide) ?_
      cases hf
      exact hret _ _ _ _ dX5_keep_21 hP hD hS
  · have hf := br_y h2 hf
    refine lv_iconst (pc := 7) (v := (-1 : Int32)) hx hb dX5_keep_7 (by decide) ?_
    cases hf
    exact hret _ _ _ _ dX5_keep_8 hP hD hS
def r_X5_lay : Room := { frames := 4, cells := 0, slots := 0, locals := 88 }
set_option maxHeartbeats 4000000 in
set_option maxRecDepth 100000 in
theorem c_X5_lay (G : GT) (l : Launch) (A : Nat → Nat) (sz : Nat) (I : Nat → CS) (J : Nat → JS) (x1 : Int32) (x2 : Int32) (x3 : Int32) (r : Int32) (I' : Nat → CS) (hf : f_X5_lay I J x1 x2 x3 = some (r, I')) : MTi l yX5_lay wsX5_lay r_X5_lay [.ref (A 0), .int x1, .int x2, .int x3] G (w_Tw G A I J) (w_Tw G A I' J) sz r := by
  refine MTi.of (cc := cX5_lay) (maxL := 5) (by decide +kernel) rfl (Nat.le_of_ble_eq_true rfl) (fun p e s m av below meth cd Q B H locs ls X hret hl hP hD hS => ?_)
  have hx := X.1.1
  have hb := X.1.2.1
  have hl : lv_has ls 5 [(0, .ref (A 0)), (1, .int x1), (2, .int x2), (3, .int x3)] := hl
  unfold f_X5_lay at hf
  refine lv_aload_n (pc := 0) hx hb dX5_lay_0 rfl (lv_at hl 0 rfl) ?_
  refine lv_aload_n (pc := 1) hx hb dX5_lay_1 rfl (lv_at hl 0 rfl) ?_
  refine wget (pc := 2) X (fun _ h9 => List.mem_cons_of_mem _ (List.mem_append_left _ (List.mem_append_left _ (List.mem_append_right _ h9)))) hP 0 (at_Tw_0 G A I J) rfl 0 (by decide) (List.mem_cons_of_mem _ (List.mem_append_left _ (List.mem_append_left _ (List.mem_append_left _ (List.mem_append_left _ (List.mem_of_getElem? (i := 0) rfl)))))) rfl (v := .ref (A 1)) rfl dX5_lay_2 ?_
  refine lv_iload_n (pc := 5) hx hb dX5_lay_5 rfl (lv_at hl 1 rfl) ?_
  refine lv_iload_n (pc := 6) hx hb dX5_lay_6 rfl (lv_at hl 2 rfl) ?_
  obtain ⟨r1, I1, hc1, hf⟩ := ob2_some hf
  refine endi X.2.2.2.2 (runV (pc := 7) (As := [.ref (A 1), .int x1, .int x2]) (rest := []) X (c_X5_placeRefused_r G l A H.size I J x1 x2 r1 I1 hc1) gX5_lay_X5_placeRefused k_X5_placeRefused ⟨rfl, rfl⟩ ⟨Nat.le_of_ble_eq_true rfl, Nat.le_of_ble_eq_true rfl⟩ (EM.all (w_Tw G A I J) (w_Tw G A I1 J)) hP hD hS (ci := 5) rfl rfl (at_Tw_0 G A I J) rfl hl.1 rfl (Nat.le_of_ble_eq_true rfl) ⟨Nat.zero_le _, Nat.zero_le _⟩ dX5_lay_7) (EM.all (w_Tw G A I J) (w_Tw G A I1 J)) hP hD hS (fun H locs hP hD hS => ?_)
  refine lv_istore (pc := 10) (lv' := [(4, .int r1), (0, .ref (A 0)), (1, .int x1), (2, .int x2), (3, .int x3)]) hx hb dX5_lay_10 hl (by decide) rfl (fun ls hl => ?_)
  refine lv_iload (pc := 12) hx hb dX5_lay_12 (lv_at hl 0 rfl) ?_
  refine lv_if_eq (pc := 14) (tgt := 20) hx hb dX5_lay_14 (by decide) (fun h1 => ?_) (fun h1 => ?_)
  · have hf := br_y h1 hf
    refine lv_aload_n (pc := 20) hx hb dX5_lay_20 rfl (lv_at hl 1 rfl) ?_
    refine wget (pc := 21) X (fun _ h9 => List.mem_cons_of_mem _ (List.mem_append_left _ (List.mem_append_left _ (List.mem_append_right _ h9)))) hP 0 (at_Tw_0 G A I1 J) rfl 2 (by decide) (List.mem_cons_of_mem _ (List.mem_append_left _ (List.mem_append_left _ (List.mem_append_left _ (List.mem_append_left _ (List.mem_of_getElem? (i := 1) rfl)))))) rfl (v := .ref (A 17)) rfl dX5_lay_21 ?_
    refine lv_aload_n (pc := 24) hx hb dX5_lay_24 rfl (lv_at hl 1 rfl) ?_
    refine wget (pc := 25) X (fun _ h9 => List.mem_cons_of_mem _ (List.mem_append_left _ (List.mem_append_left _ (List.mem_append_right _ h9)))) hP 0 (at_Tw_0 G A I1 J) rfl 0 (by decide) (List.mem_cons_of_mem _ (List.mem_append_left _ (List.mem_append_left _ (List.mem_append_left _ (List.mem_append_left _ (List.mem_of_getElem? (i := 0) rfl)))))) rfl (v := .ref (A 1)) rfl dX5_lay_25 ?_
    refine lv_iload_n (pc := 28) hx hb dX5_lay_28 rfl (lv_at hl 2 rfl) ?_
    refine lv_iload_n (pc := 29) hx hb dX5_lay_29 rfl (lv_at hl 3 rfl) ?_
    obtain ⟨r2, hc2, hf⟩ := ob1_some hf
    refine endi X.2.2.2.2 (runV (pc := 30) (As := [.int x1, .int x2]) (rest := [.ref (A 17)]) X (c_X3_get_r G l (fun k => A (1 + k)) H.size (I1 5) x1 x2 r2 hc2) gX5_lay_X3_get k_X3_get ⟨rfl, rfl⟩ ⟨Nat.le_of_ble_eq_true rfl, Nat.le_of_ble_eq_true rfl⟩ (em_Tw_S6_1 G A I1 J ) hP hD hS (ci := 3) rfl rfl (at_S6_0 G (fun k => A (1 + k)) (I1 5)) rfl hl.1 rfl (Nat.le_of_ble_eq_true rfl) ⟨Nat.zero_le _, Nat.zero_le _⟩ dX5_lay_30) (em_Tw_S6_1 G A I1 J ) hP hD hS (fun H locs hP hD hS => ?_)
    refine wputN (pc := 33) X (fun _ h9 => List.mem_cons_of_mem _ (List.mem_append_left _ (List.mem_append_right _ h9))) tyX4 tyX4_ok nmX4 hP hD hS 17 (at_Tw_17 G A I1 J) rfl 0 (by decide) (List.mem_of_getElem? (i := 0) rfl) rfl rfl (ty := .int) (v := .int r2) rfl rfl rfl (Nat.le_of_ble_eq_true rfl) (st_Tw_17_0 G A I1 J r2) dX5_lay_33 (fun H locs hP hD hS => ?_)
    refine lv_aload_n (pc := 36) hx hb dX5_lay_36 rfl (lv_at hl 1 rfl) ?_
    refine wget (pc := 37) X (fun _ h9 => List.mem_cons_of_mem _ (List.mem_append_left _ (List.mem_append_left _ (List.mem_append_right _ h9)))) hP 0 (at_Tw_0 G A (gset I1 7 (cset (I1 7) 0 0 r2)) J) rfl 0 (by decide) (List.mem_cons_of_mem _ (List.mem_append_left _ (List.mem_append_left _ (List.mem_append_left _ (List.mem_append_left _ (List.mem_of_getElem? (i := 0) rfl)))))) rfl (v := .ref (A 1)) rfl dX5_lay_37 ?_
    refine lv_iload_n (pc := 40) hx hb dX5_lay_40 rfl (lv_at hl 2 rfl) ?_
    refine lv_iload_n (pc := 41) hx hb dX5_lay_41 rfl (lv_at hl 3 rfl) ?_
    refine lv_iload_n (pc := 42) hx hb dX5_lay_42 rfl (lv_at hl 4 rfl) ?_
    obtain ⟨b3, hc3, hf⟩ := ob1_some hf
    refine endv X.2.2.2.2 (runV (pc := 43) (As := [.int x1, .int x2, .int x3]) (rest := []) X (c_X3_set_r G l (fun k => A (1 + k)) H.size (I1 5) x1 x2 x3 b3 hc3) gX5_lay_X3_set k_X3_set ⟨rfl, rfl⟩ ⟨Nat.le_of_ble_eq_true rfl, Nat.le_of_ble_eq_true rfl⟩ (em_Tw_S6_1_b G A (gset I1 7 (cset (I1 7) 0 0 r2)) J b3) hP hD hS (ci := 3) rfl rfl (at_S6_0 G (fun k => A (1 + k)) (I1 5)) rfl hl.1 rfl (Nat.le_of_ble_eq_true rfl) ⟨Nat.zero_le _, Nat.zero_le _⟩ dX5_lay_43) (em_Tw_S6_1_b G A (gset I1 7 (cset (I1 7) 0 0 r2)) J b3) hP hD hS (fun H locs hP hD hS => ?_)
    refine lv_iconst (pc := 46) (v := (1 : Int32)) hx hb dX5_lay_46 (by decide) ?_
    cases hf
    exact hret _ _ _ _ dX5_lay_47 hP hD hS
  · have hf := br_n h1 hf
    refine lv_iload (pc := 17) hx hb dX5_lay_17 (lv_at hl 0 rfl) ?_
    cases hf
    exact hret _ _ _ _ dX5_lay_19 hP hD hS
def r_X5_letter : Room := { frames := 4, cells := 0, slots := 0, locals := 99 }
set_option maxHeartbeats 4000000 in
set_option maxRecDepth 100000 in
theorem c_X5_letter (G : GT) (l : Launch) (A : Nat → Nat) (sz : Nat) (I : Nat → CS) (J : Nat → JS) (x1 : Int32) (x2 : Int32) (x3 : Int32) (r : Int32) (I' : Nat → CS) (hf : f_X5_letter I J x1 x2 x3 = some (r, I')) : MTi l yX5_letter wsX5_letter r_X5_letter [.ref (A 0), .int x1, .int x2, .int x3] G (w_Tw G A I J) (w_Tw G A I' J) sz r := by
  refine MTi.of (cc := cX5_letter) (maxL := 8) (by decide +kernel) rfl (Nat.le_of_ble_eq_true rfl) (fun p e s m av below meth cd Q B H locs ls X hret hl hP hD hS => ?_)
  have hx := X.1.1
  have hb := X.1.2.1
  have hl : lv_has ls 8 [(0, .ref (A 0)), (1, .int x1), (2, .int x2), (3, .int x3)] := hl
  have b_25 : ∀ (I : Nat → CS) (H : Heap) (locs : List Loc) (ls : Array Slot), f_X5_letter_25 I J = some (r, I') → va_P G.1 vwCl (w_Tw G A I J) H → va_D B (w_Tw G A I J) → va_S B s.heap H locs → lv_has ls 8 [] → W p l e r_X5_letter s m av below meth cd H locs 0 0 Q (F0 m 25 ls []) := by
    intro I H locs ls hf hP hD hS hl
    unfold f_X5_letter_25 at hf
    refine lv_iconst (pc := 25) (v := (-1 : Int32)) hx hb dX5_letter_25 (by decide) ?_
    cases hf
    exact hret _ _ _ _ dX5_letter_26 hP hD hS
  have b_161 : ∀ (I : Nat → CS) (H : Heap) (locs : List Loc) (ls : Array Slot), f_X5_letter_161 I J = some (r, I') → va_P G.1 vwCl (w_Tw G A I J) H → va_D B (w_Tw G A I J) → va_S B s.heap H locs → lv_has ls 8 [] → W p l e r_X5_letter s m av below meth cd H locs 0 0 Q (F0 m 161 ls []) := by
    intro I H locs ls hf hP hD hS hl
    unfold f_X5_letter_161 at hf
    refine lv_bipush (pc := 161) (v := (-9 : Int32)) hx hb dX5_letter_161 (by decide) ?_
    cases hf
    exact hret _ _ _ _ dX5_letter_163 hP hD hS
  have l_64 : ∀ (n64 : Nat), ∀ (x2 : Int32) (x4 : Int32) (x5 : Int32) (x6 : Int32) (I : Nat → CS) (H : Heap) (locs : List Loc) (ls : Array Slot), f_X5_letter_64 n64 x2 x4 x5 x6 I J = some (r, I') → va_P G.1 vwCl (w_Tw G A I J) H → va_D B (w_Tw G A I J) → va_S B s.heap H locs → lv_has ls 8 [(0, .ref (A 0)), (2, .int x2), (4, .int x4), (5, .int x5), (6, .int x6)] → W p l e r_X5_letter s m av below meth cd H locs 0 0 Q (F0 m 64 ls []) := by
    intro n64
    induction n64 with
    | zero =>
      intro x2 x4 x5 x6 I H locs ls hf hP hD hS hl
      rw [f_X5_letter_64] at hf
      cases hf
    | succ n64 ih64 =>
      intro x2 x4 x5 x6 I H locs ls hf hP hD hS hl
      rw [f_X5_letter_64] at hf
      refine lv_iload (pc := 64) hx hb dX5_letter_64 (lv_at hl 4 rfl) ?_
      refine lv_bipush (pc := 66) (v := (50 : Int32)) hx hb dX5_letter_66 (by decide) ?_
      refine lv_icmp_gt (pc := 68) (tgt := 161) hx hb dX5_letter_68 (by decide) (fun h3 => ?_) (fun h3 => ?_)
      · have hf := br_y h3 hf
        exact b_161 _ H locs ls hf hP hD hS (lv_sub hl [] rfl)
      · have hf := br_n h3 hf
        refine lv_iload (pc := 71) hx hb dX5_letter_71 (lv_at hl 3 rfl) ?_
        obtain ⟨r1, hc1, hf⟩ := ob1_some hf
        refine endi X.2.2.2.2 (runS (pc := 73) (As := [.int x5]) (rest := []) X (c_X5_isDeed G l  H.size x5 r1 hc1) gX5_letter_X5_isDeed k_X5_isDeed ⟨rfl, rfl⟩ ⟨Nat.le_of_ble_eq_true rfl, Nat.le_of_ble_eq_true rfl⟩ (EM.nil (w_Tw G A I J)) hP hD hS rfl hl.1 rfl (Nat.le_of_ble_eq_true rfl) ⟨Nat.zero_le _, Nat.zero_le _⟩ dX5_letter_73) (EM.nil (w_Tw G A I J)) hP hD hS (fun H locs hP hD hS => ?_)
        refine lv_if_eq (pc := 76) (tgt := 161) hx hb dX5_letter_76 (by decide) (fun h2 => ?_) (fun h2 => ?_)
        · have hf := br_y h2 hf
          exact b_161 _ H locs ls hf hP hD hS (lv_sub hl [] rfl)
        · have hf := br_n h2 hf
          refine lv_iload (pc := 79) hx hb dX5_letter_79 (lv_at hl 2 rfl) ?_
          refine lv_bipush (pc := 81) (v := (10 : Int32)) hx hb dX5_letter_81 (by decide) ?_
          refine lv_imul (pc := 83) hx hb dX5_letter_83 ?_
          refine lv_iload (pc := 84) hx hb dX5_letter_84 (lv_at hl 3 rfl) ?_
          refine lv_iadd (pc := 86) hx hb dX5_letter_86 ?_
          refine lv_istore (pc := 87) (lv' := [(7, .int ((x4 * (10 : Int32)) + x5)), (0, .ref (A 0)), (2, .int x2), (4, .int x4), (5, .int x5), (6, .int x6)]) hx hb dX5_letter_87 hl (by decide) rfl (fun ls hl => ?_)
          refine lv_aload_n (pc := 89) hx hb dX5_letter_89 rfl (lv_at hl 1 rfl) ?_
          refine wget (pc := 90) X (fun _ h9 => List.mem_cons_of_mem _ (List.mem_append_left _ (List.mem_append_left _ (List.mem_append_right _ h9)))) hP 0 (at_Tw_0 G A I J) rfl 7 (by decide) (List.mem_cons_of_mem _ (List.mem_append_left _ (List.mem_append_left _ (List.mem_append_left _ (List.mem_append_left _ (List.mem_of_getElem? (i := 1) rfl)))))) rfl (v := .ref (A 72)) rfl dX5_letter_90 ?_
          refine lv_iload (pc := 93) hx hb dX5_letter_93 (lv_at hl 0 rfl) ?_
          obtain ⟨hi, hf⟩ := ck_some hf
          refine wiald (pc := 95) X hP 72 (at_Tw_72 G A I J) hi rfl dX5_letter_95 ?_
          refine lv_bipush (pc := 96) (v := (-9 : Int32)) hx hb dX5_letter_96 (by decide) ?_
          refine lv_icmp_eq (pc := 98) (tgt := 121) hx hb dX5_letter_98 (by decide) (fun h1 => ?_) (fun h1 => ?_)
          · have hf := br_y h1 hf
            refine lv_aload_n (pc := 121) hx hb dX5_letter_121 rfl (lv_at hl 1 rfl) ?_
            refine wget (pc := 122) X (fun _ h9 => List.mem_cons_of_mem _ (List.mem_append_left _ (List.mem_append_left _ (List.mem_append_right _ h9)))) hP 0 (at_Tw_0 G A I J) rfl 7 (by decide) (List.mem_cons_of_mem _ (List.mem_append_left _ (List.mem_append_left _ (List.mem_append_left _ (List.mem_append_left _ (List.mem_of_getElem? (i := 1) rfl)))))) rfl (v := .ref (A 72)) rfl dX5_letter_122 ?_
            refine lv_iload (pc := 125) hx hb dX5_letter_125 (lv_at hl 0 rfl) ?_
            refine lv_iload (pc := 127) hx hb dX5_letter_127 (lv_at hl 5 rfl) ?_
            obtain ⟨hi, hf⟩ := ck_some hf
            refine wiast (pc := 129) X hP hD hS 72 (at_Tw_72 G A I J) hi rfl (sa_Tw_72 G A I J _) dX5_letter_129 (fun H locs hP hD hS => ?_)
            have hP : va_P G.1 vwCl (w_Tw G A (gset I 9 (cset (I 9) 0 ((x4 * (10 : Int32)) + x5).toNatClampNeg x6)) J) H := hP
            have hD : va_D B (w_Tw G A (gset I 9 (cset (I 9) 0 ((x4 * (10 : Int32)) + x5).toNatClampNeg x6)) J) := hD
            refine lv_aload_n (pc := 130) hx hb dX5_letter_130 rfl (lv_at hl 1 rfl) ?_
            refine wget (pc := 131) X (fun _ h9 => List.mem_cons_of_mem _ (List.mem_append_left _ (List.mem_append_left _ (List.mem_append_right _ h9)))) hP 0 (at_Tw_0 G A (gset I 9 (cset (I 9) 0 ((x4 * (10 : Int32)) + x5).toNatClampNeg x6)) J) rfl 5 (by decide) (List.mem_cons_of_mem _ (List.mem_append_left _ (List.mem_append_left _ (List.mem_append_left _ (List.mem_append_left _ (List.mem_of_getElem? (i := 0) rfl)))))) rfl (v := .ref (A 31)) rfl dX5_letter_131 ?_
            refine lv_iload (pc := 134) hx hb dX5_letter_134 (lv_at hl 3 rfl) ?_
            refine lv_bipush (pc := 136) (v := (10 : Int32)) hx hb dX5_letter_136 (by decide) ?_
            refine lv_iload (pc := 138) hx hb dX5_letter_138 (lv_at hl 4 rfl) ?_
            refine lv_iadd (pc := 140) hx hb dX5_letter_140 ?_
            refine lv_iload_n (pc := 141) hx hb dX5_letter_141 rfl (lv_at hl 2 rfl) ?_
            obtain ⟨r2, c2, hc2, hf⟩ := ob2_some hf
            refine endi X.2.2.2.2 (runV (pc := 142) (As := [.int x4, .int ((10 : Int32) + x5), .int x2]) (rest := []) X (c_X0_done G l (fun k => A (31 + k)) H.size (I 0) x4 ((10 : Int32) + x5) x2 r2 c2 hc2) gX5_letter_X0_done k_X0_done ⟨rfl, rfl⟩ ⟨Nat.le_of_ble_eq_true rfl, Nat.le_of_ble_eq_true rfl⟩ (em_Tw_Ch_31_c G A (gset I 9 (cset (I 9) 0 ((x4 * (10 : Int32)) + x5).toNatClampNeg x6)) J c2) hP hD hS (ci := 0) rfl rfl (at_Ch_0 G (fun k => A (31 + k)) (I 0)) rfl hl.1 rfl (Nat.le_of_ble_eq_true rfl) ⟨Nat.zero_le _, Nat.zero_le _⟩ dX5_letter_142) (em_Tw_Ch_31_c G A (gset I 9 (cset (I 9) 0 ((x4 * (10 : Int32)) + x5).toNatClampNeg x6)) J c2) hP hD hS (fun H locs hP hD hS => ?_)
            refine lv_istore (pc := 145) (lv' := [(5, .int r2), (7, .int ((x4 * (10 : Int32)) + x5)), (0, .ref (A 0)), (2, .int x2), (4, .int x4), (6, .int x6)]) hx hb dX5_letter_145 hl (by decide) rfl (fun ls hl => ?_)
            refine lv_iload (pc := 147) hx hb dX5_letter_147 (lv_at hl 4 rfl) ?_
            refine lv_iconst (pc := 149) (v := (1 : Int32)) hx hb dX5_letter_149 (by decide) ?_
            refine lv_iadd (pc := 150) hx hb dX5_letter_150 ?_
            refine lv_iconst (pc := 151) (v := (5 : Int32)) hx hb dX5_letter_151 (by decide) ?_
            refine wirem (pc := 152) hx hb dX5_letter_152 (by decide) ?_
            refine lv_istore (pc := 153) (lv' := [(4, .int (jrem (x4 + (1 : Int32)) (5 : Int32))), (5, .int r2), (7, .int ((x4 * (10 : Int32)) + x5)), (0, .ref (A 0)), (2, .int x2), (6, .int x6)]) hx hb dX5_letter_153 hl (by decide) rfl (fun ls hl => ?_)
            refine lv_iinc (pc := 155) (v := (x6 + (1 : Int32))) (lv' := [(6, .int (x6 + (1 : Int32))), (4, .int (jrem (x4 + (1 : Int32)) (5 : Int32))), (5, .int r2), (7, .int ((x4 * (10 : Int32)) + x5)), (0, .ref (A 0)), (2, .int x2)]) hx hb dX5_letter_155 hl (k := 5) rfl rfl (by decide) rfl (fun ls hl => ?_)
            refine lv_goto (pc := 158) (tgt := 64) hx hb dX5_letter_158 (by decide) ?_
            exact ih64 _ _ _ _ _ H locs ls hf hP hD hS (lv_sub hl [4, 5, 1, 2, 0] rfl)
          · have hf := br_n h1 hf
            refine lv_aload_n (pc := 101) hx hb dX5_letter_101 rfl (lv_at hl 1 rfl) ?_
            refine wget (pc := 102) X (fun _ h9 => List.mem_cons_of_mem _ (List.mem_append_left _ (List.mem_append_left _ (List.mem_append_right _ h9)))) hP 0 (at_Tw_0 G A I J) rfl 2 (by decide) (List.mem_cons_of_mem _ (List.mem_append_left _ (List.mem_append_left _ (List.mem_append_left _ (List.mem_append_left _ (List.mem_of_getElem? (i := 2) rfl)))))) rfl (v := .ref (A 17)) rfl dX5_letter_102 ?_
            refine lv_iload (pc := 105) hx hb dX5_letter_105 (lv_at hl 5 rfl) ?_
            refine lv_aload_n (pc := 107) hx hb dX5_letter_107 rfl (lv_at hl 1 rfl) ?_
            refine wget (pc := 108) X (fun _ h9 => List.mem_cons_of_mem _ (List.mem_append_left _ (List.mem_append_left _ (List.mem_append_right _ h9)))) hP 0 (at_Tw_0 G A I J) rfl 7 (by decide) (List.mem_cons_of_mem _ (List.mem_append_left _ (List.mem_append_left _ (List.mem_append_left _ (List.mem_append_left _ (List.mem_of_getElem? (i := 1) rfl)))))) rfl (v := .ref (A 72)) rfl dX5_letter_108 ?_
            refine lv_iload (pc := 111) hx hb dX5_letter_111 (lv_at hl 0 rfl) ?_
            obtain ⟨hi, hf⟩ := ck_some hf
            refine wiald (pc := 113) X hP 72 (at_Tw_72 G A I J) hi rfl dX5_letter_113 ?_
            refine lv_isub (pc := 114) hx hb dX5_letter_114 ?_
            refine wputN (pc := 115) X (fun _ h9 => List.mem_cons_of_mem _ (List.mem_append_left _ (List.mem_append_right _ h9))) tyX4 tyX4_ok nmX4 hP hD hS 17 (at_Tw_17 G A I J) rfl 0 (by decide) (List.mem_of_getElem? (i := 0) rfl) rfl rfl (ty := .int) (v := .int (x6 - (((I 9) 0) ((x4 * (10 : Int32)) + x5).toNatClampNeg))) rfl rfl rfl (Nat.le_of_ble_eq_true rfl) (st_Tw_17_0 G A I J (x6 - (((I 9) 0) ((x4 * (10 : Int32)) + x5).toNatClampNeg))) dX5_letter_115 (fun H locs hP hD hS => ?_)
            refine lv_iload (pc := 118) hx hb dX5_letter_118 (lv_at hl 5 rfl) ?_
            cases hf
            exact hret _ _ _ _ dX5_letter_120 hP hD hS
  have l_30 : ∀ (n30 : Nat), ∀ (x1 : Int32) (x2 : Int32) (x3 : Int32) (x4 : Int32) (I : Nat → CS) (H : Heap) (locs : List Loc) (ls : Array Slot), f_X5_letter_30 n30 x1 x2 x3 x4 I J = some (r, I') → va_P G.1 vwCl (w_Tw G A I J) H → va_D B (w_Tw G A I J) → va_S B s.heap H locs → lv_has ls 8 [(0, .ref (A 0)), (1, .int x1), (2, .int x2), (3, .int x3), (4, .int x4)] → W p l e r_X5_letter s m av below meth cd H locs 0 0 Q (F0 m 30 ls []) := by
    intro n30
    induction n30 with
    | zero =>
      intro x1 x2 x3 x4 I H locs ls hf hP hD hS hl
      rw [f_X5_letter_30] at hf
      cases hf
    | succ n30 ih30 =>
      intro x1 x2 x3 x4 I H locs ls hf hP hD hS hl
      rw [f_X5_letter_30] at hf
      refine lv_iload (pc := 30) hx hb dX5_letter_30 (lv_at hl 4 rfl) ?_
      refine lv_aload_n (pc := 32) hx hb dX5_letter_32 rfl (lv_at hl 0 rfl) ?_
      refine wget (pc := 33) X (fun _ h9 => List.mem_cons_of_mem _ (List.mem_append_left _ (List.mem_append_left _ (List.mem_append_right _ h9)))) hP 0 (at_Tw_0 G A I J) rfl 7 (by decide) (List.mem_cons_of_mem _ (List.mem_append_left _ (List.mem_append_left _ (List.mem_append_left _ (List.mem_append_left _ (List.mem_of_getElem? (i := 1) rfl)))))) rfl (v := .ref (A 72)) rfl dX5_letter_33 ?_
      refine walen (pc := 36) X hP 72 0 (at_Tw_72 G A I J) rfl (v := (50 : Int32)) rfl dX5_letter_36 ?_
      refine lv_icmp_ge (pc := 37) (tgt := 55) hx hb dX5_letter_37 (by decide) (fun h4 => ?_) (fun h4 => ?_)
      · have hf := br_y h4 hf
        refine lv_iload_n (pc := 55) hx hb dX5_letter_55 rfl (lv_at hl 1 rfl) ?_
        refine lv_istore (pc := 56) (lv' := [(4, .int x1), (0, .ref (A 0)), (1, .int x1), (2, .int x2), (3, .int x3)]) hx hb dX5_letter_56 hl (by decide) rfl (fun ls hl => ?_)
        refine lv_iload_n (pc := 58) hx hb dX5_letter_58 rfl (lv_at hl 4 rfl) ?_
        refine lv_istore (pc := 59) (lv' := [(5, .int x3), (4, .int x1), (0, .ref (A 0)), (1, .int x1), (2, .int x2), (3, .int x3)]) hx hb dX5_letter_59 hl (by decide) rfl (fun ls hl => ?_)
        refine lv_iconst (pc := 61) (v := (0 : Int32)) hx hb dX5_letter_61 (by decide) ?_
        refine lv_istore (pc := 62) (lv' := [(6, .int (0 : Int32)), (5, .int x3), (4, .int x1), (0, .ref (A 0)), (1, .int x1), (2, .int x2), (3, .int x3)]) hx hb dX5_letter_62 hl (by decide) rfl (fun ls hl => ?_)
        exact l_64 FU _ _ _ _ _ H locs ls hf hP hD hS (lv_sub hl [3, 5, 2, 1, 0] rfl)
      · have hf := br_n h4 hf
        refine lv_aload_n (pc := 40) hx hb dX5_letter_40 rfl (lv_at hl 0 rfl) ?_
        refine wget (pc := 41) X (fun _ h9 => List.mem_cons_of_mem _ (List.mem_append_left _ (List.mem_append_left _ (List.mem_append_right _ h9)))) hP 0 (at_Tw_0 G A I J) rfl 7 (by decide) (List.mem_cons_of_mem _ (List.mem_append_left _ (List.mem_append_left _ (List.mem_append_left _ (List.mem_append_left _ (List.mem_of_getElem? (i := 1) rfl)))))) rfl (v := .ref (A 72)) rfl dX5_letter_41 ?_
        refine lv_iload (pc := 44) hx hb dX5_letter_44 (lv_at hl 4 rfl) ?_
        refine lv_bipush (pc := 46) (v := (-9 : Int32)) hx hb dX5_letter_46 (by decide) ?_
        obtain ⟨hi, hf⟩ := ck_some hf
        refine wiast (pc := 48) X hP hD hS 72 (at_Tw_72 G A I J) hi rfl (sa_Tw_72 G A I J _) dX5_letter_48 (fun H locs hP hD hS => ?_)
        have hP : va_P G.1 vwCl (w_Tw G A (gset I 9 (cset (I 9) 0 x4.toNatClampNeg (-9 : Int32))) J) H := hP
        have hD : va_D B (w_Tw G A (gset I 9 (cset (I 9) 0 x4.toNatClampNeg (-9 : Int32))) J) := hD
        refine lv_iinc (pc := 49) (v := (x4 + (1 : Int32))) (lv' := [(4, .int (x4 + (1 : Int32))), (0, .ref (A 0)), (1, .int x1), (2, .int x2), (3, .int x3)]) hx hb dX5_letter_49 hl (k := 4) rfl rfl (by decide) rfl (fun ls hl => ?_)
        refine lv_goto (pc := 52) (tgt := 30) hx hb dX5_letter_52 (by decide) ?_
        exact ih30 _ _ _ _ _ H locs ls hf hP hD hS (lv_sub hl [1, 2, 3, 4, 0] rfl)
  unfold f_X5_letter at hf
  refine lv_iload_n (pc := 0) hx hb dX5_letter_0 rfl (lv_at hl 1 rfl) ?_
  obtain ⟨r1, hc1, hf⟩ := ob1_some hf
  refine endi X.2.2.2.2 (runS (pc := 1) (As := [.int x1]) (rest := []) X (c_X5_isTown G l  H.size x1 r1 hc1) gX5_letter_X5_isTown k_X5_isTown ⟨rfl, rfl⟩ ⟨Nat.le_of_ble_eq_true rfl, Nat.le_of_ble_eq_true rfl⟩ (EM.nil (w_Tw G A I J)) hP hD hS rfl hl.1 rfl (Nat.le_of_ble_eq_true rfl) ⟨Nat.zero_le _, Nat.zero_le _⟩ dX5_letter_1) (EM.nil (w_Tw G A I J)) hP hD hS (fun H locs hP hD hS => ?_)
  refine lv_if_eq (pc := 4) (tgt := 25) hx hb dX5_letter_4 (by decide) (fun h7 => ?_) (fun h7 => ?_)
  · have hf := br_y h7 hf
    exact b_25 _ H locs ls hf hP hD hS (lv_sub hl [] rfl)
  · have hf := br_n h7 hf
    refine lv_aload_n (pc := 7) hx hb dX5_letter_7 rfl (lv_at hl 0 rfl) ?_
    refine wget (pc := 8) X (fun _ h9 => List.mem_cons_of_mem _ (List.mem_append_left _ (List.mem_append_left _ (List.mem_append_right _ h9)))) hP 0 (at_Tw_0 G A I J) rfl 5 (by decide) (List.mem_cons_of_mem _ (List.mem_append_left _ (List.mem_append_left _ (List.mem_append_left _ (List.mem_append_left _ (List.mem_of_getElem? (i := 0) rfl)))))) rfl (v := .ref (A 31)) rfl dX5_letter_8 ?_
    refine lv_iload_n (pc := 11) hx hb dX5_letter_11 rfl (lv_at hl 2 rfl) ?_
    obtain ⟨r2, hc2, hf⟩ := ob1_some hf
    refine endi X.2.2.2.2 (runV (pc := 12) (As := [.int x2]) (rest := []) X (c_X0_isPerson G l (fun k => A (31 + k)) H.size (I 0) x2 r2 hc2) gX5_letter_X0_isPerson k_X0_isPerson ⟨rfl, rfl⟩ ⟨Nat.le_of_ble_eq_true rfl, Nat.le_of_ble_eq_true rfl⟩ (em_Tw_Ch_31 G A I J ) hP hD hS (ci := 0) rfl rfl (at_Ch_0 G (fun k => A (31 + k)) (I 0)) rfl hl.1 rfl (Nat.le_of_ble_eq_true rfl) ⟨Nat.zero_le _, Nat.zero_le _⟩ dX5_letter_12) (em_Tw_Ch_31 G A I J ) hP hD hS (fun H locs hP hD hS => ?_)
    refine lv_if_eq (pc := 15) (tgt := 25) hx hb dX5_letter_15 (by decide) (fun h6 => ?_) (fun h6 => ?_)
    · have hf := br_y h6 hf
      exact b_25 _ H locs ls hf hP hD hS (lv_sub hl [] rfl)
    · have hf := br_n h6 hf
      refine lv_iload_n (pc := 18) hx hb dX5_letter_18 rfl (lv_at hl 3 rfl) ?_
      obtain ⟨r3, hc3, hf⟩ := ob1_some hf
      refine endi X.2.2.2.2 (runS (pc := 19) (As := [.int x3]) (rest := []) X (c_X5_isDeed G l  H.size x3 r3 hc3) gX5_letter_X5_isDeed k_X5_isDeed ⟨rfl, rfl⟩ ⟨Nat.le_of_ble_eq_true rfl, Nat.le_of_ble_eq_true rfl⟩ (EM.nil (w_Tw G A I J)) hP hD hS rfl hl.1 rfl (Nat.le_of_ble_eq_true rfl) ⟨Nat.zero_le _, Nat.zero_le _⟩ dX5_letter_19) (EM.nil (w_Tw G A I J)) hP hD hS (fun H locs hP hD hS => ?_)
      refine lv_if_ne (pc := 22) (tgt := 27) hx hb dX5_letter_22 (by decide) (fun h5 => ?_) (fun h5 => ?_)
      · have hf := br_n h5 hf
        refine lv_iconst (pc := 27) (v := (0 : Int32)) hx hb dX5_letter_27 (by decide) ?_
        refine lv_istore (pc := 28) (lv' := [(4, .int (0 : Int32)), (0, .ref (A 0)), (1, .int x1), (2, .int x2), (3, .int x3)]) hx hb dX5_letter_28 hl (by decide) rfl (fun ls hl => ?_)
        exact l_30 FU _ _ _ _ _ H locs ls hf hP hD hS (lv_sub hl [1, 2, 3, 4, 0] rfl)
      · have hf := br_y h5 hf
        exact b_25 _ H locs ls hf hP hD hS (lv_sub hl [] rfl)
def r_X5_lies : Room := { frames := 5, cells := 0, slots := 0, locals := 110 }
set_option maxHeartbeats 4000000 in
set_option maxRecDepth 100000 in
theorem c_X5_lies (G : GT) (l : Launch) (A : Nat → Nat) (sz : Nat) (I : Nat → CS) (J : Nat → JS) (x1 : Int32) (r : Int32) (I' : Nat → CS) (hf : f_X5_lies I J x1 = some (r, I')) : MTi l yX5_lies wsX5_lies r_X5_lies [.ref (A 0), .int x1] G (w_Tw G A I J) (w_Tw G A I' J) sz r := by
  refine MTi.of (cc := cX5_lies) (maxL := 7) (by decide +kernel) rfl (Nat.le_of_ble_eq_true rfl) (fun p e s m av below meth cd Q B H locs ls X hret hl hP hD hS => ?_)
  have hx := X.1.1
  have hb := X.1.2.1
  have hl : lv_has ls 7 [(0, .ref (A 0)), (1, .int x1)] := hl
  have l_33 : ∀ (n33 : Nat), ∀ (x1 : Int32) (x3 : Int32) (x4 : Int32) (x5 : Int32) (x6 : Int32) (I : Nat → CS) (H : Heap) (locs : List Loc) (ls : Array Slot), f_X5_lies_33 n33 x1 x3 x4 x5 x6 I J = some (r, I') → va_P G.1 vwCl (w_Tw G A I J) H → va_D B (w_Tw G A I J) → va_S B s.heap H locs → lv_has ls 7 [(0, .ref (A 0)), (1, .int x1), (3, .int x3), (4, .int x4), (5, .int x5), (6, .int x6)] → W p l e r_X5_lies s m av below meth cd H locs 0 0 Q (F0 m 33 ls []) := by
    intro n33
    induction n33 with
    | zero =>
      intro x1 x3 x4 x5 x6 I H locs ls hf hP hD hS hl
      rw [f_X5_lies_33] at hf
      cases hf
    | succ n33 ih33 =>
      have b_83 : ∀ (x1 : Int32) (x3 : Int32) (x4 : Int32) (x5 : Int32) (x6 : Int32) (I : Nat → CS) (H : Heap) (locs : List Loc) (ls : Array Slot), f_X5_lies_83 (f_X5_lies_33 n33) x1 x3 x4 x5 x6 I J = some (r, I') → va_P G.1 vwCl (w_Tw G A I J) H → va_D B (w_Tw G A I J) → va_S B s.heap H locs → lv_has ls 7 [(0, .ref (A 0)), (1, .int x1), (3, .int x3), (4, .int x4), (5, .int x5), (6, .int x6)] → W p l e r_X5_lies s m av below meth cd H locs 0 0 Q (F0 m 83 ls []) := by
        intro x1 x3 x4 x5 x6 I H locs ls hf hP hD hS hl
        unfold f_X5_lies_83 at hf
        refine lv_iinc (pc := 83) (v := (x6 + (1 : Int32))) (lv' := [(6, .int (x6 + (1 : Int32))), (0, .ref (A 0)), (1, .int x1), (3, .int x3), (4, .int x4), (5, .int x5)]) hx hb dX5_lies_83 hl (k := 5) rfl rfl (by decide) rfl (fun ls hl => ?_)
        refine lv_goto (pc := 86) (tgt := 33) hx hb dX5_lies_86 (by decide) ?_
        exact ih33 _ _ _ _ _ _ H locs ls hf hP hD hS (lv_sub hl [1, 2, 3, 4, 5, 0] rfl)
      have b_79 : ∀ (x1 : Int32) (x4 : Int32) (x5 : Int32) (x6 : Int32) (t0 : Int32) (I : Nat → CS) (H : Heap) (locs : List Loc) (ls : Array Slot), f_X5_lies_79 (f_X5_lies_33 n33) x1 x4 x5 x6 t0 I J = some (r, I') → va_P G.1 vwCl (w_Tw G A I J) H → va_D B (w_Tw G A I J) → va_S B s.heap H locs → lv_has ls 7 [(0, .ref (A 0)), (1, .int x1), (4, .int x4), (5, .int x5), (6, .int x6)] → W p l e r_X5_lies s m av below meth cd H locs 0 0 Q (F0 m 79 ls [.int t0]) := by
        intro x1 x4 x5 x6 t0 I H locs ls hf hP hD hS hl
        unfold f_X5_lies_79 at hf
        refine lv_istore_n (pc := 79) (lv' := [(3, .int t0), (0, .ref (A 0)), (1, .int x1), (4, .int x4), (5, .int x5), (6, .int x6)]) hx hb dX5_lies_79 rfl hl (by decide) rfl (fun ls hl => ?_)
        refine lv_iinc (pc := 80) (v := (x4 + (1 : Int32))) (lv' := [(4, .int (x4 + (1 : Int32))), (3, .int t0), (0, .ref (A 0)), (1, .int x1), (5, .int x5), (6, .int x6)]) hx hb dX5_lies_80 hl (k := 3) rfl rfl (by decide) rfl (fun ls hl => ?_)
        exact b_83 _ _ _ _ _ _ H locs ls hf hP hD hS (lv_sub hl [2, 3, 1, 0, 4, 5] rfl)
      intro x1 x3 x4 x5 x6 I H locs ls hf hP hD hS hl
      rw [f_X5_lies_33] at hf
      refine lv_iload (pc := 33) hx hb dX5_lies_33 (lv_at hl 5 rfl) ?_
      refine lv_iload (pc := 35) hx hb dX5_lies_35 (lv_at hl 4 rfl) ?_
      refine lv_icmp_ge (pc := 37) (tgt := 89) hx hb dX5_lies_37 (by decide) (fun h3 => ?_) (fun h3 => ?_)
      · have hf := br_y h3 hf
        refine lv_aload_n (pc := 89) hx hb dX5_lies_89 rfl (lv_at hl 0 rfl) ?_
        refine wget (pc := 90) X (fun _ h9 => List.mem_cons_of_mem _ (List.mem_append_left _ (List.mem_append_left _ (List.mem_append_left _ (List.mem_append_right _ h9))))) hP 0 (at_Tw_0 G A I J) rfl 2 (by decide) (List.mem_cons_of_mem _ (List.mem_append_left _ (List.mem_append_left _ (List.mem_append_left _ (List.mem_append_left _ (List.mem_append_left _ (List.mem_of_getElem? (i := 3) rfl))))))) rfl (v := .ref (A 17)) rfl dX5_lies_90 ?_
        refine lv_iload_n (pc := 93) hx hb dX5_lies_93 rfl (lv_at hl 2 rfl) ?_
        refine wputN (pc := 94) X (fun _ h9 => List.mem_cons_of_mem _ (List.mem_append_left _ (List.mem_append_left _ (List.mem_append_right _ h9)))) tyX4 tyX4_ok nmX4 hP hD hS 17 (at_Tw_17 G A I J) rfl 0 (by decide) (List.mem_of_getElem? (i := 0) rfl) rfl rfl (ty := .int) (v := .int x3) rfl rfl rfl (Nat.le_of_ble_eq_true rfl) (st_Tw_17_0 G A I J x3) dX5_lies_94 (fun H locs hP hD hS => ?_)
        refine lv_iload (pc := 97) hx hb dX5_lies_97 (lv_at hl 3 rfl) ?_
        cases hf
        exact hret _ _ _ _ dX5_lies_99 hP hD hS
      · have hf := br_n h3 hf
        refine lv_aload_n (pc := 40) hx hb dX5_lies_40 rfl (lv_at hl 0 rfl) ?_
        refine wget (pc := 41) X (fun _ h9 => List.mem_cons_of_mem _ (List.mem_append_left _ (List.mem_append_left _ (List.mem_append_left _ (List.mem_append_right _ h9))))) hP 0 (at_Tw_0 G A I J) rfl 4 (by decide) (List.mem_cons_of_mem _ (List.mem_append_left _ (List.mem_append_left _ (List.mem_append_left _ (List.mem_append_left _ (List.mem_append_left _ (List.mem_of_getElem? (i := 1) rfl))))))) rfl (v := .ref (A 30)) rfl dX5_lies_41 ?_
        refine lv_aload_n (pc := 44) hx hb dX5_lies_44 rfl (lv_at hl 0 rfl) ?_
        refine wget (pc := 45) X (fun _ h9 => List.mem_cons_of_mem _ (List.mem_append_left _ (List.mem_append_left _ (List.mem_append_left _ (List.mem_append_right _ h9))))) hP 0 (at_Tw_0 G A I J) rfl 5 (by decide) (List.mem_cons_of_mem _ (List.mem_append_left _ (List.mem_append_left _ (List.mem_append_left _ (List.mem_append_left _ (List.mem_append_left _ (List.mem_of_getElem? (i := 2) rfl))))))) rfl (v := .ref (A 31)) rfl dX5_lies_45 ?_
        refine lv_aload_n (pc := 48) hx hb dX5_lies_48 rfl (lv_at hl 0 rfl) ?_
        refine wget (pc := 49) X (fun _ h9 => List.mem_cons_of_mem _ (List.mem_append_left _ (List.mem_append_left _ (List.mem_append_left _ (List.mem_append_right _ h9))))) hP 0 (at_Tw_0 G A I J) rfl 0 (by decide) (List.mem_cons_of_mem _ (List.mem_append_left _ (List.mem_append_left _ (List.mem_append_left _ (List.mem_append_left _ (List.mem_append_left _ (List.mem_of_getElem? (i := 0) rfl))))))) rfl (v := .ref (A 1)) rfl dX5_lies_49 ?_
        refine lv_iload_n (pc := 52) hx hb dX5_lies_52 rfl (lv_at hl 1 rfl) ?_
        refine lv_iload (pc := 53) hx hb dX5_lies_53 (lv_at hl 5 rfl) ?_
        refine lv_aload_n (pc := 55) hx hb dX5_lies_55 rfl (lv_at hl 0 rfl) ?_
        refine wget (pc := 56) X (fun _ h9 => List.mem_cons_of_mem _ (List.mem_append_left _ (List.mem_append_left _ (List.mem_append_left _ (List.mem_append_right _ h9))))) hP 0 (at_Tw_0 G A I J) rfl 5 (by decide) (List.mem_cons_of_mem _ (List.mem_append_left _ (List.mem_append_left _ (List.mem_append_left _ (List.mem_append_left _ (List.mem_append_left _ (List.mem_of_getElem? (i := 2) rfl))))))) rfl (v := .ref (A 31)) rfl dX5_lies_56 ?_
        obtain ⟨r1, hc1, hf⟩ := ob1_some hf
        refine endi X.2.2.2.2 (runV (pc := 59) (As := []) (rest := [.int x6, .int x1, .ref (A 1), .ref (A 31), .ref (A 30)]) X (c_X0_unmended G l (fun k => A (31 + k)) H.size (I 0) r1 hc1) gX5_lies_X0_unmended k_X0_unmended ⟨rfl, rfl⟩ ⟨Nat.le_of_ble_eq_true rfl, Nat.le_of_ble_eq_true rfl⟩ (em_Tw_Ch_31 G A I J ) hP hD hS (ci := 0) rfl rfl (at_Ch_0 G (fun k => A (31 + k)) (I 0)) rfl hl.1 rfl (Nat.le_of_ble_eq_true rfl) ⟨Nat.zero_le _, Nat.zero_le _⟩ dX5_lies_59) (em_Tw_Ch_31 G A I J ) hP hD hS (fun H locs hP hD hS => ?_)
        obtain ⟨r2, c2, hc2, hf⟩ := ob2_some hf
        refine endi X.2.2.2.2 (runV (pc := 62) (As := [.ref (A 31), .ref (A 1), .int x1, .int x6, .int r1]) (rest := []) X (c_X1_isAsTold G l (fun k => A (bif Nat.blt k 11 then 30 + k else k - 10)) H.size (I 8) (J 1) (I 0) (I 5) x1 x6 r1 r2 c2 hc2) gX5_lies_X1_isAsTold k_X1_isAsTold ⟨rfl, rfl⟩ ⟨Nat.le_of_ble_eq_true rfl, Nat.le_of_ble_eq_true rfl⟩ (em_Tw_FCS_30_31_1_c G A I J c2) hP hD hS (ci := 1) rfl rfl (at_FCS_0 G (fun k => A (bif Nat.blt k 11 then 30 + k else k - 10)) (I 8) (J 1) (I 0) (I 5)) rfl hl.1 rfl (Nat.le_of_ble_eq_true rfl) ⟨Nat.zero_le _, Nat.zero_le _⟩ dX5_lies_62) (em_Tw_FCS_30_31_1_c G A I J c2) hP hD hS (fun H locs hP hD hS => ?_)
        refine lv_if_ne (pc := 65) (tgt := 83) hx hb dX5_lies_65 (by decide) (fun h2 => ?_) (fun h2 => ?_)
        · have hf := br_n h2 hf
          exact b_83 _ _ _ _ _ _ H locs ls hf hP hD hS (lv_sub hl [0, 1, 2, 3, 4, 5] rfl)
        · have hf := br_y h2 hf
          refine lv_iload (pc := 68) hx hb dX5_lies_68 (lv_at hl 3 rfl) ?_
          refine lv_if_ne (pc := 70) (tgt := 78) hx hb dX5_lies_70 (by decide) (fun h1 => ?_) (fun h1 => ?_)
          · have hf := br_n h1 hf
            refine lv_iload_n (pc := 78) hx hb dX5_lies_78 rfl (lv_at hl 2 rfl) ?_
            exact b_79 _ _ _ _ _ _ H locs ls hf hP hD hS (lv_sub hl [0, 1, 3, 4, 5] rfl)
          · have hf := br_y h1 hf
            refine lv_iload (pc := 73) hx hb dX5_lies_73 (lv_at hl 5 rfl) ?_
            refine lv_goto (pc := 75) (tgt := 79) hx hb dX5_lies_75 (by decide) ?_
            exact b_79 _ _ _ _ _ _ H locs ls hf hP hD hS (lv_sub hl [0, 1, 3, 4, 5] rfl)
  unfold f_X5_lies at hf
  refine lv_aload_n (pc := 0) hx hb dX5_lies_0 rfl (lv_at hl 0 rfl) ?_
  refine lv_iload_n (pc := 1) hx hb dX5_lies_1 rfl (lv_at hl 1 rfl) ?_
  obtain ⟨r1, I1, hc1, hf⟩ := ob2_some hf
  refine endi X.2.2.2.2 (runV (pc := 2) (As := [.int x1]) (rest := []) X (c_X5_foursRefused G l A H.size I J x1 r1 I1 hc1) gX5_lies_X5_foursRefused k_X5_foursRefused ⟨rfl, rfl⟩ ⟨Nat.le_of_ble_eq_true rfl, Nat.le_of_ble_eq_true rfl⟩ (EM.all (w_Tw G A I J) (w_Tw G A I1 J)) hP hD hS (ci := 5) rfl rfl (at_Tw_0 G A I J) rfl hl.1 rfl (Nat.le_of_ble_eq_true rfl) ⟨Nat.zero_le _, Nat.zero_le _⟩ dX5_lies_2) (EM.all (w_Tw G A I J) (w_Tw G A I1 J)) hP hD hS (fun H locs hP hD hS => ?_)
  refine lv_istore_n (pc := 5) (lv' := [(2, .int r1), (0, .ref (A 0)), (1, .int x1)]) hx hb dX5_lies_5 rfl hl (by decide) rfl (fun ls hl => ?_)
  refine lv_iload_n (pc := 6) hx hb dX5_lies_6 rfl (lv_at hl 0 rfl) ?_
  refine lv_if_eq (pc := 7) (tgt := 12) hx hb dX5_lies_7 (by decide) (fun h4 => ?_) (fun h4 => ?_)
  · have hf := br_y h4 hf
    refine lv_bipush (pc := 12) (v := (-9 : Int32)) hx hb dX5_lies_12 (by decide) ?_
    refine lv_istore_n (pc := 14) (lv' := [(3, .int (-9 : Int32)), (2, .int r1), (0, .ref (A 0)), (1, .int x1)]) hx hb dX5_lies_14 rfl hl (by decide) rfl (fun ls hl => ?_)
    refine lv_iconst (pc := 15) (v := (0 : Int32)) hx hb dX5_lies_15 (by decide) ?_
    refine lv_istore (pc := 16) (lv' := [(4, .int (0 : Int32)), (3, .int (-9 : Int32)), (2, .int r1), (0, .ref (A 0)), (1, .int x1)]) hx hb dX5_lies_16 hl (by decide) rfl (fun ls hl => ?_)
    refine lv_aload_n (pc := 18) hx hb dX5_lies_18 rfl (lv_at hl 3 rfl) ?_
    refine wget (pc := 19) X (fun _ h9 => List.mem_cons_of_mem _ (List.mem_append_left _ (List.mem_append_left _ (List.mem_append_left _ (List.mem_append_right _ h9))))) hP 0 (at_Tw_0 G A I1 J) rfl 0 (by decide) (List.mem_cons_of_mem _ (List.mem_append_left _ (List.mem_append_left _ (List.mem_append_left _ (List.mem_append_left _ (List.mem_append_left _ (List.mem_of_getElem? (i := 0) rfl))))))) rfl (v := .ref (A 1)) rfl dX5_lies_19 ?_
    refine lv_iload_n (pc := 22) hx hb dX5_lies_22 rfl (lv_at hl 4 rfl) ?_
    obtain ⟨r2, hc2, hf⟩ := ob1_some hf
    refine endi X.2.2.2.2 (runV (pc := 23) (As := [.int x1]) (rest := []) X (c_X3_sizeOf_r G l (fun k => A (1 + k)) H.size (I1 5) x1 r2 hc2) gX5_lies_X3_sizeOf k_X3_sizeOf ⟨rfl, rfl⟩ ⟨Nat.le_of_ble_eq_true rfl, Nat.le_of_ble_eq_true rfl⟩ (em_Tw_S6_1 G A I1 J ) hP hD hS (ci := 3) rfl rfl (at_S6_0 G (fun k => A (1 + k)) (I1 5)) rfl hl.1 rfl (Nat.le_of_ble_eq_true rfl) ⟨Nat.zero_le _, Nat.zero_le _⟩ dX5_lies_23) (em_Tw_S6_1 G A I1 J ) hP hD hS (fun H locs hP hD hS => ?_)
    refine lv_iconst (pc := 26) (v := (4 : Int32)) hx hb dX5_lies_26 (by decide) ?_
    refine lv_idiv (pc := 27) hx hb dX5_lies_27 (by decide) ?_
    refine lv_istore (pc := 28) (lv' := [(5, .int (r2 / (4 : Int32))), (4, .int (0 : Int32)), (3, .int (-9 : Int32)), (2, .int r1), (0, .ref (A 0)), (1, .int x1)]) hx hb dX5_lies_28 hl (by decide) rfl (fun ls hl => ?_)
    refine lv_iconst (pc := 30) (v := (0 : Int32)) hx hb dX5_lies_30 (by decide) ?_
    refine lv_istore (pc := 31) (lv' := [(6, .int (0 : Int32)), (5, .int (r2 / (4 : Int32))), (4, .int (0 : Int32)), (3, .int (-9 : Int32)), (2, .int r1), (0, .ref (A 0)), (1, .int x1)]) hx hb dX5_lies_31 hl (by decide) rfl (fun ls hl => ?_)
    exact l_33 FU _ _ _ _ _ _ H locs ls hf hP hD hS (lv_sub hl [5, 6, 3, 2, 1, 0] rfl)
  · have hf := br_n h4 hf
    refine lv_iload_n (pc := 10) hx hb dX5_lies_10 rfl (lv_at hl 0 rfl) ?_
    cases hf
    exact hret _ _ _ _ dX5_lies_11 hP hD hS
def r_X5_lots : Room := { frames := 5, cells := 0, slots := 0, locals := 126 }
set_option maxHeartbeats 4000000 in
set_option maxRecDepth 100000 in
theorem c_X5_lots (G : GT) (l : Launch) (A : Nat → Nat) (sz : Nat) (I : Nat → CS) (J : Nat → JS) (x1 : Int32) (x2 : Int32) (r : Int32) (I' : Nat → CS) (hf : f_X5_lots I J x1 x2 = some (r, I')) : MTi l yX5_lots wsX5_lots r_X5_lots [.ref (A 0), .int x1, .int x2] G (w_Tw G A I J) (w_Tw G A I' J) sz r := by
  refine MTi.of (cc := cX5_lots) (maxL := 10) (by decide +kernel) rfl (Nat.le_of_ble_eq_true rfl) (fun p e s m av below meth cd Q B H locs ls X hret hl hP hD hS => ?_)
  have hx := X.1.1
  have hb := X.1.2.1
  have hl : lv_has ls 10 [(0, .ref (A 0)), (1, .int x1), (2, .int x2)] := hl
  have b_23 : ∀ (I : Nat → CS) (H : Heap) (locs : List Loc) (ls : Array Slot), f_X5_lots_23 I J = some (r, I') → va_P G.1 vwCl (w_Tw G A I J) H → va_D B (w_Tw G A I J) → va_S B s.heap H locs → lv_has ls 10 [] → W p l e r_X5_lots s m av below meth cd H locs 0 0 Q (F0 m 23 ls []) := by
    intro I H locs ls hf hP hD hS hl
    unfold f_X5_lots_23 at hf
    refine lv_iconst (pc := 23) (v := (-1 : Int32)) hx hb dX5_lots_23 (by decide) ?_
    cases hf
    exact hret _ _ _ _ dX5_lots_24 hP hD hS
  have b_61 : ∀ (I : Nat → CS) (H : Heap) (locs : List Loc) (ls : Array Slot), f_X5_lots_61 I J = some (r, I') → va_P G.1 vwCl (w_Tw G A I J) H → va_D B (w_Tw G A I J) → va_S B s.heap H locs → lv_has ls 10 [] → W p l e r_X5_lots s m av below meth cd H locs 0 0 Q (F0 m 61 ls []) := by
    intro I H locs ls hf hP hD hS hl
    unfold f_X5_lots_61 at hf
    refine lv_bipush (pc := 61) (v := (-2 : Int32)) hx hb dX5_lots_61 (by decide) ?_
    cases hf
    exact hret _ _ _ _ dX5_lots_63 hP hD hS
  have l_70 : ∀ (n70 : Nat), ∀ (x1 : Int32) (x3 : Int64) (x5 : Int32) (I : Nat → CS) (H : Heap) (locs : List Loc) (ls : Array Slot), f_X5_lots_70 n70 x1 x3 x5 I J = some (r, I') → va_P G.1 vwCl (w_Tw G A I J) H → va_D B (w_Tw G A I J) → va_S B s.heap H locs → lv_has ls 10 [(0, .ref (A 0)), (1, .int x1), (3, .long x3), (5, .int x5)] → W p l e r_X5_lots s m av below meth cd H locs 0 0 Q (F0 m 70 ls []) := by
    intro n70
    induction n70 with
    | zero =>
      intro x1 x3 x5 I H locs ls hf hP hD hS hl
      rw [f_X5_lots_70] at hf
      cases hf
    | succ n70 ih70 =>
      intro x1 x3 x5 I H locs ls hf hP hD hS hl
      rw [f_X5_lots_70] at hf
      refine lv_iload (pc := 70) hx hb dX5_lots_70 (lv_at hl 3 rfl) ?_
      refine lv_iload_n (pc := 72) hx hb dX5_lots_72 rfl (lv_at hl 1 rfl) ?_
      refine lv_icmp_ge (pc := 73) (tgt := 158) hx hb dX5_lots_73 (by decide) (fun h1 => ?_) (fun h1 => ?_)
      · have hf := br_y h1 hf
        refine lv_aload_n (pc := 158) hx hb dX5_lots_158 rfl (lv_at hl 0 rfl) ?_
        refine wget (pc := 159) X (fun _ h9 => List.mem_cons_of_mem _ (List.mem_append_left _ (List.mem_append_right _ h9))) hP 0 (at_Tw_0 G A I J) rfl 5 (by decide) (List.mem_cons_of_mem _ (List.mem_append_left _ (List.mem_append_left _ (List.mem_append_left _ (List.mem_of_getElem? (i := 1) rfl))))) rfl (v := .ref (A 31)) rfl dX5_lots_159 ?_
        refine lv_iconst (pc := 162) (v := (0 : Int32)) hx hb dX5_lots_162 (by decide) ?_
        refine lv_iconst (pc := 163) (v := (4 : Int32)) hx hb dX5_lots_163 (by decide) ?_
        refine lv_bipush (pc := 164) (v := (19 : Int32)) hx hb dX5_lots_164 (by decide) ?_
        obtain ⟨r1, c1, hc1, hf⟩ := ob2_some hf
        refine endi X.2.2.2.2 (runV (pc := 166) (As := [.int (0 : Int32), .int (4 : Int32), .int (19 : Int32)]) (rest := []) X (c_X0_differing G l (fun k => A (31 + k)) H.size (I 0) (0 : Int32) (4 : Int32) (19 : Int32) r1 c1 hc1) gX5_lots_X0_differing k_X0_differing ⟨rfl, rfl⟩ ⟨Nat.le_of_ble_eq_true rfl, Nat.le_of_ble_eq_true rfl⟩ (em_Tw_Ch_31_c G A I J c1) hP hD hS (ci := 0) rfl rfl (at_Ch_0 G (fun k => A (31 + k)) (I 0)) rfl hl.1 rfl (Nat.le_of_ble_eq_true rfl) ⟨Nat.zero_le _, Nat.zero_le _⟩ dX5_lots_166) (em_Tw_Ch_31_c G A I J c1) hP hD hS (fun H locs hP hD hS => ?_)
        obtain ⟨r2, hc2, hf⟩ := ob1_some hf
        refine endi X.2.2.2.2 (runS (pc := 169) (As := [.int r1]) (rest := []) X (c_J6_bitCount_0f7a4 G l  H.size r1 r2 hc2) gX5_lots_J6_bitCount_0f7a4 k_J6_bitCount_0f7a4 ⟨rfl, rfl⟩ ⟨Nat.le_of_ble_eq_true rfl, Nat.le_of_ble_eq_true rfl⟩ (EM.nil (w_Tw G A (gset I 0 c1) J)) hP hD hS rfl hl.1 rfl (Nat.le_of_ble_eq_true rfl) ⟨Nat.zero_le _, Nat.zero_le _⟩ dX5_lots_169) (EM.nil (w_Tw G A (gset I 0 c1) J)) hP hD hS (fun H locs hP hD hS => ?_)
        cases hf
        exact hret _ _ _ _ dX5_lots_172 hP hD hS
      · have hf := br_n h1 hf
        refine lv_lload_n (pc := 76) hx hb dX5_lots_76 rfl (lv_at hl 2 rfl) ?_
        refine lv_ldc2 (pc := 77) (v := 48271) hx hb X.1.2.2.2.1 (X.1.2.2.2.2 _ (List.mem_cons_of_mem _ (List.mem_append_left _ (List.mem_append_left _ (List.mem_append_left _ (List.mem_of_getElem? (i := 2) rfl)))))) dX5_lots_77 ?_
        refine lv_lmul (pc := 80) hx hb dX5_lots_80 ?_
        refine lv_ldc2 (pc := 81) (v := 2147483647) hx hb X.1.2.2.2.1 (X.1.2.2.2.2 _ (List.mem_cons_of_mem _ (List.mem_append_left _ (List.mem_append_left _ (List.mem_append_left _ (List.mem_of_getElem? (i := 3) rfl)))))) dX5_lots_81 ?_
        refine wlrem (pc := 84) hx hb dX5_lots_84 (by decide) ?_
        refine lv_lstore_n (pc := 85) (lv' := [(3, .long (jremL (x3 * (48271 : Int64)) (2147483647 : Int64))), (0, .ref (A 0)), (1, .int x1), (5, .int x5)]) hx hb dX5_lots_85 rfl hl (by decide) rfl (fun ls hl => ?_)
        refine lv_lload_n (pc := 86) hx hb dX5_lots_86 rfl (lv_at hl 0 rfl) ?_
        refine lv_ldc2 (pc := 87) (v := 5) hx hb X.1.2.2.2.1 (X.1.2.2.2.2 _ (List.mem_cons_of_mem _ (List.mem_append_left _ (List.mem_append_left _ (List.mem_append_left _ (List.mem_of_getElem? (i := 4) rfl)))))) dX5_lots_87 ?_
        refine wlrem (pc := 90) hx hb dX5_lots_90 (by decide) ?_
        refine lv_l2i (pc := 91) (v := ((jremL (jremL (x3 * (48271 : Int64)) (2147483647 : Int64)) (5 : Int64))).toInt32) hx hb dX5_lots_91 rfl ?_
        refine lv_istore (pc := 92) (lv' := [(6, .int (((jremL (jremL (x3 * (48271 : Int64)) (2147483647 : Int64)) (5 : Int64))).toInt32)), (3, .long (jremL (x3 * (48271 : Int64)) (2147483647 : Int64))), (0, .ref (A 0)), (1, .int x1), (5, .int x5)]) hx hb dX5_lots_92 hl (by decide) rfl (fun ls hl => ?_)
        refine lv_lload_n (pc := 94) hx hb dX5_lots_94 rfl (lv_at hl 1 rfl) ?_
        refine lv_ldc2 (pc := 95) (v := 8) hx hb X.1.2.2.2.1 (X.1.2.2.2.2 _ (List.mem_cons_of_mem _ (List.mem_append_left _ (List.mem_append_left _ (List.mem_append_left _ (List.mem_of_getElem? (i := 5) rfl)))))) dX5_lots_95 ?_
        refine lv_ldiv (pc := 98) hx hb dX5_lots_98 (by decide) ?_
        refine lv_ldc2 (pc := 99) (v := 20) hx hb X.1.2.2.2.1 (X.1.2.2.2.2 _ (List.mem_cons_of_mem _ (List.mem_append_left _ (List.mem_append_left _ (List.mem_append_left _ (List.mem_of_getElem? (i := 6) rfl)))))) dX5_lots_99 ?_
        refine wlrem (pc := 102) hx hb dX5_lots_102 (by decide) ?_
        refine lv_l2i (pc := 103) (v := ((jremL ((jremL (x3 * (48271 : Int64)) (2147483647 : Int64)) / (8 : Int64)) (20 : Int64))).toInt32) hx hb dX5_lots_103 rfl ?_
        refine lv_istore (pc := 104) (lv' := [(7, .int (((jremL ((jremL (x3 * (48271 : Int64)) (2147483647 : Int64)) / (8 : Int64)) (20 : Int64))).toInt32)), (6, .int (((jremL (jremL (x3 * (48271 : Int64)) (2147483647 : Int64)) (5 : Int64))).toInt32)), (3, .long (jremL (x3 * (48271 : Int64)) (2147483647 : Int64))), (0, .ref (A 0)), (1, .int x1), (5, .int x5)]) hx hb dX5_lots_104 hl (by decide) rfl (fun ls hl => ?_)
        refine lv_lload_n (pc := 106) hx hb dX5_lots_106 rfl (lv_at hl 2 rfl) ?_
        refine lv_ldc2 (pc := 107) (v := 256) hx hb X.1.2.2.2.1 (X.1.2.2.2.2 _ (List.mem_cons_of_mem _ (List.mem_append_left _ (List.mem_append_left _ (List.mem_append_left _ (List.mem_of_getElem? (i := 7) rfl)))))) dX5_lots_107 ?_
        refine lv_ldiv (pc := 110) hx hb dX5_lots_110 (by decide) ?_
        refine lv_aload_n (pc := 111) hx hb dX5_lots_111 rfl (lv_at hl 3 rfl) ?_
        refine wget (pc := 112) X (fun _ h9 => List.mem_cons_of_mem _ (List.mem_append_left _ (List.mem_append_right _ h9))) hP 0 (at_Tw_0 G A I J) rfl 5 (by decide) (List.mem_cons_of_mem _ (List.mem_append_left _ (List.mem_append_left _ (List.mem_append_left _ (List.mem_of_getElem? (i := 1) rfl))))) rfl (v := .ref (A 31)) rfl dX5_lots_112 ?_
        refine wgetN (pc := 115) X (fun _ h9 => List.mem_cons_of_mem _ (List.mem_append_right _ h9)) hP 31 (at_Tw_31 G A I J) rfl 0 (by decide) (List.mem_of_getElem? (i := 6) rfl) rfl (v := .int ((I 0) 0 0)) rfl dX5_lots_115 ?_
        refine lv_i2l (pc := 118) (v := (((I 0) 0 0)).toInt64) hx hb dX5_lots_118 rfl ?_
        obtain ⟨hz, hf⟩ := ck_some hf
        refine wlrem (pc := 119) hx hb dX5_lots_119 (nzL_ne hz) ?_
        refine lv_l2i (pc := 120) (v := ((jremL ((jremL (x3 * (48271 : Int64)) (2147483647 : Int64)) / (256 : Int64)) ((((I 0) 0 0)).toInt64))).toInt32) hx hb dX5_lots_120 rfl ?_
        refine lv_istore (pc := 121) (lv' := [(8, .int (((jremL ((jremL (x3 * (48271 : Int64)) (2147483647 : Int64)) / (256 : Int64)) ((((I 0) 0 0)).toInt64))).toInt32)), (7, .int (((jremL ((jremL (x3 * (48271 : Int64)) (2147483647 : Int64)) / (8 : Int64)) (20 : Int64))).toInt32)), (6, .int (((jremL (jremL (x3 * (48271 : Int64)) (2147483647 : Int64)) (5 : Int64))).toInt32)), (3, .long (jremL (x3 * (48271 : Int64)) (2147483647 : Int64))), (0, .ref (A 0)), (1, .int x1), (5, .int x5)]) hx hb dX5_lots_121 hl (by decide) rfl (fun ls hl => ?_)
        refine lv_lload_n (pc := 123) hx hb dX5_lots_123 rfl (lv_at hl 3 rfl) ?_
        refine lv_ldc2 (pc := 124) (v := 4096) hx hb X.1.2.2.2.1 (X.1.2.2.2.2 _ (List.mem_cons_of_mem _ (List.mem_append_left _ (List.mem_append_left _ (List.mem_append_left _ (List.mem_of_getElem? (i := 8) rfl)))))) dX5_lots_124 ?_
        refine lv_ldiv (pc := 127) hx hb dX5_lots_127 (by decide) ?_
        refine lv_ldc2 (pc := 128) (v := 9) hx hb X.1.2.2.2.1 (X.1.2.2.2.2 _ (List.mem_cons_of_mem _ (List.mem_append_left _ (List.mem_append_left _ (List.mem_append_left _ (List.mem_of_getElem? (i := 9) rfl)))))) dX5_lots_128 ?_
        refine wlrem (pc := 131) hx hb dX5_lots_131 (by decide) ?_
        refine lv_l2i (pc := 132) (v := ((jremL ((jremL (x3 * (48271 : Int64)) (2147483647 : Int64)) / (4096 : Int64)) (9 : Int64))).toInt32) hx hb dX5_lots_132 rfl ?_
        refine lv_iconst (pc := 133) (v := (1 : Int32)) hx hb dX5_lots_133 (by decide) ?_
        refine lv_iadd (pc := 134) hx hb dX5_lots_134 ?_
        refine lv_istore (pc := 135) (lv' := [(9, .int ((((jremL ((jremL (x3 * (48271 : Int64)) (2147483647 : Int64)) / (4096 : Int64)) (9 : Int64))).toInt32) + (1 : Int32))), (8, .int (((jremL ((jremL (x3 * (48271 : Int64)) (2147483647 : Int64)) / (256 : Int64)) ((((I 0) 0 0)).toInt64))).toInt32)), (7, .int (((jremL ((jremL (x3 * (48271 : Int64)) (2147483647 : Int64)) / (8 : Int64)) (20 : Int64))).toInt32)), (6, .int (((jremL (jremL (x3 * (48271 : Int64)) (2147483647 : Int64)) (5 : Int64))).toInt32)), (3, .long (jremL (x3 * (48271 : Int64)) (2147483647 : Int64))), (0, .ref (A 0)), (1, .int x1), (5, .int x5)]) hx hb dX5_lots_135 hl (by decide) rfl (fun ls hl => ?_)
        refine lv_aload_n (pc := 137) hx hb dX5_lots_137 rfl (lv_at hl 5 rfl) ?_
        refine wget (pc := 138) X (fun _ h9 => List.mem_cons_of_mem _ (List.mem_append_left _ (List.mem_append_right _ h9))) hP 0 (at_Tw_0 G A I J) rfl 5 (by decide) (List.mem_cons_of_mem _ (List.mem_append_left _ (List.mem_append_left _ (List.mem_append_left _ (List.mem_of_getElem? (i := 1) rfl))))) rfl (v := .ref (A 31)) rfl dX5_lots_138 ?_
        refine lv_iload (pc := 141) hx hb dX5_lots_141 (lv_at hl 3 rfl) ?_
        refine lv_iload (pc := 143) hx hb dX5_lots_143 (lv_at hl 2 rfl) ?_
        refine lv_iload (pc := 145) hx hb dX5_lots_145 (lv_at hl 1 rfl) ?_
        refine lv_iload (pc := 147) hx hb dX5_lots_147 (lv_at hl 0 rfl) ?_
        obtain ⟨c3, hc3, hf⟩ := ob1_some hf
        refine endv X.2.2.2.2 (runV (pc := 149) (As := [.int (((jremL (jremL (x3 * (48271 : Int64)) (2147483647 : Int64)) (5 : Int64))).toInt32), .int (((jremL ((jremL (x3 * (48271 : Int64)) (2147483647 : Int64)) / (8 : Int64)) (20 : Int64))).toInt32), .int (((jremL ((jremL (x3 * (48271 : Int64)) (2147483647 : Int64)) / (256 : Int64)) ((((I 0) 0 0)).toInt64))).toInt32), .int ((((jremL ((jremL (x3 * (48271 : Int64)) (2147483647 : Int64)) / (4096 : Int64)) (9 : Int64))).toInt32) + (1 : Int32))]) (rest := []) X (c_X0_turnErred G l (fun k => A (31 + k)) H.size (I 0) (((jremL (jremL (x3 * (48271 : Int64)) (2147483647 : Int64)) (5 : Int64))).toInt32) (((jremL ((jremL (x3 * (48271 : Int64)) (2147483647 : Int64)) / (8 : Int64)) (20 : Int64))).toInt32) (((jremL ((jremL (x3 * (48271 : Int64)) (2147483647 : Int64)) / (256 : Int64)) ((((I 0) 0 0)).toInt64))).toInt32) ((((jremL ((jremL (x3 * (48271 : Int64)) (2147483647 : Int64)) / (4096 : Int64)) (9 : Int64))).toInt32) + (1 : Int32)) c3 hc3) gX5_lots_X0_turnErred k_X0_turnErred ⟨rfl, rfl⟩ ⟨Nat.le_of_ble_eq_true rfl, Nat.le_of_ble_eq_true rfl⟩ (em_Tw_Ch_31_c G A I J c3) hP hD hS (ci := 0) rfl rfl (at_Ch_0 G (fun k => A (31 + k)) (I 0)) rfl hl.1 rfl (Nat.le_of_ble_eq_true rfl) ⟨Nat.zero_le _, Nat.zero_le _⟩ dX5_lots_149) (em_Tw_Ch_31_c G A I J c3) hP hD hS (fun H locs hP hD hS => ?_)
        refine lv_iinc (pc := 152) (v := (x5 + (1 : Int32))) (lv' := [(5, .int (x5 + (1 : Int32))), (9, .int ((((jremL ((jremL (x3 * (48271 : Int64)) (2147483647 : Int64)) / (4096 : Int64)) (9 : Int64))).toInt32) + (1 : Int32))), (8, .int (((jremL ((jremL (x3 * (48271 : Int64)) (2147483647 : Int64)) / (256 : Int64)) ((((I 0) 0 0)).toInt64))).toInt32)), (7, .int (((jremL ((jremL (x3 * (48271 : Int64)) (2147483647 : Int64)) / (8 : Int64)) (20 : Int64))).toInt32)), (6, .int (((jremL (jremL (x3 * (48271 : Int64)) (2147483647 : Int64)) (5 : Int64))).toInt32)), (3, .long (jremL (x3 * (48271 : Int64)) (2147483647 : Int64))), (0, .ref (A 0)), (1, .int x1)]) hx hb dX5_lots_152 hl (k := 7) rfl rfl (by decide) rfl (fun ls hl => ?_)
        refine lv_goto (pc := 155) (tgt := 70) hx hb dX5_lots_155 (by decide) ?_
        exact ih70 _ _ _ _ H locs ls hf hP hD hS (lv_sub hl [6, 7, 5, 0] rfl)
  unfold f_X5_lots at hf
  refine lv_iload_n (pc := 0) hx hb dX5_lots_0 rfl (lv_at hl 1 rfl) ?_
  refine lv_iconst (pc := 1) (v := (1 : Int32)) hx hb dX5_lots_1 (by decide) ?_
  refine lv_icmp_lt (pc := 2) (tgt := 23) hx hb dX5_lots_2 (by decide) (fun h8 => ?_) (fun h8 => ?_)
  · have hf := br_y h8 hf
    exact b_23 _ H locs ls hf hP hD hS (lv_sub hl [] rfl)
  · have hf := br_n h8 hf
    refine lv_iload_n (pc := 5) hx hb dX5_lots_5 rfl (lv_at hl 1 rfl) ?_
    refine lv_bipush (pc := 6) (v := (10 : Int32)) hx hb dX5_lots_6 (by decide) ?_
    refine lv_icmp_gt (pc := 8) (tgt := 23) hx hb dX5_lots_8 (by decide) (fun h7 => ?_) (fun h7 => ?_)
    · have hf := br_y h7 hf
      exact b_23 _ H locs ls hf hP hD hS (lv_sub hl [] rfl)
    · have hf := br_n h7 hf
      refine lv_iload_n (pc := 11) hx hb dX5_lots_11 rfl (lv_at hl 2 rfl) ?_
      refine lv_iconst (pc := 12) (v := (1 : Int32)) hx hb dX5_lots_12 (by decide) ?_
      refine lv_icmp_lt (pc := 13) (tgt := 23) hx hb dX5_lots_13 (by decide) (fun h6 => ?_) (fun h6 => ?_)
      · have hf := br_y h6 hf
        exact b_23 _ H locs ls hf hP hD hS (lv_sub hl [] rfl)
      · have hf := br_n h6 hf
        refine lv_iload_n (pc := 16) hx hb dX5_lots_16 rfl (lv_at hl 2 rfl) ?_
        refine lv_ldcw (pc := 17) (v := 2147483646) hx hb X.1.2.2.2.1 (X.1.2.2.2.2 _ (List.mem_cons_of_mem _ (List.mem_append_left _ (List.mem_append_left _ (List.mem_append_left _ (List.mem_of_getElem? (i := 0) rfl)))))) dX5_lots_17 ?_
        refine lv_icmp_le (pc := 20) (tgt := 25) hx hb dX5_lots_20 (by decide) (fun h5 => ?_) (fun h5 => ?_)
        · have hf := br_y h5 hf
          refine lv_aload_n (pc := 25) hx hb dX5_lots_25 rfl (lv_at hl 0 rfl) ?_
          refine wget (pc := 26) X (fun _ h9 => List.mem_cons_of_mem _ (List.mem_append_left _ (List.mem_append_right _ h9))) hP 0 (at_Tw_0 G A I J) rfl 5 (by decide) (List.mem_cons_of_mem _ (List.mem_append_left _ (List.mem_append_left _ (List.mem_append_left _ (List.mem_of_getElem? (i := 1) rfl))))) rfl (v := .ref (A 31)) rfl dX5_lots_26 ?_
          refine wgetN (pc := 29) X (fun _ h9 => List.mem_cons_of_mem _ (List.mem_append_right _ h9)) hP 31 (at_Tw_31 G A I J) rfl 0 (by decide) (List.mem_of_getElem? (i := 6) rfl) rfl (v := .int ((I 0) 0 0)) rfl dX5_lots_29 ?_
          refine lv_iconst (pc := 32) (v := (1 : Int32)) hx hb dX5_lots_32 (by decide) ?_
          refine lv_icmp_ge (pc := 33) (tgt := 39) hx hb dX5_lots_33 (by decide) (fun h4 => ?_) (fun h4 => ?_)
          · have hf := br_y h4 hf
            refine lv_aload_n (pc := 39) hx hb dX5_lots_39 rfl (lv_at hl 0 rfl) ?_
            refine wget (pc := 40) X (fun _ h9 => List.mem_cons_of_mem _ (List.mem_append_left _ (List.mem_append_right _ h9))) hP 0 (at_Tw_0 G A I J) rfl 5 (by decide) (List.mem_cons_of_mem _ (List.mem_append_left _ (List.mem_append_left _ (List.mem_append_left _ (List.mem_of_getElem? (i := 1) rfl))))) rfl (v := .ref (A 31)) rfl dX5_lots_40 ?_
            refine lv_iload_n (pc := 43) hx hb dX5_lots_43 rfl (lv_at hl 1 rfl) ?_
            obtain ⟨r1, hc1, hf⟩ := ob1_some hf
            refine endi X.2.2.2.2 (runV (pc := 44) (As := [.int x1]) (rest := []) X (c_X0_hasErrorsLeft G l (fun k => A (31 + k)) H.size (I 0) x1 r1 hc1) gX5_lots_X0_hasErrorsLeft k_X0_hasErrorsLeft ⟨rfl, rfl⟩ ⟨Nat.le_of_ble_eq_true rfl, Nat.le_of_ble_eq_true rfl⟩ (em_Tw_Ch_31 G A I J ) hP hD hS (ci := 0) rfl rfl (at_Ch_0 G (fun k => A (31 + k)) (I 0)) rfl hl.1 rfl (Nat.le_of_ble_eq_true rfl) ⟨Nat.zero_le _, Nat.zero_le _⟩ dX5_lots_44) (em_Tw_Ch_31 G A I J ) hP hD hS (fun H locs hP hD hS => ?_)
            refine lv_if_eq (pc := 47) (tgt := 61) hx hb dX5_lots_47 (by decide) (fun h3 => ?_) (fun h3 => ?_)
            · have hf := br_y h3 hf
              exact b_61 _ H locs ls hf hP hD hS (lv_sub hl [] rfl)
            · have hf := br_n h3 hf
              refine lv_aload_n (pc := 50) hx hb dX5_lots_50 rfl (lv_at hl 0 rfl) ?_
              refine wget (pc := 51) X (fun _ h9 => List.mem_cons_of_mem _ (List.mem_append_left _ (List.mem_append_right _ h9))) hP 0 (at_Tw_0 G A I J) rfl 5 (by decide) (List.mem_cons_of_mem _ (List.mem_append_left _ (List.mem_append_left _ (List.mem_append_left _ (List.mem_of_getElem? (i := 1) rfl))))) rfl (v := .ref (A 31)) rfl dX5_lots_51 ?_
              refine lv_iload_n (pc := 54) hx hb dX5_lots_54 rfl (lv_at hl 1 rfl) ?_
              obtain ⟨r2, hc2, hf⟩ := ob1_some hf
              refine endi X.2.2.2.2 (runV (pc := 55) (As := [.int x1]) (rest := []) X (c_X0_hasTurnsLeft G l (fun k => A (31 + k)) H.size (I 0) x1 r2 hc2) gX5_lots_X0_hasTurnsLeft k_X0_hasTurnsLeft ⟨rfl, rfl⟩ ⟨Nat.le_of_ble_eq_true rfl, Nat.le_of_ble_eq_true rfl⟩ (em_Tw_Ch_31 G A I J ) hP hD hS (ci := 0) rfl rfl (at_Ch_0 G (fun k => A (31 + k)) (I 0)) rfl hl.1 rfl (Nat.le_of_ble_eq_true rfl) ⟨Nat.zero_le _, Nat.zero_le _⟩ dX5_lots_55) (em_Tw_Ch_31 G A I J ) hP hD hS (fun H locs hP hD hS => ?_)
              refine lv_if_ne (pc := 58) (tgt := 64) hx hb dX5_lots_58 (by decide) (fun h2 => ?_) (fun h2 => ?_)
              · have hf := br_n h2 hf
                refine lv_iload_n (pc := 64) hx hb dX5_lots_64 rfl (lv_at hl 2 rfl) ?_
                refine lv_i2l (pc := 65) (v := (x2).toInt64) hx hb dX5_lots_65 rfl ?_
                refine lv_lstore_n (pc := 66) (lv' := [(3, .long ((x2).toInt64)), (0, .ref (A 0)), (1, .int x1), (2, .int x2)]) hx hb dX5_lots_66 rfl hl (by decide) rfl (fun ls hl => ?_)
                refine lv_iconst (pc := 67) (v := (0 : Int32)) hx hb dX5_lots_67 (by decide) ?_
                refine lv_istore (pc := 68) (lv' := [(5, .int (0 : Int32)), (3, .long ((x2).toInt64)), (0, .ref (A 0)), (1, .int x1), (2, .int x2)]) hx hb dX5_lots_68 hl (by decide) rfl (fun ls hl => ?_)
                exact l_70 FU _ _ _ _ H locs ls hf hP hD hS (lv_sub hl [2, 3, 1, 0] rfl)
              · have hf := br_y h2 hf
                exact b_61 _ H locs ls hf hP hD hS (lv_sub hl [] rfl)
          · have hf := br_n h4 hf
            refine lv_bipush (pc := 36) (v := (-4 : Int32)) hx hb dX5_lots_36 (by decide) ?_
            cases hf
            exact hret _ _ _ _ dX5_lots_38 hP hD hS
        · have hf := br_n h5 hf
          exact b_23 _ H locs ls hf hP hD hS (lv_sub hl [] rfl)
