def r_X6_copies_keeps_now : Room := { frames := 0, cells := 0, slots := 0, locals := 0 }
set_option maxHeartbeats 4000000 in
set_option maxRecDepth 100000 in
theorem c_X6_copies_keeps_now (G : GT) (l : Launch) (A : Nat → Nat) (sz : Nat) (M : CS) (N : JS) (x1 : Int32) (x3 : Int32) (M' : CS) (hf : f_X6_copies_keeps_now M N x1 x3 = some M') : MTv l yX6_copies wsX6_copies r_X6_copies_keeps_now [.ref (A 6), .int x1, .ref (A 5), .int x3] G (w_Mo G A M N) (w_Mo G A M' N) sz := by
  refine MTv.of (cc := cX6_copies) (maxL := 5) (by decide +kernel) rfl (Nat.le_of_ble_eq_true rfl) (fun p e s m av below meth cd Q B H locs ls X hret hl hP hD hS => ?_)
  have hx := X.1.1
  have hb := X.1.2.1
  have hl : lv_has ls 5 [(0, .ref (A 6)), (1, .int x1), (2, .ref (A 5)), (3, .int x3)] := hl
  have l_3 : ∀ (n3 : Nat), ∀ (x1 : Int32) (x3 : Int32) (x4 : Int32) (M : CS) (H : Heap) (locs : List Loc) (ls : Array Slot), f_X6_copies_keeps_now_3 n3 x1 x3 x4 M N = some M' → va_P G.1 vwCl (w_Mo G A M N) H → va_D B (w_Mo G A M N) → va_S B s.heap H locs → lv_has ls 5 [(0, .ref (A 6)), (1, .int x1), (2, .ref (A 5)), (3, .int x3), (4, .int x4)] → W p l e r_X6_copies_keeps_now s m av below meth cd H locs 0 0 Q (F0 m 3 ls []) := by
    intro n3
    induction n3 with
    | zero =>
      intro x1 x3 x4 M H locs ls hf hP hD hS hl
      rw [f_X6_copies_keeps_now_3] at hf
      cases hf
    | succ n3 ih3 =>
      intro x1 x3 x4 M H locs ls hf hP hD hS hl
      rw [f_X6_copies_keeps_now_3] at hf
      refine lv_iload (pc := 3) hx hb dX6_copies_3 (lv_at hl 4 rfl) ?_
      refine lv_bipush (pc := 5) (v := (119 : Int32)) hx hb dX6_copies_5 (by decide) ?_
      refine lv_icmp_ge (pc := 7) (tgt := 28) hx hb dX6_copies_7 (by decide) (fun h1 => ?_) (fun h1 => ?_)
      · have hf := br_y h1 hf
        cases hf
        exact hret _ _ _ _ dX6_copies_28 hP hD hS
      · have hf := br_n h1 hf
        refine lv_aload_n (pc := 10) hx hb dX6_copies_10 rfl (lv_at hl 2 rfl) ?_
        refine lv_iload_n (pc := 11) hx hb dX6_copies_11 rfl (lv_at hl 3 rfl) ?_
        refine lv_iload (pc := 12) hx hb dX6_copies_12 (lv_at hl 4 rfl) ?_
        refine lv_iadd (pc := 14) hx hb dX6_copies_14 ?_
        refine lv_aload_n (pc := 15) hx hb dX6_copies_15 rfl (lv_at hl 0 rfl) ?_
        refine lv_iload_n (pc := 16) hx hb dX6_copies_16 rfl (lv_at hl 1 rfl) ?_
        refine lv_iload (pc := 17) hx hb dX6_copies_17 (lv_at hl 4 rfl) ?_
        refine lv_iadd (pc := 19) hx hb dX6_copies_19 ?_
        obtain ⟨hi, hf⟩ := ck_some hf
        refine wiald (pc := 20) X hP 6 (at_Mo_6 G A M N) hi rfl dX6_copies_20 ?_
        obtain ⟨hi, hf⟩ := ck_some hf
        refine wiast (pc := 21) X hP hD hS 5 (at_Mo_5 G A M N) hi rfl (sa_Mo_5 G A M N _) dX6_copies_21 (fun H locs hP hD hS => ?_)
        have hP : va_P G.1 vwCl (w_Mo G A (cset M 4 (x3 + x4).toNatClampNeg ((M 5) (x1 + x4).toNatClampNeg)) N) H := hP
        have hD : va_D B (w_Mo G A (cset M 4 (x3 + x4).toNatClampNeg ((M 5) (x1 + x4).toNatClampNeg)) N) := hD
        refine lv_iinc (pc := 22) (v := (x4 + (1 : Int32))) (lv' := [(4, .int (x4 + (1 : Int32))), (0, .ref (A 6)), (1, .int x1), (2, .ref (A 5)), (3, .int x3)]) hx hb dX6_copies_22 hl (k := 4) rfl rfl (by decide) rfl (fun ls hl => ?_)
        refine lv_goto (pc := 25) (tgt := 3) hx hb dX6_copies_25 (by decide) ?_
        exact ih3 _ _ _ _ H locs ls hf hP hD hS (lv_sub hl [1, 2, 3, 4, 0] rfl)
  unfold f_X6_copies_keeps_now at hf
  refine lv_iconst (pc := 0) (v := (0 : Int32)) hx hb dX6_copies_0 (by decide) ?_
  refine lv_istore (pc := 1) (lv' := [(4, .int (0 : Int32)), (0, .ref (A 6)), (1, .int x1), (2, .ref (A 5)), (3, .int x3)]) hx hb dX6_copies_1 hl (by decide) rfl (fun ls hl => ?_)
  exact l_3 FU _ _ _ _ H locs ls hf hP hD hS (lv_sub hl [1, 2, 3, 4, 0] rfl)
def r_X6_copies_now_keeps : Room := { frames := 0, cells := 0, slots := 0, locals := 0 }
set_option maxHeartbeats 4000000 in
set_option maxRecDepth 100000 in
theorem c_X6_copies_now_keeps (G : GT) (l : Launch) (A : Nat → Nat) (sz : Nat) (M : CS) (N : JS) (x1 : Int32) (x3 : Int32) (M' : CS) (hf : f_X6_copies_now_keeps M N x1 x3 = some M') : MTv l yX6_copies wsX6_copies r_X6_copies_now_keeps [.ref (A 5), .int x1, .ref (A 6), .int x3] G (w_Mo G A M N) (w_Mo G A M' N) sz := by
  refine MTv.of (cc := cX6_copies) (maxL := 5) (by decide +kernel) rfl (Nat.le_of_ble_eq_true rfl) (fun p e s m av below meth cd Q B H locs ls X hret hl hP hD hS => ?_)
  have hx := X.1.1
  have hb := X.1.2.1
  have hl : lv_has ls 5 [(0, .ref (A 5)), (1, .int x1), (2, .ref (A 6)), (3, .int x3)] := hl
  have l_3 : ∀ (n3 : Nat), ∀ (x1 : Int32) (x3 : Int32) (x4 : Int32) (M : CS) (H : Heap) (locs : List Loc) (ls : Array Slot), f_X6_copies_now_keeps_3 n3 x1 x3 x4 M N = some M' → va_P G.1 vwCl (w_Mo G A M N) H → va_D B (w_Mo G A M N) → va_S B s.heap H locs → lv_has ls 5 [(0, .ref (A 5)), (1, .int x1), (2, .ref (A 6)), (3, .int x3), (4, .int x4)] → W p l e r_X6_copies_now_keeps s m av below meth cd H locs 0 0 Q (F0 m 3 ls []) := by
    intro n3
    induction n3 with
    | zero =>
      intro x1 x3 x4 M H locs ls hf hP hD hS hl
      rw [f_X6_copies_now_keeps_3] at hf
      cases hf
    | succ n3 ih3 =>
      intro x1 x3 x4 M H locs ls hf hP hD hS hl
      rw [f_X6_copies_now_keeps_3] at hf
      refine lv_iload (pc := 3) hx hb dX6_copies_3 (lv_at hl 4 rfl) ?_
      refine lv_bipush (pc := 5) (v := (119 : Int32)) hx hb dX6_copies_5 (by decide) ?_
      refine lv_icmp_ge (pc := 7) (tgt := 28) hx hb dX6_copies_7 (by decide) (fun h1 => ?_) (fun h1 => ?_)
      · have hf := br_y h1 hf
        cases hf
        exact hret _ _ _ _ dX6_copies_28 hP hD hS
      · have hf := br_n h1 hf
        refine lv_aload_n (pc := 10) hx hb dX6_copies_10 rfl (lv_at hl 2 rfl) ?_
        refine lv_iload_n (pc := 11) hx hb dX6_copies_11 rfl (lv_at hl 3 rfl) ?_
        refine lv_iload (pc := 12) hx hb dX6_copies_12 (lv_at hl 4 rfl) ?_
        refine lv_iadd (pc := 14) hx hb dX6_copies_14 ?_
        refine lv_aload_n (pc := 15) hx hb dX6_copies_15 rfl (lv_at hl 0 rfl) ?_
        refine lv_iload_n (pc := 16) hx hb dX6_copies_16 rfl (lv_at hl 1 rfl) ?_
        refine lv_iload (pc := 17) hx hb dX6_copies_17 (lv_at hl 4 rfl) ?_
        refine lv_iadd (pc := 19) hx hb dX6_copies_19 ?_
        obtain ⟨hi, hf⟩ := ck_some hf
        refine wiald (pc := 20) X hP 5 (at_Mo_5 G A M N) hi rfl dX6_copies_20 ?_
        obtain ⟨hi, hf⟩ := ck_some hf
        refine wiast (pc := 21) X hP hD hS 6 (at_Mo_6 G A M N) hi rfl (sa_Mo_6 G A M N _) dX6_copies_21 (fun H locs hP hD hS => ?_)
        have hP : va_P G.1 vwCl (w_Mo G A (cset M 5 (x3 + x4).toNatClampNeg ((M 4) (x1 + x4).toNatClampNeg)) N) H := hP
        have hD : va_D B (w_Mo G A (cset M 5 (x3 + x4).toNatClampNeg ((M 4) (x1 + x4).toNatClampNeg)) N) := hD
        refine lv_iinc (pc := 22) (v := (x4 + (1 : Int32))) (lv' := [(4, .int (x4 + (1 : Int32))), (0, .ref (A 5)), (1, .int x1), (2, .ref (A 6)), (3, .int x3)]) hx hb dX6_copies_22 hl (k := 4) rfl rfl (by decide) rfl (fun ls hl => ?_)
        refine lv_goto (pc := 25) (tgt := 3) hx hb dX6_copies_25 (by decide) ?_
        exact ih3 _ _ _ _ H locs ls hf hP hD hS (lv_sub hl [1, 2, 3, 4, 0] rfl)
  unfold f_X6_copies_now_keeps at hf
  refine lv_iconst (pc := 0) (v := (0 : Int32)) hx hb dX6_copies_0 (by decide) ?_
  refine lv_istore (pc := 1) (lv' := [(4, .int (0 : Int32)), (0, .ref (A 5)), (1, .int x1), (2, .ref (A 6)), (3, .int x3)]) hx hb dX6_copies_1 hl (by decide) rfl (fun ls hl => ?_)
  exact l_3 FU _ _ _ _ H locs ls hf hP hD hS (lv_sub hl [1, 2, 3, 4, 0] rfl)
def r_X6_copy : Room := { frames := 2, cells := 0, slots := 0, locals := 45 }
set_option maxHeartbeats 4000000 in
set_option maxRecDepth 100000 in
theorem c_X6_copy (G : GT) (l : Launch) (A : Nat → Nat) (sz : Nat) (M : CS) (N : JS) (x1 : Int32) (x2 : Int32) (x3 : Int32) (x4 : Int32) (x5 : Int32) (r : Int32) (M' : CS) (hf : f_X6_copy M N x1 x2 x3 x4 x5 = some (r, M')) : MTi l yX6_copy wsX6_copy r_X6_copy [.ref (A 0), .int x1, .int x2, .int x3, .int x4, .int x5] G (w_Mo G A M N) (w_Mo G A M' N) sz r := by
  refine MTi.of (cc := cX6_copy) (maxL := 8) (by decide +kernel) rfl (Nat.le_of_ble_eq_true rfl) (fun p e s m av below meth cd Q B H locs ls X hret hl hP hD hS => ?_)
  have hx := X.1.1
  have hb := X.1.2.1
  have hl : lv_has ls 8 [(0, .ref (A 0)), (1, .int x1), (2, .int x2), (3, .int x3), (4, .int x4), (5, .int x5)] := hl
  have b_14 : ∀ (M : CS) (H : Heap) (locs : List Loc) (ls : Array Slot), f_X6_copy_14 M N = some (r, M') → va_P G.1 vwCl (w_Mo G A M N) H → va_D B (w_Mo G A M N) → va_S B s.heap H locs → lv_has ls 8 [] → W p l e r_X6_copy s m av below meth cd H locs 0 0 Q (F0 m 14 ls []) := by
    intro M H locs ls hf hP hD hS hl
    unfold f_X6_copy_14 at hf
    refine lv_iconst (pc := 14) (v := (-1 : Int32)) hx hb dX6_copy_14 (by decide) ?_
    cases hf
    exact hret _ _ _ _ dX6_copy_15 hP hD hS
  have b_45 : ∀ (M : CS) (H : Heap) (locs : List Loc) (ls : Array Slot), f_X6_copy_45 M N = some (r, M') → va_P G.1 vwCl (w_Mo G A M N) H → va_D B (w_Mo G A M N) → va_S B s.heap H locs → lv_has ls 8 [(0, .ref (A 0))] → W p l e r_X6_copy s m av below meth cd H locs 0 0 Q (F0 m 45 ls []) := by
    intro M H locs ls hf hP hD hS hl
    unfold f_X6_copy_45 at hf
    refine lv_aload_n (pc := 45) hx hb dX6_copy_45 rfl (lv_at hl 0 rfl) ?_
    refine lv_iconst (pc := 46) (v := (1 : Int32)) hx hb dX6_copy_46 (by decide) ?_
    obtain ⟨r1, M1, hc1, hf⟩ := ob2_some hf
    refine endi X.2.2.2.2 (runV (pc := 47) (As := [.int (1 : Int32)]) (rest := []) X (c_X6_found G l A H.size M N (1 : Int32) r1 M1 hc1) gX6_copy_X6_found k_X6_found ⟨rfl, rfl⟩ ⟨Nat.le_of_ble_eq_true rfl, Nat.le_of_ble_eq_true rfl⟩ (EM.all (w_Mo G A M N) (w_Mo G A M1 N)) hP hD hS (ci := 6) rfl rfl (at_Mo_0 G A M N) rfl hl.1 rfl (Nat.le_of_ble_eq_true rfl) ⟨Nat.zero_le _, Nat.zero_le _⟩ dX6_copy_47) (EM.all (w_Mo G A M N) (w_Mo G A M1 N)) hP hD hS (fun H locs hP hD hS => ?_)
    cases hf
    exact hret _ _ _ _ dX6_copy_50 hP hD hS
  have b_95 : ∀ (M : CS) (H : Heap) (locs : List Loc) (ls : Array Slot), f_X6_copy_95 M N = some (r, M') → va_P G.1 vwCl (w_Mo G A M N) H → va_D B (w_Mo G A M N) → va_S B s.heap H locs → lv_has ls 8 [(0, .ref (A 0))] → W p l e r_X6_copy s m av below meth cd H locs 0 0 Q (F0 m 95 ls []) := by
    intro M H locs ls hf hP hD hS hl
    unfold f_X6_copy_95 at hf
    refine lv_aload_n (pc := 95) hx hb dX6_copy_95 rfl (lv_at hl 0 rfl) ?_
    refine lv_iconst (pc := 96) (v := (2 : Int32)) hx hb dX6_copy_96 (by decide) ?_
    obtain ⟨r1, M1, hc1, hf⟩ := ob2_some hf
    refine endi X.2.2.2.2 (runV (pc := 97) (As := [.int (2 : Int32)]) (rest := []) X (c_X6_found G l A H.size M N (2 : Int32) r1 M1 hc1) gX6_copy_X6_found k_X6_found ⟨rfl, rfl⟩ ⟨Nat.le_of_ble_eq_true rfl, Nat.le_of_ble_eq_true rfl⟩ (EM.all (w_Mo G A M N) (w_Mo G A M1 N)) hP hD hS (ci := 6) rfl rfl (at_Mo_0 G A M N) rfl hl.1 rfl (Nat.le_of_ble_eq_true rfl) ⟨Nat.zero_le _, Nat.zero_le _⟩ dX6_copy_97) (EM.all (w_Mo G A M N) (w_Mo G A M1 N)) hP hD hS (fun H locs hP hD hS => ?_)
    cases hf
    exact hret _ _ _ _ dX6_copy_100 hP hD hS
  have l_104 : ∀ (n104 : Nat), ∀ (x1 : Int32) (x2 : Int32) (x3 : Int32) (x4 : Int32) (x5 : Int32) (x6 : Int32) (M : CS) (H : Heap) (locs : List Loc) (ls : Array Slot), f_X6_copy_104 n104 x1 x2 x3 x4 x5 x6 M N = some (r, M') → va_P G.1 vwCl (w_Mo G A M N) H → va_D B (w_Mo G A M N) → va_S B s.heap H locs → lv_has ls 8 [(0, .ref (A 0)), (1, .int x1), (2, .int x2), (3, .int x3), (4, .int x4), (5, .int x5), (6, .int x6)] → W p l e r_X6_copy s m av below meth cd H locs 0 0 Q (F0 m 104 ls []) := by
    intro n104
    induction n104 with
    | zero =>
      intro x1 x2 x3 x4 x5 x6 M H locs ls hf hP hD hS hl
      rw [f_X6_copy_104] at hf
      cases hf
    | succ n104 ih104 =>
      have b_129 : ∀ (x1 : Int32) (x2 : Int32) (x3 : Int32) (x4 : Int32) (x5 : Int32) (x6 : Int32) (t0 : Int32) (M : CS) (H : Heap) (locs : List Loc) (ls : Array Slot), f_X6_copy_129 (f_X6_copy_104 n104) x1 x2 x3 x4 x5 x6 t0 M N = some (r, M') → va_P G.1 vwCl (w_Mo G A M N) H → va_D B (w_Mo G A M N) → va_S B s.heap H locs → lv_has ls 8 [(0, .ref (A 0)), (1, .int x1), (2, .int x2), (3, .int x3), (4, .int x4), (5, .int x5), (6, .int x6)] → W p l e r_X6_copy s m av below meth cd H locs 0 0 Q (F0 m 129 ls [.int t0]) := by
        intro x1 x2 x3 x4 x5 x6 t0 M H locs ls hf hP hD hS hl
        unfold f_X6_copy_129 at hf
        refine lv_istore (pc := 129) (lv' := [(7, .int t0), (0, .ref (A 0)), (1, .int x1), (2, .int x2), (3, .int x3), (4, .int x4), (5, .int x5), (6, .int x6)]) hx hb dX6_copy_129 hl (by decide) rfl (fun ls hl => ?_)
        refine lv_aload_n (pc := 131) hx hb dX6_copy_131 rfl (lv_at hl 1 rfl) ?_
        refine wget (pc := 132) X (fun _ h9 => List.mem_cons_of_mem _ (List.mem_append_right _ h9)) hP 0 (at_Mo_0 G A M N) rfl 1 (by decide) (List.mem_cons_of_mem _ (List.mem_append_left _ (List.mem_of_getElem? (i := 1) rfl))) rfl (v := .ref (A 2)) rfl dX6_copy_132 ?_
        refine lv_bipush (pc := 135) (v := (40 : Int32)) hx hb dX6_copy_135 (by decide) ?_
        refine lv_iload_n (pc := 137) hx hb dX6_copy_137 rfl (lv_at hl 4 rfl) ?_
        refine lv_imul (pc := 138) hx hb dX6_copy_138 ?_
        refine lv_iload (pc := 139) hx hb dX6_copy_139 (lv_at hl 5 rfl) ?_
        refine lv_iadd (pc := 141) hx hb dX6_copy_141 ?_
        refine lv_iload (pc := 142) hx hb dX6_copy_142 (lv_at hl 0 rfl) ?_
        refine lv_iadd (pc := 144) hx hb dX6_copy_144 ?_
        refine lv_aload_n (pc := 145) hx hb dX6_copy_145 rfl (lv_at hl 1 rfl) ?_
        refine wget (pc := 146) X (fun _ h9 => List.mem_cons_of_mem _ (List.mem_append_right _ h9)) hP 0 (at_Mo_0 G A M N) rfl 1 (by decide) (List.mem_cons_of_mem _ (List.mem_append_left _ (List.mem_of_getElem? (i := 1) rfl))) rfl (v := .ref (A 2)) rfl dX6_copy_146 ?_
        refine lv_bipush (pc := 149) (v := (40 : Int32)) hx hb dX6_copy_149 (by decide) ?_
        refine lv_iload_n (pc := 151) hx hb dX6_copy_151 rfl (lv_at hl 2 rfl) ?_
        refine lv_imul (pc := 152) hx hb dX6_copy_152 ?_
        refine lv_iload_n (pc := 153) hx hb dX6_copy_153 rfl (lv_at hl 3 rfl) ?_
        refine lv_iadd (pc := 154) hx hb dX6_copy_154 ?_
        refine lv_iload (pc := 155) hx hb dX6_copy_155 (lv_at hl 0 rfl) ?_
        refine lv_iadd (pc := 157) hx hb dX6_copy_157 ?_
        obtain ⟨hi, hf⟩ := ck_some hf
        refine wiald (pc := 158) X hP 2 (at_Mo_2 G A M N) hi rfl dX6_copy_158 ?_
        obtain ⟨hi, hf⟩ := ck_some hf
        refine wiast (pc := 159) X hP hD hS 2 (at_Mo_2 G A M N) hi rfl (sa_Mo_2 G A M N _) dX6_copy_159 (fun H locs hP hD hS => ?_)
        have hP : va_P G.1 vwCl (w_Mo G A (cset M 1 ((((40 : Int32) * x3) + x4) + t0).toNatClampNeg ((M 1) ((((40 : Int32) * x1) + x2) + t0).toNatClampNeg)) N) H := hP
        have hD : va_D B (w_Mo G A (cset M 1 ((((40 : Int32) * x3) + x4) + t0).toNatClampNeg ((M 1) ((((40 : Int32) * x1) + x2) + t0).toNatClampNeg)) N) := hD
        refine lv_iinc (pc := 160) (v := (x6 + (1 : Int32))) (lv' := [(6, .int (x6 + (1 : Int32))), (7, .int t0), (0, .ref (A 0)), (1, .int x1), (2, .int x2), (3, .int x3), (4, .int x4), (5, .int x5)]) hx hb dX6_copy_160 hl (k := 7) rfl rfl (by decide) rfl (fun ls hl => ?_)
        refine lv_goto (pc := 163) (tgt := 104) hx hb dX6_copy_163 (by decide) ?_
        exact ih104 _ _ _ _ _ _ _ H locs ls hf hP hD hS (lv_sub hl [2, 3, 4, 5, 6, 7, 0] rfl)
      intro x1 x2 x3 x4 x5 x6 M H locs ls hf hP hD hS hl
      rw [f_X6_copy_104] at hf
      refine lv_iload (pc := 104) hx hb dX6_copy_104 (lv_at hl 6 rfl) ?_
      refine lv_iload (pc := 106) hx hb dX6_copy_106 (lv_at hl 5 rfl) ?_
      refine lv_icmp_ge (pc := 108) (tgt := 166) hx hb dX6_copy_108 (by decide) (fun h2 => ?_) (fun h2 => ?_)
      · have hf := br_y h2 hf
        refine lv_iconst (pc := 166) (v := (1 : Int32)) hx hb dX6_copy_166 (by decide) ?_
        cases hf
        exact hret _ _ _ _ dX6_copy_167 hP hD hS
      · have hf := br_n h2 hf
        refine lv_iload (pc := 111) hx hb dX6_copy_111 (lv_at hl 4 rfl) ?_
        refine lv_iload_n (pc := 113) hx hb dX6_copy_113 rfl (lv_at hl 2 rfl) ?_
        refine lv_icmp_le (pc := 114) (tgt := 127) hx hb dX6_copy_114 (by decide) (fun h1 => ?_) (fun h1 => ?_)
        · have hf := br_y h1 hf
          refine lv_iload (pc := 127) hx hb dX6_copy_127 (lv_at hl 6 rfl) ?_
          exact b_129 _ _ _ _ _ _ _ _ H locs ls hf hP hD hS (lv_sub hl [0, 1, 2, 3, 4, 5, 6] rfl)
        · have hf := br_n h1 hf
          refine lv_iload (pc := 117) hx hb dX6_copy_117 (lv_at hl 5 rfl) ?_
          refine lv_iconst (pc := 119) (v := (1 : Int32)) hx hb dX6_copy_119 (by decide) ?_
          refine lv_isub (pc := 120) hx hb dX6_copy_120 ?_
          refine lv_iload (pc := 121) hx hb dX6_copy_121 (lv_at hl 6 rfl) ?_
          refine lv_isub (pc := 123) hx hb dX6_copy_123 ?_
          refine lv_goto (pc := 124) (tgt := 129) hx hb dX6_copy_124 (by decide) ?_
          exact b_129 _ _ _ _ _ _ _ _ H locs ls hf hP hD hS (lv_sub hl [0, 1, 2, 3, 4, 5, 6] rfl)
  unfold f_X6_copy at hf
  refine lv_iload_n (pc := 0) hx hb dX6_copy_0 rfl (lv_at hl 1 rfl) ?_
  obtain ⟨r1, hc1, hf⟩ := ob1_some hf
  refine endi X.2.2.2.2 (runS (pc := 1) (As := [.int x1]) (rest := []) X (c_X6_isRow G l  H.size x1 r1 hc1) gX6_copy_X6_isRow k_X6_isRow ⟨rfl, rfl⟩ ⟨Nat.le_of_ble_eq_true rfl, Nat.le_of_ble_eq_true rfl⟩ (EM.nil (w_Mo G A M N)) hP hD hS rfl hl.1 rfl (Nat.le_of_ble_eq_true rfl) ⟨Nat.zero_le _, Nat.zero_le _⟩ dX6_copy_1) (EM.nil (w_Mo G A M N)) hP hD hS (fun H locs hP hD hS => ?_)
  refine lv_if_eq (pc := 4) (tgt := 14) hx hb dX6_copy_4 (by decide) (fun h11 => ?_) (fun h11 => ?_)
  · have hf := br_y h11 hf
    exact b_14 _ H locs ls hf hP hD hS (lv_sub hl [] rfl)
  · have hf := br_n h11 hf
    refine lv_iload_n (pc := 7) hx hb dX6_copy_7 rfl (lv_at hl 3 rfl) ?_
    obtain ⟨r2, hc2, hf⟩ := ob1_some hf
    refine endi X.2.2.2.2 (runS (pc := 8) (As := [.int x3]) (rest := []) X (c_X6_isRow G l  H.size x3 r2 hc2) gX6_copy_X6_isRow k_X6_isRow ⟨rfl, rfl⟩ ⟨Nat.le_of_ble_eq_true rfl, Nat.le_of_ble_eq_true rfl⟩ (EM.nil (w_Mo G A M N)) hP hD hS rfl hl.1 rfl (Nat.le_of_ble_eq_true rfl) ⟨Nat.zero_le _, Nat.zero_le _⟩ dX6_copy_8) (EM.nil (w_Mo G A M N)) hP hD hS (fun H locs hP hD hS => ?_)
    refine lv_if_ne (pc := 11) (tgt := 16) hx hb dX6_copy_11 (by decide) (fun h10 => ?_) (fun h10 => ?_)
    · have hf := br_n h10 hf
      refine lv_iload (pc := 16) hx hb dX6_copy_16 (lv_at hl 5 rfl) ?_
      refine lv_if_ge (pc := 18) (tgt := 27) hx hb dX6_copy_18 (by decide) (fun h9 => ?_) (fun h9 => ?_)
      · have hf := br_y h9 hf
        refine lv_aload_n (pc := 27) hx hb dX6_copy_27 rfl (lv_at hl 0 rfl) ?_
        refine wget (pc := 28) X (fun _ h9 => List.mem_cons_of_mem _ (List.mem_append_right _ h9)) hP 0 (at_Mo_0 G A M N) rfl 0 (by decide) (List.mem_cons_of_mem _ (List.mem_append_left _ (List.mem_of_getElem? (i := 0) rfl))) rfl (v := .ref (A 1)) rfl dX6_copy_28 ?_
        refine lv_iload_n (pc := 31) hx hb dX6_copy_31 rfl (lv_at hl 1 rfl) ?_
        obtain ⟨hi, hf⟩ := ck_some hf
        refine wiald (pc := 32) X hP 1 (at_Mo_1 G A M N) hi rfl dX6_copy_32 ?_
        refine lv_if_lt (pc := 33) (tgt := 45) hx hb dX6_copy_33 (by decide) (fun h8 => ?_) (fun h8 => ?_)
        · have hf := br_y h8 hf
          exact b_45 _ H locs ls hf hP hD hS (lv_sub hl [0] rfl)
        · have hf := br_n h8 hf
          refine lv_aload_n (pc := 36) hx hb dX6_copy_36 rfl (lv_at hl 0 rfl) ?_
          refine wget (pc := 37) X (fun _ h9 => List.mem_cons_of_mem _ (List.mem_append_right _ h9)) hP 0 (at_Mo_0 G A M N) rfl 0 (by decide) (List.mem_cons_of_mem _ (List.mem_append_left _ (List.mem_of_getElem? (i := 0) rfl))) rfl (v := .ref (A 1)) rfl dX6_copy_37 ?_
          refine lv_iload_n (pc := 40) hx hb dX6_copy_40 rfl (lv_at hl 3 rfl) ?_
          obtain ⟨hi, hf⟩ := ck_some hf
          refine wiald (pc := 41) X hP 1 (at_Mo_1 G A M N) hi rfl dX6_copy_41 ?_
          refine lv_if_ge (pc := 42) (tgt := 51) hx hb dX6_copy_42 (by decide) (fun h7 => ?_) (fun h7 => ?_)
          · have hf := br_y h7 hf
            refine lv_iload_n (pc := 51) hx hb dX6_copy_51 rfl (lv_at hl 2 rfl) ?_
            refine lv_if_lt (pc := 52) (tgt := 95) hx hb dX6_copy_52 (by decide) (fun h6 => ?_) (fun h6 => ?_)
            · have hf := br_y h6 hf
              exact b_95 _ H locs ls hf hP hD hS (lv_sub hl [0] rfl)
            · have hf := br_n h6 hf
              refine lv_iload (pc := 55) hx hb dX6_copy_55 (lv_at hl 4 rfl) ?_
              refine lv_if_lt (pc := 57) (tgt := 95) hx hb dX6_copy_57 (by decide) (fun h5 => ?_) (fun h5 => ?_)
              · have hf := br_y h5 hf
                exact b_95 _ H locs ls hf hP hD hS (lv_sub hl [0] rfl)
              · have hf := br_n h5 hf
                refine lv_iload_n (pc := 60) hx hb dX6_copy_60 rfl (lv_at hl 2 rfl) ?_
                refine lv_i2l (pc := 61) (v := (x2).toInt64) hx hb dX6_copy_61 rfl ?_
                refine lv_iload (pc := 62) hx hb dX6_copy_62 (lv_at hl 5 rfl) ?_
                refine lv_i2l (pc := 64) (v := (x5).toInt64) hx hb dX6_copy_64 rfl ?_
                refine lv_ladd (pc := 65) hx hb dX6_copy_65 ?_
                refine lv_aload_n (pc := 66) hx hb dX6_copy_66 rfl (lv_at hl 0 rfl) ?_
                refine wget (pc := 67) X (fun _ h9 => List.mem_cons_of_mem _ (List.mem_append_right _ h9)) hP 0 (at_Mo_0 G A M N) rfl 0 (by decide) (List.mem_cons_of_mem _ (List.mem_append_left _ (List.mem_of_getElem? (i := 0) rfl))) rfl (v := .ref (A 1)) rfl dX6_copy_67 ?_
                refine lv_iload_n (pc := 70) hx hb dX6_copy_70 rfl (lv_at hl 1 rfl) ?_
                obtain ⟨hi, hf⟩ := ck_some hf
                refine wiald (pc := 71) X hP 1 (at_Mo_1 G A M N) hi rfl dX6_copy_71 ?_
                refine lv_i2l (pc := 72) (v := (((M 0) x1.toNatClampNeg)).toInt64) hx hb dX6_copy_72 rfl ?_
                refine W.lcmp (pc := 73) hx hb dX6_copy_73 ?_
                refine lv_if_gt (pc := 74) (tgt := 95) hx hb dX6_copy_74 (by decide) (fun h4 => ?_) (fun h4 => ?_)
                · have hf := br_y h4 hf
                  exact b_95 _ H locs ls hf hP hD hS (lv_sub hl [0] rfl)
                · have hf := br_n h4 hf
                  refine lv_iload (pc := 77) hx hb dX6_copy_77 (lv_at hl 4 rfl) ?_
                  refine lv_i2l (pc := 79) (v := (x4).toInt64) hx hb dX6_copy_79 rfl ?_
                  refine lv_iload (pc := 80) hx hb dX6_copy_80 (lv_at hl 5 rfl) ?_
                  refine lv_i2l (pc := 82) (v := (x5).toInt64) hx hb dX6_copy_82 rfl ?_
                  refine lv_ladd (pc := 83) hx hb dX6_copy_83 ?_
                  refine lv_aload_n (pc := 84) hx hb dX6_copy_84 rfl (lv_at hl 0 rfl) ?_
                  refine wget (pc := 85) X (fun _ h9 => List.mem_cons_of_mem _ (List.mem_append_right _ h9)) hP 0 (at_Mo_0 G A M N) rfl 0 (by decide) (List.mem_cons_of_mem _ (List.mem_append_left _ (List.mem_of_getElem? (i := 0) rfl))) rfl (v := .ref (A 1)) rfl dX6_copy_85 ?_
                  refine lv_iload_n (pc := 88) hx hb dX6_copy_88 rfl (lv_at hl 3 rfl) ?_
                  obtain ⟨hi, hf⟩ := ck_some hf
                  refine wiald (pc := 89) X hP 1 (at_Mo_1 G A M N) hi rfl dX6_copy_89 ?_
                  refine lv_i2l (pc := 90) (v := (((M 0) x3.toNatClampNeg)).toInt64) hx hb dX6_copy_90 rfl ?_
                  refine W.lcmp (pc := 91) hx hb dX6_copy_91 ?_
                  refine lv_if_le (pc := 92) (tgt := 101) hx hb dX6_copy_92 (by decide) (fun h3 => ?_) (fun h3 => ?_)
                  · have hf := br_y h3 hf
                    refine lv_iconst (pc := 101) (v := (0 : Int32)) hx hb dX6_copy_101 (by decide) ?_
                    refine lv_istore (pc := 102) (lv' := [(6, .int (0 : Int32)), (0, .ref (A 0)), (1, .int x1), (2, .int x2), (3, .int x3), (4, .int x4), (5, .int x5)]) hx hb dX6_copy_102 hl (by decide) rfl (fun ls hl => ?_)
                    exact l_104 FU _ _ _ _ _ _ _ H locs ls hf hP hD hS (lv_sub hl [1, 2, 3, 4, 5, 6, 0] rfl)
                  · have hf := br_n h3 hf
                    exact b_95 _ H locs ls hf hP hD hS (lv_sub hl [0] rfl)
          · have hf := br_n h7 hf
            exact b_45 _ H locs ls hf hP hD hS (lv_sub hl [0] rfl)
      · have hf := br_n h9 hf
        refine lv_aload_n (pc := 21) hx hb dX6_copy_21 rfl (lv_at hl 0 rfl) ?_
        refine lv_iconst (pc := 22) (v := (5 : Int32)) hx hb dX6_copy_22 (by decide) ?_
        obtain ⟨r3, M3, hc3, hf⟩ := ob2_some hf
        refine endi X.2.2.2.2 (runV (pc := 23) (As := [.int (5 : Int32)]) (rest := []) X (c_X6_found G l A H.size M N (5 : Int32) r3 M3 hc3) gX6_copy_X6_found k_X6_found ⟨rfl, rfl⟩ ⟨Nat.le_of_ble_eq_true rfl, Nat.le_of_ble_eq_true rfl⟩ (EM.all (w_Mo G A M N) (w_Mo G A M3 N)) hP hD hS (ci := 6) rfl rfl (at_Mo_0 G A M N) rfl hl.1 rfl (Nat.le_of_ble_eq_true rfl) ⟨Nat.zero_le _, Nat.zero_le _⟩ dX6_copy_23) (EM.all (w_Mo G A M N) (w_Mo G A M3 N)) hP hD hS (fun H locs hP hD hS => ?_)
        cases hf
        exact hret _ _ _ _ dX6_copy_26 hP hD hS
    · have hf := br_y h10 hf
      exact b_14 _ H locs ls hf hP hD hS (lv_sub hl [] rfl)
def r_X6_mended : Room := { frames := 1, cells := 0, slots := 0, locals := 22 }
set_option maxHeartbeats 4000000 in
set_option maxRecDepth 100000 in
theorem c_X6_mended (G : GT) (l : Launch) (A : Nat → Nat) (sz : Nat) (M : CS) (N : JS) (r : Int32) (hf : f_X6_mended M N = some r) : MTi l yX6_mended wsX6_mended r_X6_mended [.ref (A 0)] G (w_Mo G A M N) (w_Mo G A M N) sz r := by
  refine MTi.of (cc := cX6_mended) (maxL := 1) (by decide +kernel) rfl (Nat.le_of_ble_eq_true rfl) (fun p e s m av below meth cd Q B H locs ls X hret hl hP hD hS => ?_)
  have hx := X.1.1
  have hb := X.1.2.1
  have hl : lv_has ls 1 [(0, .ref (A 0))] := hl
  unfold f_X6_mended at hf
  refine lv_aload_n (pc := 0) hx hb dX6_mended_0 rfl (lv_at hl 0 rfl) ?_
  refine wget (pc := 1) X (fun _ h9 => List.mem_cons_of_mem _ (List.mem_append_right _ h9)) hP 0 (at_Mo_0 G A M N) rfl 4 (by decide) (List.mem_cons_of_mem _ (List.mem_append_left _ (List.mem_of_getElem? (i := 0) rfl))) rfl (v := .ref (A 5)) rfl dX6_mended_1 ?_
  refine lv_iconst (pc := 4) (v := (1 : Int32)) hx hb dX6_mended_4 (by decide) ?_
  refine wiald (pc := 5) X hP 5 (at_Mo_5 G A M N) (by decide) (j := 1) (by decide) dX6_mended_5 ?_
  refine lv_aload_n (pc := 6) hx hb dX6_mended_6 rfl (lv_at hl 0 rfl) ?_
  obtain ⟨r1, hc1, hf⟩ := ob1_some hf
  refine endi X.2.2.2.2 (runV (pc := 7) (As := []) (rest := [.int ((M 4) 1)]) X (c_X6_live G l A H.size M N r1 hc1) gX6_mended_X6_live k_X6_live ⟨rfl, rfl⟩ ⟨Nat.le_of_ble_eq_true rfl, Nat.le_of_ble_eq_true rfl⟩ (EM.all (w_Mo G A M N) (w_Mo G A M N)) hP hD hS (ci := 6) rfl rfl (at_Mo_0 G A M N) rfl hl.1 rfl (Nat.le_of_ble_eq_true rfl) ⟨Nat.zero_le _, Nat.zero_le _⟩ dX6_mended_7) (EM.all (w_Mo G A M N) (w_Mo G A M N)) hP hD hS (fun H locs hP hD hS => ?_)
  obtain ⟨r2, hc2, hf⟩ := ob1_some hf
  refine endi X.2.2.2.2 (runS (pc := 10) (As := [.int r1]) (rest := [.int ((M 4) 1)]) X (c_X6_bits G l  H.size r1 r2 hc2) gX6_mended_X6_bits k_X6_bits ⟨rfl, rfl⟩ ⟨Nat.le_of_ble_eq_true rfl, Nat.le_of_ble_eq_true rfl⟩ (EM.nil (w_Mo G A M N)) hP hD hS rfl hl.1 rfl (Nat.le_of_ble_eq_true rfl) ⟨Nat.zero_le _, Nat.zero_le _⟩ dX6_mended_10) (EM.nil (w_Mo G A M N)) hP hD hS (fun H locs hP hD hS => ?_)
  refine lv_isub (pc := 13) hx hb dX6_mended_13 ?_
  cases hf
  exact hret _ _ _ _ dX6_mended_14 hP hD hS
def r_X6_counted : Room := { frames := 2, cells := 0, slots := 0, locals := 42 }
set_option maxHeartbeats 4000000 in
set_option maxRecDepth 100000 in
theorem c_X6_counted (G : GT) (l : Launch) (A : Nat → Nat) (sz : Nat) (M : CS) (N : JS) (x1 : Int32) (r : Int32) (hf : f_X6_counted M N x1 = some r) : MTi l yX6_counted wsX6_counted r_X6_counted [.ref (A 0), .int x1] G (w_Mo G A M N) (w_Mo G A M N) sz r := by
  refine MTi.of (cc := cX6_counted) (maxL := 5) (by decide +kernel) rfl (Nat.le_of_ble_eq_true rfl) (fun p e s m av below meth cd Q B H locs ls X hret hl hP hD hS => ?_)
  have hx := X.1.1
  have hb := X.1.2.1
  have hl : lv_has ls 5 [(0, .ref (A 0)), (1, .int x1)] := hl
  have b_163 : ∀ (x1 : Int32) (x2 : Int32) (x3 : Int32) (H : Heap) (locs : List Loc) (ls : Array Slot), f_X6_counted_163 x1 x2 x3 M N = some r → va_P G.1 vwCl (w_Mo G A M N) H → va_D B (w_Mo G A M N) → va_S B s.heap H locs → lv_has ls 5 [(0, .ref (A 0)), (1, .int x1), (2, .int x2), (3, .int x3)] → W p l e r_X6_counted s m av below meth cd H locs 0 0 Q (F0 m 163 ls []) := by
    intro x1 x2 x3 H locs ls hf hP hD hS hl
    unfold f_X6_counted_163 at hf
    refine lv_iload_n (pc := 163) hx hb dX6_counted_163 rfl (lv_at hl 1 rfl) ?_
    by_cases h1 : x1 = (0 : Int32)
    · have hf := br_y h1 hf
      refine lv_tableIn (pc := 164) (off := 40) (tgt := 204) hx hb dX6_counted_164 (by rw [h1]; decide) (by rw [h1]; decide) (by rw [h1]; rfl) (by decide) ?_
      refine lv_aload_n (pc := 204) hx hb dX6_counted_204 rfl (lv_at hl 0 rfl) ?_
      refine wget (pc := 205) X (fun _ h9 => List.mem_cons_of_mem _ (List.mem_append_right _ h9)) hP 0 (at_Mo_0 G A M N) rfl 4 (by decide) (List.mem_cons_of_mem _ (List.mem_append_left _ (List.mem_of_getElem? (i := 0) rfl))) rfl (v := .ref (A 5)) rfl dX6_counted_205 ?_
      refine lv_iconst (pc := 208) (v := (0 : Int32)) hx hb dX6_counted_208 (by decide) ?_
      refine wiald (pc := 209) X hP 5 (at_Mo_5 G A M N) (by decide) (j := 0) (by decide) dX6_counted_209 ?_
      cases hf
      exact hret _ _ _ _ dX6_counted_210 hP hD hS
    · have hf := br_n h1 hf
      by_cases h2 : x1 = (1 : Int32)
      · have hf := br_y h2 hf
        refine lv_tableIn (pc := 164) (off := 47) (tgt := 211) hx hb dX6_counted_164 (by rw [h2]; decide) (by rw [h2]; decide) (by rw [h2]; rfl) (by decide) ?_
        refine lv_aload_n (pc := 211) hx hb dX6_counted_211 rfl (lv_at hl 0 rfl) ?_
        refine wget (pc := 212) X (fun _ h9 => List.mem_cons_of_mem _ (List.mem_append_right _ h9)) hP 0 (at_Mo_0 G A M N) rfl 4 (by decide) (List.mem_cons_of_mem _ (List.mem_append_left _ (List.mem_of_getElem? (i := 0) rfl))) rfl (v := .ref (A 5)) rfl dX6_counted_212 ?_
        refine lv_iconst (pc := 215) (v := (1 : Int32)) hx hb dX6_counted_215 (by decide) ?_
        refine wiald (pc := 216) X hP 5 (at_Mo_5 G A M N) (by decide) (j := 1) (by decide) dX6_counted_216 ?_
        cases hf
        exact hret _ _ _ _ dX6_counted_217 hP hD hS
      · have hf := br_n h2 hf
        by_cases h3 : x1 = (2 : Int32)
        · have hf := br_y h3 hf
          refine lv_tableIn (pc := 164) (off := 54) (tgt := 218) hx hb dX6_counted_164 (by rw [h3]; decide) (by rw [h3]; decide) (by rw [h3]; rfl) (by decide) ?_
          refine lv_aload_n (pc := 218) hx hb dX6_counted_218 rfl (lv_at hl 0 rfl) ?_
          obtain ⟨r1, hc1, hf⟩ := ob1_some hf
          refine endi X.2.2.2.2 (runV (pc := 219) (As := []) (rest := []) X (c_X6_mended G l A H.size M N r1 hc1) gX6_counted_X6_mended k_X6_mended ⟨rfl, rfl⟩ ⟨Nat.le_of_ble_eq_true rfl, Nat.le_of_ble_eq_true rfl⟩ (EM.all (w_Mo G A M N) (w_Mo G A M N)) hP hD hS (ci := 6) rfl rfl (at_Mo_0 G A M N) rfl hl.1 rfl (Nat.le_of_ble_eq_true rfl) ⟨Nat.zero_le _, Nat.zero_le _⟩ dX6_counted_219) (EM.all (w_Mo G A M N) (w_Mo G A M N)) hP hD hS (fun H locs hP hD hS => ?_)
          cases hf
          exact hret _ _ _ _ dX6_counted_222 hP hD hS
        · have hf := br_n h3 hf
          by_cases h4 : x1 = (3 : Int32)
          · have hf := br_y h4 hf
            refine lv_tableIn (pc := 164) (off := 59) (tgt := 223) hx hb dX6_counted_164 (by rw [h4]; decide) (by rw [h4]; decide) (by rw [h4]; rfl) (by decide) ?_
            refine lv_aload_n (pc := 223) hx hb dX6_counted_223 rfl (lv_at hl 0 rfl) ?_
            refine wget (pc := 224) X (fun _ h9 => List.mem_cons_of_mem _ (List.mem_append_right _ h9)) hP 0 (at_Mo_0 G A M N) rfl 4 (by decide) (List.mem_cons_of_mem _ (List.mem_append_left _ (List.mem_of_getElem? (i := 0) rfl))) rfl (v := .ref (A 5)) rfl dX6_counted_224 ?_
            refine lv_iconst (pc := 227) (v := (2 : Int32)) hx hb dX6_counted_227 (by decide) ?_
            refine wiald (pc := 228) X hP 5 (at_Mo_5 G A M N) (by decide) (j := 2) (by decide) dX6_counted_228 ?_
            cases hf
            exact hret _ _ _ _ dX6_counted_229 hP hD hS
          · have hf := br_n h4 hf
            by_cases h5 : x1 = (4 : Int32)
            · have hf := br_y h5 hf
              refine lv_tableIn (pc := 164) (off := 66) (tgt := 230) hx hb dX6_counted_164 (by rw [h5]; decide) (by rw [h5]; decide) (by rw [h5]; rfl) (by decide) ?_
              refine lv_aload_n (pc := 230) hx hb dX6_counted_230 rfl (lv_at hl 0 rfl) ?_
              refine wget (pc := 231) X (fun _ h9 => List.mem_cons_of_mem _ (List.mem_append_right _ h9)) hP 0 (at_Mo_0 G A M N) rfl 4 (by decide) (List.mem_cons_of_mem _ (List.mem_append_left _ (List.mem_of_getElem? (i := 0) rfl))) rfl (v := .ref (A 5)) rfl dX6_counted_231 ?_
              refine lv_iconst (pc := 234) (v := (3 : Int32)) hx hb dX6_counted_234 (by decide) ?_
              refine wiald (pc := 235) X hP 5 (at_Mo_5 G A M N) (by decide) (j := 3) (by decide) dX6_counted_235 ?_
              cases hf
              exact hret _ _ _ _ dX6_counted_236 hP hD hS
            · have hf := br_n h5 hf
              by_cases h6 : x1 = (5 : Int32)
              · have hf := br_y h6 hf
                refine lv_tableIn (pc := 164) (off := 73) (tgt := 237) hx hb dX6_counted_164 (by rw [h6]; decide) (by rw [h6]; decide) (by rw [h6]; rfl) (by decide) ?_
                refine lv_iload_n (pc := 237) hx hb dX6_counted_237 rfl (lv_at hl 2 rfl) ?_
                cases hf
                exact hret _ _ _ _ dX6_counted_238 hP hD hS
              · have hf := br_n h6 hf
                refine lv_tableOut (pc := 164) (tgt := 239) hx hb dX6_counted_164 (by have := sw_ne (k := 0) (by decide) h1; have := sw_ne (k := 1) (by decide) h2; have := sw_ne (k := 2) (by decide) h3; have := sw_ne (k := 3) (by decide) h4; have := sw_ne (k := 4) (by decide) h5; have := sw_ne (k := 5) (by decide) h6; omega) (by decide) ?_
                refine lv_iload_n (pc := 239) hx hb dX6_counted_239 rfl (lv_at hl 3 rfl) ?_
                cases hf
                exact hret _ _ _ _ dX6_counted_240 hP hD hS
  have l_127 : ∀ (n127 : Nat), ∀ (x1 : Int32) (x2 : Int32) (x3 : Int32) (x4 : Int32) (H : Heap) (locs : List Loc) (ls : Array Slot), f_X6_counted_127 n127 x1 x2 x3 x4 M N = some r → va_P G.1 vwCl (w_Mo G A M N) H → va_D B (w_Mo G A M N) → va_S B s.heap H locs → lv_has ls 5 [(0, .ref (A 0)), (1, .int x1), (2, .int x2), (3, .int x3), (4, .int x4)] → W p l e r_X6_counted s m av below meth cd H locs 0 0 Q (F0 m 127 ls []) := by
    intro n127
    induction n127 with
    | zero =>
      intro x1 x2 x3 x4 H locs ls hf hP hD hS hl
      rw [f_X6_counted_127] at hf
      cases hf
    | succ n127 ih127 =>
      have b_155 : ∀ (x1 : Int32) (x2 : Int32) (x4 : Int32) (t0 : Int32) (t1 : Int32) (H : Heap) (locs : List Loc) (ls : Array Slot), f_X6_counted_155 (f_X6_counted_127 n127) x1 x2 x4 t0 t1 M N = some r → va_P G.1 vwCl (w_Mo G A M N) H → va_D B (w_Mo G A M N) → va_S B s.heap H locs → lv_has ls 5 [(0, .ref (A 0)), (1, .int x1), (2, .int x2), (4, .int x4)] → W p l e r_X6_counted s m av below meth cd H locs 0 0 Q (F0 m 155 ls [.int t1, .int t0]) := by
        intro x1 x2 x4 t0 t1 H locs ls hf hP hD hS hl
        unfold f_X6_counted_155 at hf
        refine lv_iadd (pc := 155) hx hb dX6_counted_155 ?_
        refine lv_istore_n (pc := 156) (lv' := [(3, .int (t0 + t1)), (0, .ref (A 0)), (1, .int x1), (2, .int x2), (4, .int x4)]) hx hb dX6_counted_156 rfl hl (by decide) rfl (fun ls hl => ?_)
        refine lv_iinc (pc := 157) (v := (x4 + (1 : Int32))) (lv' := [(4, .int (x4 + (1 : Int32))), (3, .int (t0 + t1)), (0, .ref (A 0)), (1, .int x1), (2, .int x2)]) hx hb dX6_counted_157 hl (k := 4) rfl rfl (by decide) rfl (fun ls hl => ?_)
        refine lv_goto (pc := 160) (tgt := 127) hx hb dX6_counted_160 (by decide) ?_
        exact ih127 _ _ _ _ H locs ls hf hP hD hS (lv_sub hl [2, 3, 4, 1, 0] rfl)
      intro x1 x2 x3 x4 H locs ls hf hP hD hS hl
      rw [f_X6_counted_127] at hf
      refine lv_iload (pc := 127) hx hb dX6_counted_127 (lv_at hl 4 rfl) ?_
      refine lv_iconst (pc := 129) (v := (3 : Int32)) hx hb dX6_counted_129 (by decide) ?_
      refine lv_icmp_ge (pc := 130) (tgt := 163) hx hb dX6_counted_130 (by decide) (fun h9 => ?_) (fun h9 => ?_)
      · have hf := br_y h9 hf
        exact b_163 _ _ _ H locs ls hf hP hD hS (lv_sub hl [0, 1, 2, 3] rfl)
      · have hf := br_n h9 hf
        refine lv_iload_n (pc := 133) hx hb dX6_counted_133 rfl (lv_at hl 1 rfl) ?_
        refine lv_bipush (pc := 134) (v := (8 : Int32)) hx hb dX6_counted_134 (by decide) ?_
        refine lv_icmp_ne (pc := 136) (tgt := 163) hx hb dX6_counted_136 (by decide) (fun h8 => ?_) (fun h8 => ?_)
        · have hf := br_n h8 hf
          exact b_163 _ _ _ H locs ls hf hP hD hS (lv_sub hl [0, 1, 2, 3] rfl)
        · have hf := br_y h8 hf
          refine lv_iload_n (pc := 139) hx hb dX6_counted_139 rfl (lv_at hl 3 rfl) ?_
          refine lv_aload_n (pc := 140) hx hb dX6_counted_140 rfl (lv_at hl 0 rfl) ?_
          refine wget (pc := 141) X (fun _ h9 => List.mem_cons_of_mem _ (List.mem_append_right _ h9)) hP 0 (at_Mo_0 G A M N) rfl 6 (by decide) (List.mem_cons_of_mem _ (List.mem_append_left _ (List.mem_of_getElem? (i := 3) rfl))) rfl (v := .ref (A 7)) rfl dX6_counted_141 ?_
          refine lv_iload (pc := 144) hx hb dX6_counted_144 (lv_at hl 4 rfl) ?_
          obtain ⟨hi, hf⟩ := ck_some hf
          refine wzald (pc := 146) X hP 7 (at_Mo_7 G A M N) hi rfl dX6_counted_146 ?_
          refine lv_if_eq (pc := 147) (tgt := 154) hx hb dX6_counted_147 (by decide) (fun h7 => ?_) (fun h7 => ?_)
          · have hf := br_y h7 hf
            refine lv_iconst (pc := 154) (v := (0 : Int32)) hx hb dX6_counted_154 (by decide) ?_
            exact b_155 _ _ _ _ _ H locs ls hf hP hD hS (lv_sub hl [0, 1, 2, 4] rfl)
          · have hf := br_n h7 hf
            refine lv_iconst (pc := 150) (v := (1 : Int32)) hx hb dX6_counted_150 (by decide) ?_
            refine lv_goto (pc := 151) (tgt := 155) hx hb dX6_counted_151 (by decide) ?_
            exact b_155 _ _ _ _ _ H locs ls hf hP hD hS (lv_sub hl [0, 1, 2, 4] rfl)
  have b_124 : ∀ (x1 : Int32) (x2 : Int32) (x3 : Int32) (H : Heap) (locs : List Loc) (ls : Array Slot), f_X6_counted_124 x1 x2 x3 M N = some r → va_P G.1 vwCl (w_Mo G A M N) H → va_D B (w_Mo G A M N) → va_S B s.heap H locs → lv_has ls 5 [(0, .ref (A 0)), (1, .int x1), (2, .int x2), (3, .int x3)] → W p l e r_X6_counted s m av below meth cd H locs 0 0 Q (F0 m 124 ls []) := by
    intro x1 x2 x3 H locs ls hf hP hD hS hl
    unfold f_X6_counted_124 at hf
    refine lv_iconst (pc := 124) (v := (0 : Int32)) hx hb dX6_counted_124 (by decide) ?_
    refine lv_istore (pc := 125) (lv' := [(4, .int (0 : Int32)), (0, .ref (A 0)), (1, .int x1), (2, .int x2), (3, .int x3)]) hx hb dX6_counted_125 hl (by decide) rfl (fun ls hl => ?_)
    exact l_127 FU _ _ _ _ H locs ls hf hP hD hS (lv_sub hl [1, 2, 3, 4, 0] rfl)
  have l_88 : ∀ (n88 : Nat), ∀ (x1 : Int32) (x2 : Int32) (x3 : Int32) (x4 : Int32) (H : Heap) (locs : List Loc) (ls : Array Slot), f_X6_counted_88 n88 x1 x2 x3 x4 M N = some r → va_P G.1 vwCl (w_Mo G A M N) H → va_D B (w_Mo G A M N) → va_S B s.heap H locs → lv_has ls 5 [(0, .ref (A 0)), (1, .int x1), (2, .int x2), (3, .int x3), (4, .int x4)] → W p l e r_X6_counted s m av below meth cd H locs 0 0 Q (F0 m 88 ls []) := by
    intro n88
    induction n88 with
    | zero =>
      intro x1 x2 x3 x4 H locs ls hf hP hD hS hl
      rw [f_X6_counted_88] at hf
      cases hf
    | succ n88 ih88 =>
      have b_116 : ∀ (x1 : Int32) (x2 : Int32) (x4 : Int32) (t0 : Int32) (t1 : Int32) (H : Heap) (locs : List Loc) (ls : Array Slot), f_X6_counted_116 (f_X6_counted_88 n88) x1 x2 x4 t0 t1 M N = some r → va_P G.1 vwCl (w_Mo G A M N) H → va_D B (w_Mo G A M N) → va_S B s.heap H locs → lv_has ls 5 [(0, .ref (A 0)), (1, .int x1), (2, .int x2), (4, .int x4)] → W p l e r_X6_counted s m av below meth cd H locs 0 0 Q (F0 m 116 ls [.int t1, .int t0]) := by
        intro x1 x2 x4 t0 t1 H locs ls hf hP hD hS hl
        unfold f_X6_counted_116 at hf
        refine lv_iadd (pc := 116) hx hb dX6_counted_116 ?_
        refine lv_istore_n (pc := 117) (lv' := [(3, .int (t0 + t1)), (0, .ref (A 0)), (1, .int x1), (2, .int x2), (4, .int x4)]) hx hb dX6_counted_117 rfl hl (by decide) rfl (fun ls hl => ?_)
        refine lv_iinc (pc := 118) (v := (x4 + (1 : Int32))) (lv' := [(4, .int (x4 + (1 : Int32))), (3, .int (t0 + t1)), (0, .ref (A 0)), (1, .int x1), (2, .int x2)]) hx hb dX6_counted_118 hl (k := 4) rfl rfl (by decide) rfl (fun ls hl => ?_)
        refine lv_goto (pc := 121) (tgt := 88) hx hb dX6_counted_121 (by decide) ?_
        exact ih88 _ _ _ _ H locs ls hf hP hD hS (lv_sub hl [2, 3, 4, 1, 0] rfl)
      intro x1 x2 x3 x4 H locs ls hf hP hD hS hl
      rw [f_X6_counted_88] at hf
      refine lv_iload (pc := 88) hx hb dX6_counted_88 (lv_at hl 4 rfl) ?_
      refine lv_iconst (pc := 90) (v := (4 : Int32)) hx hb dX6_counted_90 (by decide) ?_
      refine lv_icmp_ge (pc := 91) (tgt := 124) hx hb dX6_counted_91 (by decide) (fun h12 => ?_) (fun h12 => ?_)
      · have hf := br_y h12 hf
        exact b_124 _ _ _ H locs ls hf hP hD hS (lv_sub hl [0, 1, 2, 3] rfl)
      · have hf := br_n h12 hf
        refine lv_iload_n (pc := 94) hx hb dX6_counted_94 rfl (lv_at hl 1 rfl) ?_
        refine lv_bipush (pc := 95) (v := (7 : Int32)) hx hb dX6_counted_95 (by decide) ?_
        refine lv_icmp_ne (pc := 97) (tgt := 124) hx hb dX6_counted_97 (by decide) (fun h11 => ?_) (fun h11 => ?_)
        · have hf := br_n h11 hf
          exact b_124 _ _ _ H locs ls hf hP hD hS (lv_sub hl [0, 1, 2, 3] rfl)
        · have hf := br_y h11 hf
          refine lv_iload_n (pc := 100) hx hb dX6_counted_100 rfl (lv_at hl 3 rfl) ?_
          refine lv_aload_n (pc := 101) hx hb dX6_counted_101 rfl (lv_at hl 0 rfl) ?_
          refine wget (pc := 102) X (fun _ h9 => List.mem_cons_of_mem _ (List.mem_append_right _ h9)) hP 0 (at_Mo_0 G A M N) rfl 2 (by decide) (List.mem_cons_of_mem _ (List.mem_append_left _ (List.mem_of_getElem? (i := 2) rfl))) rfl (v := .ref (A 3)) rfl dX6_counted_102 ?_
          refine lv_iload (pc := 105) hx hb dX6_counted_105 (lv_at hl 4 rfl) ?_
          obtain ⟨hi, hf⟩ := ck_some hf
          refine wiald (pc := 107) X hP 3 (at_Mo_3 G A M N) hi rfl dX6_counted_107 ?_
          refine lv_if_ge (pc := 108) (tgt := 115) hx hb dX6_counted_108 (by decide) (fun h10 => ?_) (fun h10 => ?_)
          · have hf := br_y h10 hf
            refine lv_iconst (pc := 115) (v := (1 : Int32)) hx hb dX6_counted_115 (by decide) ?_
            exact b_116 _ _ _ _ _ H locs ls hf hP hD hS (lv_sub hl [0, 1, 2, 4] rfl)
          · have hf := br_n h10 hf
            refine lv_iconst (pc := 111) (v := (0 : Int32)) hx hb dX6_counted_111 (by decide) ?_
            refine lv_goto (pc := 112) (tgt := 116) hx hb dX6_counted_112 (by decide) ?_
            exact b_116 _ _ _ _ _ H locs ls hf hP hD hS (lv_sub hl [0, 1, 2, 4] rfl)
  have b_85 : ∀ (x1 : Int32) (x2 : Int32) (x3 : Int32) (H : Heap) (locs : List Loc) (ls : Array Slot), f_X6_counted_85 x1 x2 x3 M N = some r → va_P G.1 vwCl (w_Mo G A M N) H → va_D B (w_Mo G A M N) → va_S B s.heap H locs → lv_has ls 5 [(0, .ref (A 0)), (1, .int x1), (2, .int x2), (3, .int x3)] → W p l e r_X6_counted s m av below meth cd H locs 0 0 Q (F0 m 85 ls []) := by
    intro x1 x2 x3 H locs ls hf hP hD hS hl
    unfold f_X6_counted_85 at hf
    refine lv_iconst (pc := 85) (v := (0 : Int32)) hx hb dX6_counted_85 (by decide) ?_
    refine lv_istore (pc := 86) (lv' := [(4, .int (0 : Int32)), (0, .ref (A 0)), (1, .int x1), (2, .int x2), (3, .int x3)]) hx hb dX6_counted_86 hl (by decide) rfl (fun ls hl => ?_)
    exact l_88 FU _ _ _ _ H locs ls hf hP hD hS (lv_sub hl [1, 2, 3, 4, 0] rfl)
  have l_48 : ∀ (n48 : Nat), ∀ (x1 : Int32) (x2 : Int32) (x3 : Int32) (x4 : Int32) (H : Heap) (locs : List Loc) (ls : Array Slot), f_X6_counted_48 n48 x1 x2 x3 x4 M N = some r → va_P G.1 vwCl (w_Mo G A M N) H → va_D B (w_Mo G A M N) → va_S B s.heap H locs → lv_has ls 5 [(0, .ref (A 0)), (1, .int x1), (2, .int x2), (3, .int x3), (4, .int x4)] → W p l e r_X6_counted s m av below meth cd H locs 0 0 Q (F0 m 48 ls []) := by
    intro n48
    induction n48 with
    | zero =>
      intro x1 x2 x3 x4 H locs ls hf hP hD hS hl
      rw [f_X6_counted_48] at hf
      cases hf
    | succ n48 ih48 =>
      have b_77 : ∀ (x1 : Int32) (x2 : Int32) (x4 : Int32) (t0 : Int32) (t1 : Int32) (H : Heap) (locs : List Loc) (ls : Array Slot), f_X6_counted_77 (f_X6_counted_48 n48) x1 x2 x4 t0 t1 M N = some r → va_P G.1 vwCl (w_Mo G A M N) H → va_D B (w_Mo G A M N) → va_S B s.heap H locs → lv_has ls 5 [(0, .ref (A 0)), (1, .int x1), (2, .int x2), (4, .int x4)] → W p l e r_X6_counted s m av below meth cd H locs 0 0 Q (F0 m 77 ls [.int t1, .int t0]) := by
        intro x1 x2 x4 t0 t1 H locs ls hf hP hD hS hl
        unfold f_X6_counted_77 at hf
        refine lv_iadd (pc := 77) hx hb dX6_counted_77 ?_
        refine lv_istore_n (pc := 78) (lv' := [(3, .int (t0 + t1)), (0, .ref (A 0)), (1, .int x1), (2, .int x2), (4, .int x4)]) hx hb dX6_counted_78 rfl hl (by decide) rfl (fun ls hl => ?_)
        refine lv_iinc (pc := 79) (v := (x4 + (1 : Int32))) (lv' := [(4, .int (x4 + (1 : Int32))), (3, .int (t0 + t1)), (0, .ref (A 0)), (1, .int x1), (2, .int x2)]) hx hb dX6_counted_79 hl (k := 4) rfl rfl (by decide) rfl (fun ls hl => ?_)
        refine lv_goto (pc := 82) (tgt := 48) hx hb dX6_counted_82 (by decide) ?_
        exact ih48 _ _ _ _ H locs ls hf hP hD hS (lv_sub hl [2, 3, 4, 1, 0] rfl)
      intro x1 x2 x3 x4 H locs ls hf hP hD hS hl
      rw [f_X6_counted_48] at hf
      refine lv_iload (pc := 48) hx hb dX6_counted_48 (lv_at hl 4 rfl) ?_
      refine lv_bipush (pc := 50) (v := (6 : Int32)) hx hb dX6_counted_50 (by decide) ?_
      refine lv_icmp_ge (pc := 52) (tgt := 85) hx hb dX6_counted_52 (by decide) (fun h15 => ?_) (fun h15 => ?_)
      · have hf := br_y h15 hf
        exact b_85 _ _ _ H locs ls hf hP hD hS (lv_sub hl [0, 1, 2, 3] rfl)
      · have hf := br_n h15 hf
        refine lv_iload_n (pc := 55) hx hb dX6_counted_55 rfl (lv_at hl 1 rfl) ?_
        refine lv_bipush (pc := 56) (v := (6 : Int32)) hx hb dX6_counted_56 (by decide) ?_
        refine lv_icmp_ne (pc := 58) (tgt := 85) hx hb dX6_counted_58 (by decide) (fun h14 => ?_) (fun h14 => ?_)
        · have hf := br_n h14 hf
          exact b_85 _ _ _ H locs ls hf hP hD hS (lv_sub hl [0, 1, 2, 3] rfl)
        · have hf := br_y h14 hf
          refine lv_iload_n (pc := 61) hx hb dX6_counted_61 rfl (lv_at hl 3 rfl) ?_
          refine lv_aload_n (pc := 62) hx hb dX6_counted_62 rfl (lv_at hl 0 rfl) ?_
          refine wget (pc := 63) X (fun _ h9 => List.mem_cons_of_mem _ (List.mem_append_right _ h9)) hP 0 (at_Mo_0 G A M N) rfl 0 (by decide) (List.mem_cons_of_mem _ (List.mem_append_left _ (List.mem_of_getElem? (i := 1) rfl))) rfl (v := .ref (A 1)) rfl dX6_counted_63 ?_
          refine lv_iload (pc := 66) hx hb dX6_counted_66 (lv_at hl 4 rfl) ?_
          obtain ⟨hi, hf⟩ := ck_some hf
          refine wiald (pc := 68) X hP 1 (at_Mo_1 G A M N) hi rfl dX6_counted_68 ?_
          refine lv_if_ge (pc := 69) (tgt := 76) hx hb dX6_counted_69 (by decide) (fun h13 => ?_) (fun h13 => ?_)
          · have hf := br_y h13 hf
            refine lv_iconst (pc := 76) (v := (1 : Int32)) hx hb dX6_counted_76 (by decide) ?_
            exact b_77 _ _ _ _ _ H locs ls hf hP hD hS (lv_sub hl [0, 1, 2, 4] rfl)
          · have hf := br_n h13 hf
            refine lv_iconst (pc := 72) (v := (0 : Int32)) hx hb dX6_counted_72 (by decide) ?_
            refine lv_goto (pc := 73) (tgt := 77) hx hb dX6_counted_73 (by decide) ?_
            exact b_77 _ _ _ _ _ H locs ls hf hP hD hS (lv_sub hl [0, 1, 2, 4] rfl)
  have l_4 : ∀ (n4 : Nat), ∀ (x1 : Int32) (x2 : Int32) (x3 : Int32) (H : Heap) (locs : List Loc) (ls : Array Slot), f_X6_counted_4 n4 x1 x2 x3 M N = some r → va_P G.1 vwCl (w_Mo G A M N) H → va_D B (w_Mo G A M N) → va_S B s.heap H locs → lv_has ls 5 [(0, .ref (A 0)), (1, .int x1), (2, .int x2), (3, .int x3)] → W p l e r_X6_counted s m av below meth cd H locs 0 0 Q (F0 m 4 ls []) := by
    intro n4
    induction n4 with
    | zero =>
      intro x1 x2 x3 H locs ls hf hP hD hS hl
      rw [f_X6_counted_4] at hf
      cases hf
    | succ n4 ih4 =>
      have b_35 : ∀ (x1 : Int32) (x3 : Int32) (t0 : Int32) (t1 : Int32) (H : Heap) (locs : List Loc) (ls : Array Slot), f_X6_counted_35 (f_X6_counted_4 n4) x1 x3 t0 t1 M N = some r → va_P G.1 vwCl (w_Mo G A M N) H → va_D B (w_Mo G A M N) → va_S B s.heap H locs → lv_has ls 5 [(0, .ref (A 0)), (1, .int x1), (3, .int x3)] → W p l e r_X6_counted s m av below meth cd H locs 0 0 Q (F0 m 35 ls [.int t1, .int t0]) := by
        intro x1 x3 t0 t1 H locs ls hf hP hD hS hl
        unfold f_X6_counted_35 at hf
        refine lv_iadd (pc := 35) hx hb dX6_counted_35 ?_
        refine lv_istore_n (pc := 36) (lv' := [(2, .int (t0 + t1)), (0, .ref (A 0)), (1, .int x1), (3, .int x3)]) hx hb dX6_counted_36 rfl hl (by decide) rfl (fun ls hl => ?_)
        refine lv_iinc (pc := 37) (v := (x3 + (1 : Int32))) (lv' := [(3, .int (x3 + (1 : Int32))), (2, .int (t0 + t1)), (0, .ref (A 0)), (1, .int x1)]) hx hb dX6_counted_37 hl (k := 3) rfl rfl (by decide) rfl (fun ls hl => ?_)
        refine lv_goto (pc := 40) (tgt := 4) hx hb dX6_counted_40 (by decide) ?_
        exact ih4 _ _ _ H locs ls hf hP hD hS (lv_sub hl [2, 3, 1, 0] rfl)
      intro x1 x2 x3 H locs ls hf hP hD hS hl
      rw [f_X6_counted_4] at hf
      refine lv_iload_n (pc := 4) hx hb dX6_counted_4 rfl (lv_at hl 3 rfl) ?_
      refine lv_aload_n (pc := 5) hx hb dX6_counted_5 rfl (lv_at hl 0 rfl) ?_
      refine wget (pc := 6) X (fun _ h9 => List.mem_cons_of_mem _ (List.mem_append_right _ h9)) hP 0 (at_Mo_0 G A M N) rfl 4 (by decide) (List.mem_cons_of_mem _ (List.mem_append_left _ (List.mem_of_getElem? (i := 0) rfl))) rfl (v := .ref (A 5)) rfl dX6_counted_6 ?_
      refine lv_iconst (pc := 9) (v := (0 : Int32)) hx hb dX6_counted_9 (by decide) ?_
      refine wiald (pc := 10) X hP 5 (at_Mo_5 G A M N) (by decide) (j := 0) (by decide) dX6_counted_10 ?_
      refine lv_icmp_ge (pc := 11) (tgt := 43) hx hb dX6_counted_11 (by decide) (fun h17 => ?_) (fun h17 => ?_)
      · have hf := br_y h17 hf
        refine lv_iconst (pc := 43) (v := (0 : Int32)) hx hb dX6_counted_43 (by decide) ?_
        refine lv_istore_n (pc := 44) (lv' := [(3, .int (0 : Int32)), (0, .ref (A 0)), (1, .int x1), (2, .int x2)]) hx hb dX6_counted_44 rfl hl (by decide) rfl (fun ls hl => ?_)
        refine lv_iconst (pc := 45) (v := (0 : Int32)) hx hb dX6_counted_45 (by decide) ?_
        refine lv_istore (pc := 46) (lv' := [(4, .int (0 : Int32)), (3, .int (0 : Int32)), (0, .ref (A 0)), (1, .int x1), (2, .int x2)]) hx hb dX6_counted_46 hl (by decide) rfl (fun ls hl => ?_)
        exact l_48 FU _ _ _ _ H locs ls hf hP hD hS (lv_sub hl [2, 3, 4, 1, 0] rfl)
      · have hf := br_n h17 hf
        refine lv_iload_n (pc := 14) hx hb dX6_counted_14 rfl (lv_at hl 2 rfl) ?_
        refine lv_aload_n (pc := 15) hx hb dX6_counted_15 rfl (lv_at hl 0 rfl) ?_
        refine wget (pc := 16) X (fun _ h9 => List.mem_cons_of_mem _ (List.mem_append_right _ h9)) hP 0 (at_Mo_0 G A M N) rfl 4 (by decide) (List.mem_cons_of_mem _ (List.mem_append_left _ (List.mem_of_getElem? (i := 0) rfl))) rfl (v := .ref (A 5)) rfl dX6_counted_16 ?_
        refine lv_iconst (pc := 19) (v := (4 : Int32)) hx hb dX6_counted_19 (by decide) ?_
        refine lv_iload_n (pc := 20) hx hb dX6_counted_20 rfl (lv_at hl 3 rfl) ?_
        refine lv_iadd (pc := 21) hx hb dX6_counted_21 ?_
        obtain ⟨hi, hf⟩ := ck_some hf
        refine wiald (pc := 22) X hP 5 (at_Mo_5 G A M N) hi rfl dX6_counted_22 ?_
        refine lv_iconst (pc := 23) (v := (1 : Int32)) hx hb dX6_counted_23 (by decide) ?_
        obtain ⟨r1, hc1, hf⟩ := ob1_some hf
        refine endi X.2.2.2.2 (runS (pc := 24) (As := [.int ((M 4) ((4 : Int32) + x3).toNatClampNeg), .int (1 : Int32)]) (rest := [.int x2]) X (c_X6_isOf G l  H.size ((M 4) ((4 : Int32) + x3).toNatClampNeg) (1 : Int32) r1 hc1) gX6_counted_X6_isOf k_X6_isOf ⟨rfl, rfl⟩ ⟨Nat.le_of_ble_eq_true rfl, Nat.le_of_ble_eq_true rfl⟩ (EM.nil (w_Mo G A M N)) hP hD hS rfl hl.1 rfl (Nat.le_of_ble_eq_true rfl) ⟨Nat.zero_le _, Nat.zero_le _⟩ dX6_counted_24) (EM.nil (w_Mo G A M N)) hP hD hS (fun H locs hP hD hS => ?_)
        refine lv_if_eq (pc := 27) (tgt := 34) hx hb dX6_counted_27 (by decide) (fun h16 => ?_) (fun h16 => ?_)
        · have hf := br_y h16 hf
          refine lv_iconst (pc := 34) (v := (0 : Int32)) hx hb dX6_counted_34 (by decide) ?_
          exact b_35 _ _ _ _ H locs ls hf hP hD hS (lv_sub hl [0, 1, 3] rfl)
        · have hf := br_n h16 hf
          refine lv_iconst (pc := 30) (v := (1 : Int32)) hx hb dX6_counted_30 (by decide) ?_
          refine lv_goto (pc := 31) (tgt := 35) hx hb dX6_counted_31 (by decide) ?_
          exact b_35 _ _ _ _ H locs ls hf hP hD hS (lv_sub hl [0, 1, 3] rfl)
  unfold f_X6_counted at hf
  refine lv_iconst (pc := 0) (v := (0 : Int32)) hx hb dX6_counted_0 (by decide) ?_
  refine lv_istore_n (pc := 1) (lv' := [(2, .int (0 : Int32)), (0, .ref (A 0)), (1, .int x1)]) hx hb dX6_counted_1 rfl hl (by decide) rfl (fun ls hl => ?_)
  refine lv_iconst (pc := 2) (v := (0 : Int32)) hx hb dX6_counted_2 (by decide) ?_
  refine lv_istore_n (pc := 3) (lv' := [(3, .int (0 : Int32)), (2, .int (0 : Int32)), (0, .ref (A 0)), (1, .int x1)]) hx hb dX6_counted_3 rfl hl (by decide) rfl (fun ls hl => ?_)
  exact l_4 FU _ _ _ H locs ls hf hP hD hS (lv_sub hl [2, 3, 1, 0] rfl)
def r_X6_count : Room := { frames := 3, cells := 0, slots := 0, locals := 66 }
set_option maxHeartbeats 4000000 in
set_option maxRecDepth 100000 in
theorem c_X6_count (G : GT) (l : Launch) (A : Nat → Nat) (sz : Nat) (M : CS) (N : JS) (x1 : Int32) (r : Int32) (hf : f_X6_count M N x1 = some r) : MTi l yX6_count wsX6_count r_X6_count [.ref (A 0), .int x1] G (w_Mo G A M N) (w_Mo G A M N) sz r := by
  refine MTi.of (cc := cX6_count) (maxL := 2) (by decide +kernel) rfl (Nat.le_of_ble_eq_true rfl) (fun p e s m av below meth cd Q B H locs ls X hret hl hP hD hS => ?_)
  have hx := X.1.1
  have hb := X.1.2.1
  have hl : lv_has ls 2 [(0, .ref (A 0)), (1, .int x1)] := hl
  have b_21 : ∀ (t0 : Int32) (H : Heap) (locs : List Loc) (ls : Array Slot), f_X6_count_21 t0 M N = some r → va_P G.1 vwCl (w_Mo G A M N) H → va_D B (w_Mo G A M N) → va_S B s.heap H locs → lv_has ls 2 [] → W p l e r_X6_count s m av below meth cd H locs 0 0 Q (F0 m 21 ls [.int t0]) := by
    intro t0 H locs ls hf hP hD hS hl
    unfold f_X6_count_21 at hf
    cases hf
    exact hret _ _ _ _ dX6_count_21 hP hD hS
  unfold f_X6_count at hf
  refine lv_iload_n (pc := 0) hx hb dX6_count_0 rfl (lv_at hl 1 rfl) ?_
  refine lv_i2l (pc := 1) (v := (x1).toInt64) hx hb dX6_count_1 rfl ?_
  refine lv_lconst (pc := 2) (v := (0 : Int64)) hx hb dX6_count_2 (by decide) ?_
  refine lv_ldc2 (pc := 3) (v := 8) hx hb X.1.2.2.2.1 (X.1.2.2.2.2 _ (List.mem_cons_of_mem _ (List.mem_append_left _ (List.mem_append_left _ (List.mem_of_getElem? (i := 0) rfl))))) dX6_count_3 ?_
  obtain ⟨r1, hc1, hf⟩ := ob1_some hf
  refine endi X.2.2.2.2 (runS (pc := 6) (As := [.long ((x1).toInt64), .long (0 : Int64), .long (8 : Int64)]) (rest := []) X (c_X6_in G l  H.size ((x1).toInt64) (0 : Int64) (8 : Int64) r1 hc1) gX6_count_X6_in k_X6_in ⟨rfl, rfl⟩ ⟨Nat.le_of_ble_eq_true rfl, Nat.le_of_ble_eq_true rfl⟩ (EM.nil (w_Mo G A M N)) hP hD hS rfl hl.1 rfl (Nat.le_of_ble_eq_true rfl) ⟨Nat.zero_le _, Nat.zero_le _⟩ dX6_count_6) (EM.nil (w_Mo G A M N)) hP hD hS (fun H locs hP hD hS => ?_)
  refine lv_if_eq (pc := 9) (tgt := 20) hx hb dX6_count_9 (by decide) (fun h1 => ?_) (fun h1 => ?_)
  · have hf := br_y h1 hf
    refine lv_iconst (pc := 20) (v := (-1 : Int32)) hx hb dX6_count_20 (by decide) ?_
    exact b_21 _ H locs ls hf hP hD hS (lv_sub hl [] rfl)
  · have hf := br_n h1 hf
    refine lv_aload_n (pc := 12) hx hb dX6_count_12 rfl (lv_at hl 0 rfl) ?_
    refine lv_iload_n (pc := 13) hx hb dX6_count_13 rfl (lv_at hl 1 rfl) ?_
    obtain ⟨r2, hc2, hf⟩ := ob1_some hf
    refine endi X.2.2.2.2 (runV (pc := 14) (As := [.int x1]) (rest := []) X (c_X6_counted G l A H.size M N x1 r2 hc2) gX6_count_X6_counted k_X6_counted ⟨rfl, rfl⟩ ⟨Nat.le_of_ble_eq_true rfl, Nat.le_of_ble_eq_true rfl⟩ (EM.all (w_Mo G A M N) (w_Mo G A M N)) hP hD hS (ci := 6) rfl rfl (at_Mo_0 G A M N) rfl hl.1 rfl (Nat.le_of_ble_eq_true rfl) ⟨Nat.zero_le _, Nat.zero_le _⟩ dX6_count_14) (EM.all (w_Mo G A M N) (w_Mo G A M N)) hP hD hS (fun H locs hP hD hS => ?_)
    refine lv_goto (pc := 17) (tgt := 21) hx hb dX6_count_17 (by decide) ?_
    exact b_21 _ H locs ls hf hP hD hS (lv_sub hl [] rfl)
def r_X6_day : Room := { frames := 1, cells := 0, slots := 0, locals := 21 }
set_option maxHeartbeats 4000000 in
set_option maxRecDepth 100000 in
theorem c_X6_day (G : GT) (l : Launch) (A : Nat → Nat) (sz : Nat) (M : CS) (N : JS) (r : Int32) (M' : CS) (hf : f_X6_day M N = some (r, M')) : MTi l yX6_day wsX6_day r_X6_day [.ref (A 0)] G (w_Mo G A M N) (w_Mo G A M' N) sz r := by
  refine MTi.of (cc := cX6_day) (maxL := 1) (by decide +kernel) rfl (Nat.le_of_ble_eq_true rfl) (fun p e s m av below meth cd Q B H locs ls X hret hl hP hD hS => ?_)
  have hx := X.1.1
  have hb := X.1.2.1
  have hl : lv_has ls 1 [(0, .ref (A 0))] := hl
  have b_20 : ∀ (M : CS) (H : Heap) (locs : List Loc) (ls : Array Slot), f_X6_day_20 M N = some (r, M') → va_P G.1 vwCl (w_Mo G A M N) H → va_D B (w_Mo G A M N) → va_S B s.heap H locs → lv_has ls 1 [] → W p l e r_X6_day s m av below meth cd H locs 0 0 Q (F0 m 20 ls []) := by
    intro M H locs ls hf hP hD hS hl
    unfold f_X6_day_20 at hf
    refine lv_bipush (pc := 20) (v := (-4 : Int32)) hx hb dX6_day_20 (by decide) ?_
    cases hf
    exact hret _ _ _ _ dX6_day_22 hP hD hS
  unfold f_X6_day at hf
  refine lv_aload_n (pc := 0) hx hb dX6_day_0 rfl (lv_at hl 0 rfl) ?_
  refine wget (pc := 1) X (fun _ h9 => List.mem_cons_of_mem _ (List.mem_append_right _ h9)) hP 0 (at_Mo_0 G A M N) rfl 4 (by decide) (List.mem_cons_of_mem _ (List.mem_append_left _ (List.mem_of_getElem? (i := 0) rfl))) rfl (v := .ref (A 5)) rfl dX6_day_1 ?_
  refine lv_iconst (pc := 4) (v := (0 : Int32)) hx hb dX6_day_4 (by decide) ?_
  refine wiald (pc := 5) X hP 5 (at_Mo_5 G A M N) (by decide) (j := 0) (by decide) dX6_day_5 ?_
  refine lv_if_eq (pc := 6) (tgt := 20) hx hb dX6_day_6 (by decide) (fun h3 => ?_) (fun h3 => ?_)
  · have hf := br_y h3 hf
    exact b_20 _ H locs ls hf hP hD hS (lv_sub hl [] rfl)
  · have hf := br_n h3 hf
    refine lv_aload_n (pc := 9) hx hb dX6_day_9 rfl (lv_at hl 0 rfl) ?_
    refine wget (pc := 10) X (fun _ h9 => List.mem_cons_of_mem _ (List.mem_append_right _ h9)) hP 0 (at_Mo_0 G A M N) rfl 4 (by decide) (List.mem_cons_of_mem _ (List.mem_append_left _ (List.mem_of_getElem? (i := 0) rfl))) rfl (v := .ref (A 5)) rfl dX6_day_10 ?_
    refine lv_iconst (pc := 13) (v := (2 : Int32)) hx hb dX6_day_13 (by decide) ?_
    refine wiald (pc := 14) X hP 5 (at_Mo_5 G A M N) (by decide) (j := 2) (by decide) dX6_day_14 ?_
    refine lv_bipush (pc := 15) (v := (19 : Int32)) hx hb dX6_day_15 (by decide) ?_
    refine lv_icmp_ne (pc := 17) (tgt := 23) hx hb dX6_day_17 (by decide) (fun h2 => ?_) (fun h2 => ?_)
    · have hf := br_n h2 hf
      refine lv_aload_n (pc := 23) hx hb dX6_day_23 rfl (lv_at hl 0 rfl) ?_
      refine wget (pc := 24) X (fun _ h9 => List.mem_cons_of_mem _ (List.mem_append_right _ h9)) hP 0 (at_Mo_0 G A M N) rfl 4 (by decide) (List.mem_cons_of_mem _ (List.mem_append_left _ (List.mem_of_getElem? (i := 0) rfl))) rfl (v := .ref (A 5)) rfl dX6_day_24 ?_
      refine lv_iconst (pc := 27) (v := (3 : Int32)) hx hb dX6_day_27 (by decide) ?_
      refine wiald (pc := 28) X hP 5 (at_Mo_5 G A M N) (by decide) (j := 3) (by decide) dX6_day_28 ?_
      refine lv_bipush (pc := 29) (v := (40 : Int32)) hx hb dX6_day_29 (by decide) ?_
      refine lv_icmp_ne (pc := 31) (tgt := 37) hx hb dX6_day_31 (by decide) (fun h1 => ?_) (fun h1 => ?_)
      · have hf := br_n h1 hf
        refine lv_aload_n (pc := 37) hx hb dX6_day_37 rfl (lv_at hl 0 rfl) ?_
        refine wget (pc := 38) X (fun _ h9 => List.mem_cons_of_mem _ (List.mem_append_right _ h9)) hP 0 (at_Mo_0 G A M N) rfl 4 (by decide) (List.mem_cons_of_mem _ (List.mem_append_left _ (List.mem_of_getElem? (i := 0) rfl))) rfl (v := .ref (A 5)) rfl dX6_day_38 ?_
        refine lv_iconst (pc := 41) (v := (2 : Int32)) hx hb dX6_day_41 (by decide) ?_
        refine lv_dup2_11 (pc := 42) hx hb dX6_day_42 rfl rfl ?_
        refine wiald (pc := 43) X hP 5 (at_Mo_5 G A M N) (by decide) (j := 2) (by decide) dX6_day_43 ?_
        refine lv_iconst (pc := 44) (v := (1 : Int32)) hx hb dX6_day_44 (by decide) ?_
        refine lv_iadd (pc := 45) hx hb dX6_day_45 ?_
        refine wiast (pc := 46) X hP hD hS 5 (at_Mo_5 G A M N) (by decide) (j := 2) (by decide) (sa_Mo_5 G A M N _) dX6_day_46 (fun H locs hP hD hS => ?_)
        have hP : va_P G.1 vwCl (w_Mo G A (cset M 4 2 (((M 4) 2) + (1 : Int32))) N) H := hP
        have hD : va_D B (w_Mo G A (cset M 4 2 (((M 4) 2) + (1 : Int32))) N) := hD
        refine lv_aload_n (pc := 47) hx hb dX6_day_47 rfl (lv_at hl 0 rfl) ?_
        refine lv_iconst (pc := 48) (v := (1 : Int32)) hx hb dX6_day_48 (by decide) ?_
        obtain ⟨M1, hc1, hf⟩ := ob1_some hf
        refine endv X.2.2.2.2 (runV (pc := 49) (As := [.int (1 : Int32)]) (rest := []) X (c_X6_turns G l A H.size (cset M 4 2 (((M 4) 2) + (1 : Int32))) N (1 : Int32) M1 hc1) gX6_day_X6_turns k_X6_turns ⟨rfl, rfl⟩ ⟨Nat.le_of_ble_eq_true rfl, Nat.le_of_ble_eq_true rfl⟩ (EM.all (w_Mo G A (cset M 4 2 (((M 4) 2) + (1 : Int32))) N) (w_Mo G A M1 N)) hP hD hS (ci := 6) rfl rfl (at_Mo_0 G A (cset M 4 2 (((M 4) 2) + (1 : Int32))) N) rfl hl.1 rfl (Nat.le_of_ble_eq_true rfl) ⟨Nat.zero_le _, Nat.zero_le _⟩ dX6_day_49) (EM.all (w_Mo G A (cset M 4 2 (((M 4) 2) + (1 : Int32))) N) (w_Mo G A M1 N)) hP hD hS (fun H locs hP hD hS => ?_)
        refine lv_aload_n (pc := 52) hx hb dX6_day_52 rfl (lv_at hl 0 rfl) ?_
        refine wget (pc := 53) X (fun _ h9 => List.mem_cons_of_mem _ (List.mem_append_right _ h9)) hP 0 (at_Mo_0 G A M1 N) rfl 4 (by decide) (List.mem_cons_of_mem _ (List.mem_append_left _ (List.mem_of_getElem? (i := 0) rfl))) rfl (v := .ref (A 5)) rfl dX6_day_53 ?_
        refine lv_iconst (pc := 56) (v := (2 : Int32)) hx hb dX6_day_56 (by decide) ?_
        refine wiald (pc := 57) X hP 5 (at_Mo_5 G A M1 N) (by decide) (j := 2) (by decide) dX6_day_57 ?_
        cases hf
        exact hret _ _ _ _ dX6_day_58 hP hD hS
      · have hf := br_y h1 hf
        refine lv_bipush (pc := 34) (v := (-2 : Int32)) hx hb dX6_day_34 (by decide) ?_
        cases hf
        exact hret _ _ _ _ dX6_day_36 hP hD hS
    · have hf := br_y h2 hf
      exact b_20 _ H locs ls hf hP hD hS (lv_sub hl [] rfl)
def r_X6_differ : Room := { frames := 3, cells := 0, slots := 0, locals := 75 }
set_option maxHeartbeats 4000000 in
set_option maxRecDepth 100000 in
theorem c_X6_differ (G : GT) (l : Launch) (A : Nat → Nat) (sz : Nat) (M : CS) (N : JS) (x1 : Int32) (x2 : Int32) (x3 : Int32) (r : Int32) (M' : CS) (hf : f_X6_differ M N x1 x2 x3 = some (r, M')) : MTi l yX6_differ wsX6_differ r_X6_differ [.ref (A 0), .int x1, .int x2, .int x3] G (w_Mo G A M N) (w_Mo G A M' N) sz r := by
  refine MTi.of (cc := cX6_differ) (maxL := 4) (by decide +kernel) rfl (Nat.le_of_ble_eq_true rfl) (fun p e s m av below meth cd Q B H locs ls X hret hl hP hD hS => ?_)
  have hx := X.1.1
  have hb := X.1.2.1
  have hl : lv_has ls 4 [(0, .ref (A 0)), (1, .int x1), (2, .int x2), (3, .int x3)] := hl
  have b_36 : ∀ (t0 : Int32) (M : CS) (H : Heap) (locs : List Loc) (ls : Array Slot), f_X6_differ_36 t0 M N = some (r, M') → va_P G.1 vwCl (w_Mo G A M N) H → va_D B (w_Mo G A M N) → va_S B s.heap H locs → lv_has ls 4 [] → W p l e r_X6_differ s m av below meth cd H locs 0 0 Q (F0 m 36 ls [.int t0]) := by
    intro t0 M H locs ls hf hP hD hS hl
    unfold f_X6_differ_36 at hf
    cases hf
    exact hret _ _ _ _ dX6_differ_36 hP hD hS
  have b_35 : ∀ (M : CS) (H : Heap) (locs : List Loc) (ls : Array Slot), f_X6_differ_35 M N = some (r, M') → va_P G.1 vwCl (w_Mo G A M N) H → va_D B (w_Mo G A M N) → va_S B s.heap H locs → lv_has ls 4 [] → W p l e r_X6_differ s m av below meth cd H locs 0 0 Q (F0 m 35 ls []) := by
    intro M H locs ls hf hP hD hS hl
    unfold f_X6_differ_35 at hf
    refine lv_iconst (pc := 35) (v := (-1 : Int32)) hx hb dX6_differ_35 (by decide) ?_
    exact b_36 _ _ H locs ls hf hP hD hS (lv_sub hl [] rfl)
  unfold f_X6_differ at hf
  refine lv_iload_n (pc := 0) hx hb dX6_differ_0 rfl (lv_at hl 1 rfl) ?_
  refine lv_iload_n (pc := 1) hx hb dX6_differ_1 rfl (lv_at hl 2 rfl) ?_
  obtain ⟨r1, hc1, hf⟩ := ob1_some hf
  refine endi X.2.2.2.2 (runS (pc := 2) (As := [.int x1, .int x2]) (rest := []) X (c_X6_areTowns G l  H.size x1 x2 r1 hc1) gX6_differ_X6_areTowns k_X6_areTowns ⟨rfl, rfl⟩ ⟨Nat.le_of_ble_eq_true rfl, Nat.le_of_ble_eq_true rfl⟩ (EM.nil (w_Mo G A M N)) hP hD hS rfl hl.1 rfl (Nat.le_of_ble_eq_true rfl) ⟨Nat.zero_le _, Nat.zero_le _⟩ dX6_differ_2) (EM.nil (w_Mo G A M N)) hP hD hS (fun H locs hP hD hS => ?_)
  refine lv_if_eq (pc := 5) (tgt := 35) hx hb dX6_differ_5 (by decide) (fun h2 => ?_) (fun h2 => ?_)
  · have hf := br_y h2 hf
    exact b_35 _ H locs ls hf hP hD hS (lv_sub hl [] rfl)
  · have hf := br_n h2 hf
    refine lv_iload_n (pc := 8) hx hb dX6_differ_8 rfl (lv_at hl 3 rfl) ?_
    refine lv_i2l (pc := 9) (v := (x3).toInt64) hx hb dX6_differ_9 rfl ?_
    refine lv_iload_n (pc := 10) hx hb dX6_differ_10 rfl (lv_at hl 2 rfl) ?_
    refine lv_i2l (pc := 11) (v := (x2).toInt64) hx hb dX6_differ_11 rfl ?_
    refine lv_ldc2 (pc := 12) (v := 19) hx hb X.1.2.2.2.1 (X.1.2.2.2.2 _ (List.mem_cons_of_mem _ (List.mem_append_left _ (List.mem_append_left _ (List.mem_of_getElem? (i := 0) rfl))))) dX6_differ_12 ?_
    obtain ⟨r2, hc2, hf⟩ := ob1_some hf
    refine endi X.2.2.2.2 (runS (pc := 15) (As := [.long ((x3).toInt64), .long ((x2).toInt64), .long (19 : Int64)]) (rest := []) X (c_X6_in G l  H.size ((x3).toInt64) ((x2).toInt64) (19 : Int64) r2 hc2) gX6_differ_X6_in k_X6_in ⟨rfl, rfl⟩ ⟨Nat.le_of_ble_eq_true rfl, Nat.le_of_ble_eq_true rfl⟩ (EM.nil (w_Mo G A M N)) hP hD hS rfl hl.1 rfl (Nat.le_of_ble_eq_true rfl) ⟨Nat.zero_le _, Nat.zero_le _⟩ dX6_differ_15) (EM.nil (w_Mo G A M N)) hP hD hS (fun H locs hP hD hS => ?_)
    refine lv_if_eq (pc := 18) (tgt := 35) hx hb dX6_differ_18 (by decide) (fun h1 => ?_) (fun h1 => ?_)
    · have hf := br_y h1 hf
      exact b_35 _ H locs ls hf hP hD hS (lv_sub hl [] rfl)
    · have hf := br_n h1 hf
      refine lv_aload_n (pc := 21) hx hb dX6_differ_21 rfl (lv_at hl 0 rfl) ?_
      refine lv_iload_n (pc := 22) hx hb dX6_differ_22 rfl (lv_at hl 1 rfl) ?_
      refine lv_iload_n (pc := 23) hx hb dX6_differ_23 rfl (lv_at hl 2 rfl) ?_
      refine lv_iload_n (pc := 24) hx hb dX6_differ_24 rfl (lv_at hl 3 rfl) ?_
      refine lv_aload_n (pc := 25) hx hb dX6_differ_25 rfl (lv_at hl 0 rfl) ?_
      obtain ⟨r3, hc3, hf⟩ := ob1_some hf
      refine endi X.2.2.2.2 (runV (pc := 26) (As := []) (rest := [.int x3, .int x2, .int x1, .ref (A 0)]) X (c_X6_live G l A H.size M N r3 hc3) gX6_differ_X6_live k_X6_live ⟨rfl, rfl⟩ ⟨Nat.le_of_ble_eq_true rfl, Nat.le_of_ble_eq_true rfl⟩ (EM.all (w_Mo G A M N) (w_Mo G A M N)) hP hD hS (ci := 6) rfl rfl (at_Mo_0 G A M N) rfl hl.1 rfl (Nat.le_of_ble_eq_true rfl) ⟨Nat.zero_le _, Nat.zero_le _⟩ dX6_differ_26) (EM.all (w_Mo G A M N) (w_Mo G A M N)) hP hD hS (fun H locs hP hD hS => ?_)
      obtain ⟨r4, M4, hc4, hf⟩ := ob2_some hf
      refine endi X.2.2.2.2 (runV (pc := 29) (As := [.int x1, .int x2, .int x3, .int r3]) (rest := []) X (c_X6_differing G l A H.size M N x1 x2 x3 r3 r4 M4 hc4) gX6_differ_X6_differing k_X6_differing ⟨rfl, rfl⟩ ⟨Nat.le_of_ble_eq_true rfl, Nat.le_of_ble_eq_true rfl⟩ (EM.all (w_Mo G A M N) (w_Mo G A M4 N)) hP hD hS (ci := 6) rfl rfl (at_Mo_0 G A M N) rfl hl.1 rfl (Nat.le_of_ble_eq_true rfl) ⟨Nat.zero_le _, Nat.zero_le _⟩ dX6_differ_29) (EM.all (w_Mo G A M N) (w_Mo G A M4 N)) hP hD hS (fun H locs hP hD hS => ?_)
      refine lv_goto (pc := 32) (tgt := 36) hx hb dX6_differ_32 (by decide) ?_
      exact b_36 _ _ H locs ls hf hP hD hS (lv_sub hl [] rfl)
def r_X6_layNow : Room := { frames := 2, cells := 0, slots := 0, locals := 49 }
set_option maxHeartbeats 4000000 in
set_option maxRecDepth 100000 in
theorem c_X6_layNow (G : GT) (l : Launch) (A : Nat → Nat) (sz : Nat) (M : CS) (N : JS) (x1 : Int32) (M' : CS) (hf : f_X6_layNow M N x1 = some M') : MTv l yX6_layNow wsX6_layNow r_X6_layNow [.ref (A 0), .int x1] G (w_Mo G A M N) (w_Mo G A M' N) sz := by
  refine MTv.of (cc := cX6_layNow) (maxL := 2) (by decide +kernel) rfl (Nat.le_of_ble_eq_true rfl) (fun p e s m av below meth cd Q B H locs ls X hret hl hP hD hS => ?_)
  have hx := X.1.1
  have hb := X.1.2.1
  have hl : lv_has ls 2 [(0, .ref (A 0)), (1, .int x1)] := hl
  unfold f_X6_layNow at hf
  refine lv_aload_n (pc := 0) hx hb dX6_layNow_0 rfl (lv_at hl 0 rfl) ?_
  refine lv_iload_n (pc := 1) hx hb dX6_layNow_1 rfl (lv_at hl 1 rfl) ?_
  refine lv_aload_n (pc := 2) hx hb dX6_layNow_2 rfl (lv_at hl 0 rfl) ?_
  obtain ⟨r1, hc1, hf⟩ := ob1_some hf
  refine endi X.2.2.2.2 (runV (pc := 3) (As := []) (rest := [.int x1, .ref (A 0)]) X (c_X6_live G l A H.size M N r1 hc1) gX6_layNow_X6_live k_X6_live ⟨rfl, rfl⟩ ⟨Nat.le_of_ble_eq_true rfl, Nat.le_of_ble_eq_true rfl⟩ (EM.all (w_Mo G A M N) (w_Mo G A M N)) hP hD hS (ci := 6) rfl rfl (at_Mo_0 G A M N) rfl hl.1 rfl (Nat.le_of_ble_eq_true rfl) ⟨Nat.zero_le _, Nat.zero_le _⟩ dX6_layNow_3) (EM.all (w_Mo G A M N) (w_Mo G A M N)) hP hD hS (fun H locs hP hD hS => ?_)
  refine lv_iconst (pc := 6) (v := (-1 : Int32)) hx hb dX6_layNow_6 (by decide) ?_
  obtain ⟨M2, hc2, hf⟩ := ob1_some hf
  refine endv X.2.2.2.2 (runV (pc := 7) (As := [.int x1, .int r1, .int (-1 : Int32)]) (rest := []) X (c_X6_lays G l A H.size M N x1 r1 (-1 : Int32) M2 hc2) gX6_layNow_X6_lays k_X6_lays ⟨rfl, rfl⟩ ⟨Nat.le_of_ble_eq_true rfl, Nat.le_of_ble_eq_true rfl⟩ (EM.all (w_Mo G A M N) (w_Mo G A M2 N)) hP hD hS (ci := 6) rfl rfl (at_Mo_0 G A M N) rfl hl.1 rfl (Nat.le_of_ble_eq_true rfl) ⟨Nat.zero_le _, Nat.zero_le _⟩ dX6_layNow_7) (EM.all (w_Mo G A M N) (w_Mo G A M2 N)) hP hD hS (fun H locs hP hD hS => ?_)
  cases hf
  exact hret _ _ _ _ dX6_layNow_10 hP hD hS
def r_X6_doing : Room := { frames := 3, cells := 0, slots := 0, locals := 70 }
set_option maxHeartbeats 4000000 in
set_option maxRecDepth 100000 in
theorem c_X6_doing (G : GT) (l : Launch) (A : Nat → Nat) (sz : Nat) (M : CS) (N : JS) (x1 : Int32) (x2 : Int32) (x3 : Int32) (r : Int32) (M' : CS) (hf : f_X6_doing M N x1 x2 x3 = some (r, M')) : MTi l yX6_doing wsX6_doing r_X6_doing [.ref (A 0), .int x1, .int x2, .int x3] G (w_Mo G A M N) (w_Mo G A M' N) sz r := by
  refine MTi.of (cc := cX6_doing) (maxL := 4) (by decide +kernel) rfl (Nat.le_of_ble_eq_true rfl) (fun p e s m av below meth cd Q B H locs ls X hret hl hP hD hS => ?_)
  have hx := X.1.1
  have hb := X.1.2.1
  have hl : lv_has ls 4 [(0, .ref (A 0)), (1, .int x1), (2, .int x2), (3, .int x3)] := hl
  unfold f_X6_doing at hf
  refine lv_aload_n (pc := 0) hx hb dX6_doing_0 rfl (lv_at hl 0 rfl) ?_
  refine lv_iload_n (pc := 1) hx hb dX6_doing_1 rfl (lv_at hl 1 rfl) ?_
  obtain ⟨M1, hc1, hf⟩ := ob1_some hf
  refine endv X.2.2.2.2 (runV (pc := 2) (As := [.int x1]) (rest := []) X (c_X6_layNow G l A H.size M N x1 M1 hc1) gX6_doing_X6_layNow k_X6_layNow ⟨rfl, rfl⟩ ⟨Nat.le_of_ble_eq_true rfl, Nat.le_of_ble_eq_true rfl⟩ (EM.all (w_Mo G A M N) (w_Mo G A M1 N)) hP hD hS (ci := 6) rfl rfl (at_Mo_0 G A M N) rfl hl.1 rfl (Nat.le_of_ble_eq_true rfl) ⟨Nat.zero_le _, Nat.zero_le _⟩ dX6_doing_2) (EM.all (w_Mo G A M N) (w_Mo G A M1 N)) hP hD hS (fun H locs hP hD hS => ?_)
  refine lv_aload_n (pc := 5) hx hb dX6_doing_5 rfl (lv_at hl 0 rfl) ?_
  refine wget (pc := 6) X (fun _ h9 => List.mem_cons_of_mem _ (List.mem_append_right _ h9)) hP 0 (at_Mo_0 G A M1 N) rfl 15 (by decide) (List.mem_cons_of_mem _ (List.mem_append_left _ (List.mem_append_left _ (List.mem_of_getElem? (i := 0) rfl)))) rfl (v := .ref (A 11)) rfl dX6_doing_6 ?_
  refine lv_bipush (pc := 9) (v := (20 : Int32)) hx hb dX6_doing_9 (by decide) ?_
  refine lv_iload_n (pc := 11) hx hb dX6_doing_11 rfl (lv_at hl 2 rfl) ?_
  refine lv_imul (pc := 12) hx hb dX6_doing_12 ?_
  refine lv_iload_n (pc := 13) hx hb dX6_doing_13 rfl (lv_at hl 3 rfl) ?_
  refine lv_iadd (pc := 14) hx hb dX6_doing_14 ?_
  obtain ⟨hi, hf⟩ := ck_some hf
  refine wiald (pc := 15) X hP 11 (at_Mo_11 G A M1 N) hi rfl dX6_doing_15 ?_
  cases hf
  exact hret _ _ _ _ dX6_doing_16 hP hD hS
def r_X6_told : Room := { frames := 4, cells := 0, slots := 0, locals := 93 }
set_option maxHeartbeats 4000000 in
set_option maxRecDepth 100000 in
theorem c_X6_told (G : GT) (l : Launch) (A : Nat → Nat) (sz : Nat) (M : CS) (N : JS) (x1 : Int32) (x2 : Int32) (r : Int32) (M' : CS) (hf : f_X6_told M N x1 x2 = some (r, M')) : MTi l yX6_told wsX6_told r_X6_told [.ref (A 0), .int x1, .int x2] G (w_Mo G A M N) (w_Mo G A M' N) sz r := by
  refine MTi.of (cc := cX6_told) (maxL := 3) (by decide +kernel) rfl (Nat.le_of_ble_eq_true rfl) (fun p e s m av below meth cd Q B H locs ls X hret hl hP hD hS => ?_)
  have hx := X.1.1
  have hb := X.1.2.1
  have hl : lv_has ls 3 [(0, .ref (A 0)), (1, .int x1), (2, .int x2)] := hl
  have b_41 : ∀ (t0 : Int32) (M : CS) (H : Heap) (locs : List Loc) (ls : Array Slot), f_X6_told_41 t0 M N = some (r, M') → va_P G.1 vwCl (w_Mo G A M N) H → va_D B (w_Mo G A M N) → va_S B s.heap H locs → lv_has ls 3 [] → W p l e r_X6_told s m av below meth cd H locs 0 0 Q (F0 m 41 ls [.int t0]) := by
    intro t0 M H locs ls hf hP hD hS hl
    unfold f_X6_told_41 at hf
    cases hf
    exact hret _ _ _ _ dX6_told_41 hP hD hS
  have b_32 : ∀ (t1 : Int32) (t2 : Int32) (M : CS) (H : Heap) (locs : List Loc) (ls : Array Slot), f_X6_told_32 t1 t2 M N = some (r, M') → va_P G.1 vwCl (w_Mo G A M N) H → va_D B (w_Mo G A M N) → va_S B s.heap H locs → lv_has ls 3 [(0, .ref (A 0))] → W p l e r_X6_told s m av below meth cd H locs 0 0 Q (F0 m 32 ls [.int t2, .int t1, .ref (A 0)]) := by
    intro t1 t2 M H locs ls hf hP hD hS hl
    unfold f_X6_told_32 at hf
    refine lv_aload_n (pc := 32) hx hb dX6_told_32 rfl (lv_at hl 0 rfl) ?_
    refine wget (pc := 33) X (fun _ h9 => List.mem_cons_of_mem _ (List.mem_append_right _ h9)) hP 0 (at_Mo_0 G A M N) rfl 4 (by decide) (List.mem_cons_of_mem _ (List.mem_append_left _ (List.mem_append_left _ (List.mem_of_getElem? (i := 0) rfl)))) rfl (v := .ref (A 5)) rfl dX6_told_33 ?_
    refine lv_iconst (pc := 36) (v := (2 : Int32)) hx hb dX6_told_36 (by decide) ?_
    refine wiald (pc := 37) X hP 5 (at_Mo_5 G A M N) (by decide) (j := 2) (by decide) dX6_told_37 ?_
    obtain ⟨r1, M1, hc1, hf⟩ := ob2_some hf
    refine endi X.2.2.2.2 (runV (pc := 38) (As := [.int t1, .int t2, .int ((M 4) 2)]) (rest := []) X (c_X6_doing G l A H.size M N t1 t2 ((M 4) 2) r1 M1 hc1) gX6_told_X6_doing k_X6_doing ⟨rfl, rfl⟩ ⟨Nat.le_of_ble_eq_true rfl, Nat.le_of_ble_eq_true rfl⟩ (EM.all (w_Mo G A M N) (w_Mo G A M1 N)) hP hD hS (ci := 6) rfl rfl (at_Mo_0 G A M N) rfl hl.1 rfl (Nat.le_of_ble_eq_true rfl) ⟨Nat.zero_le _, Nat.zero_le _⟩ dX6_told_38) (EM.all (w_Mo G A M N) (w_Mo G A M1 N)) hP hD hS (fun H locs hP hD hS => ?_)
    exact b_41 _ _ H locs ls hf hP hD hS (lv_sub hl [] rfl)
  unfold f_X6_told at hf
  refine lv_iload_n (pc := 0) hx hb dX6_told_0 rfl (lv_at hl 2 rfl) ?_
  refine lv_iconst (pc := 1) (v := (3 : Int32)) hx hb dX6_told_1 (by decide) ?_
  refine lv_icmp_ge (pc := 2) (tgt := 20) hx hb dX6_told_2 (by decide) (fun h2 => ?_) (fun h2 => ?_)
  · have hf := br_y h2 hf
    refine lv_aload_n (pc := 20) hx hb dX6_told_20 rfl (lv_at hl 0 rfl) ?_
    refine lv_iload_n (pc := 21) hx hb dX6_told_21 rfl (lv_at hl 1 rfl) ?_
    refine lv_iload_n (pc := 22) hx hb dX6_told_22 rfl (lv_at hl 2 rfl) ?_
    refine lv_iconst (pc := 23) (v := (3 : Int32)) hx hb dX6_told_23 (by decide) ?_
    refine lv_icmp_ne (pc := 24) (tgt := 31) hx hb dX6_told_24 (by decide) (fun h1 => ?_) (fun h1 => ?_)
    · have hf := br_n h1 hf
      refine lv_iconst (pc := 31) (v := (4 : Int32)) hx hb dX6_told_31 (by decide) ?_
      exact b_32 _ _ _ H locs ls hf hP hD hS (lv_sub hl [0] rfl)
    · have hf := br_y h1 hf
      refine lv_iconst (pc := 27) (v := (0 : Int32)) hx hb dX6_told_27 (by decide) ?_
      refine lv_goto (pc := 28) (tgt := 32) hx hb dX6_told_28 (by decide) ?_
      exact b_32 _ _ _ H locs ls hf hP hD hS (lv_sub hl [0] rfl)
  · have hf := br_n h2 hf
    refine lv_aload_n (pc := 5) hx hb dX6_told_5 rfl (lv_at hl 0 rfl) ?_
    refine wget (pc := 6) X (fun _ h9 => List.mem_cons_of_mem _ (List.mem_append_right _ h9)) hP 0 (at_Mo_0 G A M N) rfl 4 (by decide) (List.mem_cons_of_mem _ (List.mem_append_left _ (List.mem_append_left _ (List.mem_of_getElem? (i := 0) rfl)))) rfl (v := .ref (A 5)) rfl dX6_told_6 ?_
    refine lv_iconst (pc := 9) (v := (4 : Int32)) hx hb dX6_told_9 (by decide) ?_
    refine lv_iconst (pc := 10) (v := (5 : Int32)) hx hb dX6_told_10 (by decide) ?_
    refine lv_iload_n (pc := 11) hx hb dX6_told_11 rfl (lv_at hl 2 rfl) ?_
    refine lv_imul (pc := 12) hx hb dX6_told_12 ?_
    refine lv_iadd (pc := 13) hx hb dX6_told_13 ?_
    refine lv_iload_n (pc := 14) hx hb dX6_told_14 rfl (lv_at hl 1 rfl) ?_
    refine lv_iadd (pc := 15) hx hb dX6_told_15 ?_
    obtain ⟨hi, hf⟩ := ck_some hf
    refine wiald (pc := 16) X hP 5 (at_Mo_5 G A M N) hi rfl dX6_told_16 ?_
    refine lv_goto (pc := 17) (tgt := 41) hx hb dX6_told_17 (by decide) ?_
    exact b_41 _ _ H locs ls hf hP hD hS (lv_sub hl [] rfl)
def r_X6_digest : Room := { frames := 5, cells := 0, slots := 0, locals := 115 }
set_option maxHeartbeats 4000000 in
set_option maxRecDepth 100000 in
theorem c_X6_digest (G : GT) (l : Launch) (A : Nat → Nat) (sz : Nat) (M : CS) (N : JS) (r : Int64) (M' : CS) (hf : f_X6_digest M N = some (r, M')) : MTl l yX6_digest wsX6_digest r_X6_digest [.ref (A 0)] G (w_Mo G A M N) (w_Mo G A M' N) sz r := by
  refine MTl.of (cc := cX6_digest) (maxL := 5) (by decide +kernel) rfl (Nat.le_of_ble_eq_true rfl) (fun p e s m av below meth cd Q B H locs ls X hret hl hP hD hS => ?_)
  have hx := X.1.1
  have hb := X.1.2.1
  have hl : lv_has ls 5 [(0, .ref (A 0))] := hl
  have l_250 : ∀ (n250 : Nat), ∀ (x1 : Int64) (x3 : Int32) (M : CS) (H : Heap) (locs : List Loc) (ls : Array Slot), f_X6_digest_250 n250 x1 x3 M N = some (r, M') → va_P G.1 vwCl (w_Mo G A M N) H → va_D B (w_Mo G A M N) → va_S B s.heap H locs → lv_has ls 5 [(0, .ref (A 0)), (1, .long x1), (3, .int x3)] → W p l e r_X6_digest s m av below meth cd H locs 0 0 Q (F0 m 250 ls []) := by
    intro n250
    induction n250 with
    | zero =>
      intro x1 x3 M H locs ls hf hP hD hS hl
      rw [f_X6_digest_250] at hf
      cases hf
    | succ n250 ih250 =>
      have l_272 : ∀ (n272 : Nat), ∀ (x1 : Int64) (x3 : Int32) (x4 : Int32) (M : CS) (H : Heap) (locs : List Loc) (ls : Array Slot), f_X6_digest_272 (f_X6_digest_250 n250) n272 x1 x3 x4 M N = some (r, M') → va_P G.1 vwCl (w_Mo G A M N) H → va_D B (w_Mo G A M N) → va_S B s.heap H locs → lv_has ls 5 [(0, .ref (A 0)), (1, .long x1), (3, .int x3), (4, .int x4)] → W p l e r_X6_digest s m av below meth cd H locs 0 0 Q (F0 m 272 ls []) := by
        intro n272
        induction n272 with
        | zero =>
          intro x1 x3 x4 M H locs ls hf hP hD hS hl
          rw [f_X6_digest_272] at hf
          cases hf
        | succ n272 ih272 =>
          intro x1 x3 x4 M H locs ls hf hP hD hS hl
          rw [f_X6_digest_272] at hf
          refine lv_iload (pc := 272) hx hb dX6_digest_272 (lv_at hl 3 rfl) ?_
          refine lv_aload_n (pc := 274) hx hb dX6_digest_274 rfl (lv_at hl 0 rfl) ?_
          refine wget (pc := 275) X (fun _ h9 => List.mem_cons_of_mem _ (List.mem_append_right _ h9)) hP 0 (at_Mo_0 G A M N) rfl 2 (by decide) (List.mem_cons_of_mem _ (List.mem_append_left _ (List.mem_append_left _ (List.mem_of_getElem? (i := 7) rfl)))) rfl (v := .ref (A 3)) rfl dX6_digest_275 ?_
          refine lv_iload_n (pc := 278) hx hb dX6_digest_278 rfl (lv_at hl 2 rfl) ?_
          obtain ⟨hi, hf⟩ := ck_some hf
          refine wiald (pc := 279) X hP 3 (at_Mo_3 G A M N) hi rfl dX6_digest_279 ?_
          refine lv_icmp_ge (pc := 280) (tgt := 309) hx hb dX6_digest_280 (by decide) (fun h1 => ?_) (fun h1 => ?_)
          · have hf := br_y h1 hf
            refine lv_iinc (pc := 309) (v := (x3 + (1 : Int32))) (lv' := [(3, .int (x3 + (1 : Int32))), (0, .ref (A 0)), (1, .long x1), (4, .int x4)]) hx hb dX6_digest_309 hl (k := 2) rfl rfl (by decide) rfl (fun ls hl => ?_)
            refine lv_goto (pc := 312) (tgt := 250) hx hb dX6_digest_312 (by decide) ?_
            exact ih250 _ _ _ H locs ls hf hP hD hS (lv_sub hl [1, 2, 0] rfl)
          · have hf := br_n h1 hf
            refine lv_ldc2 (pc := 283) (v := 31) hx hb X.1.2.2.2.1 (X.1.2.2.2.2 _ (List.mem_cons_of_mem _ (List.mem_append_left _ (List.mem_append_left _ (List.mem_of_getElem? (i := 1) rfl))))) dX6_digest_283 ?_
            refine lv_lload_n (pc := 286) hx hb dX6_digest_286 rfl (lv_at hl 1 rfl) ?_
            refine lv_lmul (pc := 287) hx hb dX6_digest_287 ?_
            refine lv_aload_n (pc := 288) hx hb dX6_digest_288 rfl (lv_at hl 0 rfl) ?_
            refine wget (pc := 289) X (fun _ h9 => List.mem_cons_of_mem _ (List.mem_append_right _ h9)) hP 0 (at_Mo_0 G A M N) rfl 3 (by decide) (List.mem_cons_of_mem _ (List.mem_append_left _ (List.mem_append_left _ (List.mem_of_getElem? (i := 8) rfl)))) rfl (v := .ref (A 4)) rfl dX6_digest_289 ?_
            refine lv_bipush (pc := 292) (v := (60 : Int32)) hx hb dX6_digest_292 (by decide) ?_
            refine lv_iload_n (pc := 294) hx hb dX6_digest_294 rfl (lv_at hl 2 rfl) ?_
            refine lv_imul (pc := 295) hx hb dX6_digest_295 ?_
            refine lv_iload (pc := 296) hx hb dX6_digest_296 (lv_at hl 3 rfl) ?_
            refine lv_iadd (pc := 298) hx hb dX6_digest_298 ?_
            obtain ⟨hi, hf⟩ := ck_some hf
            refine wiald (pc := 299) X hP 4 (at_Mo_4 G A M N) hi rfl dX6_digest_299 ?_
            refine lv_i2l (pc := 300) (v := (((M 3) (((60 : Int32) * x3) + x4).toNatClampNeg)).toInt64) hx hb dX6_digest_300 rfl ?_
            refine lv_ladd (pc := 301) hx hb dX6_digest_301 ?_
            refine lv_lstore_n (pc := 302) (lv' := [(1, .long (((31 : Int64) * x1) + ((((M 3) (((60 : Int32) * x3) + x4).toNatClampNeg)).toInt64))), (0, .ref (A 0)), (3, .int x3), (4, .int x4)]) hx hb dX6_digest_302 rfl hl (by decide) rfl (fun ls hl => ?_)
            refine lv_iinc (pc := 303) (v := (x4 + (1 : Int32))) (lv' := [(4, .int (x4 + (1 : Int32))), (1, .long (((31 : Int64) * x1) + ((((M 3) (((60 : Int32) * x3) + x4).toNatClampNeg)).toInt64))), (0, .ref (A 0)), (3, .int x3)]) hx hb dX6_digest_303 hl (k := 3) rfl rfl (by decide) rfl (fun ls hl => ?_)
            refine lv_goto (pc := 306) (tgt := 272) hx hb dX6_digest_306 (by decide) ?_
            exact ih272 _ _ _ _ H locs ls hf hP hD hS (lv_sub hl [2, 1, 3, 0] rfl)
      intro x1 x3 M H locs ls hf hP hD hS hl
      rw [f_X6_digest_250] at hf
      refine lv_iload_n (pc := 250) hx hb dX6_digest_250 rfl (lv_at hl 2 rfl) ?_
      refine lv_iconst (pc := 251) (v := (4 : Int32)) hx hb dX6_digest_251 (by decide) ?_
      refine lv_icmp_ge (pc := 252) (tgt := 315) hx hb dX6_digest_252 (by decide) (fun h2 => ?_) (fun h2 => ?_)
      · have hf := br_y h2 hf
        refine lv_lload_n (pc := 315) hx hb dX6_digest_315 rfl (lv_at hl 1 rfl) ?_
        cases hf
        exact hret _ _ _ _ dX6_digest_316 hP hD hS
      · have hf := br_n h2 hf
        refine lv_ldc2 (pc := 255) (v := 31) hx hb X.1.2.2.2.1 (X.1.2.2.2.2 _ (List.mem_cons_of_mem _ (List.mem_append_left _ (List.mem_append_left _ (List.mem_of_getElem? (i := 1) rfl))))) dX6_digest_255 ?_
        refine lv_lload_n (pc := 258) hx hb dX6_digest_258 rfl (lv_at hl 1 rfl) ?_
        refine lv_lmul (pc := 259) hx hb dX6_digest_259 ?_
        refine lv_aload_n (pc := 260) hx hb dX6_digest_260 rfl (lv_at hl 0 rfl) ?_
        refine wget (pc := 261) X (fun _ h9 => List.mem_cons_of_mem _ (List.mem_append_right _ h9)) hP 0 (at_Mo_0 G A M N) rfl 2 (by decide) (List.mem_cons_of_mem _ (List.mem_append_left _ (List.mem_append_left _ (List.mem_of_getElem? (i := 7) rfl)))) rfl (v := .ref (A 3)) rfl dX6_digest_261 ?_
        refine lv_iload_n (pc := 264) hx hb dX6_digest_264 rfl (lv_at hl 2 rfl) ?_
        obtain ⟨hi, hf⟩ := ck_some hf
        refine wiald (pc := 265) X hP 3 (at_Mo_3 G A M N) hi rfl dX6_digest_265 ?_
        refine lv_i2l (pc := 266) (v := (((M 2) x3.toNatClampNeg)).toInt64) hx hb dX6_digest_266 rfl ?_
        refine lv_ladd (pc := 267) hx hb dX6_digest_267 ?_
        refine lv_lstore_n (pc := 268) (lv' := [(1, .long (((31 : Int64) * x1) + ((((M 2) x3.toNatClampNeg)).toInt64))), (0, .ref (A 0)), (3, .int x3)]) hx hb dX6_digest_268 rfl hl (by decide) rfl (fun ls hl => ?_)
        refine lv_iconst (pc := 269) (v := (0 : Int32)) hx hb dX6_digest_269 (by decide) ?_
        refine lv_istore (pc := 270) (lv' := [(4, .int (0 : Int32)), (1, .long (((31 : Int64) * x1) + ((((M 2) x3.toNatClampNeg)).toInt64))), (0, .ref (A 0)), (3, .int x3)]) hx hb dX6_digest_270 hl (by decide) rfl (fun ls hl => ?_)
        exact l_272 FU _ _ _ _ H locs ls hf hP hD hS (lv_sub hl [2, 1, 3, 0] rfl)
  have l_182 : ∀ (n182 : Nat), ∀ (x1 : Int64) (x3 : Int32) (M : CS) (H : Heap) (locs : List Loc) (ls : Array Slot), f_X6_digest_182 n182 x1 x3 M N = some (r, M') → va_P G.1 vwCl (w_Mo G A M N) H → va_D B (w_Mo G A M N) → va_S B s.heap H locs → lv_has ls 5 [(0, .ref (A 0)), (1, .long x1), (3, .int x3)] → W p l e r_X6_digest s m av below meth cd H locs 0 0 Q (F0 m 182 ls []) := by
    intro n182
    induction n182 with
    | zero =>
      intro x1 x3 M H locs ls hf hP hD hS hl
      rw [f_X6_digest_182] at hf
      cases hf
    | succ n182 ih182 =>
      have l_205 : ∀ (n205 : Nat), ∀ (x1 : Int64) (x3 : Int32) (x4 : Int32) (M : CS) (H : Heap) (locs : List Loc) (ls : Array Slot), f_X6_digest_205 (f_X6_digest_182 n182) n205 x1 x3 x4 M N = some (r, M') → va_P G.1 vwCl (w_Mo G A M N) H → va_D B (w_Mo G A M N) → va_S B s.heap H locs → lv_has ls 5 [(0, .ref (A 0)), (1, .long x1), (3, .int x3), (4, .int x4)] → W p l e r_X6_digest s m av below meth cd H locs 0 0 Q (F0 m 205 ls []) := by
        intro n205
        induction n205 with
        | zero =>
          intro x1 x3 x4 M H locs ls hf hP hD hS hl
          rw [f_X6_digest_205] at hf
          cases hf
        | succ n205 ih205 =>
          intro x1 x3 x4 M H locs ls hf hP hD hS hl
          rw [f_X6_digest_205] at hf
          refine lv_iload (pc := 205) hx hb dX6_digest_205 (lv_at hl 3 rfl) ?_
          refine lv_aload_n (pc := 207) hx hb dX6_digest_207 rfl (lv_at hl 0 rfl) ?_
          refine wget (pc := 208) X (fun _ h9 => List.mem_cons_of_mem _ (List.mem_append_right _ h9)) hP 0 (at_Mo_0 G A M N) rfl 0 (by decide) (List.mem_cons_of_mem _ (List.mem_append_left _ (List.mem_append_left _ (List.mem_of_getElem? (i := 5) rfl)))) rfl (v := .ref (A 1)) rfl dX6_digest_208 ?_
          refine lv_iload_n (pc := 211) hx hb dX6_digest_211 rfl (lv_at hl 2 rfl) ?_
          obtain ⟨hi, hf⟩ := ck_some hf
          refine wiald (pc := 212) X hP 1 (at_Mo_1 G A M N) hi rfl dX6_digest_212 ?_
          refine lv_icmp_ge (pc := 213) (tgt := 242) hx hb dX6_digest_213 (by decide) (fun h3 => ?_) (fun h3 => ?_)
          · have hf := br_y h3 hf
            refine lv_iinc (pc := 242) (v := (x3 + (1 : Int32))) (lv' := [(3, .int (x3 + (1 : Int32))), (0, .ref (A 0)), (1, .long x1), (4, .int x4)]) hx hb dX6_digest_242 hl (k := 2) rfl rfl (by decide) rfl (fun ls hl => ?_)
            refine lv_goto (pc := 245) (tgt := 182) hx hb dX6_digest_245 (by decide) ?_
            exact ih182 _ _ _ H locs ls hf hP hD hS (lv_sub hl [1, 2, 0] rfl)
          · have hf := br_n h3 hf
            refine lv_ldc2 (pc := 216) (v := 31) hx hb X.1.2.2.2.1 (X.1.2.2.2.2 _ (List.mem_cons_of_mem _ (List.mem_append_left _ (List.mem_append_left _ (List.mem_of_getElem? (i := 1) rfl))))) dX6_digest_216 ?_
            refine lv_lload_n (pc := 219) hx hb dX6_digest_219 rfl (lv_at hl 1 rfl) ?_
            refine lv_lmul (pc := 220) hx hb dX6_digest_220 ?_
            refine lv_aload_n (pc := 221) hx hb dX6_digest_221 rfl (lv_at hl 0 rfl) ?_
            refine wget (pc := 222) X (fun _ h9 => List.mem_cons_of_mem _ (List.mem_append_right _ h9)) hP 0 (at_Mo_0 G A M N) rfl 1 (by decide) (List.mem_cons_of_mem _ (List.mem_append_left _ (List.mem_append_left _ (List.mem_of_getElem? (i := 6) rfl)))) rfl (v := .ref (A 2)) rfl dX6_digest_222 ?_
            refine lv_bipush (pc := 225) (v := (40 : Int32)) hx hb dX6_digest_225 (by decide) ?_
            refine lv_iload_n (pc := 227) hx hb dX6_digest_227 rfl (lv_at hl 2 rfl) ?_
            refine lv_imul (pc := 228) hx hb dX6_digest_228 ?_
            refine lv_iload (pc := 229) hx hb dX6_digest_229 (lv_at hl 3 rfl) ?_
            refine lv_iadd (pc := 231) hx hb dX6_digest_231 ?_
            obtain ⟨hi, hf⟩ := ck_some hf
            refine wiald (pc := 232) X hP 2 (at_Mo_2 G A M N) hi rfl dX6_digest_232 ?_
            refine lv_i2l (pc := 233) (v := (((M 1) (((40 : Int32) * x3) + x4).toNatClampNeg)).toInt64) hx hb dX6_digest_233 rfl ?_
            refine lv_ladd (pc := 234) hx hb dX6_digest_234 ?_
            refine lv_lstore_n (pc := 235) (lv' := [(1, .long (((31 : Int64) * x1) + ((((M 1) (((40 : Int32) * x3) + x4).toNatClampNeg)).toInt64))), (0, .ref (A 0)), (3, .int x3), (4, .int x4)]) hx hb dX6_digest_235 rfl hl (by decide) rfl (fun ls hl => ?_)
            refine lv_iinc (pc := 236) (v := (x4 + (1 : Int32))) (lv' := [(4, .int (x4 + (1 : Int32))), (1, .long (((31 : Int64) * x1) + ((((M 1) (((40 : Int32) * x3) + x4).toNatClampNeg)).toInt64))), (0, .ref (A 0)), (3, .int x3)]) hx hb dX6_digest_236 hl (k := 3) rfl rfl (by decide) rfl (fun ls hl => ?_)
            refine lv_goto (pc := 239) (tgt := 205) hx hb dX6_digest_239 (by decide) ?_
            exact ih205 _ _ _ _ H locs ls hf hP hD hS (lv_sub hl [2, 1, 3, 0] rfl)
      intro x1 x3 M H locs ls hf hP hD hS hl
      rw [f_X6_digest_182] at hf
      refine lv_iload_n (pc := 182) hx hb dX6_digest_182 rfl (lv_at hl 2 rfl) ?_
      refine lv_bipush (pc := 183) (v := (6 : Int32)) hx hb dX6_digest_183 (by decide) ?_
      refine lv_icmp_ge (pc := 185) (tgt := 248) hx hb dX6_digest_185 (by decide) (fun h4 => ?_) (fun h4 => ?_)
      · have hf := br_y h4 hf
        refine lv_iconst (pc := 248) (v := (0 : Int32)) hx hb dX6_digest_248 (by decide) ?_
        refine lv_istore_n (pc := 249) (lv' := [(3, .int (0 : Int32)), (0, .ref (A 0)), (1, .long x1)]) hx hb dX6_digest_249 rfl hl (by decide) rfl (fun ls hl => ?_)
        exact l_250 FU _ _ _ H locs ls hf hP hD hS (lv_sub hl [1, 2, 0] rfl)
      · have hf := br_n h4 hf
        refine lv_ldc2 (pc := 188) (v := 31) hx hb X.1.2.2.2.1 (X.1.2.2.2.2 _ (List.mem_cons_of_mem _ (List.mem_append_left _ (List.mem_append_left _ (List.mem_of_getElem? (i := 1) rfl))))) dX6_digest_188 ?_
        refine lv_lload_n (pc := 191) hx hb dX6_digest_191 rfl (lv_at hl 1 rfl) ?_
        refine lv_lmul (pc := 192) hx hb dX6_digest_192 ?_
        refine lv_aload_n (pc := 193) hx hb dX6_digest_193 rfl (lv_at hl 0 rfl) ?_
        refine wget (pc := 194) X (fun _ h9 => List.mem_cons_of_mem _ (List.mem_append_right _ h9)) hP 0 (at_Mo_0 G A M N) rfl 0 (by decide) (List.mem_cons_of_mem _ (List.mem_append_left _ (List.mem_append_left _ (List.mem_of_getElem? (i := 5) rfl)))) rfl (v := .ref (A 1)) rfl dX6_digest_194 ?_
        refine lv_iload_n (pc := 197) hx hb dX6_digest_197 rfl (lv_at hl 2 rfl) ?_
        obtain ⟨hi, hf⟩ := ck_some hf
        refine wiald (pc := 198) X hP 1 (at_Mo_1 G A M N) hi rfl dX6_digest_198 ?_
        refine lv_i2l (pc := 199) (v := (((M 0) x3.toNatClampNeg)).toInt64) hx hb dX6_digest_199 rfl ?_
        refine lv_ladd (pc := 200) hx hb dX6_digest_200 ?_
        refine lv_lstore_n (pc := 201) (lv' := [(1, .long (((31 : Int64) * x1) + ((((M 0) x3.toNatClampNeg)).toInt64))), (0, .ref (A 0)), (3, .int x3)]) hx hb dX6_digest_201 rfl hl (by decide) rfl (fun ls hl => ?_)
        refine lv_iconst (pc := 202) (v := (0 : Int32)) hx hb dX6_digest_202 (by decide) ?_
        refine lv_istore (pc := 203) (lv' := [(4, .int (0 : Int32)), (1, .long (((31 : Int64) * x1) + ((((M 0) x3.toNatClampNeg)).toInt64))), (0, .ref (A 0)), (3, .int x3)]) hx hb dX6_digest_203 hl (by decide) rfl (fun ls hl => ?_)
        exact l_205 FU _ _ _ _ H locs ls hf hP hD hS (lv_sub hl [2, 1, 3, 0] rfl)
  have l_137 : ∀ (n137 : Nat), ∀ (x1 : Int64) (x3 : Int32) (M : CS) (H : Heap) (locs : List Loc) (ls : Array Slot), f_X6_digest_137 n137 x1 x3 M N = some (r, M') → va_P G.1 vwCl (w_Mo G A M N) H → va_D B (w_Mo G A M N) → va_S B s.heap H locs → lv_has ls 5 [(0, .ref (A 0)), (1, .long x1), (3, .int x3)] → W p l e r_X6_digest s m av below meth cd H locs 0 0 Q (F0 m 137 ls []) := by
    intro n137
    induction n137 with
    | zero =>
      intro x1 x3 M H locs ls hf hP hD hS hl
      rw [f_X6_digest_137] at hf
      cases hf
    | succ n137 ih137 =>
      have b_171 : ∀ (x3 : Int32) (t0 : Int64) (t1 : Int32) (M : CS) (H : Heap) (locs : List Loc) (ls : Array Slot), f_X6_digest_171 (f_X6_digest_137 n137) x3 t0 t1 M N = some (r, M') → va_P G.1 vwCl (w_Mo G A M N) H → va_D B (w_Mo G A M N) → va_S B s.heap H locs → lv_has ls 5 [(0, .ref (A 0)), (3, .int x3)] → W p l e r_X6_digest s m av below meth cd H locs 0 0 Q (F0 m 171 ls [.int t1, .long t0]) := by
        intro x3 t0 t1 M H locs ls hf hP hD hS hl
        unfold f_X6_digest_171 at hf
        refine lv_i2l (pc := 171) (v := (t1).toInt64) hx hb dX6_digest_171 rfl ?_
        refine lv_ladd (pc := 172) hx hb dX6_digest_172 ?_
        refine lv_lstore_n (pc := 173) (lv' := [(1, .long (t0 + ((t1).toInt64))), (0, .ref (A 0)), (3, .int x3)]) hx hb dX6_digest_173 rfl hl (by decide) rfl (fun ls hl => ?_)
        refine lv_iinc (pc := 174) (v := (x3 + (1 : Int32))) (lv' := [(3, .int (x3 + (1 : Int32))), (1, .long (t0 + ((t1).toInt64))), (0, .ref (A 0))]) hx hb dX6_digest_174 hl (k := 2) rfl rfl (by decide) rfl (fun ls hl => ?_)
        refine lv_goto (pc := 177) (tgt := 137) hx hb dX6_digest_177 (by decide) ?_
        exact ih137 _ _ _ H locs ls hf hP hD hS (lv_sub hl [2, 1, 0] rfl)
      intro x1 x3 M H locs ls hf hP hD hS hl
      rw [f_X6_digest_137] at hf
      refine lv_iload_n (pc := 137) hx hb dX6_digest_137 rfl (lv_at hl 2 rfl) ?_
      refine lv_iconst (pc := 138) (v := (3 : Int32)) hx hb dX6_digest_138 (by decide) ?_
      refine lv_icmp_ge (pc := 139) (tgt := 180) hx hb dX6_digest_139 (by decide) (fun h6 => ?_) (fun h6 => ?_)
      · have hf := br_y h6 hf
        refine lv_iconst (pc := 180) (v := (0 : Int32)) hx hb dX6_digest_180 (by decide) ?_
        refine lv_istore_n (pc := 181) (lv' := [(3, .int (0 : Int32)), (0, .ref (A 0)), (1, .long x1)]) hx hb dX6_digest_181 rfl hl (by decide) rfl (fun ls hl => ?_)
        exact l_182 FU _ _ _ H locs ls hf hP hD hS (lv_sub hl [1, 2, 0] rfl)
      · have hf := br_n h6 hf
        refine lv_ldc2 (pc := 142) (v := 31) hx hb X.1.2.2.2.1 (X.1.2.2.2.2 _ (List.mem_cons_of_mem _ (List.mem_append_left _ (List.mem_append_left _ (List.mem_of_getElem? (i := 1) rfl))))) dX6_digest_142 ?_
        refine lv_lload_n (pc := 145) hx hb dX6_digest_145 rfl (lv_at hl 1 rfl) ?_
        refine lv_lmul (pc := 146) hx hb dX6_digest_146 ?_
        refine lv_aload_n (pc := 147) hx hb dX6_digest_147 rfl (lv_at hl 0 rfl) ?_
        refine wget (pc := 148) X (fun _ h9 => List.mem_cons_of_mem _ (List.mem_append_right _ h9)) hP 0 (at_Mo_0 G A M N) rfl 6 (by decide) (List.mem_cons_of_mem _ (List.mem_append_left _ (List.mem_append_left _ (List.mem_of_getElem? (i := 3) rfl)))) rfl (v := .ref (A 7)) rfl dX6_digest_148 ?_
        refine lv_iload_n (pc := 151) hx hb dX6_digest_151 rfl (lv_at hl 2 rfl) ?_
        obtain ⟨hi, hf⟩ := ck_some hf
        refine wzald (pc := 152) X hP 7 (at_Mo_7 G A M N) hi rfl dX6_digest_152 ?_
        refine lv_if_eq (pc := 153) (tgt := 170) hx hb dX6_digest_153 (by decide) (fun h5 => ?_) (fun h5 => ?_)
        · have hf := br_y h5 hf
          refine lv_iconst (pc := 170) (v := (-1 : Int32)) hx hb dX6_digest_170 (by decide) ?_
          exact b_171 _ _ _ _ H locs ls hf hP hD hS (lv_sub hl [0, 2] rfl)
        · have hf := br_n h5 hf
          refine lv_aload_n (pc := 156) hx hb dX6_digest_156 rfl (lv_at hl 0 rfl) ?_
          refine wget (pc := 157) X (fun _ h9 => List.mem_cons_of_mem _ (List.mem_append_right _ h9)) hP 0 (at_Mo_0 G A M N) rfl 5 (by decide) (List.mem_cons_of_mem _ (List.mem_append_left _ (List.mem_append_left _ (List.mem_of_getElem? (i := 4) rfl)))) rfl (v := .ref (A 6)) rfl dX6_digest_157 ?_
          refine lv_bipush (pc := 160) (v := (119 : Int32)) hx hb dX6_digest_160 (by decide) ?_
          refine lv_iload_n (pc := 162) hx hb dX6_digest_162 rfl (lv_at hl 2 rfl) ?_
          refine lv_imul (pc := 163) hx hb dX6_digest_163 ?_
          refine lv_iconst (pc := 164) (v := (3 : Int32)) hx hb dX6_digest_164 (by decide) ?_
          refine lv_iadd (pc := 165) hx hb dX6_digest_165 ?_
          obtain ⟨hi, hf⟩ := ck_some hf
          refine wiald (pc := 166) X hP 6 (at_Mo_6 G A M N) hi rfl dX6_digest_166 ?_
          refine lv_goto (pc := 167) (tgt := 171) hx hb dX6_digest_167 (by decide) ?_
          exact b_171 _ _ _ _ H locs ls hf hP hD hS (lv_sub hl [0, 2] rfl)
  have l_81 : ∀ (n81 : Nat), ∀ (x1 : Int64) (x3 : Int32) (M : CS) (H : Heap) (locs : List Loc) (ls : Array Slot), f_X6_digest_81 n81 x1 x3 M N = some (r, M') → va_P G.1 vwCl (w_Mo G A M N) H → va_D B (w_Mo G A M N) → va_S B s.heap H locs → lv_has ls 5 [(0, .ref (A 0)), (1, .long x1), (3, .int x3)] → W p l e r_X6_digest s m av below meth cd H locs 0 0 Q (F0 m 81 ls []) := by
    intro n81
    induction n81 with
    | zero =>
      intro x1 x3 M H locs ls hf hP hD hS hl
      rw [f_X6_digest_81] at hf
      cases hf
    | succ n81 ih81 =>
      have l_94 : ∀ (n94 : Nat), ∀ (x1 : Int64) (x3 : Int32) (x4 : Int32) (M : CS) (H : Heap) (locs : List Loc) (ls : Array Slot), f_X6_digest_94 (f_X6_digest_81 n81) n94 x1 x3 x4 M N = some (r, M') → va_P G.1 vwCl (w_Mo G A M N) H → va_D B (w_Mo G A M N) → va_S B s.heap H locs → lv_has ls 5 [(0, .ref (A 0)), (1, .long x1), (3, .int x3), (4, .int x4)] → W p l e r_X6_digest s m av below meth cd H locs 0 0 Q (F0 m 94 ls []) := by
        intro n94
        induction n94 with
        | zero =>
          intro x1 x3 x4 M H locs ls hf hP hD hS hl
          rw [f_X6_digest_94] at hf
          cases hf
        | succ n94 ih94 =>
          intro x1 x3 x4 M H locs ls hf hP hD hS hl
          rw [f_X6_digest_94] at hf
          refine lv_iload (pc := 94) hx hb dX6_digest_94 (lv_at hl 3 rfl) ?_
          refine lv_iconst (pc := 96) (v := (5 : Int32)) hx hb dX6_digest_96 (by decide) ?_
          refine lv_icmp_ge (pc := 97) (tgt := 129) hx hb dX6_digest_97 (by decide) (fun h7 => ?_) (fun h7 => ?_)
          · have hf := br_y h7 hf
            refine lv_iinc (pc := 129) (v := (x3 + (1 : Int32))) (lv' := [(3, .int (x3 + (1 : Int32))), (0, .ref (A 0)), (1, .long x1), (4, .int x4)]) hx hb dX6_digest_129 hl (k := 2) rfl rfl (by decide) rfl (fun ls hl => ?_)
            refine lv_goto (pc := 132) (tgt := 81) hx hb dX6_digest_132 (by decide) ?_
            exact ih81 _ _ _ H locs ls hf hP hD hS (lv_sub hl [1, 2, 0] rfl)
          · have hf := br_n h7 hf
            refine lv_ldc2 (pc := 100) (v := 31) hx hb X.1.2.2.2.1 (X.1.2.2.2.2 _ (List.mem_cons_of_mem _ (List.mem_append_left _ (List.mem_append_left _ (List.mem_of_getElem? (i := 1) rfl))))) dX6_digest_100 ?_
            refine lv_lload_n (pc := 103) hx hb dX6_digest_103 rfl (lv_at hl 1 rfl) ?_
            refine lv_lmul (pc := 104) hx hb dX6_digest_104 ?_
            refine lv_aload_n (pc := 105) hx hb dX6_digest_105 rfl (lv_at hl 0 rfl) ?_
            refine wget (pc := 106) X (fun _ h9 => List.mem_cons_of_mem _ (List.mem_append_right _ h9)) hP 0 (at_Mo_0 G A M N) rfl 4 (by decide) (List.mem_cons_of_mem _ (List.mem_append_left _ (List.mem_append_left _ (List.mem_of_getElem? (i := 2) rfl)))) rfl (v := .ref (A 5)) rfl dX6_digest_106 ?_
            refine lv_bipush (pc := 109) (v := (19 : Int32)) hx hb dX6_digest_109 (by decide) ?_
            refine lv_bipush (pc := 111) (v := (12 : Int32)) hx hb dX6_digest_111 (by decide) ?_
            refine lv_iload (pc := 113) hx hb dX6_digest_113 (lv_at hl 3 rfl) ?_
            refine lv_imul (pc := 115) hx hb dX6_digest_115 ?_
            refine lv_iadd (pc := 116) hx hb dX6_digest_116 ?_
            refine lv_iload_n (pc := 117) hx hb dX6_digest_117 rfl (lv_at hl 2 rfl) ?_
            refine lv_iadd (pc := 118) hx hb dX6_digest_118 ?_
            obtain ⟨hi, hf⟩ := ck_some hf
            refine wiald (pc := 119) X hP 5 (at_Mo_5 G A M N) hi rfl dX6_digest_119 ?_
            refine lv_i2l (pc := 120) (v := (((M 4) (((19 : Int32) + ((12 : Int32) * x4)) + x3).toNatClampNeg)).toInt64) hx hb dX6_digest_120 rfl ?_
            refine lv_ladd (pc := 121) hx hb dX6_digest_121 ?_
            refine lv_lstore_n (pc := 122) (lv' := [(1, .long (((31 : Int64) * x1) + ((((M 4) (((19 : Int32) + ((12 : Int32) * x4)) + x3).toNatClampNeg)).toInt64))), (0, .ref (A 0)), (3, .int x3), (4, .int x4)]) hx hb dX6_digest_122 rfl hl (by decide) rfl (fun ls hl => ?_)
            refine lv_iinc (pc := 123) (v := (x4 + (1 : Int32))) (lv' := [(4, .int (x4 + (1 : Int32))), (1, .long (((31 : Int64) * x1) + ((((M 4) (((19 : Int32) + ((12 : Int32) * x4)) + x3).toNatClampNeg)).toInt64))), (0, .ref (A 0)), (3, .int x3)]) hx hb dX6_digest_123 hl (k := 3) rfl rfl (by decide) rfl (fun ls hl => ?_)
            refine lv_goto (pc := 126) (tgt := 94) hx hb dX6_digest_126 (by decide) ?_
            exact ih94 _ _ _ _ H locs ls hf hP hD hS (lv_sub hl [2, 1, 3, 0] rfl)
      intro x1 x3 M H locs ls hf hP hD hS hl
      rw [f_X6_digest_81] at hf
      refine lv_iload_n (pc := 81) hx hb dX6_digest_81 rfl (lv_at hl 2 rfl) ?_
      refine lv_aload_n (pc := 82) hx hb dX6_digest_82 rfl (lv_at hl 0 rfl) ?_
      refine wget (pc := 83) X (fun _ h9 => List.mem_cons_of_mem _ (List.mem_append_right _ h9)) hP 0 (at_Mo_0 G A M N) rfl 4 (by decide) (List.mem_cons_of_mem _ (List.mem_append_left _ (List.mem_append_left _ (List.mem_of_getElem? (i := 2) rfl)))) rfl (v := .ref (A 5)) rfl dX6_digest_83 ?_
      refine lv_iconst (pc := 86) (v := (1 : Int32)) hx hb dX6_digest_86 (by decide) ?_
      refine wiald (pc := 87) X hP 5 (at_Mo_5 G A M N) (by decide) (j := 1) (by decide) dX6_digest_87 ?_
      refine lv_icmp_ge (pc := 88) (tgt := 135) hx hb dX6_digest_88 (by decide) (fun h8 => ?_) (fun h8 => ?_)
      · have hf := br_y h8 hf
        refine lv_iconst (pc := 135) (v := (0 : Int32)) hx hb dX6_digest_135 (by decide) ?_
        refine lv_istore_n (pc := 136) (lv' := [(3, .int (0 : Int32)), (0, .ref (A 0)), (1, .long x1)]) hx hb dX6_digest_136 rfl hl (by decide) rfl (fun ls hl => ?_)
        exact l_137 FU _ _ _ H locs ls hf hP hD hS (lv_sub hl [1, 2, 0] rfl)
      · have hf := br_n h8 hf
        refine lv_iconst (pc := 91) (v := (0 : Int32)) hx hb dX6_digest_91 (by decide) ?_
        refine lv_istore (pc := 92) (lv' := [(4, .int (0 : Int32)), (0, .ref (A 0)), (1, .long x1), (3, .int x3)]) hx hb dX6_digest_92 hl (by decide) rfl (fun ls hl => ?_)
        exact l_94 FU _ _ _ _ H locs ls hf hP hD hS (lv_sub hl [1, 2, 3, 0] rfl)
  have l_33 : ∀ (n33 : Nat), ∀ (x1 : Int64) (x3 : Int32) (M : CS) (H : Heap) (locs : List Loc) (ls : Array Slot), f_X6_digest_33 n33 x1 x3 M N = some (r, M') → va_P G.1 vwCl (w_Mo G A M N) H → va_D B (w_Mo G A M N) → va_S B s.heap H locs → lv_has ls 5 [(0, .ref (A 0)), (1, .long x1), (3, .int x3)] → W p l e r_X6_digest s m av below meth cd H locs 0 0 Q (F0 m 33 ls []) := by
    intro n33
    induction n33 with
    | zero =>
      intro x1 x3 M H locs ls hf hP hD hS hl
      rw [f_X6_digest_33] at hf
      cases hf
    | succ n33 ih33 =>
      have l_46 : ∀ (n46 : Nat), ∀ (x1 : Int64) (x3 : Int32) (x4 : Int32) (M : CS) (H : Heap) (locs : List Loc) (ls : Array Slot), f_X6_digest_46 (f_X6_digest_33 n33) n46 x1 x3 x4 M N = some (r, M') → va_P G.1 vwCl (w_Mo G A M N) H → va_D B (w_Mo G A M N) → va_S B s.heap H locs → lv_has ls 5 [(0, .ref (A 0)), (1, .long x1), (3, .int x3), (4, .int x4)] → W p l e r_X6_digest s m av below meth cd H locs 0 0 Q (F0 m 46 ls []) := by
        intro n46
        induction n46 with
        | zero =>
          intro x1 x3 x4 M H locs ls hf hP hD hS hl
          rw [f_X6_digest_46] at hf
          cases hf
        | succ n46 ih46 =>
          intro x1 x3 x4 M H locs ls hf hP hD hS hl
          rw [f_X6_digest_46] at hf
          refine lv_iload (pc := 46) hx hb dX6_digest_46 (lv_at hl 3 rfl) ?_
          refine lv_iconst (pc := 48) (v := (5 : Int32)) hx hb dX6_digest_48 (by decide) ?_
          refine lv_icmp_ge (pc := 49) (tgt := 73) hx hb dX6_digest_49 (by decide) (fun h9 => ?_) (fun h9 => ?_)
          · have hf := br_y h9 hf
            refine lv_iinc (pc := 73) (v := (x3 + (1 : Int32))) (lv' := [(3, .int (x3 + (1 : Int32))), (0, .ref (A 0)), (1, .long x1), (4, .int x4)]) hx hb dX6_digest_73 hl (k := 2) rfl rfl (by decide) rfl (fun ls hl => ?_)
            refine lv_goto (pc := 76) (tgt := 33) hx hb dX6_digest_76 (by decide) ?_
            exact ih33 _ _ _ H locs ls hf hP hD hS (lv_sub hl [1, 2, 0] rfl)
          · have hf := br_n h9 hf
            refine lv_ldc2 (pc := 52) (v := 31) hx hb X.1.2.2.2.1 (X.1.2.2.2.2 _ (List.mem_cons_of_mem _ (List.mem_append_left _ (List.mem_append_left _ (List.mem_of_getElem? (i := 1) rfl))))) dX6_digest_52 ?_
            refine lv_lload_n (pc := 55) hx hb dX6_digest_55 rfl (lv_at hl 1 rfl) ?_
            refine lv_lmul (pc := 56) hx hb dX6_digest_56 ?_
            refine lv_aload_n (pc := 57) hx hb dX6_digest_57 rfl (lv_at hl 0 rfl) ?_
            refine lv_iload_n (pc := 58) hx hb dX6_digest_58 rfl (lv_at hl 2 rfl) ?_
            refine lv_iload (pc := 59) hx hb dX6_digest_59 (lv_at hl 3 rfl) ?_
            obtain ⟨r1, M1, hc1, hf⟩ := ob2_some hf
            refine endi X.2.2.2.2 (runV (pc := 61) (As := [.int x3, .int x4]) (rest := [.long ((31 : Int64) * x1)]) X (c_X6_told G l A H.size M N x3 x4 r1 M1 hc1) gX6_digest_X6_told k_X6_told ⟨rfl, rfl⟩ ⟨Nat.le_of_ble_eq_true rfl, Nat.le_of_ble_eq_true rfl⟩ (EM.all (w_Mo G A M N) (w_Mo G A M1 N)) hP hD hS (ci := 6) rfl rfl (at_Mo_0 G A M N) rfl hl.1 rfl (Nat.le_of_ble_eq_true rfl) ⟨Nat.zero_le _, Nat.zero_le _⟩ dX6_digest_61) (EM.all (w_Mo G A M N) (w_Mo G A M1 N)) hP hD hS (fun H locs hP hD hS => ?_)
            refine lv_i2l (pc := 64) (v := (r1).toInt64) hx hb dX6_digest_64 rfl ?_
            refine lv_ladd (pc := 65) hx hb dX6_digest_65 ?_
            refine lv_lstore_n (pc := 66) (lv' := [(1, .long (((31 : Int64) * x1) + ((r1).toInt64))), (0, .ref (A 0)), (3, .int x3), (4, .int x4)]) hx hb dX6_digest_66 rfl hl (by decide) rfl (fun ls hl => ?_)
            refine lv_iinc (pc := 67) (v := (x4 + (1 : Int32))) (lv' := [(4, .int (x4 + (1 : Int32))), (1, .long (((31 : Int64) * x1) + ((r1).toInt64))), (0, .ref (A 0)), (3, .int x3)]) hx hb dX6_digest_67 hl (k := 3) rfl rfl (by decide) rfl (fun ls hl => ?_)
            refine lv_goto (pc := 70) (tgt := 46) hx hb dX6_digest_70 (by decide) ?_
            exact ih46 _ _ _ _ H locs ls hf hP hD hS (lv_sub hl [2, 1, 3, 0] rfl)
      intro x1 x3 M H locs ls hf hP hD hS hl
      rw [f_X6_digest_33] at hf
      refine lv_iload_n (pc := 33) hx hb dX6_digest_33 rfl (lv_at hl 2 rfl) ?_
      refine lv_aload_n (pc := 34) hx hb dX6_digest_34 rfl (lv_at hl 0 rfl) ?_
      refine wget (pc := 35) X (fun _ h9 => List.mem_cons_of_mem _ (List.mem_append_right _ h9)) hP 0 (at_Mo_0 G A M N) rfl 4 (by decide) (List.mem_cons_of_mem _ (List.mem_append_left _ (List.mem_append_left _ (List.mem_of_getElem? (i := 2) rfl)))) rfl (v := .ref (A 5)) rfl dX6_digest_35 ?_
      refine lv_iconst (pc := 38) (v := (0 : Int32)) hx hb dX6_digest_38 (by decide) ?_
      refine wiald (pc := 39) X hP 5 (at_Mo_5 G A M N) (by decide) (j := 0) (by decide) dX6_digest_39 ?_
      refine lv_icmp_ge (pc := 40) (tgt := 79) hx hb dX6_digest_40 (by decide) (fun h10 => ?_) (fun h10 => ?_)
      · have hf := br_y h10 hf
        refine lv_iconst (pc := 79) (v := (0 : Int32)) hx hb dX6_digest_79 (by decide) ?_
        refine lv_istore_n (pc := 80) (lv' := [(3, .int (0 : Int32)), (0, .ref (A 0)), (1, .long x1)]) hx hb dX6_digest_80 rfl hl (by decide) rfl (fun ls hl => ?_)
        exact l_81 FU _ _ _ H locs ls hf hP hD hS (lv_sub hl [1, 2, 0] rfl)
      · have hf := br_n h10 hf
        refine lv_iconst (pc := 43) (v := (0 : Int32)) hx hb dX6_digest_43 (by decide) ?_
        refine lv_istore (pc := 44) (lv' := [(4, .int (0 : Int32)), (0, .ref (A 0)), (1, .long x1), (3, .int x3)]) hx hb dX6_digest_44 hl (by decide) rfl (fun ls hl => ?_)
        exact l_46 FU _ _ _ _ H locs ls hf hP hD hS (lv_sub hl [1, 2, 3, 0] rfl)
  have l_6 : ∀ (n6 : Nat), ∀ (x1 : Int64) (x3 : Int32) (M : CS) (H : Heap) (locs : List Loc) (ls : Array Slot), f_X6_digest_6 n6 x1 x3 M N = some (r, M') → va_P G.1 vwCl (w_Mo G A M N) H → va_D B (w_Mo G A M N) → va_S B s.heap H locs → lv_has ls 5 [(0, .ref (A 0)), (1, .long x1), (3, .int x3)] → W p l e r_X6_digest s m av below meth cd H locs 0 0 Q (F0 m 6 ls []) := by
    intro n6
    induction n6 with
    | zero =>
      intro x1 x3 M H locs ls hf hP hD hS hl
      rw [f_X6_digest_6] at hf
      cases hf
    | succ n6 ih6 =>
      intro x1 x3 M H locs ls hf hP hD hS hl
      rw [f_X6_digest_6] at hf
      refine lv_iload_n (pc := 6) hx hb dX6_digest_6 rfl (lv_at hl 2 rfl) ?_
      refine lv_bipush (pc := 7) (v := (9 : Int32)) hx hb dX6_digest_7 (by decide) ?_
      refine lv_icmp_ge (pc := 9) (tgt := 31) hx hb dX6_digest_9 (by decide) (fun h11 => ?_) (fun h11 => ?_)
      · have hf := br_y h11 hf
        refine lv_iconst (pc := 31) (v := (0 : Int32)) hx hb dX6_digest_31 (by decide) ?_
        refine lv_istore_n (pc := 32) (lv' := [(3, .int (0 : Int32)), (0, .ref (A 0)), (1, .long x1)]) hx hb dX6_digest_32 rfl hl (by decide) rfl (fun ls hl => ?_)
        exact l_33 FU _ _ _ H locs ls hf hP hD hS (lv_sub hl [1, 2, 0] rfl)
      · have hf := br_n h11 hf
        refine lv_ldc2 (pc := 12) (v := 31) hx hb X.1.2.2.2.1 (X.1.2.2.2.2 _ (List.mem_cons_of_mem _ (List.mem_append_left _ (List.mem_append_left _ (List.mem_of_getElem? (i := 1) rfl))))) dX6_digest_12 ?_
        refine lv_lload_n (pc := 15) hx hb dX6_digest_15 rfl (lv_at hl 1 rfl) ?_
        refine lv_lmul (pc := 16) hx hb dX6_digest_16 ?_
        refine lv_aload_n (pc := 17) hx hb dX6_digest_17 rfl (lv_at hl 0 rfl) ?_
        refine lv_iload_n (pc := 18) hx hb dX6_digest_18 rfl (lv_at hl 2 rfl) ?_
        obtain ⟨r1, hc1, hf⟩ := ob1_some hf
        refine endi X.2.2.2.2 (runV (pc := 19) (As := [.int x3]) (rest := [.long ((31 : Int64) * x1)]) X (c_X6_counted G l A H.size M N x3 r1 hc1) gX6_digest_X6_counted k_X6_counted ⟨rfl, rfl⟩ ⟨Nat.le_of_ble_eq_true rfl, Nat.le_of_ble_eq_true rfl⟩ (EM.all (w_Mo G A M N) (w_Mo G A M N)) hP hD hS (ci := 6) rfl rfl (at_Mo_0 G A M N) rfl hl.1 rfl (Nat.le_of_ble_eq_true rfl) ⟨Nat.zero_le _, Nat.zero_le _⟩ dX6_digest_19) (EM.all (w_Mo G A M N) (w_Mo G A M N)) hP hD hS (fun H locs hP hD hS => ?_)
        refine lv_i2l (pc := 22) (v := (r1).toInt64) hx hb dX6_digest_22 rfl ?_
        refine lv_ladd (pc := 23) hx hb dX6_digest_23 ?_
        refine lv_lstore_n (pc := 24) (lv' := [(1, .long (((31 : Int64) * x1) + ((r1).toInt64))), (0, .ref (A 0)), (3, .int x3)]) hx hb dX6_digest_24 rfl hl (by decide) rfl (fun ls hl => ?_)
        refine lv_iinc (pc := 25) (v := (x3 + (1 : Int32))) (lv' := [(3, .int (x3 + (1 : Int32))), (1, .long (((31 : Int64) * x1) + ((r1).toInt64))), (0, .ref (A 0))]) hx hb dX6_digest_25 hl (k := 2) rfl rfl (by decide) rfl (fun ls hl => ?_)
        refine lv_goto (pc := 28) (tgt := 6) hx hb dX6_digest_28 (by decide) ?_
        exact ih6 _ _ _ H locs ls hf hP hD hS (lv_sub hl [2, 1, 0] rfl)
  unfold f_X6_digest at hf
  refine lv_ldc2 (pc := 0) (v := 17) hx hb X.1.2.2.2.1 (X.1.2.2.2.2 _ (List.mem_cons_of_mem _ (List.mem_append_left _ (List.mem_append_left _ (List.mem_of_getElem? (i := 0) rfl))))) dX6_digest_0 ?_
  refine lv_lstore_n (pc := 3) (lv' := [(1, .long (17 : Int64)), (0, .ref (A 0))]) hx hb dX6_digest_3 rfl hl (by decide) rfl (fun ls hl => ?_)
  refine lv_iconst (pc := 4) (v := (0 : Int32)) hx hb dX6_digest_4 (by decide) ?_
  refine lv_istore_n (pc := 5) (lv' := [(3, .int (0 : Int32)), (1, .long (17 : Int64)), (0, .ref (A 0))]) hx hb dX6_digest_5 rfl hl (by decide) rfl (fun ls hl => ?_)
  exact l_6 FU _ _ _ H locs ls hf hP hD hS (lv_sub hl [2, 1, 0] rfl)
