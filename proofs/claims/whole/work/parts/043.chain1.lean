def r_X0_isMended : Room := { frames := 0, cells := 0, slots := 0, locals := 0 }
set_option maxHeartbeats 4000000 in
set_option maxRecDepth 100000 in
theorem c_X0_isMended (G : GT) (l : Launch) (A : Nat → Nat) (sz : Nat) (c : CS) (x1 : Int32) (r : Int32) (hf : f_X0_isMended c x1 = some r) : MTi l yX0_isMended wsX0_isMended r_X0_isMended [.ref (A 0), .int x1] G (w_Ch G A c) (w_Ch G A c) sz r := by
  refine MTz.of (cc := cX0_isMended) (maxL := 2) (by decide +kernel) rfl (Nat.le_of_ble_eq_true rfl) (fun p e s m av below meth cd Q B H locs ls X hret hl hP hD hS => ?_)
  have hx := X.1.1
  have hb := X.1.2.1
  have hl : lv_has ls 2 [(0, .ref (A 0)), (1, .int x1)] := hl
  have b_16 : ∀ (t0 : Int32) (H : Heap) (locs : List Loc) (ls : Array Slot), f_X0_isMended_16 t0 c = some r → va_P G.1 vwCl (w_Ch G A c) H → va_D B (w_Ch G A c) → va_S B s.heap H locs → lv_has ls 2 [] → W p l e r_X0_isMended s m av below meth cd H locs 0 0 Q (F0 m 16 ls [.int t0]) := by
    intro t0 H locs ls hf hP hD hS hl
    unfold f_X0_isMended_16 at hf
    obtain ⟨hz, hf⟩ := ck_some hf
    cases hf
    exact hret _ _ _ _ (isb_or hz) dX0_isMended_16 hP hD hS
  unfold f_X0_isMended at hf
  refine lv_aload_n (pc := 0) hx hb dX0_isMended_0 rfl (lv_at hl 0 rfl) ?_
  refine wget (pc := 1) X (fun _ h9 => List.mem_cons_of_mem _ (List.mem_append_right _ h9)) hP 0 (at_Ch_0 G A c) rfl 2 (by decide) (List.mem_cons_of_mem _ (List.mem_append_left _ (List.mem_of_getElem? (i := 0) rfl))) rfl (v := .int (c 2 0)) rfl dX0_isMended_1 ?_
  refine lv_iload_n (pc := 4) hx hb dX0_isMended_4 rfl (lv_at hl 1 rfl) ?_
  refine lv_ishr (pc := 5) hx hb dX0_isMended_5 ?_
  refine lv_iconst (pc := 6) (v := (1 : Int32)) hx hb dX0_isMended_6 (by decide) ?_
  refine lv_iand (pc := 7) hx hb dX0_isMended_7 ?_
  refine lv_if_eq (pc := 8) (tgt := 15) hx hb dX0_isMended_8 (by decide) (fun h1 => ?_) (fun h1 => ?_)
  · have hf := br_y h1 hf
    refine lv_iconst (pc := 15) (v := (0 : Int32)) hx hb dX0_isMended_15 (by decide) ?_
    exact b_16 _ H locs ls hf hP hD hS (lv_sub hl [] rfl)
  · have hf := br_n h1 hf
    refine lv_iconst (pc := 11) (v := (1 : Int32)) hx hb dX0_isMended_11 (by decide) ?_
    refine lv_goto (pc := 12) (tgt := 16) hx hb dX0_isMended_12 (by decide) ?_
    exact b_16 _ H locs ls hf hP hD hS (lv_sub hl [] rfl)
def r_X0_errorTrait : Room := { frames := 1, cells := 0, slots := 0, locals := 21 }
set_option maxHeartbeats 4000000 in
set_option maxRecDepth 100000 in
theorem c_X0_errorTrait (G : GT) (l : Launch) (A : Nat → Nat) (sz : Nat) (c : CS) (x1 : Int32) (x2 : Int32) (r : Int32) (hf : f_X0_errorTrait c x1 x2 = some r) : MTi l yX0_errorTrait wsX0_errorTrait r_X0_errorTrait [.ref (A 0), .int x1, .int x2] G (w_Ch G A c) (w_Ch G A c) sz r := by
  refine MTi.of (cc := cX0_errorTrait) (maxL := 3) (by decide +kernel) rfl (Nat.le_of_ble_eq_true rfl) (fun p e s m av below meth cd Q B H locs ls X hret hl hP hD hS => ?_)
  have hx := X.1.1
  have hb := X.1.2.1
  have hl : lv_has ls 3 [(0, .ref (A 0)), (1, .int x1), (2, .int x2)] := hl
  have b_85 : ∀ (t0 : Int32) (H : Heap) (locs : List Loc) (ls : Array Slot), f_X0_errorTrait_85 t0 c = some r → va_P G.1 vwCl (w_Ch G A c) H → va_D B (w_Ch G A c) → va_S B s.heap H locs → lv_has ls 3 [] → W p l e r_X0_errorTrait s m av below meth cd H locs 0 0 Q (F0 m 85 ls [.int t0]) := by
    intro t0 H locs ls hf hP hD hS hl
    unfold f_X0_errorTrait_85 at hf
    cases hf
    exact hret _ _ _ _ dX0_errorTrait_85 hP hD hS
  unfold f_X0_errorTrait at hf
  refine lv_aload_n (pc := 0) hx hb dX0_errorTrait_0 rfl (lv_at hl 0 rfl) ?_
  refine lv_iload_n (pc := 1) hx hb dX0_errorTrait_1 rfl (lv_at hl 1 rfl) ?_
  obtain ⟨r1, hc1, hf⟩ := ob1_some hf
  refine endi X.2.2.2.2 (runV (pc := 2) (As := [.int x1]) (rest := []) X (c_X0_isError G l A H.size c x1 r1 hc1) gX0_errorTrait_X0_isError k_X0_isError ⟨rfl, rfl⟩ ⟨Nat.le_of_ble_eq_true rfl, Nat.le_of_ble_eq_true rfl⟩ (EM.all (w_Ch G A c) (w_Ch G A c)) hP hD hS (ci := 0) rfl rfl (at_Ch_0 G A c) rfl hl.1 rfl (Nat.le_of_ble_eq_true rfl) ⟨Nat.zero_le _, Nat.zero_le _⟩ dX0_errorTrait_2) (EM.all (w_Ch G A c) (w_Ch G A c)) hP hD hS (fun H locs hP hD hS => ?_)
  refine lv_if_ne (pc := 5) (tgt := 11) hx hb dX0_errorTrait_5 (by decide) (fun h6 => ?_) (fun h6 => ?_)
  · have hf := br_n h6 hf
    refine lv_iload_n (pc := 11) hx hb dX0_errorTrait_11 rfl (lv_at hl 2 rfl) ?_
    by_cases h2 : x2 = (0 : Int32)
    · have hf := br_y h2 hf
      refine lv_tableIn (pc := 12) (off := 32) (tgt := 44) hx hb dX0_errorTrait_12 (by rw [h2]; decide) (by rw [h2]; decide) (by rw [h2]; rfl) (by decide) ?_
      refine lv_aload_n (pc := 44) hx hb dX0_errorTrait_44 rfl (lv_at hl 0 rfl) ?_
      refine wget (pc := 45) X (fun _ h9 => List.mem_cons_of_mem _ (List.mem_append_right _ h9)) hP 0 (at_Ch_0 G A c) rfl 8 (by decide) (List.mem_cons_of_mem _ (List.mem_append_left _ (List.mem_of_getElem? (i := 0) rfl))) rfl (v := .ref (A 4)) rfl dX0_errorTrait_45 ?_
      refine lv_iload_n (pc := 48) hx hb dX0_errorTrait_48 rfl (lv_at hl 1 rfl) ?_
      obtain ⟨hi, hf⟩ := ck_some hf
      refine wiald (pc := 49) X hP 4 (at_Ch_4 G A c) hi rfl dX0_errorTrait_49 ?_
      cases hf
      exact hret _ _ _ _ dX0_errorTrait_50 hP hD hS
    · have hf := br_n h2 hf
      by_cases h3 : x2 = (1 : Int32)
      · have hf := br_y h3 hf
        refine lv_tableIn (pc := 12) (off := 39) (tgt := 51) hx hb dX0_errorTrait_12 (by rw [h3]; decide) (by rw [h3]; decide) (by rw [h3]; rfl) (by decide) ?_
        refine lv_aload_n (pc := 51) hx hb dX0_errorTrait_51 rfl (lv_at hl 0 rfl) ?_
        refine wget (pc := 52) X (fun _ h9 => List.mem_cons_of_mem _ (List.mem_append_right _ h9)) hP 0 (at_Ch_0 G A c) rfl 9 (by decide) (List.mem_cons_of_mem _ (List.mem_append_left _ (List.mem_of_getElem? (i := 1) rfl))) rfl (v := .ref (A 5)) rfl dX0_errorTrait_52 ?_
        refine lv_iload_n (pc := 55) hx hb dX0_errorTrait_55 rfl (lv_at hl 1 rfl) ?_
        obtain ⟨hi, hf⟩ := ck_some hf
        refine wiald (pc := 56) X hP 5 (at_Ch_5 G A c) hi rfl dX0_errorTrait_56 ?_
        cases hf
        exact hret _ _ _ _ dX0_errorTrait_57 hP hD hS
      · have hf := br_n h3 hf
        by_cases h4 : x2 = (2 : Int32)
        · have hf := br_y h4 hf
          refine lv_tableIn (pc := 12) (off := 46) (tgt := 58) hx hb dX0_errorTrait_12 (by rw [h4]; decide) (by rw [h4]; decide) (by rw [h4]; rfl) (by decide) ?_
          refine lv_aload_n (pc := 58) hx hb dX0_errorTrait_58 rfl (lv_at hl 0 rfl) ?_
          refine wget (pc := 59) X (fun _ h9 => List.mem_cons_of_mem _ (List.mem_append_right _ h9)) hP 0 (at_Ch_0 G A c) rfl 10 (by decide) (List.mem_cons_of_mem _ (List.mem_append_left _ (List.mem_of_getElem? (i := 2) rfl))) rfl (v := .ref (A 6)) rfl dX0_errorTrait_59 ?_
          refine lv_iload_n (pc := 62) hx hb dX0_errorTrait_62 rfl (lv_at hl 1 rfl) ?_
          obtain ⟨hi, hf⟩ := ck_some hf
          refine wiald (pc := 63) X hP 6 (at_Ch_6 G A c) hi rfl dX0_errorTrait_63 ?_
          cases hf
          exact hret _ _ _ _ dX0_errorTrait_64 hP hD hS
        · have hf := br_n h4 hf
          by_cases h5 : x2 = (3 : Int32)
          · have hf := br_y h5 hf
            refine lv_tableIn (pc := 12) (off := 53) (tgt := 65) hx hb dX0_errorTrait_12 (by rw [h5]; decide) (by rw [h5]; decide) (by rw [h5]; rfl) (by decide) ?_
            refine lv_aload_n (pc := 65) hx hb dX0_errorTrait_65 rfl (lv_at hl 0 rfl) ?_
            refine wget (pc := 66) X (fun _ h9 => List.mem_cons_of_mem _ (List.mem_append_right _ h9)) hP 0 (at_Ch_0 G A c) rfl 11 (by decide) (List.mem_cons_of_mem _ (List.mem_append_left _ (List.mem_of_getElem? (i := 3) rfl))) rfl (v := .ref (A 7)) rfl dX0_errorTrait_66 ?_
            refine lv_iload_n (pc := 69) hx hb dX0_errorTrait_69 rfl (lv_at hl 1 rfl) ?_
            obtain ⟨hi, hf⟩ := ck_some hf
            refine wiald (pc := 70) X hP 7 (at_Ch_7 G A c) hi rfl dX0_errorTrait_70 ?_
            cases hf
            exact hret _ _ _ _ dX0_errorTrait_71 hP hD hS
          · have hf := br_n h5 hf
            refine lv_tableOut (pc := 12) (tgt := 72) hx hb dX0_errorTrait_12 (by have := sw_ne (k := 0) (by decide) h2; have := sw_ne (k := 1) (by decide) h3; have := sw_ne (k := 2) (by decide) h4; have := sw_ne (k := 3) (by decide) h5; omega) (by decide) ?_
            refine lv_aload_n (pc := 72) hx hb dX0_errorTrait_72 rfl (lv_at hl 0 rfl) ?_
            refine lv_iload_n (pc := 73) hx hb dX0_errorTrait_73 rfl (lv_at hl 1 rfl) ?_
            obtain ⟨r2, hc2, hf⟩ := ob1_some hf
            refine endi X.2.2.2.2 (runV (pc := 74) (As := [.int x1]) (rest := []) X (c_X0_isMended G l A H.size c x1 r2 hc2) gX0_errorTrait_X0_isMended k_X0_isMended ⟨rfl, rfl⟩ ⟨Nat.le_of_ble_eq_true rfl, Nat.le_of_ble_eq_true rfl⟩ (EM.all (w_Ch G A c) (w_Ch G A c)) hP hD hS (ci := 0) rfl rfl (at_Ch_0 G A c) rfl hl.1 rfl (Nat.le_of_ble_eq_true rfl) ⟨Nat.zero_le _, Nat.zero_le _⟩ dX0_errorTrait_74) (EM.all (w_Ch G A c) (w_Ch G A c)) hP hD hS (fun H locs hP hD hS => ?_)
            refine lv_if_eq (pc := 77) (tgt := 84) hx hb dX0_errorTrait_77 (by decide) (fun h1 => ?_) (fun h1 => ?_)
            · have hf := br_y h1 hf
              refine lv_iconst (pc := 84) (v := (0 : Int32)) hx hb dX0_errorTrait_84 (by decide) ?_
              exact b_85 _ H locs ls hf hP hD hS (lv_sub hl [] rfl)
            · have hf := br_n h1 hf
              refine lv_iconst (pc := 80) (v := (1 : Int32)) hx hb dX0_errorTrait_80 (by decide) ?_
              refine lv_goto (pc := 81) (tgt := 85) hx hb dX0_errorTrait_81 (by decide) ?_
              exact b_85 _ H locs ls hf hP hD hS (lv_sub hl [] rfl)
  · have hf := br_y h6 hf
    refine lv_bipush (pc := 8) (v := (-9 : Int32)) hx hb dX0_errorTrait_8 (by decide) ?_
    cases hf
    exact hret _ _ _ _ dX0_errorTrait_10 hP hD hS
def r_X0_done : Room := { frames := 3, cells := 0, slots := 0, locals := 76 }
set_option maxHeartbeats 4000000 in
set_option maxRecDepth 100000 in
theorem c_X0_done (G : GT) (l : Launch) (A : Nat → Nat) (sz : Nat) (c : CS) (x1 : Int32) (x2 : Int32) (x3 : Int32) (r : Int32) (c' : CS) (hf : f_X0_done c x1 x2 x3 = some (r, c')) : MTi l yX0_done wsX0_done r_X0_done [.ref (A 0), .int x1, .int x2, .int x3] G (w_Ch G A c) (w_Ch G A c') sz r := by
  refine MTi.of (cc := cX0_done) (maxL := 4) (by decide +kernel) rfl (Nat.le_of_ble_eq_true rfl) (fun p e s m av below meth cd Q B H locs ls X hret hl hP hD hS => ?_)
  have hx := X.1.1
  have hb := X.1.2.1
  have hl : lv_has ls 4 [(0, .ref (A 0)), (1, .int x1), (2, .int x2), (3, .int x3)] := hl
  unfold f_X0_done at hf
  refine lv_aload_n (pc := 0) hx hb dX0_done_0 rfl (lv_at hl 0 rfl) ?_
  refine lv_iload_n (pc := 1) hx hb dX0_done_1 rfl (lv_at hl 1 rfl) ?_
  refine lv_iload_n (pc := 2) hx hb dX0_done_2 rfl (lv_at hl 2 rfl) ?_
  refine lv_iload_n (pc := 3) hx hb dX0_done_3 rfl (lv_at hl 3 rfl) ?_
  refine lv_aload_n (pc := 4) hx hb dX0_done_4 rfl (lv_at hl 0 rfl) ?_
  obtain ⟨r1, hc1, hf⟩ := ob1_some hf
  refine endi X.2.2.2.2 (runV (pc := 5) (As := []) (rest := [.int x3, .int x2, .int x1, .ref (A 0)]) X (c_X0_unmended G l A H.size c r1 hc1) gX0_done_X0_unmended k_X0_unmended ⟨rfl, rfl⟩ ⟨Nat.le_of_ble_eq_true rfl, Nat.le_of_ble_eq_true rfl⟩ (EM.all (w_Ch G A c) (w_Ch G A c)) hP hD hS (ci := 0) rfl rfl (at_Ch_0 G A c) rfl hl.1 rfl (Nat.le_of_ble_eq_true rfl) ⟨Nat.zero_le _, Nat.zero_le _⟩ dX0_done_5) (EM.all (w_Ch G A c) (w_Ch G A c)) hP hD hS (fun H locs hP hD hS => ?_)
  obtain ⟨r2, c2, hc2, hf⟩ := ob2_some hf
  refine endi X.2.2.2.2 (runV (pc := 8) (As := [.int x1, .int x2, .int x3, .int r1]) (rest := []) X (c_X0_doneIf G l A H.size c x1 x2 x3 r1 r2 c2 hc2) gX0_done_X0_doneIf k_X0_doneIf ⟨rfl, rfl⟩ ⟨Nat.le_of_ble_eq_true rfl, Nat.le_of_ble_eq_true rfl⟩ (EM.all (w_Ch G A c) (w_Ch G A c2)) hP hD hS (ci := 0) rfl rfl (at_Ch_0 G A c) rfl hl.1 rfl (Nat.le_of_ble_eq_true rfl) ⟨Nat.zero_le _, Nat.zero_le _⟩ dX0_done_8) (EM.all (w_Ch G A c) (w_Ch G A c2)) hP hD hS (fun H locs hP hD hS => ?_)
  cases hf
  exact hret _ _ _ _ dX0_done_11 hP hD hS
def r_X0_personTrait : Room := { frames := 4, cells := 0, slots := 0, locals := 99 }
set_option maxHeartbeats 4000000 in
set_option maxRecDepth 100000 in
theorem c_X0_personTrait (G : GT) (l : Launch) (A : Nat → Nat) (sz : Nat) (c : CS) (x1 : Int32) (x2 : Int32) (r : Int32) (c' : CS) (hf : f_X0_personTrait c x1 x2 = some (r, c')) : MTi l yX0_personTrait wsX0_personTrait r_X0_personTrait [.ref (A 0), .int x1, .int x2] G (w_Ch G A c) (w_Ch G A c') sz r := by
  refine MTi.of (cc := cX0_personTrait) (maxL := 3) (by decide +kernel) rfl (Nat.le_of_ble_eq_true rfl) (fun p e s m av below meth cd Q B H locs ls X hret hl hP hD hS => ?_)
  have hx := X.1.1
  have hb := X.1.2.1
  have hl : lv_has ls 3 [(0, .ref (A 0)), (1, .int x1), (2, .int x2)] := hl
  unfold f_X0_personTrait at hf
  refine lv_aload_n (pc := 0) hx hb dX0_personTrait_0 rfl (lv_at hl 0 rfl) ?_
  refine lv_iload_n (pc := 1) hx hb dX0_personTrait_1 rfl (lv_at hl 1 rfl) ?_
  obtain ⟨r1, hc1, hf⟩ := ob1_some hf
  refine endi X.2.2.2.2 (runV (pc := 2) (As := [.int x1]) (rest := []) X (c_X0_isPerson G l A H.size c x1 r1 hc1) gX0_personTrait_X0_isPerson k_X0_isPerson ⟨rfl, rfl⟩ ⟨Nat.le_of_ble_eq_true rfl, Nat.le_of_ble_eq_true rfl⟩ (EM.all (w_Ch G A c) (w_Ch G A c)) hP hD hS (ci := 0) rfl rfl (at_Ch_0 G A c) rfl hl.1 rfl (Nat.le_of_ble_eq_true rfl) ⟨Nat.zero_le _, Nat.zero_le _⟩ dX0_personTrait_2) (EM.all (w_Ch G A c) (w_Ch G A c)) hP hD hS (fun H locs hP hD hS => ?_)
  refine lv_if_ne (pc := 5) (tgt := 11) hx hb dX0_personTrait_5 (by decide) (fun h5 => ?_) (fun h5 => ?_)
  · have hf := br_n h5 hf
    refine lv_iload_n (pc := 11) hx hb dX0_personTrait_11 rfl (lv_at hl 2 rfl) ?_
    by_cases h1 : x2 = (0 : Int32)
    · have hf := br_y h1 hf
      refine lv_tableIn (pc := 12) (off := 32) (tgt := 44) hx hb dX0_personTrait_12 (by rw [h1]; decide) (by rw [h1]; decide) (by rw [h1]; rfl) (by decide) ?_
      refine lv_aload_n (pc := 44) hx hb dX0_personTrait_44 rfl (lv_at hl 0 rfl) ?_
      refine wget (pc := 45) X (fun _ h9 => List.mem_cons_of_mem _ (List.mem_append_right _ h9)) hP 0 (at_Ch_0 G A c) rfl 5 (by decide) (List.mem_cons_of_mem _ (List.mem_append_left _ (List.mem_append_left _ (List.mem_of_getElem? (i := 0) rfl)))) rfl (v := .ref (A 1)) rfl dX0_personTrait_45 ?_
      refine lv_iload_n (pc := 48) hx hb dX0_personTrait_48 rfl (lv_at hl 1 rfl) ?_
      obtain ⟨hi, hf⟩ := ck_some hf
      refine wiald (pc := 49) X hP 1 (at_Ch_1 G A c) hi rfl dX0_personTrait_49 ?_
      cases hf
      exact hret _ _ _ _ dX0_personTrait_50 hP hD hS
    · have hf := br_n h1 hf
      by_cases h2 : x2 = (1 : Int32)
      · have hf := br_y h2 hf
        refine lv_tableIn (pc := 12) (off := 39) (tgt := 51) hx hb dX0_personTrait_12 (by rw [h2]; decide) (by rw [h2]; decide) (by rw [h2]; rfl) (by decide) ?_
        refine lv_aload_n (pc := 51) hx hb dX0_personTrait_51 rfl (lv_at hl 0 rfl) ?_
        refine wget (pc := 52) X (fun _ h9 => List.mem_cons_of_mem _ (List.mem_append_right _ h9)) hP 0 (at_Ch_0 G A c) rfl 6 (by decide) (List.mem_cons_of_mem _ (List.mem_append_left _ (List.mem_append_left _ (List.mem_of_getElem? (i := 1) rfl)))) rfl (v := .ref (A 2)) rfl dX0_personTrait_52 ?_
        refine lv_iload_n (pc := 55) hx hb dX0_personTrait_55 rfl (lv_at hl 1 rfl) ?_
        obtain ⟨hi, hf⟩ := ck_some hf
        refine wiald (pc := 56) X hP 2 (at_Ch_2 G A c) hi rfl dX0_personTrait_56 ?_
        cases hf
        exact hret _ _ _ _ dX0_personTrait_57 hP hD hS
      · have hf := br_n h2 hf
        by_cases h3 : x2 = (2 : Int32)
        · have hf := br_y h3 hf
          refine lv_tableIn (pc := 12) (off := 46) (tgt := 58) hx hb dX0_personTrait_12 (by rw [h3]; decide) (by rw [h3]; decide) (by rw [h3]; rfl) (by decide) ?_
          refine lv_aload_n (pc := 58) hx hb dX0_personTrait_58 rfl (lv_at hl 0 rfl) ?_
          refine wget (pc := 59) X (fun _ h9 => List.mem_cons_of_mem _ (List.mem_append_right _ h9)) hP 0 (at_Ch_0 G A c) rfl 7 (by decide) (List.mem_cons_of_mem _ (List.mem_append_left _ (List.mem_append_left _ (List.mem_of_getElem? (i := 2) rfl)))) rfl (v := .ref (A 3)) rfl dX0_personTrait_59 ?_
          refine lv_iload_n (pc := 62) hx hb dX0_personTrait_62 rfl (lv_at hl 1 rfl) ?_
          obtain ⟨hi, hf⟩ := ck_some hf
          refine wiald (pc := 63) X hP 3 (at_Ch_3 G A c) hi rfl dX0_personTrait_63 ?_
          cases hf
          exact hret _ _ _ _ dX0_personTrait_64 hP hD hS
        · have hf := br_n h3 hf
          by_cases h4 : x2 = (3 : Int32)
          · have hf := br_y h4 hf
            refine lv_tableIn (pc := 12) (off := 53) (tgt := 65) hx hb dX0_personTrait_12 (by rw [h4]; decide) (by rw [h4]; decide) (by rw [h4]; rfl) (by decide) ?_
            refine lv_aload_n (pc := 65) hx hb dX0_personTrait_65 rfl (lv_at hl 0 rfl) ?_
            refine lv_iconst (pc := 66) (v := (0 : Int32)) hx hb dX0_personTrait_66 (by decide) ?_
            refine lv_aload_n (pc := 67) hx hb dX0_personTrait_67 rfl (lv_at hl 0 rfl) ?_
            refine wget (pc := 68) X (fun _ h9 => List.mem_cons_of_mem _ (List.mem_append_right _ h9)) hP 0 (at_Ch_0 G A c) rfl 3 (by decide) (List.mem_cons_of_mem _ (List.mem_append_left _ (List.mem_append_left _ (List.mem_of_getElem? (i := 3) rfl)))) rfl (v := .int (c 3 0)) rfl dX0_personTrait_68 ?_
            refine lv_iload_n (pc := 71) hx hb dX0_personTrait_71 rfl (lv_at hl 1 rfl) ?_
            obtain ⟨r2, c2, hc2, hf⟩ := ob2_some hf
            refine endi X.2.2.2.2 (runV (pc := 72) (As := [.int (0 : Int32), .int (c 3 0), .int x1]) (rest := []) X (c_X0_done G l A H.size c (0 : Int32) (c 3 0) x1 r2 c2 hc2) gX0_personTrait_X0_done k_X0_done ⟨rfl, rfl⟩ ⟨Nat.le_of_ble_eq_true rfl, Nat.le_of_ble_eq_true rfl⟩ (EM.all (w_Ch G A c) (w_Ch G A c2)) hP hD hS (ci := 0) rfl rfl (at_Ch_0 G A c) rfl hl.1 rfl (Nat.le_of_ble_eq_true rfl) ⟨Nat.zero_le _, Nat.zero_le _⟩ dX0_personTrait_72) (EM.all (w_Ch G A c) (w_Ch G A c2)) hP hD hS (fun H locs hP hD hS => ?_)
            cases hf
            exact hret _ _ _ _ dX0_personTrait_75 hP hD hS
          · have hf := br_n h4 hf
            refine lv_tableOut (pc := 12) (tgt := 76) hx hb dX0_personTrait_12 (by have := sw_ne (k := 0) (by decide) h1; have := sw_ne (k := 1) (by decide) h2; have := sw_ne (k := 2) (by decide) h3; have := sw_ne (k := 3) (by decide) h4; omega) (by decide) ?_
            refine lv_aload_n (pc := 76) hx hb dX0_personTrait_76 rfl (lv_at hl 0 rfl) ?_
            refine lv_iconst (pc := 77) (v := (4 : Int32)) hx hb dX0_personTrait_77 (by decide) ?_
            refine lv_aload_n (pc := 78) hx hb dX0_personTrait_78 rfl (lv_at hl 0 rfl) ?_
            refine wget (pc := 79) X (fun _ h9 => List.mem_cons_of_mem _ (List.mem_append_right _ h9)) hP 0 (at_Ch_0 G A c) rfl 3 (by decide) (List.mem_cons_of_mem _ (List.mem_append_left _ (List.mem_append_left _ (List.mem_of_getElem? (i := 3) rfl)))) rfl (v := .int (c 3 0)) rfl dX0_personTrait_79 ?_
            refine lv_iload_n (pc := 82) hx hb dX0_personTrait_82 rfl (lv_at hl 1 rfl) ?_
            obtain ⟨r3, c3, hc3, hf⟩ := ob2_some hf
            refine endi X.2.2.2.2 (runV (pc := 83) (As := [.int (4 : Int32), .int (c 3 0), .int x1]) (rest := []) X (c_X0_done G l A H.size c (4 : Int32) (c 3 0) x1 r3 c3 hc3) gX0_personTrait_X0_done k_X0_done ⟨rfl, rfl⟩ ⟨Nat.le_of_ble_eq_true rfl, Nat.le_of_ble_eq_true rfl⟩ (EM.all (w_Ch G A c) (w_Ch G A c3)) hP hD hS (ci := 0) rfl rfl (at_Ch_0 G A c) rfl hl.1 rfl (Nat.le_of_ble_eq_true rfl) ⟨Nat.zero_le _, Nat.zero_le _⟩ dX0_personTrait_83) (EM.all (w_Ch G A c) (w_Ch G A c3)) hP hD hS (fun H locs hP hD hS => ?_)
            cases hf
            exact hret _ _ _ _ dX0_personTrait_86 hP hD hS
  · have hf := br_y h5 hf
    refine lv_bipush (pc := 8) (v := (-9 : Int32)) hx hb dX0_personTrait_8 (by decide) ?_
    cases hf
    exact hret _ _ _ _ dX0_personTrait_10 hP hD hS
def r_X0_digestOn : Room := { frames := 5, cells := 0, slots := 0, locals := 121 }
set_option maxHeartbeats 4000000 in
set_option maxRecDepth 100000 in
theorem c_X0_digestOn (G : GT) (l : Launch) (A : Nat → Nat) (sz : Nat) (c : CS) (x1 : Int64) (r : Int64) (c' : CS) (hf : f_X0_digestOn c x1 = some (r, c')) : MTl l yX0_digestOn wsX0_digestOn r_X0_digestOn [.ref (A 0), .long x1] G (w_Ch G A c) (w_Ch G A c') sz r := by
  refine MTl.of (cc := cX0_digestOn) (maxL := 7) (by decide +kernel) rfl (Nat.le_of_ble_eq_true rfl) (fun p e s m av below meth cd Q B H locs ls X hret hl hP hD hS => ?_)
  have hx := X.1.1
  have hb := X.1.2.1
  have hl : lv_has ls 7 [(0, .ref (A 0)), (1, .long x1)] := hl
  have l_54 : ∀ (n54 : Nat), ∀ (x3 : Int64) (x5 : Int32) (c : CS) (H : Heap) (locs : List Loc) (ls : Array Slot), f_X0_digestOn_54 n54 x3 x5 c = some (r, c') → va_P G.1 vwCl (w_Ch G A c) H → va_D B (w_Ch G A c) → va_S B s.heap H locs → lv_has ls 7 [(0, .ref (A 0)), (3, .long x3), (5, .int x5)] → W p l e r_X0_digestOn s m av below meth cd H locs 0 0 Q (F0 m 54 ls []) := by
    intro n54
    induction n54 with
    | zero =>
      intro x3 x5 c H locs ls hf hP hD hS hl
      rw [f_X0_digestOn_54] at hf
      cases hf
    | succ n54 ih54 =>
      have l_66 : ∀ (n66 : Nat), ∀ (x3 : Int64) (x5 : Int32) (x6 : Int32) (c : CS) (H : Heap) (locs : List Loc) (ls : Array Slot), f_X0_digestOn_66 (f_X0_digestOn_54 n54) n66 x3 x5 x6 c = some (r, c') → va_P G.1 vwCl (w_Ch G A c) H → va_D B (w_Ch G A c) → va_S B s.heap H locs → lv_has ls 7 [(0, .ref (A 0)), (3, .long x3), (5, .int x5), (6, .int x6)] → W p l e r_X0_digestOn s m av below meth cd H locs 0 0 Q (F0 m 66 ls []) := by
        intro n66
        induction n66 with
        | zero =>
          intro x3 x5 x6 c H locs ls hf hP hD hS hl
          rw [f_X0_digestOn_66] at hf
          cases hf
        | succ n66 ih66 =>
          intro x3 x5 x6 c H locs ls hf hP hD hS hl
          rw [f_X0_digestOn_66] at hf
          refine lv_iload (pc := 66) hx hb dX0_digestOn_66 (lv_at hl 3 rfl) ?_
          refine lv_iconst (pc := 68) (v := (5 : Int32)) hx hb dX0_digestOn_68 (by decide) ?_
          refine lv_icmp_ge (pc := 69) (tgt := 94) hx hb dX0_digestOn_69 (by decide) (fun h1 => ?_) (fun h1 => ?_)
          · have hf := br_y h1 hf
            refine lv_iinc (pc := 94) (v := (x5 + (1 : Int32))) (lv' := [(5, .int (x5 + (1 : Int32))), (0, .ref (A 0)), (3, .long x3), (6, .int x6)]) hx hb dX0_digestOn_94 hl (k := 2) rfl rfl (by decide) rfl (fun ls hl => ?_)
            refine lv_goto (pc := 97) (tgt := 54) hx hb dX0_digestOn_97 (by decide) ?_
            exact ih54 _ _ _ H locs ls hf hP hD hS (lv_sub hl [1, 2, 0] rfl)
          · have hf := br_n h1 hf
            refine lv_ldc2 (pc := 72) (v := 31) hx hb X.1.2.2.2.1 (X.1.2.2.2.2 _ (List.mem_cons_of_mem _ (List.mem_append_left _ (List.mem_append_left _ (List.mem_of_getElem? (i := 1) rfl))))) dX0_digestOn_72 ?_
            refine lv_lload_n (pc := 75) hx hb dX0_digestOn_75 rfl (lv_at hl 1 rfl) ?_
            refine lv_lmul (pc := 76) hx hb dX0_digestOn_76 ?_
            refine lv_aload_n (pc := 77) hx hb dX0_digestOn_77 rfl (lv_at hl 0 rfl) ?_
            refine lv_iload (pc := 78) hx hb dX0_digestOn_78 (lv_at hl 2 rfl) ?_
            refine lv_iload (pc := 80) hx hb dX0_digestOn_80 (lv_at hl 3 rfl) ?_
            obtain ⟨r1, hc1, hf⟩ := ob1_some hf
            refine endi X.2.2.2.2 (runV (pc := 82) (As := [.int x5, .int x6]) (rest := [.long ((31 : Int64) * x3)]) X (c_X0_errorTrait G l A H.size c x5 x6 r1 hc1) gX0_digestOn_X0_errorTrait k_X0_errorTrait ⟨rfl, rfl⟩ ⟨Nat.le_of_ble_eq_true rfl, Nat.le_of_ble_eq_true rfl⟩ (EM.all (w_Ch G A c) (w_Ch G A c)) hP hD hS (ci := 0) rfl rfl (at_Ch_0 G A c) rfl hl.1 rfl (Nat.le_of_ble_eq_true rfl) ⟨Nat.zero_le _, Nat.zero_le _⟩ dX0_digestOn_82) (EM.all (w_Ch G A c) (w_Ch G A c)) hP hD hS (fun H locs hP hD hS => ?_)
            refine lv_i2l (pc := 85) (v := (r1).toInt64) hx hb dX0_digestOn_85 rfl ?_
            refine lv_ladd (pc := 86) hx hb dX0_digestOn_86 ?_
            refine lv_lstore_n (pc := 87) (lv' := [(3, .long (((31 : Int64) * x3) + ((r1).toInt64))), (0, .ref (A 0)), (5, .int x5), (6, .int x6)]) hx hb dX0_digestOn_87 rfl hl (by decide) rfl (fun ls hl => ?_)
            refine lv_iinc (pc := 88) (v := (x6 + (1 : Int32))) (lv' := [(6, .int (x6 + (1 : Int32))), (3, .long (((31 : Int64) * x3) + ((r1).toInt64))), (0, .ref (A 0)), (5, .int x5)]) hx hb dX0_digestOn_88 hl (k := 3) rfl rfl (by decide) rfl (fun ls hl => ?_)
            refine lv_goto (pc := 91) (tgt := 66) hx hb dX0_digestOn_91 (by decide) ?_
            exact ih66 _ _ _ _ H locs ls hf hP hD hS (lv_sub hl [2, 1, 3, 0] rfl)
      intro x3 x5 c H locs ls hf hP hD hS hl
      rw [f_X0_digestOn_54] at hf
      refine lv_iload (pc := 54) hx hb dX0_digestOn_54 (lv_at hl 2 rfl) ?_
      refine lv_aload_n (pc := 56) hx hb dX0_digestOn_56 rfl (lv_at hl 0 rfl) ?_
      refine wget (pc := 57) X (fun _ h9 => List.mem_cons_of_mem _ (List.mem_append_right _ h9)) hP 0 (at_Ch_0 G A c) rfl 1 (by decide) (List.mem_cons_of_mem _ (List.mem_append_left _ (List.mem_append_left _ (List.mem_of_getElem? (i := 2) rfl)))) rfl (v := .int (c 1 0)) rfl dX0_digestOn_57 ?_
      refine lv_icmp_ge (pc := 60) (tgt := 100) hx hb dX0_digestOn_60 (by decide) (fun h2 => ?_) (fun h2 => ?_)
      · have hf := br_y h2 hf
        refine lv_lload_n (pc := 100) hx hb dX0_digestOn_100 rfl (lv_at hl 1 rfl) ?_
        cases hf
        exact hret _ _ _ _ dX0_digestOn_101 hP hD hS
      · have hf := br_n h2 hf
        refine lv_iconst (pc := 63) (v := (0 : Int32)) hx hb dX0_digestOn_63 (by decide) ?_
        refine lv_istore (pc := 64) (lv' := [(6, .int (0 : Int32)), (0, .ref (A 0)), (3, .long x3), (5, .int x5)]) hx hb dX0_digestOn_64 hl (by decide) rfl (fun ls hl => ?_)
        exact l_66 FU _ _ _ _ H locs ls hf hP hD hS (lv_sub hl [1, 2, 3, 0] rfl)
  have l_5 : ∀ (n5 : Nat), ∀ (x3 : Int64) (x5 : Int32) (c : CS) (H : Heap) (locs : List Loc) (ls : Array Slot), f_X0_digestOn_5 n5 x3 x5 c = some (r, c') → va_P G.1 vwCl (w_Ch G A c) H → va_D B (w_Ch G A c) → va_S B s.heap H locs → lv_has ls 7 [(0, .ref (A 0)), (3, .long x3), (5, .int x5)] → W p l e r_X0_digestOn s m av below meth cd H locs 0 0 Q (F0 m 5 ls []) := by
    intro n5
    induction n5 with
    | zero =>
      intro x3 x5 c H locs ls hf hP hD hS hl
      rw [f_X0_digestOn_5] at hf
      cases hf
    | succ n5 ih5 =>
      have l_17 : ∀ (n17 : Nat), ∀ (x3 : Int64) (x5 : Int32) (x6 : Int32) (c : CS) (H : Heap) (locs : List Loc) (ls : Array Slot), f_X0_digestOn_17 (f_X0_digestOn_5 n5) n17 x3 x5 x6 c = some (r, c') → va_P G.1 vwCl (w_Ch G A c) H → va_D B (w_Ch G A c) → va_S B s.heap H locs → lv_has ls 7 [(0, .ref (A 0)), (3, .long x3), (5, .int x5), (6, .int x6)] → W p l e r_X0_digestOn s m av below meth cd H locs 0 0 Q (F0 m 17 ls []) := by
        intro n17
        induction n17 with
        | zero =>
          intro x3 x5 x6 c H locs ls hf hP hD hS hl
          rw [f_X0_digestOn_17] at hf
          cases hf
        | succ n17 ih17 =>
          intro x3 x5 x6 c H locs ls hf hP hD hS hl
          rw [f_X0_digestOn_17] at hf
          refine lv_iload (pc := 17) hx hb dX0_digestOn_17 (lv_at hl 3 rfl) ?_
          refine lv_iconst (pc := 19) (v := (5 : Int32)) hx hb dX0_digestOn_19 (by decide) ?_
          refine lv_icmp_ge (pc := 20) (tgt := 45) hx hb dX0_digestOn_20 (by decide) (fun h3 => ?_) (fun h3 => ?_)
          · have hf := br_y h3 hf
            refine lv_iinc (pc := 45) (v := (x5 + (1 : Int32))) (lv' := [(5, .int (x5 + (1 : Int32))), (0, .ref (A 0)), (3, .long x3), (6, .int x6)]) hx hb dX0_digestOn_45 hl (k := 2) rfl rfl (by decide) rfl (fun ls hl => ?_)
            refine lv_goto (pc := 48) (tgt := 5) hx hb dX0_digestOn_48 (by decide) ?_
            exact ih5 _ _ _ H locs ls hf hP hD hS (lv_sub hl [1, 2, 0] rfl)
          · have hf := br_n h3 hf
            refine lv_ldc2 (pc := 23) (v := 31) hx hb X.1.2.2.2.1 (X.1.2.2.2.2 _ (List.mem_cons_of_mem _ (List.mem_append_left _ (List.mem_append_left _ (List.mem_of_getElem? (i := 1) rfl))))) dX0_digestOn_23 ?_
            refine lv_lload_n (pc := 26) hx hb dX0_digestOn_26 rfl (lv_at hl 1 rfl) ?_
            refine lv_lmul (pc := 27) hx hb dX0_digestOn_27 ?_
            refine lv_aload_n (pc := 28) hx hb dX0_digestOn_28 rfl (lv_at hl 0 rfl) ?_
            refine lv_iload (pc := 29) hx hb dX0_digestOn_29 (lv_at hl 2 rfl) ?_
            refine lv_iload (pc := 31) hx hb dX0_digestOn_31 (lv_at hl 3 rfl) ?_
            obtain ⟨r1, c1, hc1, hf⟩ := ob2_some hf
            refine endi X.2.2.2.2 (runV (pc := 33) (As := [.int x5, .int x6]) (rest := [.long ((31 : Int64) * x3)]) X (c_X0_personTrait G l A H.size c x5 x6 r1 c1 hc1) gX0_digestOn_X0_personTrait k_X0_personTrait ⟨rfl, rfl⟩ ⟨Nat.le_of_ble_eq_true rfl, Nat.le_of_ble_eq_true rfl⟩ (EM.all (w_Ch G A c) (w_Ch G A c1)) hP hD hS (ci := 0) rfl rfl (at_Ch_0 G A c) rfl hl.1 rfl (Nat.le_of_ble_eq_true rfl) ⟨Nat.zero_le _, Nat.zero_le _⟩ dX0_digestOn_33) (EM.all (w_Ch G A c) (w_Ch G A c1)) hP hD hS (fun H locs hP hD hS => ?_)
            refine lv_i2l (pc := 36) (v := (r1).toInt64) hx hb dX0_digestOn_36 rfl ?_
            refine lv_ladd (pc := 37) hx hb dX0_digestOn_37 ?_
            refine lv_lstore_n (pc := 38) (lv' := [(3, .long (((31 : Int64) * x3) + ((r1).toInt64))), (0, .ref (A 0)), (5, .int x5), (6, .int x6)]) hx hb dX0_digestOn_38 rfl hl (by decide) rfl (fun ls hl => ?_)
            refine lv_iinc (pc := 39) (v := (x6 + (1 : Int32))) (lv' := [(6, .int (x6 + (1 : Int32))), (3, .long (((31 : Int64) * x3) + ((r1).toInt64))), (0, .ref (A 0)), (5, .int x5)]) hx hb dX0_digestOn_39 hl (k := 3) rfl rfl (by decide) rfl (fun ls hl => ?_)
            refine lv_goto (pc := 42) (tgt := 17) hx hb dX0_digestOn_42 (by decide) ?_
            exact ih17 _ _ _ _ H locs ls hf hP hD hS (lv_sub hl [2, 1, 3, 0] rfl)
      intro x3 x5 c H locs ls hf hP hD hS hl
      rw [f_X0_digestOn_5] at hf
      refine lv_iload (pc := 5) hx hb dX0_digestOn_5 (lv_at hl 2 rfl) ?_
      refine lv_aload_n (pc := 7) hx hb dX0_digestOn_7 rfl (lv_at hl 0 rfl) ?_
      refine wget (pc := 8) X (fun _ h9 => List.mem_cons_of_mem _ (List.mem_append_right _ h9)) hP 0 (at_Ch_0 G A c) rfl 0 (by decide) (List.mem_cons_of_mem _ (List.mem_append_left _ (List.mem_append_left _ (List.mem_of_getElem? (i := 0) rfl)))) rfl (v := .int (c 0 0)) rfl dX0_digestOn_8 ?_
      refine lv_icmp_ge (pc := 11) (tgt := 51) hx hb dX0_digestOn_11 (by decide) (fun h4 => ?_) (fun h4 => ?_)
      · have hf := br_y h4 hf
        refine lv_iconst (pc := 51) (v := (0 : Int32)) hx hb dX0_digestOn_51 (by decide) ?_
        refine lv_istore (pc := 52) (lv' := [(5, .int (0 : Int32)), (0, .ref (A 0)), (3, .long x3)]) hx hb dX0_digestOn_52 hl (by decide) rfl (fun ls hl => ?_)
        exact l_54 FU _ _ _ H locs ls hf hP hD hS (lv_sub hl [1, 2, 0] rfl)
      · have hf := br_n h4 hf
        refine lv_iconst (pc := 14) (v := (0 : Int32)) hx hb dX0_digestOn_14 (by decide) ?_
        refine lv_istore (pc := 15) (lv' := [(6, .int (0 : Int32)), (0, .ref (A 0)), (3, .long x3), (5, .int x5)]) hx hb dX0_digestOn_15 hl (by decide) rfl (fun ls hl => ?_)
        exact l_17 FU _ _ _ _ H locs ls hf hP hD hS (lv_sub hl [1, 2, 3, 0] rfl)
  unfold f_X0_digestOn at hf
  refine lv_lload_n (pc := 0) hx hb dX0_digestOn_0 rfl (lv_at hl 1 rfl) ?_
  refine lv_lstore_n (pc := 1) (lv' := [(3, .long x1), (0, .ref (A 0)), (1, .long x1)]) hx hb dX0_digestOn_1 rfl hl (by decide) rfl (fun ls hl => ?_)
  refine lv_iconst (pc := 2) (v := (0 : Int32)) hx hb dX0_digestOn_2 (by decide) ?_
  refine lv_istore (pc := 3) (lv' := [(5, .int (0 : Int32)), (3, .long x1), (0, .ref (A 0)), (1, .long x1)]) hx hb dX0_digestOn_3 hl (by decide) rfl (fun ls hl => ?_)
  exact l_5 FU _ _ _ H locs ls hf hP hD hS (lv_sub hl [2, 1, 0] rfl)
def r_X0_doneIfWarned : Room := { frames := 2, cells := 0, slots := 0, locals := 52 }
set_option maxHeartbeats 4000000 in
set_option maxRecDepth 100000 in
theorem c_X0_doneIfWarned (G : GT) (l : Launch) (A : Nat → Nat) (sz : Nat) (c : CS) (x1 : Int32) (x2 : Int32) (x3 : Int32) (x4 : Int32) (r : Int32) (c' : CS) (hf : f_X0_doneIfWarned c x1 x2 x3 x4 = some (r, c')) : MTi l yX0_doneIfWarned wsX0_doneIfWarned r_X0_doneIfWarned [.ref (A 0), .int x1, .int x2, .int x3, .int x4] G (w_Ch G A c) (w_Ch G A c') sz r := by
  refine MTi.of (cc := cX0_doneIfWarned) (maxL := 5) (by decide +kernel) rfl (Nat.le_of_ble_eq_true rfl) (fun p e s m av below meth cd Q B H locs ls X hret hl hP hD hS => ?_)
  have hx := X.1.1
  have hb := X.1.2.1
  have hl : lv_has ls 5 [(0, .ref (A 0)), (1, .int x1), (2, .int x2), (3, .int x3), (4, .int x4)] := hl
  have b_18 : ∀ (c : CS) (H : Heap) (locs : List Loc) (ls : Array Slot), f_X0_doneIfWarned_18 c = some (r, c') → va_P G.1 vwCl (w_Ch G A c) H → va_D B (w_Ch G A c) → va_S B s.heap H locs → lv_has ls 5 [] → W p l e r_X0_doneIfWarned s m av below meth cd H locs 0 0 Q (F0 m 18 ls []) := by
    intro c H locs ls hf hP hD hS hl
    unfold f_X0_doneIfWarned_18 at hf
    refine lv_bipush (pc := 18) (v := (-9 : Int32)) hx hb dX0_doneIfWarned_18 (by decide) ?_
    cases hf
    exact hret _ _ _ _ dX0_doneIfWarned_20 hP hD hS
  unfold f_X0_doneIfWarned at hf
  refine lv_aload_n (pc := 0) hx hb dX0_doneIfWarned_0 rfl (lv_at hl 0 rfl) ?_
  refine lv_iload_n (pc := 1) hx hb dX0_doneIfWarned_1 rfl (lv_at hl 1 rfl) ?_
  refine lv_iload_n (pc := 2) hx hb dX0_doneIfWarned_2 rfl (lv_at hl 2 rfl) ?_
  refine lv_iload_n (pc := 3) hx hb dX0_doneIfWarned_3 rfl (lv_at hl 3 rfl) ?_
  obtain ⟨r1, hc1, hf⟩ := ob1_some hf
  refine endi X.2.2.2.2 (runV (pc := 4) (As := [.int x1, .int x2, .int x3]) (rest := []) X (c_X0_isReached G l A H.size c x1 x2 x3 r1 hc1) gX0_doneIfWarned_X0_isReached k_X0_isReached ⟨rfl, rfl⟩ ⟨Nat.le_of_ble_eq_true rfl, Nat.le_of_ble_eq_true rfl⟩ (EM.all (w_Ch G A c) (w_Ch G A c)) hP hD hS (ci := 0) rfl rfl (at_Ch_0 G A c) rfl hl.1 rfl (Nat.le_of_ble_eq_true rfl) ⟨Nat.zero_le _, Nat.zero_le _⟩ dX0_doneIfWarned_4) (EM.all (w_Ch G A c) (w_Ch G A c)) hP hD hS (fun H locs hP hD hS => ?_)
  refine lv_if_eq (pc := 7) (tgt := 18) hx hb dX0_doneIfWarned_7 (by decide) (fun h2 => ?_) (fun h2 => ?_)
  · have hf := br_y h2 hf
    exact b_18 _ H locs ls hf hP hD hS (lv_sub hl [] rfl)
  · have hf := br_n h2 hf
    refine lv_iload (pc := 10) hx hb dX0_doneIfWarned_10 (lv_at hl 4 rfl) ?_
    obtain ⟨r2, hc2, hf⟩ := ob1_some hf
    refine endi X.2.2.2.2 (runN (pc := 12) (As := [.int x4]) (rest := []) X (c_X5_isTown G l  H.size x4 r2 hc2) gX0_doneIfWarned_X5_isTown_n120 k_X5_isTown (List.mem_of_getElem? (i := 5) rfl) (List.mem_cons_of_mem _ (List.mem_append_left _ (List.mem_append_left _ (List.mem_of_getElem? (i := 7) rfl)))) (List.mem_cons_of_mem _ (List.mem_append_left _ (List.mem_append_left _ (List.mem_of_getElem? (i := 6) rfl)))) ⟨rfl, rfl⟩ ⟨Nat.le_of_ble_eq_true rfl, Nat.le_of_ble_eq_true rfl⟩ (EM.nil (w_Ch G A c)) hP hD hS rfl hl.1 rfl (Nat.le_of_ble_eq_true rfl) ⟨Nat.zero_le _, Nat.zero_le _⟩ dX0_doneIfWarned_12) (EM.nil (w_Ch G A c)) hP hD hS (fun H locs hP hD hS => ?_)
    refine lv_if_ne (pc := 15) (tgt := 21) hx hb dX0_doneIfWarned_15 (by decide) (fun h1 => ?_) (fun h1 => ?_)
    · have hf := br_n h1 hf
      refine lv_aload_n (pc := 21) hx hb dX0_doneIfWarned_21 rfl (lv_at hl 0 rfl) ?_
      refine lv_iload_n (pc := 22) hx hb dX0_doneIfWarned_22 rfl (lv_at hl 1 rfl) ?_
      refine lv_iload_n (pc := 23) hx hb dX0_doneIfWarned_23 rfl (lv_at hl 2 rfl) ?_
      refine lv_iload_n (pc := 24) hx hb dX0_doneIfWarned_24 rfl (lv_at hl 3 rfl) ?_
      refine lv_aload_n (pc := 25) hx hb dX0_doneIfWarned_25 rfl (lv_at hl 0 rfl) ?_
      obtain ⟨r3, hc3, hf⟩ := ob1_some hf
      refine endi X.2.2.2.2 (runV (pc := 26) (As := []) (rest := [.int x3, .int x2, .int x1, .ref (A 0)]) X (c_X0_unmended G l A H.size c r3 hc3) gX0_doneIfWarned_X0_unmended k_X0_unmended ⟨rfl, rfl⟩ ⟨Nat.le_of_ble_eq_true rfl, Nat.le_of_ble_eq_true rfl⟩ (EM.all (w_Ch G A c) (w_Ch G A c)) hP hD hS (ci := 0) rfl rfl (at_Ch_0 G A c) rfl hl.1 rfl (Nat.le_of_ble_eq_true rfl) ⟨Nat.zero_le _, Nat.zero_le _⟩ dX0_doneIfWarned_26) (EM.all (w_Ch G A c) (w_Ch G A c)) hP hD hS (fun H locs hP hD hS => ?_)
      obtain ⟨c4, hc4, hf⟩ := ob1_some hf
      refine endv X.2.2.2.2 (runV (pc := 29) (As := [.int x1, .int x2, .int x3, .int r3]) (rest := []) X (c_X0_gather G l A H.size c x1 x2 x3 r3 c4 hc4) gX0_doneIfWarned_X0_gather k_X0_gather ⟨rfl, rfl⟩ ⟨Nat.le_of_ble_eq_true rfl, Nat.le_of_ble_eq_true rfl⟩ (EM.all (w_Ch G A c) (w_Ch G A c4)) hP hD hS (ci := 0) rfl rfl (at_Ch_0 G A c) rfl hl.1 rfl (Nat.le_of_ble_eq_true rfl) ⟨Nat.zero_le _, Nat.zero_le _⟩ dX0_doneIfWarned_29) (EM.all (w_Ch G A c) (w_Ch G A c4)) hP hD hS (fun H locs hP hD hS => ?_)
      refine lv_aload_n (pc := 32) hx hb dX0_doneIfWarned_32 rfl (lv_at hl 0 rfl) ?_
      refine wget (pc := 33) X (fun _ h9 => List.mem_cons_of_mem _ (List.mem_append_right _ h9)) hP 0 (at_Ch_0 G A c4) rfl 13 (by decide) (List.mem_cons_of_mem _ (List.mem_append_left _ (List.mem_append_left _ (List.mem_of_getElem? (i := 0) rfl)))) rfl (v := .ref (A 9)) rfl dX0_doneIfWarned_33 ?_
      refine lv_iload (pc := 36) hx hb dX0_doneIfWarned_36 (lv_at hl 4 rfl) ?_
      refine lv_dup2_11 (pc := 38) hx hb dX0_doneIfWarned_38 rfl rfl ?_
      obtain ⟨hi, hf⟩ := ck_some hf
      refine wiald (pc := 39) X hP 9 (at_Ch_9 G A c4) hi rfl dX0_doneIfWarned_39 ?_
      refine lv_iconst (pc := 40) (v := (5 : Int32)) hx hb dX0_doneIfWarned_40 (by decide) ?_
      refine lv_iadd (pc := 41) hx hb dX0_doneIfWarned_41 ?_
      obtain ⟨hi, hf⟩ := ck_some hf
      refine wiast (pc := 42) X hP hD hS 9 (at_Ch_9 G A c4) hi rfl (sa_Ch_9 G A c4 _) dX0_doneIfWarned_42 (fun H locs hP hD hS => ?_)
      have hP : va_P G.1 vwCl (w_Ch G A (cset c4 13 x4.toNatClampNeg (((c4 13) x4.toNatClampNeg) + (5 : Int32)))) H := hP
      have hD : va_D B (w_Ch G A (cset c4 13 x4.toNatClampNeg (((c4 13) x4.toNatClampNeg) + (5 : Int32)))) := hD
      refine lv_aload_n (pc := 43) hx hb dX0_doneIfWarned_43 rfl (lv_at hl 0 rfl) ?_
      refine lv_iload_n (pc := 44) hx hb dX0_doneIfWarned_44 rfl (lv_at hl 1 rfl) ?_
      refine lv_iload_n (pc := 45) hx hb dX0_doneIfWarned_45 rfl (lv_at hl 2 rfl) ?_
      refine lv_iload_n (pc := 46) hx hb dX0_doneIfWarned_46 rfl (lv_at hl 3 rfl) ?_
      obtain ⟨r5, hc5, hf⟩ := ob1_some hf
      refine endi X.2.2.2.2 (runV (pc := 47) (As := [.int x1, .int x2, .int x3]) (rest := []) X (c_X0_arrive G l A H.size (cset c4 13 x4.toNatClampNeg (((c4 13) x4.toNatClampNeg) + (5 : Int32))) x1 x2 x3 r5 hc5) gX0_doneIfWarned_X0_arrive k_X0_arrive ⟨rfl, rfl⟩ ⟨Nat.le_of_ble_eq_true rfl, Nat.le_of_ble_eq_true rfl⟩ (EM.all (w_Ch G A (cset c4 13 x4.toNatClampNeg (((c4 13) x4.toNatClampNeg) + (5 : Int32)))) (w_Ch G A (cset c4 13 x4.toNatClampNeg (((c4 13) x4.toNatClampNeg) + (5 : Int32))))) hP hD hS (ci := 0) rfl rfl (at_Ch_0 G A (cset c4 13 x4.toNatClampNeg (((c4 13) x4.toNatClampNeg) + (5 : Int32)))) rfl hl.1 rfl (Nat.le_of_ble_eq_true rfl) ⟨Nat.zero_le _, Nat.zero_le _⟩ dX0_doneIfWarned_47) (EM.all (w_Ch G A (cset c4 13 x4.toNatClampNeg (((c4 13) x4.toNatClampNeg) + (5 : Int32)))) (w_Ch G A (cset c4 13 x4.toNatClampNeg (((c4 13) x4.toNatClampNeg) + (5 : Int32))))) hP hD hS (fun H locs hP hD hS => ?_)
      cases hf
      exact hret _ _ _ _ dX0_doneIfWarned_50 hP hD hS
    · have hf := br_y h1 hf
      exact b_18 _ H locs ls hf hP hD hS (lv_sub hl [] rfl)
def r_X0_drifted : Room := { frames := 4, cells := 0, slots := 0, locals := 99 }
set_option maxHeartbeats 4000000 in
set_option maxRecDepth 100000 in
theorem c_X0_drifted (G : GT) (l : Launch) (A : Nat → Nat) (sz : Nat) (c : CS) (x1 : Int32) (r : Int32) (c' : CS) (hf : f_X0_drifted c x1 = some (r, c')) : MTi l yX0_drifted wsX0_drifted r_X0_drifted [.ref (A 0), .int x1] G (w_Ch G A c) (w_Ch G A c') sz r := by
  refine MTi.of (cc := cX0_drifted) (maxL := 2) (by decide +kernel) rfl (Nat.le_of_ble_eq_true rfl) (fun p e s m av below meth cd Q B H locs ls X hret hl hP hD hS => ?_)
  have hx := X.1.1
  have hb := X.1.2.1
  have hl : lv_has ls 2 [(0, .ref (A 0)), (1, .int x1)] := hl
  unfold f_X0_drifted at hf
  refine lv_aload_n (pc := 0) hx hb dX0_drifted_0 rfl (lv_at hl 0 rfl) ?_
  refine lv_iconst (pc := 1) (v := (4 : Int32)) hx hb dX0_drifted_1 (by decide) ?_
  refine lv_bipush (pc := 2) (v := (19 : Int32)) hx hb dX0_drifted_2 (by decide) ?_
  refine lv_iload_n (pc := 4) hx hb dX0_drifted_4 rfl (lv_at hl 1 rfl) ?_
  obtain ⟨r1, c1, hc1, hf⟩ := ob2_some hf
  refine endi X.2.2.2.2 (runV (pc := 5) (As := [.int (4 : Int32), .int (19 : Int32), .int x1]) (rest := []) X (c_X0_done G l A H.size c (4 : Int32) (19 : Int32) x1 r1 c1 hc1) gX0_drifted_X0_done k_X0_done ⟨rfl, rfl⟩ ⟨Nat.le_of_ble_eq_true rfl, Nat.le_of_ble_eq_true rfl⟩ (EM.all (w_Ch G A c) (w_Ch G A c1)) hP hD hS (ci := 0) rfl rfl (at_Ch_0 G A c) rfl hl.1 rfl (Nat.le_of_ble_eq_true rfl) ⟨Nat.zero_le _, Nat.zero_le _⟩ dX0_drifted_5) (EM.all (w_Ch G A c) (w_Ch G A c1)) hP hD hS (fun H locs hP hD hS => ?_)
  refine lv_aload_n (pc := 8) hx hb dX0_drifted_8 rfl (lv_at hl 0 rfl) ?_
  refine lv_iconst (pc := 9) (v := (0 : Int32)) hx hb dX0_drifted_9 (by decide) ?_
  refine lv_bipush (pc := 10) (v := (15 : Int32)) hx hb dX0_drifted_10 (by decide) ?_
  refine lv_iload_n (pc := 12) hx hb dX0_drifted_12 rfl (lv_at hl 1 rfl) ?_
  obtain ⟨r2, c2, hc2, hf⟩ := ob2_some hf
  refine endi X.2.2.2.2 (runV (pc := 13) (As := [.int (0 : Int32), .int (15 : Int32), .int x1]) (rest := [.int r1]) X (c_X0_done G l A H.size c1 (0 : Int32) (15 : Int32) x1 r2 c2 hc2) gX0_drifted_X0_done k_X0_done ⟨rfl, rfl⟩ ⟨Nat.le_of_ble_eq_true rfl, Nat.le_of_ble_eq_true rfl⟩ (EM.all (w_Ch G A c1) (w_Ch G A c2)) hP hD hS (ci := 0) rfl rfl (at_Ch_0 G A c1) rfl hl.1 rfl (Nat.le_of_ble_eq_true rfl) ⟨Nat.zero_le _, Nat.zero_le _⟩ dX0_drifted_13) (EM.all (w_Ch G A c1) (w_Ch G A c2)) hP hD hS (fun H locs hP hD hS => ?_)
  refine lv_isub (pc := 16) hx hb dX0_drifted_16 ?_
  refine lv_bipush (pc := 17) (v := (10 : Int32)) hx hb dX0_drifted_17 (by decide) ?_
  obtain ⟨r3, hc3, hf⟩ := ob1_some hf
  refine endi X.2.2.2.2 (runS (pc := 19) (As := [.int (r1 - r2), .int (10 : Int32)]) (rest := []) X (c_J9_floorMod_7cf53 G l  H.size (r1 - r2) (10 : Int32) r3 hc3) gX0_drifted_J9_floorMod_7cf53 k_J9_floorMod_7cf53 ⟨rfl, rfl⟩ ⟨Nat.le_of_ble_eq_true rfl, Nat.le_of_ble_eq_true rfl⟩ (EM.nil (w_Ch G A c2)) hP hD hS rfl hl.1 rfl (Nat.le_of_ble_eq_true rfl) ⟨Nat.zero_le _, Nat.zero_le _⟩ dX0_drifted_19) (EM.nil (w_Ch G A c2)) hP hD hS (fun H locs hP hD hS => ?_)
  cases hf
  exact hret _ _ _ _ dX0_drifted_22 hP hD hS
def r_X0_isOfKind : Room := { frames := 1, cells := 0, slots := 0, locals := 23 }
set_option maxHeartbeats 4000000 in
set_option maxRecDepth 100000 in
theorem c_X0_isOfKind (G : GT) (l : Launch) (A : Nat → Nat) (sz : Nat) (c : CS) (x1 : Int32) (x2 : Int32) (r : Int32) (hf : f_X0_isOfKind c x1 x2 = some r) : MTi l yX0_isOfKind wsX0_isOfKind r_X0_isOfKind [.ref (A 0), .int x1, .int x2] G (w_Ch G A c) (w_Ch G A c) sz r := by
  refine MTz.of (cc := cX0_isOfKind) (maxL := 3) (by decide +kernel) rfl (Nat.le_of_ble_eq_true rfl) (fun p e s m av below meth cd Q B H locs ls X hret hl hP hD hS => ?_)
  have hx := X.1.1
  have hb := X.1.2.1
  have hl : lv_has ls 3 [(0, .ref (A 0)), (1, .int x1), (2, .int x2)] := hl
  have b_26 : ∀ (t0 : Int32) (H : Heap) (locs : List Loc) (ls : Array Slot), f_X0_isOfKind_26 t0 c = some r → va_P G.1 vwCl (w_Ch G A c) H → va_D B (w_Ch G A c) → va_S B s.heap H locs → lv_has ls 3 [] → W p l e r_X0_isOfKind s m av below meth cd H locs 0 0 Q (F0 m 26 ls [.int t0]) := by
    intro t0 H locs ls hf hP hD hS hl
    unfold f_X0_isOfKind_26 at hf
    obtain ⟨hz, hf⟩ := ck_some hf
    cases hf
    exact hret _ _ _ _ (isb_or hz) dX0_isOfKind_26 hP hD hS
  have b_25 : ∀  (H : Heap) (locs : List Loc) (ls : Array Slot), f_X0_isOfKind_25 c = some r → va_P G.1 vwCl (w_Ch G A c) H → va_D B (w_Ch G A c) → va_S B s.heap H locs → lv_has ls 3 [] → W p l e r_X0_isOfKind s m av below meth cd H locs 0 0 Q (F0 m 25 ls []) := by
    intro  H locs ls hf hP hD hS hl
    unfold f_X0_isOfKind_25 at hf
    refine lv_iconst (pc := 25) (v := (0 : Int32)) hx hb dX0_isOfKind_25 (by decide) ?_
    exact b_26 _ H locs ls hf hP hD hS (lv_sub hl [] rfl)
  unfold f_X0_isOfKind at hf
  refine lv_aload_n (pc := 0) hx hb dX0_isOfKind_0 rfl (lv_at hl 0 rfl) ?_
  refine lv_iload_n (pc := 1) hx hb dX0_isOfKind_1 rfl (lv_at hl 1 rfl) ?_
  obtain ⟨r1, hc1, hf⟩ := ob1_some hf
  refine endi X.2.2.2.2 (runV (pc := 2) (As := [.int x1]) (rest := []) X (c_X0_isPerson G l A H.size c x1 r1 hc1) gX0_isOfKind_X0_isPerson k_X0_isPerson ⟨rfl, rfl⟩ ⟨Nat.le_of_ble_eq_true rfl, Nat.le_of_ble_eq_true rfl⟩ (EM.all (w_Ch G A c) (w_Ch G A c)) hP hD hS (ci := 0) rfl rfl (at_Ch_0 G A c) rfl hl.1 rfl (Nat.le_of_ble_eq_true rfl) ⟨Nat.zero_le _, Nat.zero_le _⟩ dX0_isOfKind_2) (EM.all (w_Ch G A c) (w_Ch G A c)) hP hD hS (fun H locs hP hD hS => ?_)
  refine lv_if_eq (pc := 5) (tgt := 25) hx hb dX0_isOfKind_5 (by decide) (fun h2 => ?_) (fun h2 => ?_)
  · have hf := br_y h2 hf
    exact b_25  H locs ls hf hP hD hS (lv_sub hl [] rfl)
  · have hf := br_n h2 hf
    refine lv_aload_n (pc := 8) hx hb dX0_isOfKind_8 rfl (lv_at hl 0 rfl) ?_
    refine wget (pc := 9) X (fun _ h9 => List.mem_cons_of_mem _ (List.mem_append_right _ h9)) hP 0 (at_Ch_0 G A c) rfl 5 (by decide) (List.mem_cons_of_mem _ (List.mem_append_left _ (List.mem_of_getElem? (i := 0) rfl))) rfl (v := .ref (A 1)) rfl dX0_isOfKind_9 ?_
    refine lv_iload_n (pc := 12) hx hb dX0_isOfKind_12 rfl (lv_at hl 1 rfl) ?_
    obtain ⟨hi, hf⟩ := ck_some hf
    refine wiald (pc := 13) X hP 1 (at_Ch_1 G A c) hi rfl dX0_isOfKind_13 ?_
    refine lv_iload_n (pc := 14) hx hb dX0_isOfKind_14 rfl (lv_at hl 2 rfl) ?_
    obtain ⟨r2, hc2, hf⟩ := ob1_some hf
    refine endi X.2.2.2.2 (runS (pc := 15) (As := [.int ((c 5) x1.toNatClampNeg), .int x2]) (rest := []) X (c_X0_isAlso G l  H.size ((c 5) x1.toNatClampNeg) x2 r2 hc2) gX0_isOfKind_X0_isAlso k_X0_isAlso ⟨rfl, rfl⟩ ⟨Nat.le_of_ble_eq_true rfl, Nat.le_of_ble_eq_true rfl⟩ (EM.nil (w_Ch G A c)) hP hD hS rfl hl.1 rfl (Nat.le_of_ble_eq_true rfl) ⟨Nat.zero_le _, Nat.zero_le _⟩ dX0_isOfKind_15) (EM.nil (w_Ch G A c)) hP hD hS (fun H locs hP hD hS => ?_)
    refine lv_if_eq (pc := 18) (tgt := 25) hx hb dX0_isOfKind_18 (by decide) (fun h1 => ?_) (fun h1 => ?_)
    · have hf := br_y h1 hf
      exact b_25  H locs ls hf hP hD hS (lv_sub hl [] rfl)
    · have hf := br_n h1 hf
      refine lv_iconst (pc := 21) (v := (1 : Int32)) hx hb dX0_isOfKind_21 (by decide) ?_
      refine lv_goto (pc := 22) (tgt := 26) hx hb dX0_isOfKind_22 (by decide) ?_
      exact b_26 _ H locs ls hf hP hD hS (lv_sub hl [] rfl)
def r_X0_drifters : Room := { frames := 2, cells := 0, slots := 0, locals := 45 }
set_option maxHeartbeats 4000000 in
set_option maxRecDepth 100000 in
theorem c_X0_drifters (G : GT) (l : Launch) (A : Nat → Nat) (sz : Nat) (c : CS) (r : Int32) (hf : f_X0_drifters c = some r) : MTi l yX0_drifters wsX0_drifters r_X0_drifters [.ref (A 0)] G (w_Ch G A c) (w_Ch G A c) sz r := by
  refine MTi.of (cc := cX0_drifters) (maxL := 3) (by decide +kernel) rfl (Nat.le_of_ble_eq_true rfl) (fun p e s m av below meth cd Q B H locs ls X hret hl hP hD hS => ?_)
  have hx := X.1.1
  have hb := X.1.2.1
  have hl : lv_has ls 3 [(0, .ref (A 0))] := hl
  have l_4 : ∀ (n4 : Nat), ∀ (x1 : Int32) (x2 : Int32) (H : Heap) (locs : List Loc) (ls : Array Slot), f_X0_drifters_4 n4 x1 x2 c = some r → va_P G.1 vwCl (w_Ch G A c) H → va_D B (w_Ch G A c) → va_S B s.heap H locs → lv_has ls 3 [(0, .ref (A 0)), (1, .int x1), (2, .int x2)] → W p l e r_X0_drifters s m av below meth cd H locs 0 0 Q (F0 m 4 ls []) := by
    intro n4
    induction n4 with
    | zero =>
      intro x1 x2 H locs ls hf hP hD hS hl
      rw [f_X0_drifters_4] at hf
      cases hf
    | succ n4 ih4 =>
      have b_24 : ∀ (x1 : Int32) (x2 : Int32) (H : Heap) (locs : List Loc) (ls : Array Slot), f_X0_drifters_24 (f_X0_drifters_4 n4) x1 x2 c = some r → va_P G.1 vwCl (w_Ch G A c) H → va_D B (w_Ch G A c) → va_S B s.heap H locs → lv_has ls 3 [(0, .ref (A 0)), (1, .int x1), (2, .int x2)] → W p l e r_X0_drifters s m av below meth cd H locs 0 0 Q (F0 m 24 ls []) := by
        intro x1 x2 H locs ls hf hP hD hS hl
        unfold f_X0_drifters_24 at hf
        refine lv_iinc (pc := 24) (v := (x2 + (1 : Int32))) (lv' := [(2, .int (x2 + (1 : Int32))), (0, .ref (A 0)), (1, .int x1)]) hx hb dX0_drifters_24 hl (k := 2) rfl rfl (by decide) rfl (fun ls hl => ?_)
        refine lv_goto (pc := 27) (tgt := 4) hx hb dX0_drifters_27 (by decide) ?_
        exact ih4 _ _ H locs ls hf hP hD hS (lv_sub hl [1, 2, 0] rfl)
      intro x1 x2 H locs ls hf hP hD hS hl
      rw [f_X0_drifters_4] at hf
      refine lv_iload_n (pc := 4) hx hb dX0_drifters_4 rfl (lv_at hl 2 rfl) ?_
      refine lv_aload_n (pc := 5) hx hb dX0_drifters_5 rfl (lv_at hl 0 rfl) ?_
      refine wget (pc := 6) X (fun _ h9 => List.mem_cons_of_mem _ (List.mem_append_right _ h9)) hP 0 (at_Ch_0 G A c) rfl 0 (by decide) (List.mem_cons_of_mem _ (List.mem_append_left _ (List.mem_of_getElem? (i := 0) rfl))) rfl (v := .int (c 0 0)) rfl dX0_drifters_6 ?_
      refine lv_icmp_ge (pc := 9) (tgt := 30) hx hb dX0_drifters_9 (by decide) (fun h2 => ?_) (fun h2 => ?_)
      · have hf := br_y h2 hf
        refine lv_iload_n (pc := 30) hx hb dX0_drifters_30 rfl (lv_at hl 1 rfl) ?_
        cases hf
        exact hret _ _ _ _ dX0_drifters_31 hP hD hS
      · have hf := br_n h2 hf
        refine lv_aload_n (pc := 12) hx hb dX0_drifters_12 rfl (lv_at hl 0 rfl) ?_
        refine lv_iload_n (pc := 13) hx hb dX0_drifters_13 rfl (lv_at hl 2 rfl) ?_
        refine lv_iconst (pc := 14) (v := (1 : Int32)) hx hb dX0_drifters_14 (by decide) ?_
        obtain ⟨r1, hc1, hf⟩ := ob1_some hf
        refine endi X.2.2.2.2 (runV (pc := 15) (As := [.int x2, .int (1 : Int32)]) (rest := []) X (c_X0_isOfKind G l A H.size c x2 (1 : Int32) r1 hc1) gX0_drifters_X0_isOfKind k_X0_isOfKind ⟨rfl, rfl⟩ ⟨Nat.le_of_ble_eq_true rfl, Nat.le_of_ble_eq_true rfl⟩ (EM.all (w_Ch G A c) (w_Ch G A c)) hP hD hS (ci := 0) rfl rfl (at_Ch_0 G A c) rfl hl.1 rfl (Nat.le_of_ble_eq_true rfl) ⟨Nat.zero_le _, Nat.zero_le _⟩ dX0_drifters_15) (EM.all (w_Ch G A c) (w_Ch G A c)) hP hD hS (fun H locs hP hD hS => ?_)
        refine lv_if_eq (pc := 18) (tgt := 24) hx hb dX0_drifters_18 (by decide) (fun h1 => ?_) (fun h1 => ?_)
        · have hf := br_y h1 hf
          exact b_24 _ _ H locs ls hf hP hD hS (lv_sub hl [0, 1, 2] rfl)
        · have hf := br_n h1 hf
          refine lv_iinc (pc := 21) (v := (x1 + (1 : Int32))) (lv' := [(1, .int (x1 + (1 : Int32))), (0, .ref (A 0)), (2, .int x2)]) hx hb dX0_drifters_21 hl (k := 1) rfl rfl (by decide) rfl (fun ls hl => ?_)
          exact b_24 _ _ H locs ls hf hP hD hS (lv_sub hl [1, 0, 2] rfl)
  unfold f_X0_drifters at hf
  refine lv_iconst (pc := 0) (v := (0 : Int32)) hx hb dX0_drifters_0 (by decide) ?_
  refine lv_istore_n (pc := 1) (lv' := [(1, .int (0 : Int32)), (0, .ref (A 0))]) hx hb dX0_drifters_1 rfl hl (by decide) rfl (fun ls hl => ?_)
  refine lv_iconst (pc := 2) (v := (0 : Int32)) hx hb dX0_drifters_2 (by decide) ?_
  refine lv_istore_n (pc := 3) (lv' := [(2, .int (0 : Int32)), (1, .int (0 : Int32)), (0, .ref (A 0))]) hx hb dX0_drifters_3 rfl hl (by decide) rfl (fun ls hl => ?_)
  exact l_4 FU _ _ H locs ls hf hP hD hS (lv_sub hl [2, 1, 0] rfl)
def r_X0_onTheWay : Room := { frames := 1, cells := 0, slots := 0, locals := 26 }
set_option maxHeartbeats 4000000 in
set_option maxRecDepth 100000 in
theorem c_X0_onTheWay (G : GT) (l : Launch) (A : Nat → Nat) (sz : Nat) (c : CS) (x1 : Int32) (x2 : Int32) (x3 : Int32) (r : Int32) (hf : f_X0_onTheWay c x1 x2 x3 = some r) : MTi l yX0_onTheWay wsX0_onTheWay r_X0_onTheWay [.ref (A 0), .int x1, .int x2, .int x3] G (w_Ch G A c) (w_Ch G A c) sz r := by
  refine MTi.of (cc := cX0_onTheWay) (maxL := 6) (by decide +kernel) rfl (Nat.le_of_ble_eq_true rfl) (fun p e s m av below meth cd Q B H locs ls X hret hl hP hD hS => ?_)
  have hx := X.1.1
  have hb := X.1.2.1
  have hl : lv_has ls 6 [(0, .ref (A 0)), (1, .int x1), (2, .int x2), (3, .int x3)] := hl
  have l_6 : ∀ (n6 : Nat), ∀ (x1 : Int32) (x2 : Int32) (x3 : Int32) (x4 : Int32) (x5 : Int32) (H : Heap) (locs : List Loc) (ls : Array Slot), f_X0_onTheWay_6 n6 x1 x2 x3 x4 x5 c = some r → va_P G.1 vwCl (w_Ch G A c) H → va_D B (w_Ch G A c) → va_S B s.heap H locs → lv_has ls 6 [(0, .ref (A 0)), (1, .int x1), (2, .int x2), (3, .int x3), (4, .int x4), (5, .int x5)] → W p l e r_X0_onTheWay s m av below meth cd H locs 0 0 Q (F0 m 6 ls []) := by
    intro n6
    induction n6 with
    | zero =>
      intro x1 x2 x3 x4 x5 H locs ls hf hP hD hS hl
      rw [f_X0_onTheWay_6] at hf
      cases hf
    | succ n6 ih6 =>
      have b_38 : ∀ (x1 : Int32) (x2 : Int32) (x3 : Int32) (x4 : Int32) (x5 : Int32) (H : Heap) (locs : List Loc) (ls : Array Slot), f_X0_onTheWay_38 (f_X0_onTheWay_6 n6) x1 x2 x3 x4 x5 c = some r → va_P G.1 vwCl (w_Ch G A c) H → va_D B (w_Ch G A c) → va_S B s.heap H locs → lv_has ls 6 [(0, .ref (A 0)), (1, .int x1), (2, .int x2), (3, .int x3), (4, .int x4), (5, .int x5)] → W p l e r_X0_onTheWay s m av below meth cd H locs 0 0 Q (F0 m 38 ls []) := by
        intro x1 x2 x3 x4 x5 H locs ls hf hP hD hS hl
        unfold f_X0_onTheWay_38 at hf
        refine lv_iinc (pc := 38) (v := (x5 + (1 : Int32))) (lv' := [(5, .int (x5 + (1 : Int32))), (0, .ref (A 0)), (1, .int x1), (2, .int x2), (3, .int x3), (4, .int x4)]) hx hb dX0_onTheWay_38 hl (k := 5) rfl rfl (by decide) rfl (fun ls hl => ?_)
        refine lv_goto (pc := 41) (tgt := 6) hx hb dX0_onTheWay_41 (by decide) ?_
        exact ih6 _ _ _ _ _ H locs ls hf hP hD hS (lv_sub hl [1, 2, 3, 4, 5, 0] rfl)
      intro x1 x2 x3 x4 x5 H locs ls hf hP hD hS hl
      rw [f_X0_onTheWay_6] at hf
      refine lv_iload (pc := 6) hx hb dX0_onTheWay_6 (lv_at hl 5 rfl) ?_
      refine lv_aload_n (pc := 8) hx hb dX0_onTheWay_8 rfl (lv_at hl 0 rfl) ?_
      refine wget (pc := 9) X (fun _ h9 => List.mem_cons_of_mem _ (List.mem_append_right _ h9)) hP 0 (at_Ch_0 G A c) rfl 1 (by decide) (List.mem_cons_of_mem _ (List.mem_append_left _ (List.mem_of_getElem? (i := 0) rfl))) rfl (v := .int (c 1 0)) rfl dX0_onTheWay_9 ?_
      refine lv_icmp_ge (pc := 12) (tgt := 44) hx hb dX0_onTheWay_12 (by decide) (fun h2 => ?_) (fun h2 => ?_)
      · have hf := br_y h2 hf
        refine lv_iload (pc := 44) hx hb dX0_onTheWay_44 (lv_at hl 4 rfl) ?_
        cases hf
        exact hret _ _ _ _ dX0_onTheWay_46 hP hD hS
      · have hf := br_n h2 hf
        refine lv_aload_n (pc := 15) hx hb dX0_onTheWay_15 rfl (lv_at hl 0 rfl) ?_
        refine lv_iload (pc := 16) hx hb dX0_onTheWay_16 (lv_at hl 5 rfl) ?_
        refine lv_iload_n (pc := 18) hx hb dX0_onTheWay_18 rfl (lv_at hl 1 rfl) ?_
        refine lv_iload_n (pc := 19) hx hb dX0_onTheWay_19 rfl (lv_at hl 2 rfl) ?_
        refine lv_iload_n (pc := 20) hx hb dX0_onTheWay_20 rfl (lv_at hl 3 rfl) ?_
        obtain ⟨r1, hc1, hf⟩ := ob1_some hf
        refine endi X.2.2.2.2 (runV (pc := 21) (As := [.int x5, .int x1, .int x2, .int x3]) (rest := []) X (c_X0_meets G l A H.size c x5 x1 x2 x3 r1 hc1) gX0_onTheWay_X0_meets k_X0_meets ⟨rfl, rfl⟩ ⟨Nat.le_of_ble_eq_true rfl, Nat.le_of_ble_eq_true rfl⟩ (EM.all (w_Ch G A c) (w_Ch G A c)) hP hD hS (ci := 0) rfl rfl (at_Ch_0 G A c) rfl hl.1 rfl (Nat.le_of_ble_eq_true rfl) ⟨Nat.zero_le _, Nat.zero_le _⟩ dX0_onTheWay_21) (EM.all (w_Ch G A c) (w_Ch G A c)) hP hD hS (fun H locs hP hD hS => ?_)
        refine lv_bipush (pc := 24) (v := (-9 : Int32)) hx hb dX0_onTheWay_24 (by decide) ?_
        refine lv_icmp_eq (pc := 26) (tgt := 38) hx hb dX0_onTheWay_26 (by decide) (fun h1 => ?_) (fun h1 => ?_)
        · have hf := br_y h1 hf
          exact b_38 _ _ _ _ _ H locs ls hf hP hD hS (lv_sub hl [0, 1, 2, 3, 4, 5] rfl)
        · have hf := br_n h1 hf
          refine lv_iload (pc := 29) hx hb dX0_onTheWay_29 (lv_at hl 4 rfl) ?_
          refine lv_iconst (pc := 31) (v := (1 : Int32)) hx hb dX0_onTheWay_31 (by decide) ?_
          refine lv_iload (pc := 32) hx hb dX0_onTheWay_32 (lv_at hl 5 rfl) ?_
          refine lv_ishl (pc := 34) hx hb dX0_onTheWay_34 ?_
          refine lv_ior (pc := 35) hx hb dX0_onTheWay_35 ?_
          refine lv_istore (pc := 36) (lv' := [(4, .int (x4 ||| ((1 : Int32) <<< (x5 &&& 31)))), (0, .ref (A 0)), (1, .int x1), (2, .int x2), (3, .int x3), (5, .int x5)]) hx hb dX0_onTheWay_36 hl (by decide) rfl (fun ls hl => ?_)
          exact b_38 _ _ _ _ _ H locs ls hf hP hD hS (lv_sub hl [1, 2, 3, 4, 0, 5] rfl)
  unfold f_X0_onTheWay at hf
  refine lv_iconst (pc := 0) (v := (0 : Int32)) hx hb dX0_onTheWay_0 (by decide) ?_
  refine lv_istore (pc := 1) (lv' := [(4, .int (0 : Int32)), (0, .ref (A 0)), (1, .int x1), (2, .int x2), (3, .int x3)]) hx hb dX0_onTheWay_1 hl (by decide) rfl (fun ls hl => ?_)
  refine lv_iconst (pc := 3) (v := (0 : Int32)) hx hb dX0_onTheWay_3 (by decide) ?_
  refine lv_istore (pc := 4) (lv' := [(5, .int (0 : Int32)), (4, .int (0 : Int32)), (0, .ref (A 0)), (1, .int x1), (2, .int x2), (3, .int x3)]) hx hb dX0_onTheWay_4 hl (by decide) rfl (fun ls hl => ?_)
  exact l_6 FU _ _ _ _ _ H locs ls hf hP hD hS (lv_sub hl [2, 3, 4, 5, 1, 0] rfl)
def r_X0_fewestMended : Room := { frames := 4, cells := 0, slots := 0, locals := 101 }
set_option maxHeartbeats 4000000 in
set_option maxRecDepth 100000 in
theorem c_X0_fewestMended (G : GT) (l : Launch) (A : Nat → Nat) (sz : Nat) (c : CS) (x1 : Int32) (x2 : Int32) (x3 : Int32) (x4 : Int32) (r : Int32) (c' : CS) (hf : f_X0_fewestMended c x1 x2 x3 x4 = some (r, c')) : MTi l yX0_fewestMended wsX0_fewestMended r_X0_fewestMended [.ref (A 0), .int x1, .int x2, .int x3, .int x4] G (w_Ch G A c) (w_Ch G A c') sz r := by
  refine MTi.of (cc := cX0_fewestMended) (maxL := 12) (by decide +kernel) rfl (Nat.le_of_ble_eq_true rfl) (fun p e s m av below meth cd Q B H locs ls X hret hl hP hD hS => ?_)
  have hx := X.1.1
  have hb := X.1.2.1
  have hl : lv_has ls 12 [(0, .ref (A 0)), (1, .int x1), (2, .int x2), (3, .int x3), (4, .int x4)] := hl
  have l_33 : ∀ (n33 : Nat), ∀ (x1 : Int32) (x2 : Int32) (x3 : Int32) (x4 : Int32) (x5 : Int32) (x6 : Int32) (x7 : Int32) (x8 : Int32) (x9 : Int32) (x10 : Int32) (c : CS) (H : Heap) (locs : List Loc) (ls : Array Slot), f_X0_fewestMended_33 n33 x1 x2 x3 x4 x5 x6 x7 x8 x9 x10 c = some (r, c') → va_P G.1 vwCl (w_Ch G A c) H → va_D B (w_Ch G A c) → va_S B s.heap H locs → lv_has ls 12 [(0, .ref (A 0)), (1, .int x1), (2, .int x2), (3, .int x3), (4, .int x4), (5, .int x5), (6, .int x6), (7, .int x7), (8, .int x8), (9, .int x9), (10, .int x10)] → W p l e r_X0_fewestMended s m av below meth cd H locs 0 0 Q (F0 m 33 ls []) := by
    intro n33
    induction n33 with
    | zero =>
      intro x1 x2 x3 x4 x5 x6 x7 x8 x9 x10 c H locs ls hf hP hD hS hl
      rw [f_X0_fewestMended_33] at hf
      cases hf
    | succ n33 ih33 =>
      have b_86 : ∀ (x1 : Int32) (x2 : Int32) (x3 : Int32) (x4 : Int32) (x5 : Int32) (x6 : Int32) (x7 : Int32) (x8 : Int32) (x9 : Int32) (x10 : Int32) (c : CS) (H : Heap) (locs : List Loc) (ls : Array Slot), f_X0_fewestMended_86 (f_X0_fewestMended_33 n33) x1 x2 x3 x4 x5 x6 x7 x8 x9 x10 c = some (r, c') → va_P G.1 vwCl (w_Ch G A c) H → va_D B (w_Ch G A c) → va_S B s.heap H locs → lv_has ls 12 [(0, .ref (A 0)), (1, .int x1), (2, .int x2), (3, .int x3), (4, .int x4), (5, .int x5), (6, .int x6), (7, .int x7), (8, .int x8), (9, .int x9), (10, .int x10)] → W p l e r_X0_fewestMended s m av below meth cd H locs 0 0 Q (F0 m 86 ls []) := by
        intro x1 x2 x3 x4 x5 x6 x7 x8 x9 x10 c H locs ls hf hP hD hS hl
        unfold f_X0_fewestMended_86 at hf
        refine lv_iload (pc := 86) hx hb dX0_fewestMended_86 (lv_at hl 9 rfl) ?_
        refine lv_iload (pc := 88) hx hb dX0_fewestMended_88 (lv_at hl 6 rfl) ?_
        obtain ⟨r1, hc1, hf⟩ := ob1_some hf
        refine endi X.2.2.2.2 (runN (pc := 90) (As := [.int x9, .int x6]) (rest := []) X (c_X5_nextSet G l  H.size x9 x6 r1 hc1) gX0_fewestMended_X5_nextSet_n145 k_X5_nextSet (List.mem_of_getElem? (i := 7) rfl) (List.mem_cons_of_mem _ (List.mem_append_left _ (List.mem_append_right _ (List.mem_append_left _ (List.mem_of_getElem? (i := 14) rfl))))) (List.mem_cons_of_mem _ (List.mem_append_left _ (List.mem_append_right _ (List.mem_append_right _ (List.mem_of_getElem? (i := 18) rfl))))) ⟨rfl, rfl⟩ ⟨Nat.le_of_ble_eq_true rfl, Nat.le_of_ble_eq_true rfl⟩ (EM.nil (w_Ch G A c)) hP hD hS rfl hl.1 rfl (Nat.le_of_ble_eq_true rfl) ⟨Nat.zero_le _, Nat.zero_le _⟩ dX0_fewestMended_90) (EM.nil (w_Ch G A c)) hP hD hS (fun H locs hP hD hS => ?_)
        refine lv_istore (pc := 93) (lv' := [(9, .int r1), (0, .ref (A 0)), (1, .int x1), (2, .int x2), (3, .int x3), (4, .int x4), (5, .int x5), (6, .int x6), (7, .int x7), (8, .int x8), (10, .int x10)]) hx hb dX0_fewestMended_93 hl (by decide) rfl (fun ls hl => ?_)
        refine lv_iinc (pc := 95) (v := (x10 + (1 : Int32))) (lv' := [(10, .int (x10 + (1 : Int32))), (9, .int r1), (0, .ref (A 0)), (1, .int x1), (2, .int x2), (3, .int x3), (4, .int x4), (5, .int x5), (6, .int x6), (7, .int x7), (8, .int x8)]) hx hb dX0_fewestMended_95 hl (k := 10) rfl rfl (by decide) rfl (fun ls hl => ?_)
        refine lv_goto (pc := 98) (tgt := 33) hx hb dX0_fewestMended_98 (by decide) ?_
        exact ih33 _ _ _ _ _ _ _ _ _ _ _ H locs ls hf hP hD hS (lv_sub hl [2, 3, 4, 5, 6, 7, 8, 9, 10, 1, 0] rfl)
      intro x1 x2 x3 x4 x5 x6 x7 x8 x9 x10 c H locs ls hf hP hD hS hl
      rw [f_X0_fewestMended_33] at hf
      refine lv_iload (pc := 33) hx hb dX0_fewestMended_33 (lv_at hl 10 rfl) ?_
      refine lv_iconst (pc := 35) (v := (1 : Int32)) hx hb dX0_fewestMended_35 (by decide) ?_
      refine lv_iload (pc := 36) hx hb dX0_fewestMended_36 (lv_at hl 6 rfl) ?_
      obtain ⟨r1, hc1, hf⟩ := ob1_some hf
      refine endi X.2.2.2.2 (runS (pc := 38) (As := [.int x6]) (rest := [.int (1 : Int32), .int x10]) X (c_J6_bitCount_0f7a4 G l  H.size x6 r1 hc1) gX0_fewestMended_J6_bitCount_0f7a4 k_J6_bitCount_0f7a4 ⟨rfl, rfl⟩ ⟨Nat.le_of_ble_eq_true rfl, Nat.le_of_ble_eq_true rfl⟩ (EM.nil (w_Ch G A c)) hP hD hS rfl hl.1 rfl (Nat.le_of_ble_eq_true rfl) ⟨Nat.zero_le _, Nat.zero_le _⟩ dX0_fewestMended_38) (EM.nil (w_Ch G A c)) hP hD hS (fun H locs hP hD hS => ?_)
      refine lv_ishl (pc := 41) hx hb dX0_fewestMended_41 ?_
      refine lv_icmp_ge (pc := 42) (tgt := 101) hx hb dX0_fewestMended_42 (by decide) (fun h3 => ?_) (fun h3 => ?_)
      · have hf := br_y h3 hf
        refine lv_iload (pc := 101) hx hb dX0_fewestMended_101 (lv_at hl 8 rfl) ?_
        cases hf
        exact hret _ _ _ _ dX0_fewestMended_103 hP hD hS
      · have hf := br_n h3 hf
        refine lv_iload (pc := 45) hx hb dX0_fewestMended_45 (lv_at hl 9 rfl) ?_
        obtain ⟨r2, hc2, hf⟩ := ob1_some hf
        refine endi X.2.2.2.2 (runS (pc := 47) (As := [.int x9]) (rest := []) X (c_J6_bitCount_0f7a4 G l  H.size x9 r2 hc2) gX0_fewestMended_J6_bitCount_0f7a4 k_J6_bitCount_0f7a4 ⟨rfl, rfl⟩ ⟨Nat.le_of_ble_eq_true rfl, Nat.le_of_ble_eq_true rfl⟩ (EM.nil (w_Ch G A c)) hP hD hS rfl hl.1 rfl (Nat.le_of_ble_eq_true rfl) ⟨Nat.zero_le _, Nat.zero_le _⟩ dX0_fewestMended_47) (EM.nil (w_Ch G A c)) hP hD hS (fun H locs hP hD hS => ?_)
        refine lv_istore (pc := 50) (lv' := [(11, .int r2), (0, .ref (A 0)), (1, .int x1), (2, .int x2), (3, .int x3), (4, .int x4), (5, .int x5), (6, .int x6), (7, .int x7), (8, .int x8), (9, .int x9), (10, .int x10)]) hx hb dX0_fewestMended_50 hl (by decide) rfl (fun ls hl => ?_)
        refine lv_iload (pc := 52) hx hb dX0_fewestMended_52 (lv_at hl 0 rfl) ?_
        refine lv_iload (pc := 54) hx hb dX0_fewestMended_54 (lv_at hl 8 rfl) ?_
        refine lv_icmp_ge (pc := 56) (tgt := 86) hx hb dX0_fewestMended_56 (by decide) (fun h2 => ?_) (fun h2 => ?_)
        · have hf := br_y h2 hf
          exact b_86 _ _ _ _ _ _ _ _ _ _ _ H locs ls hf hP hD hS (lv_sub hl [1, 2, 3, 4, 5, 6, 7, 8, 9, 10, 11] rfl)
        · have hf := br_n h2 hf
          refine lv_aload_n (pc := 59) hx hb dX0_fewestMended_59 rfl (lv_at hl 1 rfl) ?_
          refine lv_iload_n (pc := 60) hx hb dX0_fewestMended_60 rfl (lv_at hl 2 rfl) ?_
          refine lv_iload_n (pc := 61) hx hb dX0_fewestMended_61 rfl (lv_at hl 3 rfl) ?_
          refine lv_iload_n (pc := 62) hx hb dX0_fewestMended_62 rfl (lv_at hl 4 rfl) ?_
          refine lv_iload (pc := 63) hx hb dX0_fewestMended_63 (lv_at hl 5 rfl) ?_
          refine lv_iload (pc := 65) hx hb dX0_fewestMended_65 (lv_at hl 6 rfl) ?_
          refine lv_iload (pc := 67) hx hb dX0_fewestMended_67 (lv_at hl 10 rfl) ?_
          refine lv_iconst (pc := 69) (v := (-1 : Int32)) hx hb dX0_fewestMended_69 (by decide) ?_
          refine lv_ixor (pc := 70) hx hb dX0_fewestMended_70 ?_
          refine lv_iand (pc := 71) hx hb dX0_fewestMended_71 ?_
          obtain ⟨r3, c3, hc3, hf⟩ := ob2_some hf
          refine endi X.2.2.2.2 (runV (pc := 72) (As := [.int x1, .int x2, .int x3, .int x4, .int (x5 &&& (x9 ^^^ (-1 : Int32)))]) (rest := []) X (c_X0_differs G l A H.size c x1 x2 x3 x4 (x5 &&& (x9 ^^^ (-1 : Int32))) r3 c3 hc3) gX0_fewestMended_X0_differs k_X0_differs ⟨rfl, rfl⟩ ⟨Nat.le_of_ble_eq_true rfl, Nat.le_of_ble_eq_true rfl⟩ (EM.all (w_Ch G A c) (w_Ch G A c3)) hP hD hS (ci := 0) rfl rfl (at_Ch_0 G A c) rfl hl.1 rfl (Nat.le_of_ble_eq_true rfl) ⟨Nat.zero_le _, Nat.zero_le _⟩ dX0_fewestMended_72) (EM.all (w_Ch G A c) (w_Ch G A c3)) hP hD hS (fun H locs hP hD hS => ?_)
          refine lv_if_ne (pc := 75) (tgt := 86) hx hb dX0_fewestMended_75 (by decide) (fun h1 => ?_) (fun h1 => ?_)
          · have hf := br_n h1 hf
            exact b_86 _ _ _ _ _ _ _ _ _ _ _ H locs ls hf hP hD hS (lv_sub hl [1, 2, 3, 4, 5, 6, 7, 8, 9, 10, 11] rfl)
          · have hf := br_y h1 hf
            refine lv_iload (pc := 78) hx hb dX0_fewestMended_78 (lv_at hl 0 rfl) ?_
            refine lv_istore (pc := 80) (lv' := [(7, .int r2), (11, .int r2), (0, .ref (A 0)), (1, .int x1), (2, .int x2), (3, .int x3), (4, .int x4), (5, .int x5), (6, .int x6), (8, .int x8), (9, .int x9), (10, .int x10)]) hx hb dX0_fewestMended_80 hl (by decide) rfl (fun ls hl => ?_)
            refine lv_iload (pc := 82) hx hb dX0_fewestMended_82 (lv_at hl 10 rfl) ?_
            refine lv_istore (pc := 84) (lv' := [(8, .int x9), (7, .int r2), (11, .int r2), (0, .ref (A 0)), (1, .int x1), (2, .int x2), (3, .int x3), (4, .int x4), (5, .int x5), (6, .int x6), (9, .int x9), (10, .int x10)]) hx hb dX0_fewestMended_84 hl (by decide) rfl (fun ls hl => ?_)
            exact b_86 _ _ _ _ _ _ _ _ _ _ _ H locs ls hf hP hD hS (lv_sub hl [3, 4, 5, 6, 7, 8, 9, 1, 0, 10, 11] rfl)
  unfold f_X0_fewestMended at hf
  refine lv_aload_n (pc := 0) hx hb dX0_fewestMended_0 rfl (lv_at hl 0 rfl) ?_
  obtain ⟨r1, hc1, hf⟩ := ob1_some hf
  refine endi X.2.2.2.2 (runV (pc := 1) (As := []) (rest := []) X (c_X0_unmended G l A H.size c r1 hc1) gX0_fewestMended_X0_unmended k_X0_unmended ⟨rfl, rfl⟩ ⟨Nat.le_of_ble_eq_true rfl, Nat.le_of_ble_eq_true rfl⟩ (EM.all (w_Ch G A c) (w_Ch G A c)) hP hD hS (ci := 0) rfl rfl (at_Ch_0 G A c) rfl hl.1 rfl (Nat.le_of_ble_eq_true rfl) ⟨Nat.zero_le _, Nat.zero_le _⟩ dX0_fewestMended_1) (EM.all (w_Ch G A c) (w_Ch G A c)) hP hD hS (fun H locs hP hD hS => ?_)
  refine lv_istore (pc := 4) (lv' := [(5, .int r1), (0, .ref (A 0)), (1, .int x1), (2, .int x2), (3, .int x3), (4, .int x4)]) hx hb dX0_fewestMended_4 hl (by decide) rfl (fun ls hl => ?_)
  refine lv_aload_n (pc := 6) hx hb dX0_fewestMended_6 rfl (lv_at hl 1 rfl) ?_
  refine lv_iload_n (pc := 7) hx hb dX0_fewestMended_7 rfl (lv_at hl 3 rfl) ?_
  refine lv_iload_n (pc := 8) hx hb dX0_fewestMended_8 rfl (lv_at hl 4 rfl) ?_
  refine lv_iload (pc := 9) hx hb dX0_fewestMended_9 (lv_at hl 5 rfl) ?_
  obtain ⟨r2, hc2, hf⟩ := ob1_some hf
  refine endi X.2.2.2.2 (runV (pc := 11) (As := [.int x2, .int x3, .int x4]) (rest := []) X (c_X0_onTheWay G l A H.size c x2 x3 x4 r2 hc2) gX0_fewestMended_X0_onTheWay k_X0_onTheWay ⟨rfl, rfl⟩ ⟨Nat.le_of_ble_eq_true rfl, Nat.le_of_ble_eq_true rfl⟩ (EM.all (w_Ch G A c) (w_Ch G A c)) hP hD hS (ci := 0) rfl rfl (at_Ch_0 G A c) rfl hl.1 rfl (Nat.le_of_ble_eq_true rfl) ⟨Nat.zero_le _, Nat.zero_le _⟩ dX0_fewestMended_11) (EM.all (w_Ch G A c) (w_Ch G A c)) hP hD hS (fun H locs hP hD hS => ?_)
  refine lv_iload (pc := 14) hx hb dX0_fewestMended_14 (lv_at hl 0 rfl) ?_
  refine lv_iand (pc := 16) hx hb dX0_fewestMended_16 ?_
  refine lv_istore (pc := 17) (lv' := [(6, .int (r2 &&& r1)), (5, .int r1), (0, .ref (A 0)), (1, .int x1), (2, .int x2), (3, .int x3), (4, .int x4)]) hx hb dX0_fewestMended_17 hl (by decide) rfl (fun ls hl => ?_)
  refine lv_bipush (pc := 19) (v := (13 : Int32)) hx hb dX0_fewestMended_19 (by decide) ?_
  refine lv_istore (pc := 21) (lv' := [(7, .int (13 : Int32)), (6, .int (r2 &&& r1)), (5, .int r1), (0, .ref (A 0)), (1, .int x1), (2, .int x2), (3, .int x3), (4, .int x4)]) hx hb dX0_fewestMended_21 hl (by decide) rfl (fun ls hl => ?_)
  refine lv_bipush (pc := 23) (v := (-9 : Int32)) hx hb dX0_fewestMended_23 (by decide) ?_
  refine lv_istore (pc := 25) (lv' := [(8, .int (-9 : Int32)), (7, .int (13 : Int32)), (6, .int (r2 &&& r1)), (5, .int r1), (0, .ref (A 0)), (1, .int x1), (2, .int x2), (3, .int x3), (4, .int x4)]) hx hb dX0_fewestMended_25 hl (by decide) rfl (fun ls hl => ?_)
  refine lv_iconst (pc := 27) (v := (0 : Int32)) hx hb dX0_fewestMended_27 (by decide) ?_
  refine lv_istore (pc := 28) (lv' := [(9, .int (0 : Int32)), (8, .int (-9 : Int32)), (7, .int (13 : Int32)), (6, .int (r2 &&& r1)), (5, .int r1), (0, .ref (A 0)), (1, .int x1), (2, .int x2), (3, .int x3), (4, .int x4)]) hx hb dX0_fewestMended_28 hl (by decide) rfl (fun ls hl => ?_)
  refine lv_iconst (pc := 30) (v := (0 : Int32)) hx hb dX0_fewestMended_30 (by decide) ?_
  refine lv_istore (pc := 31) (lv' := [(10, .int (0 : Int32)), (9, .int (0 : Int32)), (8, .int (-9 : Int32)), (7, .int (13 : Int32)), (6, .int (r2 &&& r1)), (5, .int r1), (0, .ref (A 0)), (1, .int x1), (2, .int x2), (3, .int x3), (4, .int x4)]) hx hb dX0_fewestMended_31 hl (by decide) rfl (fun ls hl => ?_)
  exact l_33 FU _ _ _ _ _ _ _ _ _ _ _ H locs ls hf hP hD hS (lv_sub hl [6, 7, 8, 9, 10, 5, 4, 3, 2, 1, 0] rfl)
def r_X0_hasErrorsLeft : Room := { frames := 0, cells := 0, slots := 0, locals := 0 }
set_option maxHeartbeats 4000000 in
set_option maxRecDepth 100000 in
theorem c_X0_hasErrorsLeft (G : GT) (l : Launch) (A : Nat → Nat) (sz : Nat) (c : CS) (x1 : Int32) (r : Int32) (hf : f_X0_hasErrorsLeft c x1 = some r) : MTi l yX0_hasErrorsLeft wsX0_hasErrorsLeft r_X0_hasErrorsLeft [.ref (A 0), .int x1] G (w_Ch G A c) (w_Ch G A c) sz r := by
  refine MTz.of (cc := cX0_hasErrorsLeft) (maxL := 2) (by decide +kernel) rfl (Nat.le_of_ble_eq_true rfl) (fun p e s m av below meth cd Q B H locs ls X hret hl hP hD hS => ?_)
  have hx := X.1.1
  have hb := X.1.2.1
  have hl : lv_has ls 2 [(0, .ref (A 0)), (1, .int x1)] := hl
  have b_16 : ∀ (t0 : Int32) (H : Heap) (locs : List Loc) (ls : Array Slot), f_X0_hasErrorsLeft_16 t0 c = some r → va_P G.1 vwCl (w_Ch G A c) H → va_D B (w_Ch G A c) → va_S B s.heap H locs → lv_has ls 2 [] → W p l e r_X0_hasErrorsLeft s m av below meth cd H locs 0 0 Q (F0 m 16 ls [.int t0]) := by
    intro t0 H locs ls hf hP hD hS hl
    unfold f_X0_hasErrorsLeft_16 at hf
    obtain ⟨hz, hf⟩ := ck_some hf
    cases hf
    exact hret _ _ _ _ (isb_or hz) dX0_hasErrorsLeft_16 hP hD hS
  unfold f_X0_hasErrorsLeft at hf
  refine lv_iload_n (pc := 0) hx hb dX0_hasErrorsLeft_0 rfl (lv_at hl 1 rfl) ?_
  refine lv_bipush (pc := 1) (v := (12 : Int32)) hx hb dX0_hasErrorsLeft_1 (by decide) ?_
  refine lv_aload_n (pc := 3) hx hb dX0_hasErrorsLeft_3 rfl (lv_at hl 0 rfl) ?_
  refine wget (pc := 4) X (fun _ h9 => List.mem_cons_of_mem _ (List.mem_append_right _ h9)) hP 0 (at_Ch_0 G A c) rfl 1 (by decide) (List.mem_cons_of_mem _ (List.mem_append_left _ (List.mem_of_getElem? (i := 0) rfl))) rfl (v := .int (c 1 0)) rfl dX0_hasErrorsLeft_4 ?_
  refine lv_isub (pc := 7) hx hb dX0_hasErrorsLeft_7 ?_
  refine lv_icmp_gt (pc := 8) (tgt := 15) hx hb dX0_hasErrorsLeft_8 (by decide) (fun h1 => ?_) (fun h1 => ?_)
  · have hf := br_y h1 hf
    refine lv_iconst (pc := 15) (v := (0 : Int32)) hx hb dX0_hasErrorsLeft_15 (by decide) ?_
    exact b_16 _ H locs ls hf hP hD hS (lv_sub hl [] rfl)
  · have hf := br_n h1 hf
    refine lv_iconst (pc := 11) (v := (1 : Int32)) hx hb dX0_hasErrorsLeft_11 (by decide) ?_
    refine lv_goto (pc := 12) (tgt := 16) hx hb dX0_hasErrorsLeft_12 (by decide) ?_
    exact b_16 _ H locs ls hf hP hD hS (lv_sub hl [] rfl)
def r_X0_hasTurnsLeft : Room := { frames := 0, cells := 0, slots := 0, locals := 0 }
set_option maxHeartbeats 4000000 in
set_option maxRecDepth 100000 in
theorem c_X0_hasTurnsLeft (G : GT) (l : Launch) (A : Nat → Nat) (sz : Nat) (c : CS) (x1 : Int32) (r : Int32) (hf : f_X0_hasTurnsLeft c x1 = some r) : MTi l yX0_hasTurnsLeft wsX0_hasTurnsLeft r_X0_hasTurnsLeft [.ref (A 0), .int x1] G (w_Ch G A c) (w_Ch G A c) sz r := by
  refine MTz.of (cc := cX0_hasTurnsLeft) (maxL := 2) (by decide +kernel) rfl (Nat.le_of_ble_eq_true rfl) (fun p e s m av below meth cd Q B H locs ls X hret hl hP hD hS => ?_)
  have hx := X.1.1
  have hb := X.1.2.1
  have hl : lv_has ls 2 [(0, .ref (A 0)), (1, .int x1)] := hl
  have b_16 : ∀ (t0 : Int32) (H : Heap) (locs : List Loc) (ls : Array Slot), f_X0_hasTurnsLeft_16 t0 c = some r → va_P G.1 vwCl (w_Ch G A c) H → va_D B (w_Ch G A c) → va_S B s.heap H locs → lv_has ls 2 [] → W p l e r_X0_hasTurnsLeft s m av below meth cd H locs 0 0 Q (F0 m 16 ls [.int t0]) := by
    intro t0 H locs ls hf hP hD hS hl
    unfold f_X0_hasTurnsLeft_16 at hf
    obtain ⟨hz, hf⟩ := ck_some hf
    cases hf
    exact hret _ _ _ _ (isb_or hz) dX0_hasTurnsLeft_16 hP hD hS
  unfold f_X0_hasTurnsLeft at hf
  refine lv_iload_n (pc := 0) hx hb dX0_hasTurnsLeft_0 rfl (lv_at hl 1 rfl) ?_
  refine lv_bipush (pc := 1) (v := (40 : Int32)) hx hb dX0_hasTurnsLeft_1 (by decide) ?_
  refine lv_aload_n (pc := 3) hx hb dX0_hasTurnsLeft_3 rfl (lv_at hl 0 rfl) ?_
  refine wget (pc := 4) X (fun _ h9 => List.mem_cons_of_mem _ (List.mem_append_right _ h9)) hP 0 (at_Ch_0 G A c) rfl 4 (by decide) (List.mem_cons_of_mem _ (List.mem_append_left _ (List.mem_of_getElem? (i := 0) rfl))) rfl (v := .int (c 4 0)) rfl dX0_hasTurnsLeft_4 ?_
  refine lv_isub (pc := 7) hx hb dX0_hasTurnsLeft_7 ?_
  refine lv_icmp_gt (pc := 8) (tgt := 15) hx hb dX0_hasTurnsLeft_8 (by decide) (fun h1 => ?_) (fun h1 => ?_)
  · have hf := br_y h1 hf
    refine lv_iconst (pc := 15) (v := (0 : Int32)) hx hb dX0_hasTurnsLeft_15 (by decide) ?_
    exact b_16 _ H locs ls hf hP hD hS (lv_sub hl [] rfl)
  · have hf := br_n h1 hf
    refine lv_iconst (pc := 11) (v := (1 : Int32)) hx hb dX0_hasTurnsLeft_11 (by decide) ?_
    refine lv_goto (pc := 12) (tgt := 16) hx hb dX0_hasTurnsLeft_12 (by decide) ?_
    exact b_16 _ H locs ls hf hP hD hS (lv_sub hl [] rfl)
def r_X0_idleDays : Room := { frames := 4, cells := 0, slots := 0, locals := 99 }
set_option maxHeartbeats 4000000 in
set_option maxRecDepth 100000 in
theorem c_X0_idleDays (G : GT) (l : Launch) (A : Nat → Nat) (sz : Nat) (c : CS) (x1 : Int32) (r : Int32) (c' : CS) (hf : f_X0_idleDays c x1 = some (r, c')) : MTi l yX0_idleDays wsX0_idleDays r_X0_idleDays [.ref (A 0), .int x1] G (w_Ch G A c) (w_Ch G A c') sz r := by
  refine MTi.of (cc := cX0_idleDays) (maxL := 4) (by decide +kernel) rfl (Nat.le_of_ble_eq_true rfl) (fun p e s m av below meth cd Q B H locs ls X hret hl hP hD hS => ?_)
  have hx := X.1.1
  have hb := X.1.2.1
  have hl : lv_has ls 4 [(0, .ref (A 0)), (1, .int x1)] := hl
  have l_4 : ∀ (n4 : Nat), ∀ (x1 : Int32) (x2 : Int32) (x3 : Int32) (c : CS) (H : Heap) (locs : List Loc) (ls : Array Slot), f_X0_idleDays_4 n4 x1 x2 x3 c = some (r, c') → va_P G.1 vwCl (w_Ch G A c) H → va_D B (w_Ch G A c) → va_S B s.heap H locs → lv_has ls 4 [(0, .ref (A 0)), (1, .int x1), (2, .int x2), (3, .int x3)] → W p l e r_X0_idleDays s m av below meth cd H locs 0 0 Q (F0 m 4 ls []) := by
    intro n4
    induction n4 with
    | zero =>
      intro x1 x2 x3 c H locs ls hf hP hD hS hl
      rw [f_X0_idleDays_4] at hf
      cases hf
    | succ n4 ih4 =>
      have b_32 : ∀ (x1 : Int32) (x2 : Int32) (x3 : Int32) (c : CS) (H : Heap) (locs : List Loc) (ls : Array Slot), f_X0_idleDays_32 (f_X0_idleDays_4 n4) x1 x2 x3 c = some (r, c') → va_P G.1 vwCl (w_Ch G A c) H → va_D B (w_Ch G A c) → va_S B s.heap H locs → lv_has ls 4 [(0, .ref (A 0)), (1, .int x1), (2, .int x2), (3, .int x3)] → W p l e r_X0_idleDays s m av below meth cd H locs 0 0 Q (F0 m 32 ls []) := by
        intro x1 x2 x3 c H locs ls hf hP hD hS hl
        unfold f_X0_idleDays_32 at hf
        refine lv_iinc (pc := 32) (v := (x3 + (1 : Int32))) (lv' := [(3, .int (x3 + (1 : Int32))), (0, .ref (A 0)), (1, .int x1), (2, .int x2)]) hx hb dX0_idleDays_32 hl (k := 3) rfl rfl (by decide) rfl (fun ls hl => ?_)
        refine lv_goto (pc := 35) (tgt := 4) hx hb dX0_idleDays_35 (by decide) ?_
        exact ih4 _ _ _ _ H locs ls hf hP hD hS (lv_sub hl [1, 2, 3, 0] rfl)
      intro x1 x2 x3 c H locs ls hf hP hD hS hl
      rw [f_X0_idleDays_4] at hf
      refine lv_iload_n (pc := 4) hx hb dX0_idleDays_4 rfl (lv_at hl 3 rfl) ?_
      refine lv_bipush (pc := 5) (v := (20 : Int32)) hx hb dX0_idleDays_5 (by decide) ?_
      refine lv_icmp_ge (pc := 7) (tgt := 38) hx hb dX0_idleDays_7 (by decide) (fun h2 => ?_) (fun h2 => ?_)
      · have hf := br_y h2 hf
        refine lv_iload_n (pc := 38) hx hb dX0_idleDays_38 rfl (lv_at hl 2 rfl) ?_
        cases hf
        exact hret _ _ _ _ dX0_idleDays_39 hP hD hS
      · have hf := br_n h2 hf
        refine lv_aload_n (pc := 10) hx hb dX0_idleDays_10 rfl (lv_at hl 0 rfl) ?_
        refine lv_iconst (pc := 11) (v := (0 : Int32)) hx hb dX0_idleDays_11 (by decide) ?_
        refine lv_iload_n (pc := 12) hx hb dX0_idleDays_12 rfl (lv_at hl 3 rfl) ?_
        refine lv_iload_n (pc := 13) hx hb dX0_idleDays_13 rfl (lv_at hl 1 rfl) ?_
        obtain ⟨r1, c1, hc1, hf⟩ := ob2_some hf
        refine endi X.2.2.2.2 (runV (pc := 14) (As := [.int (0 : Int32), .int x3, .int x1]) (rest := []) X (c_X0_done G l A H.size c (0 : Int32) x3 x1 r1 c1 hc1) gX0_idleDays_X0_done k_X0_done ⟨rfl, rfl⟩ ⟨Nat.le_of_ble_eq_true rfl, Nat.le_of_ble_eq_true rfl⟩ (EM.all (w_Ch G A c) (w_Ch G A c1)) hP hD hS (ci := 0) rfl rfl (at_Ch_0 G A c) rfl hl.1 rfl (Nat.le_of_ble_eq_true rfl) ⟨Nat.zero_le _, Nat.zero_le _⟩ dX0_idleDays_14) (EM.all (w_Ch G A c) (w_Ch G A c1)) hP hD hS (fun H locs hP hD hS => ?_)
        refine lv_aload_n (pc := 17) hx hb dX0_idleDays_17 rfl (lv_at hl 0 rfl) ?_
        refine lv_iconst (pc := 18) (v := (0 : Int32)) hx hb dX0_idleDays_18 (by decide) ?_
        refine lv_iload_n (pc := 19) hx hb dX0_idleDays_19 rfl (lv_at hl 3 rfl) ?_
        refine lv_iconst (pc := 20) (v := (1 : Int32)) hx hb dX0_idleDays_20 (by decide) ?_
        refine lv_isub (pc := 21) hx hb dX0_idleDays_21 ?_
        refine lv_iload_n (pc := 22) hx hb dX0_idleDays_22 rfl (lv_at hl 1 rfl) ?_
        obtain ⟨r2, c2, hc2, hf⟩ := ob2_some hf
        refine endi X.2.2.2.2 (runV (pc := 23) (As := [.int (0 : Int32), .int (x3 - (1 : Int32)), .int x1]) (rest := [.int r1]) X (c_X0_done G l A H.size c1 (0 : Int32) (x3 - (1 : Int32)) x1 r2 c2 hc2) gX0_idleDays_X0_done k_X0_done ⟨rfl, rfl⟩ ⟨Nat.le_of_ble_eq_true rfl, Nat.le_of_ble_eq_true rfl⟩ (EM.all (w_Ch G A c1) (w_Ch G A c2)) hP hD hS (ci := 0) rfl rfl (at_Ch_0 G A c1) rfl hl.1 rfl (Nat.le_of_ble_eq_true rfl) ⟨Nat.zero_le _, Nat.zero_le _⟩ dX0_idleDays_23) (EM.all (w_Ch G A c1) (w_Ch G A c2)) hP hD hS (fun H locs hP hD hS => ?_)
        refine lv_icmp_ne (pc := 26) (tgt := 32) hx hb dX0_idleDays_26 (by decide) (fun h1 => ?_) (fun h1 => ?_)
        · have hf := br_n h1 hf
          exact b_32 _ _ _ _ H locs ls hf hP hD hS (lv_sub hl [0, 1, 2, 3] rfl)
        · have hf := br_y h1 hf
          refine lv_iinc (pc := 29) (v := (x2 + (1 : Int32))) (lv' := [(2, .int (x2 + (1 : Int32))), (0, .ref (A 0)), (1, .int x1), (3, .int x3)]) hx hb dX0_idleDays_29 hl (k := 2) rfl rfl (by decide) rfl (fun ls hl => ?_)
          exact b_32 _ _ _ _ H locs ls hf hP hD hS (lv_sub hl [1, 2, 0, 3] rfl)
  unfold f_X0_idleDays at hf
  refine lv_iconst (pc := 0) (v := (0 : Int32)) hx hb dX0_idleDays_0 (by decide) ?_
  refine lv_istore_n (pc := 1) (lv' := [(2, .int (0 : Int32)), (0, .ref (A 0)), (1, .int x1)]) hx hb dX0_idleDays_1 rfl hl (by decide) rfl (fun ls hl => ?_)
  refine lv_iconst (pc := 2) (v := (1 : Int32)) hx hb dX0_idleDays_2 (by decide) ?_
  refine lv_istore_n (pc := 3) (lv' := [(3, .int (1 : Int32)), (2, .int (0 : Int32)), (0, .ref (A 0)), (1, .int x1)]) hx hb dX0_idleDays_3 rfl hl (by decide) rfl (fun ls hl => ?_)
  exact l_4 FU _ _ _ _ H locs ls hf hP hD hS (lv_sub hl [2, 3, 1, 0] rfl)
def r_X0_likeTowns : Room := { frames := 4, cells := 0, slots := 0, locals := 99 }
set_option maxHeartbeats 4000000 in
set_option maxRecDepth 100000 in
theorem c_X0_likeTowns (G : GT) (l : Launch) (A : Nat → Nat) (sz : Nat) (c : CS) (x1 : Int32) (r : Int32) (c' : CS) (hf : f_X0_likeTowns c x1 = some (r, c')) : MTi l yX0_likeTowns wsX0_likeTowns r_X0_likeTowns [.ref (A 0), .int x1] G (w_Ch G A c) (w_Ch G A c') sz r := by
  refine MTi.of (cc := cX0_likeTowns) (maxL := 4) (by decide +kernel) rfl (Nat.le_of_ble_eq_true rfl) (fun p e s m av below meth cd Q B H locs ls X hret hl hP hD hS => ?_)
  have hx := X.1.1
  have hb := X.1.2.1
  have hl : lv_has ls 4 [(0, .ref (A 0)), (1, .int x1)] := hl
  have l_4 : ∀ (n4 : Nat), ∀ (x1 : Int32) (x2 : Int32) (x3 : Int32) (c : CS) (H : Heap) (locs : List Loc) (ls : Array Slot), f_X0_likeTowns_4 n4 x1 x2 x3 c = some (r, c') → va_P G.1 vwCl (w_Ch G A c) H → va_D B (w_Ch G A c) → va_S B s.heap H locs → lv_has ls 4 [(0, .ref (A 0)), (1, .int x1), (2, .int x2), (3, .int x3)] → W p l e r_X0_likeTowns s m av below meth cd H locs 0 0 Q (F0 m 4 ls []) := by
    intro n4
    induction n4 with
    | zero =>
      intro x1 x2 x3 c H locs ls hf hP hD hS hl
      rw [f_X0_likeTowns_4] at hf
      cases hf
    | succ n4 ih4 =>
      have b_31 : ∀ (x1 : Int32) (x2 : Int32) (x3 : Int32) (c : CS) (H : Heap) (locs : List Loc) (ls : Array Slot), f_X0_likeTowns_31 (f_X0_likeTowns_4 n4) x1 x2 x3 c = some (r, c') → va_P G.1 vwCl (w_Ch G A c) H → va_D B (w_Ch G A c) → va_S B s.heap H locs → lv_has ls 4 [(0, .ref (A 0)), (1, .int x1), (2, .int x2), (3, .int x3)] → W p l e r_X0_likeTowns s m av below meth cd H locs 0 0 Q (F0 m 31 ls []) := by
        intro x1 x2 x3 c H locs ls hf hP hD hS hl
        unfold f_X0_likeTowns_31 at hf
        refine lv_iinc (pc := 31) (v := (x3 + (1 : Int32))) (lv' := [(3, .int (x3 + (1 : Int32))), (0, .ref (A 0)), (1, .int x1), (2, .int x2)]) hx hb dX0_likeTowns_31 hl (k := 3) rfl rfl (by decide) rfl (fun ls hl => ?_)
        refine lv_goto (pc := 34) (tgt := 4) hx hb dX0_likeTowns_34 (by decide) ?_
        exact ih4 _ _ _ _ H locs ls hf hP hD hS (lv_sub hl [1, 2, 3, 0] rfl)
      intro x1 x2 x3 c H locs ls hf hP hD hS hl
      rw [f_X0_likeTowns_4] at hf
      refine lv_iload_n (pc := 4) hx hb dX0_likeTowns_4 rfl (lv_at hl 3 rfl) ?_
      refine lv_iconst (pc := 5) (v := (5 : Int32)) hx hb dX0_likeTowns_5 (by decide) ?_
      refine lv_icmp_ge (pc := 6) (tgt := 37) hx hb dX0_likeTowns_6 (by decide) (fun h2 => ?_) (fun h2 => ?_)
      · have hf := br_y h2 hf
        refine lv_iload_n (pc := 37) hx hb dX0_likeTowns_37 rfl (lv_at hl 2 rfl) ?_
        cases hf
        exact hret _ _ _ _ dX0_likeTowns_38 hP hD hS
      · have hf := br_n h2 hf
        refine lv_aload_n (pc := 9) hx hb dX0_likeTowns_9 rfl (lv_at hl 0 rfl) ?_
        refine lv_iload_n (pc := 10) hx hb dX0_likeTowns_10 rfl (lv_at hl 3 rfl) ?_
        refine lv_bipush (pc := 11) (v := (19 : Int32)) hx hb dX0_likeTowns_11 (by decide) ?_
        refine lv_iload_n (pc := 13) hx hb dX0_likeTowns_13 rfl (lv_at hl 1 rfl) ?_
        obtain ⟨r1, c1, hc1, hf⟩ := ob2_some hf
        refine endi X.2.2.2.2 (runV (pc := 14) (As := [.int x3, .int (19 : Int32), .int x1]) (rest := []) X (c_X0_done G l A H.size c x3 (19 : Int32) x1 r1 c1 hc1) gX0_likeTowns_X0_done k_X0_done ⟨rfl, rfl⟩ ⟨Nat.le_of_ble_eq_true rfl, Nat.le_of_ble_eq_true rfl⟩ (EM.all (w_Ch G A c) (w_Ch G A c1)) hP hD hS (ci := 0) rfl rfl (at_Ch_0 G A c) rfl hl.1 rfl (Nat.le_of_ble_eq_true rfl) ⟨Nat.zero_le _, Nat.zero_le _⟩ dX0_likeTowns_14) (EM.all (w_Ch G A c) (w_Ch G A c1)) hP hD hS (fun H locs hP hD hS => ?_)
        refine lv_aload_n (pc := 17) hx hb dX0_likeTowns_17 rfl (lv_at hl 0 rfl) ?_
        refine lv_iconst (pc := 18) (v := (0 : Int32)) hx hb dX0_likeTowns_18 (by decide) ?_
        refine lv_bipush (pc := 19) (v := (19 : Int32)) hx hb dX0_likeTowns_19 (by decide) ?_
        refine lv_iload_n (pc := 21) hx hb dX0_likeTowns_21 rfl (lv_at hl 1 rfl) ?_
        obtain ⟨r2, c2, hc2, hf⟩ := ob2_some hf
        refine endi X.2.2.2.2 (runV (pc := 22) (As := [.int (0 : Int32), .int (19 : Int32), .int x1]) (rest := [.int r1]) X (c_X0_done G l A H.size c1 (0 : Int32) (19 : Int32) x1 r2 c2 hc2) gX0_likeTowns_X0_done k_X0_done ⟨rfl, rfl⟩ ⟨Nat.le_of_ble_eq_true rfl, Nat.le_of_ble_eq_true rfl⟩ (EM.all (w_Ch G A c1) (w_Ch G A c2)) hP hD hS (ci := 0) rfl rfl (at_Ch_0 G A c1) rfl hl.1 rfl (Nat.le_of_ble_eq_true rfl) ⟨Nat.zero_le _, Nat.zero_le _⟩ dX0_likeTowns_22) (EM.all (w_Ch G A c1) (w_Ch G A c2)) hP hD hS (fun H locs hP hD hS => ?_)
        refine lv_icmp_ne (pc := 25) (tgt := 31) hx hb dX0_likeTowns_25 (by decide) (fun h1 => ?_) (fun h1 => ?_)
        · have hf := br_n h1 hf
          exact b_31 _ _ _ _ H locs ls hf hP hD hS (lv_sub hl [0, 1, 2, 3] rfl)
        · have hf := br_y h1 hf
          refine lv_iinc (pc := 28) (v := (x2 + (1 : Int32))) (lv' := [(2, .int (x2 + (1 : Int32))), (0, .ref (A 0)), (1, .int x1), (3, .int x3)]) hx hb dX0_likeTowns_28 hl (k := 2) rfl rfl (by decide) rfl (fun ls hl => ?_)
          exact b_31 _ _ _ _ H locs ls hf hP hD hS (lv_sub hl [1, 2, 0, 3] rfl)
  unfold f_X0_likeTowns at hf
  refine lv_iconst (pc := 0) (v := (0 : Int32)) hx hb dX0_likeTowns_0 (by decide) ?_
  refine lv_istore_n (pc := 1) (lv' := [(2, .int (0 : Int32)), (0, .ref (A 0)), (1, .int x1)]) hx hb dX0_likeTowns_1 rfl hl (by decide) rfl (fun ls hl => ?_)
  refine lv_iconst (pc := 2) (v := (1 : Int32)) hx hb dX0_likeTowns_2 (by decide) ?_
  refine lv_istore_n (pc := 3) (lv' := [(3, .int (1 : Int32)), (2, .int (0 : Int32)), (0, .ref (A 0)), (1, .int x1)]) hx hb dX0_likeTowns_3 rfl hl (by decide) rfl (fun ls hl => ?_)
  exact l_4 FU _ _ _ _ H locs ls hf hP hD hS (lv_sub hl [2, 3, 1, 0] rfl)
def r_X0_noughtDays : Room := { frames := 4, cells := 0, slots := 0, locals := 99 }
set_option maxHeartbeats 4000000 in
set_option maxRecDepth 100000 in
theorem c_X0_noughtDays (G : GT) (l : Launch) (A : Nat → Nat) (sz : Nat) (c : CS) (x1 : Int32) (r : Int32) (c' : CS) (hf : f_X0_noughtDays c x1 = some (r, c')) : MTi l yX0_noughtDays wsX0_noughtDays r_X0_noughtDays [.ref (A 0), .int x1] G (w_Ch G A c) (w_Ch G A c') sz r := by
  refine MTi.of (cc := cX0_noughtDays) (maxL := 4) (by decide +kernel) rfl (Nat.le_of_ble_eq_true rfl) (fun p e s m av below meth cd Q B H locs ls X hret hl hP hD hS => ?_)
  have hx := X.1.1
  have hb := X.1.2.1
  have hl : lv_has ls 4 [(0, .ref (A 0)), (1, .int x1)] := hl
  have l_4 : ∀ (n4 : Nat), ∀ (x1 : Int32) (x2 : Int32) (x3 : Int32) (c : CS) (H : Heap) (locs : List Loc) (ls : Array Slot), f_X0_noughtDays_4 n4 x1 x2 x3 c = some (r, c') → va_P G.1 vwCl (w_Ch G A c) H → va_D B (w_Ch G A c) → va_S B s.heap H locs → lv_has ls 4 [(0, .ref (A 0)), (1, .int x1), (2, .int x2), (3, .int x3)] → W p l e r_X0_noughtDays s m av below meth cd H locs 0 0 Q (F0 m 4 ls []) := by
    intro n4
    induction n4 with
    | zero =>
      intro x1 x2 x3 c H locs ls hf hP hD hS hl
      rw [f_X0_noughtDays_4] at hf
      cases hf
    | succ n4 ih4 =>
      have b_23 : ∀ (x1 : Int32) (x2 : Int32) (x3 : Int32) (c : CS) (H : Heap) (locs : List Loc) (ls : Array Slot), f_X0_noughtDays_23 (f_X0_noughtDays_4 n4) x1 x2 x3 c = some (r, c') → va_P G.1 vwCl (w_Ch G A c) H → va_D B (w_Ch G A c) → va_S B s.heap H locs → lv_has ls 4 [(0, .ref (A 0)), (1, .int x1), (2, .int x2), (3, .int x3)] → W p l e r_X0_noughtDays s m av below meth cd H locs 0 0 Q (F0 m 23 ls []) := by
        intro x1 x2 x3 c H locs ls hf hP hD hS hl
        unfold f_X0_noughtDays_23 at hf
        refine lv_iinc (pc := 23) (v := (x3 + (1 : Int32))) (lv' := [(3, .int (x3 + (1 : Int32))), (0, .ref (A 0)), (1, .int x1), (2, .int x2)]) hx hb dX0_noughtDays_23 hl (k := 3) rfl rfl (by decide) rfl (fun ls hl => ?_)
        refine lv_goto (pc := 26) (tgt := 4) hx hb dX0_noughtDays_26 (by decide) ?_
        exact ih4 _ _ _ _ H locs ls hf hP hD hS (lv_sub hl [1, 2, 3, 0] rfl)
      intro x1 x2 x3 c H locs ls hf hP hD hS hl
      rw [f_X0_noughtDays_4] at hf
      refine lv_iload_n (pc := 4) hx hb dX0_noughtDays_4 rfl (lv_at hl 3 rfl) ?_
      refine lv_bipush (pc := 5) (v := (20 : Int32)) hx hb dX0_noughtDays_5 (by decide) ?_
      refine lv_icmp_ge (pc := 7) (tgt := 29) hx hb dX0_noughtDays_7 (by decide) (fun h2 => ?_) (fun h2 => ?_)
      · have hf := br_y h2 hf
        refine lv_iload_n (pc := 29) hx hb dX0_noughtDays_29 rfl (lv_at hl 2 rfl) ?_
        cases hf
        exact hret _ _ _ _ dX0_noughtDays_30 hP hD hS
      · have hf := br_n h2 hf
        refine lv_aload_n (pc := 10) hx hb dX0_noughtDays_10 rfl (lv_at hl 0 rfl) ?_
        refine lv_iconst (pc := 11) (v := (0 : Int32)) hx hb dX0_noughtDays_11 (by decide) ?_
        refine lv_iload_n (pc := 12) hx hb dX0_noughtDays_12 rfl (lv_at hl 3 rfl) ?_
        refine lv_iload_n (pc := 13) hx hb dX0_noughtDays_13 rfl (lv_at hl 1 rfl) ?_
        obtain ⟨r1, c1, hc1, hf⟩ := ob2_some hf
        refine endi X.2.2.2.2 (runV (pc := 14) (As := [.int (0 : Int32), .int x3, .int x1]) (rest := []) X (c_X0_done G l A H.size c (0 : Int32) x3 x1 r1 c1 hc1) gX0_noughtDays_X0_done k_X0_done ⟨rfl, rfl⟩ ⟨Nat.le_of_ble_eq_true rfl, Nat.le_of_ble_eq_true rfl⟩ (EM.all (w_Ch G A c) (w_Ch G A c1)) hP hD hS (ci := 0) rfl rfl (at_Ch_0 G A c) rfl hl.1 rfl (Nat.le_of_ble_eq_true rfl) ⟨Nat.zero_le _, Nat.zero_le _⟩ dX0_noughtDays_14) (EM.all (w_Ch G A c) (w_Ch G A c1)) hP hD hS (fun H locs hP hD hS => ?_)
        refine lv_if_ne (pc := 17) (tgt := 23) hx hb dX0_noughtDays_17 (by decide) (fun h1 => ?_) (fun h1 => ?_)
        · have hf := br_n h1 hf
          exact b_23 _ _ _ _ H locs ls hf hP hD hS (lv_sub hl [0, 1, 2, 3] rfl)
        · have hf := br_y h1 hf
          refine lv_iinc (pc := 20) (v := (x2 + (1 : Int32))) (lv' := [(2, .int (x2 + (1 : Int32))), (0, .ref (A 0)), (1, .int x1), (3, .int x3)]) hx hb dX0_noughtDays_20 hl (k := 2) rfl rfl (by decide) rfl (fun ls hl => ?_)
          exact b_23 _ _ _ _ H locs ls hf hP hD hS (lv_sub hl [1, 2, 0, 3] rfl)
  unfold f_X0_noughtDays at hf
  refine lv_iconst (pc := 0) (v := (0 : Int32)) hx hb dX0_noughtDays_0 (by decide) ?_
  refine lv_istore_n (pc := 1) (lv' := [(2, .int (0 : Int32)), (0, .ref (A 0)), (1, .int x1)]) hx hb dX0_noughtDays_1 rfl hl (by decide) rfl (fun ls hl => ?_)
  refine lv_iconst (pc := 2) (v := (0 : Int32)) hx hb dX0_noughtDays_2 (by decide) ?_
  refine lv_istore_n (pc := 3) (lv' := [(3, .int (0 : Int32)), (2, .int (0 : Int32)), (0, .ref (A 0)), (1, .int x1)]) hx hb dX0_noughtDays_3 rfl hl (by decide) rfl (fun ls hl => ?_)
  exact l_4 FU _ _ _ _ H locs ls hf hP hD hS (lv_sub hl [2, 3, 1, 0] rfl)
def r_X0_othersAlike : Room := { frames := 4, cells := 0, slots := 0, locals := 99 }
set_option maxHeartbeats 4000000 in
set_option maxRecDepth 100000 in
theorem c_X0_othersAlike (G : GT) (l : Launch) (A : Nat → Nat) (sz : Nat) (c : CS) (x1 : Int32) (r : Int32) (c' : CS) (hf : f_X0_othersAlike c x1 = some (r, c')) : MTi l yX0_othersAlike wsX0_othersAlike r_X0_othersAlike [.ref (A 0), .int x1] G (w_Ch G A c) (w_Ch G A c') sz r := by
  refine MTi.of (cc := cX0_othersAlike) (maxL := 4) (by decide +kernel) rfl (Nat.le_of_ble_eq_true rfl) (fun p e s m av below meth cd Q B H locs ls X hret hl hP hD hS => ?_)
  have hx := X.1.1
  have hb := X.1.2.1
  have hl : lv_has ls 4 [(0, .ref (A 0)), (1, .int x1)] := hl
  have l_4 : ∀ (n4 : Nat), ∀ (x1 : Int32) (x2 : Int32) (x3 : Int32) (c : CS) (H : Heap) (locs : List Loc) (ls : Array Slot), f_X0_othersAlike_4 n4 x1 x2 x3 c = some (r, c') → va_P G.1 vwCl (w_Ch G A c) H → va_D B (w_Ch G A c) → va_S B s.heap H locs → lv_has ls 4 [(0, .ref (A 0)), (1, .int x1), (2, .int x2), (3, .int x3)] → W p l e r_X0_othersAlike s m av below meth cd H locs 0 0 Q (F0 m 4 ls []) := by
    intro n4
    induction n4 with
    | zero =>
      intro x1 x2 x3 c H locs ls hf hP hD hS hl
      rw [f_X0_othersAlike_4] at hf
      cases hf
    | succ n4 ih4 =>
      have b_43 : ∀ (x1 : Int32) (x2 : Int32) (x3 : Int32) (c : CS) (H : Heap) (locs : List Loc) (ls : Array Slot), f_X0_othersAlike_43 (f_X0_othersAlike_4 n4) x1 x2 x3 c = some (r, c') → va_P G.1 vwCl (w_Ch G A c) H → va_D B (w_Ch G A c) → va_S B s.heap H locs → lv_has ls 4 [(0, .ref (A 0)), (1, .int x1), (2, .int x2), (3, .int x3)] → W p l e r_X0_othersAlike s m av below meth cd H locs 0 0 Q (F0 m 43 ls []) := by
        intro x1 x2 x3 c H locs ls hf hP hD hS hl
        unfold f_X0_othersAlike_43 at hf
        refine lv_iinc (pc := 43) (v := (x3 + (1 : Int32))) (lv' := [(3, .int (x3 + (1 : Int32))), (0, .ref (A 0)), (1, .int x1), (2, .int x2)]) hx hb dX0_othersAlike_43 hl (k := 3) rfl rfl (by decide) rfl (fun ls hl => ?_)
        refine lv_goto (pc := 46) (tgt := 4) hx hb dX0_othersAlike_46 (by decide) ?_
        exact ih4 _ _ _ _ H locs ls hf hP hD hS (lv_sub hl [1, 2, 3, 0] rfl)
      intro x1 x2 x3 c H locs ls hf hP hD hS hl
      rw [f_X0_othersAlike_4] at hf
      refine lv_iload_n (pc := 4) hx hb dX0_othersAlike_4 rfl (lv_at hl 3 rfl) ?_
      refine lv_aload_n (pc := 5) hx hb dX0_othersAlike_5 rfl (lv_at hl 0 rfl) ?_
      refine wget (pc := 6) X (fun _ h9 => List.mem_cons_of_mem _ (List.mem_append_right _ h9)) hP 0 (at_Ch_0 G A c) rfl 0 (by decide) (List.mem_cons_of_mem _ (List.mem_append_left _ (List.mem_append_left _ (List.mem_of_getElem? (i := 0) rfl)))) rfl (v := .int (c 0 0)) rfl dX0_othersAlike_6 ?_
      refine lv_icmp_ge (pc := 9) (tgt := 49) hx hb dX0_othersAlike_9 (by decide) (fun h3 => ?_) (fun h3 => ?_)
      · have hf := br_y h3 hf
        refine lv_iload_n (pc := 49) hx hb dX0_othersAlike_49 rfl (lv_at hl 2 rfl) ?_
        cases hf
        exact hret _ _ _ _ dX0_othersAlike_50 hP hD hS
      · have hf := br_n h3 hf
        refine lv_iload_n (pc := 12) hx hb dX0_othersAlike_12 rfl (lv_at hl 3 rfl) ?_
        refine lv_iload_n (pc := 13) hx hb dX0_othersAlike_13 rfl (lv_at hl 1 rfl) ?_
        refine lv_icmp_eq (pc := 14) (tgt := 43) hx hb dX0_othersAlike_14 (by decide) (fun h2 => ?_) (fun h2 => ?_)
        · have hf := br_y h2 hf
          exact b_43 _ _ _ _ H locs ls hf hP hD hS (lv_sub hl [0, 1, 2, 3] rfl)
        · have hf := br_n h2 hf
          refine lv_aload_n (pc := 17) hx hb dX0_othersAlike_17 rfl (lv_at hl 0 rfl) ?_
          refine lv_iconst (pc := 18) (v := (0 : Int32)) hx hb dX0_othersAlike_18 (by decide) ?_
          refine lv_aload_n (pc := 19) hx hb dX0_othersAlike_19 rfl (lv_at hl 0 rfl) ?_
          refine wget (pc := 20) X (fun _ h9 => List.mem_cons_of_mem _ (List.mem_append_right _ h9)) hP 0 (at_Ch_0 G A c) rfl 3 (by decide) (List.mem_cons_of_mem _ (List.mem_append_left _ (List.mem_append_left _ (List.mem_of_getElem? (i := 1) rfl)))) rfl (v := .int (c 3 0)) rfl dX0_othersAlike_20 ?_
          refine lv_iload_n (pc := 23) hx hb dX0_othersAlike_23 rfl (lv_at hl 3 rfl) ?_
          obtain ⟨r1, c1, hc1, hf⟩ := ob2_some hf
          refine endi X.2.2.2.2 (runV (pc := 24) (As := [.int (0 : Int32), .int (c 3 0), .int x3]) (rest := []) X (c_X0_done G l A H.size c (0 : Int32) (c 3 0) x3 r1 c1 hc1) gX0_othersAlike_X0_done k_X0_done ⟨rfl, rfl⟩ ⟨Nat.le_of_ble_eq_true rfl, Nat.le_of_ble_eq_true rfl⟩ (EM.all (w_Ch G A c) (w_Ch G A c1)) hP hD hS (ci := 0) rfl rfl (at_Ch_0 G A c) rfl hl.1 rfl (Nat.le_of_ble_eq_true rfl) ⟨Nat.zero_le _, Nat.zero_le _⟩ dX0_othersAlike_24) (EM.all (w_Ch G A c) (w_Ch G A c1)) hP hD hS (fun H locs hP hD hS => ?_)
          refine lv_aload_n (pc := 27) hx hb dX0_othersAlike_27 rfl (lv_at hl 0 rfl) ?_
          refine lv_iconst (pc := 28) (v := (0 : Int32)) hx hb dX0_othersAlike_28 (by decide) ?_
          refine lv_aload_n (pc := 29) hx hb dX0_othersAlike_29 rfl (lv_at hl 0 rfl) ?_
          refine wget (pc := 30) X (fun _ h9 => List.mem_cons_of_mem _ (List.mem_append_right _ h9)) hP 0 (at_Ch_0 G A c1) rfl 3 (by decide) (List.mem_cons_of_mem _ (List.mem_append_left _ (List.mem_append_left _ (List.mem_of_getElem? (i := 1) rfl)))) rfl (v := .int (c1 3 0)) rfl dX0_othersAlike_30 ?_
          refine lv_iload_n (pc := 33) hx hb dX0_othersAlike_33 rfl (lv_at hl 1 rfl) ?_
          obtain ⟨r2, c2, hc2, hf⟩ := ob2_some hf
          refine endi X.2.2.2.2 (runV (pc := 34) (As := [.int (0 : Int32), .int (c1 3 0), .int x1]) (rest := [.int r1]) X (c_X0_done G l A H.size c1 (0 : Int32) (c1 3 0) x1 r2 c2 hc2) gX0_othersAlike_X0_done k_X0_done ⟨rfl, rfl⟩ ⟨Nat.le_of_ble_eq_true rfl, Nat.le_of_ble_eq_true rfl⟩ (EM.all (w_Ch G A c1) (w_Ch G A c2)) hP hD hS (ci := 0) rfl rfl (at_Ch_0 G A c1) rfl hl.1 rfl (Nat.le_of_ble_eq_true rfl) ⟨Nat.zero_le _, Nat.zero_le _⟩ dX0_othersAlike_34) (EM.all (w_Ch G A c1) (w_Ch G A c2)) hP hD hS (fun H locs hP hD hS => ?_)
          refine lv_icmp_ne (pc := 37) (tgt := 43) hx hb dX0_othersAlike_37 (by decide) (fun h1 => ?_) (fun h1 => ?_)
          · have hf := br_n h1 hf
            exact b_43 _ _ _ _ H locs ls hf hP hD hS (lv_sub hl [0, 1, 2, 3] rfl)
          · have hf := br_y h1 hf
            refine lv_iinc (pc := 40) (v := (x2 + (1 : Int32))) (lv' := [(2, .int (x2 + (1 : Int32))), (0, .ref (A 0)), (1, .int x1), (3, .int x3)]) hx hb dX0_othersAlike_40 hl (k := 2) rfl rfl (by decide) rfl (fun ls hl => ?_)
            exact b_43 _ _ _ _ H locs ls hf hP hD hS (lv_sub hl [1, 2, 0, 3] rfl)
  unfold f_X0_othersAlike at hf
  refine lv_iconst (pc := 0) (v := (0 : Int32)) hx hb dX0_othersAlike_0 (by decide) ?_
  refine lv_istore_n (pc := 1) (lv' := [(2, .int (0 : Int32)), (0, .ref (A 0)), (1, .int x1)]) hx hb dX0_othersAlike_1 rfl hl (by decide) rfl (fun ls hl => ?_)
  refine lv_iconst (pc := 2) (v := (0 : Int32)) hx hb dX0_othersAlike_2 (by decide) ?_
  refine lv_istore_n (pc := 3) (lv' := [(3, .int (0 : Int32)), (2, .int (0 : Int32)), (0, .ref (A 0)), (1, .int x1)]) hx hb dX0_othersAlike_3 rfl hl (by decide) rfl (fun ls hl => ?_)
  exact l_4 FU _ _ _ _ H locs ls hf hP hD hS (lv_sub hl [2, 3, 1, 0] rfl)
