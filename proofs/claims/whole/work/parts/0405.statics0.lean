def r_X5_isDay : Room := { frames := 0, cells := 0, slots := 0, locals := 0 }
set_option maxHeartbeats 4000000 in
set_option maxRecDepth 100000 in
theorem c_X5_isDay (G : GT) (l : Launch) (sz : Nat) (x0 : Int32) (r : Int32) (hf : f_X5_isDay x0 = some r) : MTi l yX5_isDay wsX5_isDay r_X5_isDay [.int x0] G [] [] sz r := by
  refine MTz.of (cc := cX5_isDay) (maxL := 1) (by decide +kernel) rfl (Nat.le_of_ble_eq_true rfl) (fun p e s m av below meth cd Q B H locs ls X hret hl hP hD hS => ?_)
  have hx := X.1.1
  have hb := X.1.2.1
  have hl : lv_has ls 1 [(0, .int x0)] := hl
  have b_15 : ∀ (t0 : Int32) (H : Heap) (locs : List Loc) (ls : Array Slot), f_X5_isDay_15 t0 = some r → va_P G.1 vwCl [] H → va_D B [] → va_S B s.heap H locs → lv_has ls 1 [] → W p l e r_X5_isDay s m av below meth cd H locs 0 0 Q (F0 m 15 ls [.int t0]) := by
    intro t0 H locs ls hf hP hD hS hl
    unfold f_X5_isDay_15 at hf
    obtain ⟨hz, hf⟩ := ck_some hf
    cases hf
    exact hret _ _ _ _ (isb_or hz) dX5_isDay_15 hP hD hS
  have b_14 : ∀  (H : Heap) (locs : List Loc) (ls : Array Slot), f_X5_isDay_14 = some r → va_P G.1 vwCl [] H → va_D B [] → va_S B s.heap H locs → lv_has ls 1 [] → W p l e r_X5_isDay s m av below meth cd H locs 0 0 Q (F0 m 14 ls []) := by
    intro  H locs ls hf hP hD hS hl
    unfold f_X5_isDay_14 at hf
    refine lv_iconst (pc := 14) (v := (0 : Int32)) hx hb dX5_isDay_14 (by decide) ?_
    exact b_15 _ H locs ls hf hP hD hS (lv_sub hl [] rfl)
  unfold f_X5_isDay at hf
  refine lv_iload_n (pc := 0) hx hb dX5_isDay_0 rfl (lv_at hl 0 rfl) ?_
  refine lv_if_lt (pc := 1) (tgt := 14) hx hb dX5_isDay_1 (by decide) (fun h2 => ?_) (fun h2 => ?_)
  · have hf := br_y h2 hf
    exact b_14  H locs ls hf hP hD hS (lv_sub hl [] rfl)
  · have hf := br_n h2 hf
    refine lv_iload_n (pc := 4) hx hb dX5_isDay_4 rfl (lv_at hl 0 rfl) ?_
    refine lv_bipush (pc := 5) (v := (20 : Int32)) hx hb dX5_isDay_5 (by decide) ?_
    refine lv_icmp_ge (pc := 7) (tgt := 14) hx hb dX5_isDay_7 (by decide) (fun h1 => ?_) (fun h1 => ?_)
    · have hf := br_y h1 hf
      exact b_14  H locs ls hf hP hD hS (lv_sub hl [] rfl)
    · have hf := br_n h1 hf
      refine lv_iconst (pc := 10) (v := (1 : Int32)) hx hb dX5_isDay_10 (by decide) ?_
      refine lv_goto (pc := 11) (tgt := 15) hx hb dX5_isDay_11 (by decide) ?_
      exact b_15 _ H locs ls hf hP hD hS (lv_sub hl [] rfl)
def r_X5_isTown : Room := { frames := 0, cells := 0, slots := 0, locals := 0 }
set_option maxHeartbeats 4000000 in
set_option maxRecDepth 100000 in
theorem c_X5_isTown (G : GT) (l : Launch) (sz : Nat) (x0 : Int32) (r : Int32) (hf : f_X5_isTown x0 = some r) : MTi l yX5_isTown wsX5_isTown r_X5_isTown [.int x0] G [] [] sz r := by
  refine MTz.of (cc := cX5_isTown) (maxL := 1) (by decide +kernel) rfl (Nat.le_of_ble_eq_true rfl) (fun p e s m av below meth cd Q B H locs ls X hret hl hP hD hS => ?_)
  have hx := X.1.1
  have hb := X.1.2.1
  have hl : lv_has ls 1 [(0, .int x0)] := hl
  have b_14 : ∀ (t0 : Int32) (H : Heap) (locs : List Loc) (ls : Array Slot), f_X5_isTown_14 t0 = some r → va_P G.1 vwCl [] H → va_D B [] → va_S B s.heap H locs → lv_has ls 1 [] → W p l e r_X5_isTown s m av below meth cd H locs 0 0 Q (F0 m 14 ls [.int t0]) := by
    intro t0 H locs ls hf hP hD hS hl
    unfold f_X5_isTown_14 at hf
    obtain ⟨hz, hf⟩ := ck_some hf
    cases hf
    exact hret _ _ _ _ (isb_or hz) dX5_isTown_14 hP hD hS
  have b_13 : ∀  (H : Heap) (locs : List Loc) (ls : Array Slot), f_X5_isTown_13 = some r → va_P G.1 vwCl [] H → va_D B [] → va_S B s.heap H locs → lv_has ls 1 [] → W p l e r_X5_isTown s m av below meth cd H locs 0 0 Q (F0 m 13 ls []) := by
    intro  H locs ls hf hP hD hS hl
    unfold f_X5_isTown_13 at hf
    refine lv_iconst (pc := 13) (v := (0 : Int32)) hx hb dX5_isTown_13 (by decide) ?_
    exact b_14 _ H locs ls hf hP hD hS (lv_sub hl [] rfl)
  unfold f_X5_isTown at hf
  refine lv_iload_n (pc := 0) hx hb dX5_isTown_0 rfl (lv_at hl 0 rfl) ?_
  refine lv_if_lt (pc := 1) (tgt := 13) hx hb dX5_isTown_1 (by decide) (fun h2 => ?_) (fun h2 => ?_)
  · have hf := br_y h2 hf
    exact b_13  H locs ls hf hP hD hS (lv_sub hl [] rfl)
  · have hf := br_n h2 hf
    refine lv_iload_n (pc := 4) hx hb dX5_isTown_4 rfl (lv_at hl 0 rfl) ?_
    refine lv_iconst (pc := 5) (v := (5 : Int32)) hx hb dX5_isTown_5 (by decide) ?_
    refine lv_icmp_ge (pc := 6) (tgt := 13) hx hb dX5_isTown_6 (by decide) (fun h1 => ?_) (fun h1 => ?_)
    · have hf := br_y h1 hf
      exact b_13  H locs ls hf hP hD hS (lv_sub hl [] rfl)
    · have hf := br_n h1 hf
      refine lv_iconst (pc := 9) (v := (1 : Int32)) hx hb dX5_isTown_9 (by decide) ?_
      refine lv_goto (pc := 10) (tgt := 14) hx hb dX5_isTown_10 (by decide) ?_
      exact b_14 _ H locs ls hf hP hD hS (lv_sub hl [] rfl)
def r_X5_nextSet : Room := { frames := 0, cells := 0, slots := 0, locals := 0 }
set_option maxHeartbeats 4000000 in
set_option maxRecDepth 100000 in
theorem c_X5_nextSet (G : GT) (l : Launch) (sz : Nat) (x0 : Int32) (x1 : Int32) (r : Int32) (hf : f_X5_nextSet x0 x1 = some r) : MTi l yX5_nextSet wsX5_nextSet r_X5_nextSet [.int x0, .int x1] G [] [] sz r := by
  refine MTi.of (cc := cX5_nextSet) (maxL := 2) (by decide +kernel) rfl (Nat.le_of_ble_eq_true rfl) (fun p e s m av below meth cd Q B H locs ls X hret hl hP hD hS => ?_)
  have hx := X.1.1
  have hb := X.1.2.1
  have hl : lv_has ls 2 [(0, .int x0), (1, .int x1)] := hl
  unfold f_X5_nextSet at hf
  refine lv_iload_n (pc := 0) hx hb dX5_nextSet_0 rfl (lv_at hl 0 rfl) ?_
  refine lv_iload_n (pc := 1) hx hb dX5_nextSet_1 rfl (lv_at hl 1 rfl) ?_
  refine lv_isub (pc := 2) hx hb dX5_nextSet_2 ?_
  refine lv_iload_n (pc := 3) hx hb dX5_nextSet_3 rfl (lv_at hl 1 rfl) ?_
  refine lv_iand (pc := 4) hx hb dX5_nextSet_4 ?_
  cases hf
  exact hret _ _ _ _ dX5_nextSet_5 hP hD hS
def r_X5_arePair : Room := { frames := 1, cells := 0, slots := 0, locals := 20 }
set_option maxHeartbeats 4000000 in
set_option maxRecDepth 100000 in
theorem c_X5_arePair (G : GT) (l : Launch) (sz : Nat) (x0 : Int32) (x1 : Int32) (r : Int32) (hf : f_X5_arePair x0 x1 = some r) : MTi l yX5_arePair wsX5_arePair r_X5_arePair [.int x0, .int x1] G [] [] sz r := by
  refine MTz.of (cc := cX5_arePair) (maxL := 2) (by decide +kernel) rfl (Nat.le_of_ble_eq_true rfl) (fun p e s m av below meth cd Q B H locs ls X hret hl hP hD hS => ?_)
  have hx := X.1.1
  have hb := X.1.2.1
  have hl : lv_has ls 2 [(0, .int x0), (1, .int x1)] := hl
  have b_24 : ∀ (t0 : Int32) (H : Heap) (locs : List Loc) (ls : Array Slot), f_X5_arePair_24 t0 = some r → va_P G.1 vwCl [] H → va_D B [] → va_S B s.heap H locs → lv_has ls 2 [] → W p l e r_X5_arePair s m av below meth cd H locs 0 0 Q (F0 m 24 ls [.int t0]) := by
    intro t0 H locs ls hf hP hD hS hl
    unfold f_X5_arePair_24 at hf
    obtain ⟨hz, hf⟩ := ck_some hf
    cases hf
    exact hret _ _ _ _ (isb_or hz) dX5_arePair_24 hP hD hS
  have b_23 : ∀  (H : Heap) (locs : List Loc) (ls : Array Slot), f_X5_arePair_23 = some r → va_P G.1 vwCl [] H → va_D B [] → va_S B s.heap H locs → lv_has ls 2 [] → W p l e r_X5_arePair s m av below meth cd H locs 0 0 Q (F0 m 23 ls []) := by
    intro  H locs ls hf hP hD hS hl
    unfold f_X5_arePair_23 at hf
    refine lv_iconst (pc := 23) (v := (0 : Int32)) hx hb dX5_arePair_23 (by decide) ?_
    exact b_24 _ H locs ls hf hP hD hS (lv_sub hl [] rfl)
  unfold f_X5_arePair at hf
  refine lv_iload_n (pc := 0) hx hb dX5_arePair_0 rfl (lv_at hl 0 rfl) ?_
  obtain ⟨r1, hc1, hf⟩ := ob1_some hf
  refine endi X.2.2.2.2 (runS (pc := 1) (As := [.int x0]) (rest := []) X (c_X5_isTown G l  H.size x0 r1 hc1) gX5_arePair_X5_isTown k_X5_isTown ⟨rfl, rfl⟩ ⟨Nat.le_of_ble_eq_true rfl, Nat.le_of_ble_eq_true rfl⟩ (EM.nil []) hP hD hS rfl hl.1 rfl (Nat.le_of_ble_eq_true rfl) ⟨Nat.zero_le _, Nat.zero_le _⟩ dX5_arePair_1) (EM.nil []) hP hD hS (fun H locs hP hD hS => ?_)
  refine lv_if_eq (pc := 4) (tgt := 23) hx hb dX5_arePair_4 (by decide) (fun h3 => ?_) (fun h3 => ?_)
  · have hf := br_y h3 hf
    exact b_23  H locs ls hf hP hD hS (lv_sub hl [] rfl)
  · have hf := br_n h3 hf
    refine lv_iload_n (pc := 7) hx hb dX5_arePair_7 rfl (lv_at hl 1 rfl) ?_
    obtain ⟨r2, hc2, hf⟩ := ob1_some hf
    refine endi X.2.2.2.2 (runS (pc := 8) (As := [.int x1]) (rest := []) X (c_X5_isTown G l  H.size x1 r2 hc2) gX5_arePair_X5_isTown k_X5_isTown ⟨rfl, rfl⟩ ⟨Nat.le_of_ble_eq_true rfl, Nat.le_of_ble_eq_true rfl⟩ (EM.nil []) hP hD hS rfl hl.1 rfl (Nat.le_of_ble_eq_true rfl) ⟨Nat.zero_le _, Nat.zero_le _⟩ dX5_arePair_8) (EM.nil []) hP hD hS (fun H locs hP hD hS => ?_)
    refine lv_if_eq (pc := 11) (tgt := 23) hx hb dX5_arePair_11 (by decide) (fun h2 => ?_) (fun h2 => ?_)
    · have hf := br_y h2 hf
      exact b_23  H locs ls hf hP hD hS (lv_sub hl [] rfl)
    · have hf := br_n h2 hf
      refine lv_iload_n (pc := 14) hx hb dX5_arePair_14 rfl (lv_at hl 0 rfl) ?_
      refine lv_iload_n (pc := 15) hx hb dX5_arePair_15 rfl (lv_at hl 1 rfl) ?_
      refine lv_icmp_ge (pc := 16) (tgt := 23) hx hb dX5_arePair_16 (by decide) (fun h1 => ?_) (fun h1 => ?_)
      · have hf := br_y h1 hf
        exact b_23  H locs ls hf hP hD hS (lv_sub hl [] rfl)
      · have hf := br_n h1 hf
        refine lv_iconst (pc := 19) (v := (1 : Int32)) hx hb dX5_arePair_19 (by decide) ?_
        refine lv_goto (pc := 20) (tgt := 24) hx hb dX5_arePair_20 (by decide) ?_
        exact b_24 _ H locs ls hf hP hD hS (lv_sub hl [] rfl)
def r_X5_isDeed : Room := { frames := 0, cells := 0, slots := 0, locals := 0 }
set_option maxHeartbeats 4000000 in
set_option maxRecDepth 100000 in
theorem c_X5_isDeed (G : GT) (l : Launch) (sz : Nat) (x0 : Int32) (r : Int32) (hf : f_X5_isDeed x0 = some r) : MTi l yX5_isDeed wsX5_isDeed r_X5_isDeed [.int x0] G [] [] sz r := by
  refine MTz.of (cc := cX5_isDeed) (maxL := 1) (by decide +kernel) rfl (Nat.le_of_ble_eq_true rfl) (fun p e s m av below meth cd Q B H locs ls X hret hl hP hD hS => ?_)
  have hx := X.1.1
  have hb := X.1.2.1
  have hl : lv_has ls 1 [(0, .int x0)] := hl
  have b_15 : ∀ (t0 : Int32) (H : Heap) (locs : List Loc) (ls : Array Slot), f_X5_isDeed_15 t0 = some r → va_P G.1 vwCl [] H → va_D B [] → va_S B s.heap H locs → lv_has ls 1 [] → W p l e r_X5_isDeed s m av below meth cd H locs 0 0 Q (F0 m 15 ls [.int t0]) := by
    intro t0 H locs ls hf hP hD hS hl
    unfold f_X5_isDeed_15 at hf
    obtain ⟨hz, hf⟩ := ck_some hf
    cases hf
    exact hret _ _ _ _ (isb_or hz) dX5_isDeed_15 hP hD hS
  have b_14 : ∀  (H : Heap) (locs : List Loc) (ls : Array Slot), f_X5_isDeed_14 = some r → va_P G.1 vwCl [] H → va_D B [] → va_S B s.heap H locs → lv_has ls 1 [] → W p l e r_X5_isDeed s m av below meth cd H locs 0 0 Q (F0 m 14 ls []) := by
    intro  H locs ls hf hP hD hS hl
    unfold f_X5_isDeed_14 at hf
    refine lv_iconst (pc := 14) (v := (0 : Int32)) hx hb dX5_isDeed_14 (by decide) ?_
    exact b_15 _ H locs ls hf hP hD hS (lv_sub hl [] rfl)
  unfold f_X5_isDeed at hf
  refine lv_iload_n (pc := 0) hx hb dX5_isDeed_0 rfl (lv_at hl 0 rfl) ?_
  refine lv_if_lt (pc := 1) (tgt := 14) hx hb dX5_isDeed_1 (by decide) (fun h2 => ?_) (fun h2 => ?_)
  · have hf := br_y h2 hf
    exact b_14  H locs ls hf hP hD hS (lv_sub hl [] rfl)
  · have hf := br_n h2 hf
    refine lv_iload_n (pc := 4) hx hb dX5_isDeed_4 rfl (lv_at hl 0 rfl) ?_
    refine lv_bipush (pc := 5) (v := (10 : Int32)) hx hb dX5_isDeed_5 (by decide) ?_
    refine lv_icmp_ge (pc := 7) (tgt := 14) hx hb dX5_isDeed_7 (by decide) (fun h1 => ?_) (fun h1 => ?_)
    · have hf := br_y h1 hf
      exact b_14  H locs ls hf hP hD hS (lv_sub hl [] rfl)
    · have hf := br_n h1 hf
      refine lv_iconst (pc := 10) (v := (1 : Int32)) hx hb dX5_isDeed_10 (by decide) ?_
      refine lv_goto (pc := 11) (tgt := 15) hx hb dX5_isDeed_11 (by decide) ?_
      exact b_15 _ H locs ls hf hP hD hS (lv_sub hl [] rfl)
def r_X5_isPlace : Room := { frames := 0, cells := 0, slots := 0, locals := 0 }
set_option maxHeartbeats 4000000 in
set_option maxRecDepth 100000 in
theorem c_X5_isPlace (G : GT) (l : Launch) (sz : Nat) (x0 : Int32) (r : Int32) (hf : f_X5_isPlace x0 = some r) : MTi l yX5_isPlace wsX5_isPlace r_X5_isPlace [.int x0] G [] [] sz r := by
  refine MTz.of (cc := cX5_isPlace) (maxL := 1) (by decide +kernel) rfl (Nat.le_of_ble_eq_true rfl) (fun p e s m av below meth cd Q B H locs ls X hret hl hP hD hS => ?_)
  have hx := X.1.1
  have hb := X.1.2.1
  have hl : lv_has ls 1 [(0, .int x0)] := hl
  have b_14 : ∀ (t0 : Int32) (H : Heap) (locs : List Loc) (ls : Array Slot), f_X5_isPlace_14 t0 = some r → va_P G.1 vwCl [] H → va_D B [] → va_S B s.heap H locs → lv_has ls 1 [] → W p l e r_X5_isPlace s m av below meth cd H locs 0 0 Q (F0 m 14 ls [.int t0]) := by
    intro t0 H locs ls hf hP hD hS hl
    unfold f_X5_isPlace_14 at hf
    obtain ⟨hz, hf⟩ := ck_some hf
    cases hf
    exact hret _ _ _ _ (isb_or hz) dX5_isPlace_14 hP hD hS
  have b_13 : ∀  (H : Heap) (locs : List Loc) (ls : Array Slot), f_X5_isPlace_13 = some r → va_P G.1 vwCl [] H → va_D B [] → va_S B s.heap H locs → lv_has ls 1 [] → W p l e r_X5_isPlace s m av below meth cd H locs 0 0 Q (F0 m 13 ls []) := by
    intro  H locs ls hf hP hD hS hl
    unfold f_X5_isPlace_13 at hf
    refine lv_iconst (pc := 13) (v := (0 : Int32)) hx hb dX5_isPlace_13 (by decide) ?_
    exact b_14 _ H locs ls hf hP hD hS (lv_sub hl [] rfl)
  unfold f_X5_isPlace at hf
  refine lv_iload_n (pc := 0) hx hb dX5_isPlace_0 rfl (lv_at hl 0 rfl) ?_
  refine lv_if_lt (pc := 1) (tgt := 13) hx hb dX5_isPlace_1 (by decide) (fun h2 => ?_) (fun h2 => ?_)
  · have hf := br_y h2 hf
    exact b_13  H locs ls hf hP hD hS (lv_sub hl [] rfl)
  · have hf := br_n h2 hf
    refine lv_iload_n (pc := 4) hx hb dX5_isPlace_4 rfl (lv_at hl 0 rfl) ?_
    refine lv_iconst (pc := 5) (v := (3 : Int32)) hx hb dX5_isPlace_5 (by decide) ?_
    refine lv_icmp_ge (pc := 6) (tgt := 13) hx hb dX5_isPlace_6 (by decide) (fun h1 => ?_) (fun h1 => ?_)
    · have hf := br_y h1 hf
      exact b_13  H locs ls hf hP hD hS (lv_sub hl [] rfl)
    · have hf := br_n h1 hf
      refine lv_iconst (pc := 9) (v := (1 : Int32)) hx hb dX5_isPlace_9 (by decide) ?_
      refine lv_goto (pc := 10) (tgt := 14) hx hb dX5_isPlace_10 (by decide) ?_
      exact b_14 _ H locs ls hf hP hD hS (lv_sub hl [] rfl)
def r_X5_power : Room := { frames := 0, cells := 0, slots := 0, locals := 0 }
set_option maxHeartbeats 4000000 in
set_option maxRecDepth 100000 in
theorem c_X5_power (G : GT) (l : Launch) (sz : Nat) (x0 : Int32) (x1 : Int32) (r : Int64) (hf : f_X5_power x0 x1 = some r) : MTl l yX5_power wsX5_power r_X5_power [.int x0, .int x1] G [] [] sz r := by
  refine MTl.of (cc := cX5_power) (maxL := 5) (by decide +kernel) rfl (Nat.le_of_ble_eq_true rfl) (fun p e s m av below meth cd Q B H locs ls X hret hl hP hD hS => ?_)
  have hx := X.1.1
  have hb := X.1.2.1
  have hl : lv_has ls 5 [(0, .int x0), (1, .int x1)] := hl
  have l_5 : ∀ (n5 : Nat), ∀ (x0 : Int32) (x1 : Int32) (x2 : Int64) (x4 : Int32) (H : Heap) (locs : List Loc) (ls : Array Slot), f_X5_power_5 n5 x0 x1 x2 x4 = some r → va_P G.1 vwCl [] H → va_D B [] → va_S B s.heap H locs → lv_has ls 5 [(0, .int x0), (1, .int x1), (2, .long x2), (4, .int x4)] → W p l e r_X5_power s m av below meth cd H locs 0 0 Q (F0 m 5 ls []) := by
    intro n5
    induction n5 with
    | zero =>
      intro x0 x1 x2 x4 H locs ls hf hP hD hS hl
      rw [f_X5_power_5] at hf
      cases hf
    | succ n5 ih5 =>
      intro x0 x1 x2 x4 H locs ls hf hP hD hS hl
      rw [f_X5_power_5] at hf
      refine lv_iload (pc := 5) hx hb dX5_power_5 (lv_at hl 3 rfl) ?_
      refine lv_iload_n (pc := 7) hx hb dX5_power_7 rfl (lv_at hl 1 rfl) ?_
      refine lv_icmp_ge (pc := 8) (tgt := 22) hx hb dX5_power_8 (by decide) (fun h1 => ?_) (fun h1 => ?_)
      · have hf := br_y h1 hf
        refine lv_lload_n (pc := 22) hx hb dX5_power_22 rfl (lv_at hl 2 rfl) ?_
        cases hf
        exact hret _ _ _ _ dX5_power_23 hP hD hS
      · have hf := br_n h1 hf
        refine lv_lload_n (pc := 11) hx hb dX5_power_11 rfl (lv_at hl 2 rfl) ?_
        refine lv_iload_n (pc := 12) hx hb dX5_power_12 rfl (lv_at hl 0 rfl) ?_
        refine lv_i2l (pc := 13) (v := (x0).toInt64) hx hb dX5_power_13 rfl ?_
        refine lv_lmul (pc := 14) hx hb dX5_power_14 ?_
        refine lv_lstore_n (pc := 15) (lv' := [(2, .long (x2 * ((x0).toInt64))), (0, .int x0), (1, .int x1), (4, .int x4)]) hx hb dX5_power_15 rfl hl (by decide) rfl (fun ls hl => ?_)
        refine lv_iinc (pc := 16) (v := (x4 + (1 : Int32))) (lv' := [(4, .int (x4 + (1 : Int32))), (2, .long (x2 * ((x0).toInt64))), (0, .int x0), (1, .int x1)]) hx hb dX5_power_16 hl (k := 3) rfl rfl (by decide) rfl (fun ls hl => ?_)
        refine lv_goto (pc := 19) (tgt := 5) hx hb dX5_power_19 (by decide) ?_
        exact ih5 _ _ _ _ H locs ls hf hP hD hS (lv_sub hl [2, 3, 1, 0] rfl)
  unfold f_X5_power at hf
  refine lv_lconst (pc := 0) (v := (1 : Int64)) hx hb dX5_power_0 (by decide) ?_
  refine lv_lstore_n (pc := 1) (lv' := [(2, .long (1 : Int64)), (0, .int x0), (1, .int x1)]) hx hb dX5_power_1 rfl hl (by decide) rfl (fun ls hl => ?_)
  refine lv_iconst (pc := 2) (v := (0 : Int32)) hx hb dX5_power_2 (by decide) ?_
  refine lv_istore (pc := 3) (lv' := [(4, .int (0 : Int32)), (2, .long (1 : Int64)), (0, .int x0), (1, .int x1)]) hx hb dX5_power_3 hl (by decide) rfl (fun ls hl => ?_)
  exact l_5 FU _ _ _ _ H locs ls hf hP hD hS (lv_sub hl [2, 3, 1, 0] rfl)
