/-! ===== rows and texts ===== -/
theorem ix_40 (j i : Nat) : (40 : Int32) * nI j + nI i = nI (40 * j + i) := by
  rw [show (40 : Int32) = nI 40 from rfl, pk_mul, nI_add]
theorem there_r (b : CS) {j : Nat} (hj : j < 6) : f_X3_isThere_r b (nI j) = some (bI (¬ b 6 j = -1)) := by
  unfold f_X3_isThere_r f_X3_isThere_r_22
  rw [p_isNumber_r, ob1_s, if_bI, if_pos (by rw [nI_toInt (by omega)]; omega), ck_t _ (inb_nI hj (by omega)), nI_clamp (by omega)]
  by_cases h : b 6 j = -1
  · rw [if_pos h, bI_f (fun q => q h)]; rfl
  · rw [if_neg h, bI_t h]; rfl
theorem sizeOf_r (b : CS) {j : Nat} (hj : j < 6) : f_X3_sizeOf_r b (nI j) = some (b 6 j) := by
  unfold f_X3_sizeOf_r f_X3_sizeOf_r_18
  rw [p_isNumber_r, ob1_s, if_bI, if_pos (by rw [nI_toInt (by omega)]; omega), ck_t _ (inb_nI hj (by omega)), nI_clamp (by omega)]
theorem holds_r (b : CS) {j : Nat} (hj : j < 6) (x : Int32) : f_X3_holds_r b (nI j) x = some (bI (0 ≤ x.toInt ∧ x.toInt < (b 6 j).toInt)) := by
  unfold f_X3_holds_r f_X3_holds_r_26
  rw [p_isNumber_r, ob1_s, if_bI, if_pos (by rw [nI_toInt (by omega)]; omega), ck_t _ (inb_nI hj (by omega)), nI_clamp (by omega)]
  exact rngB x (b 6 j)
theorem get_r (b : CS) {j i : Nat} (hj : j < 6) (hi : i < 40) (hs : (i : Int) < (b 6 j).toInt) : f_X3_get_r b (nI j) (nI i) = some (b j i) := by
  unfold f_X3_get_r f_X3_get_r_21
  rw [holds_r b hj, ob1_s, if_bI, if_pos (by rw [nI_toInt (by omega)]; omega), ck_t _ (inb_nI hj (by omega)), ck_t _ (inb_nI hi (by omega)), nI_clamp (by omega), nI_clamp (by omega)]
theorem set_r (b : CS) {j i : Nat} (hj : j < 6) (hi : i < 40) (hs : (i : Int) < (b 6 j).toInt) (v : Int32) : f_X3_set_r b (nI j) (nI i) v = some (cset b j i v) := by
  unfold f_X3_set_r f_X3_set_r_18
  rw [holds_r b hj, ob1_s, if_bI, if_pos (by rw [nI_toInt (by omega)]; omega), ck_t _ (inb_nI hj (by omega)), ck_t _ (inb_nI hi (by omega)), nI_clamp (by omega), nI_clamp (by omega)]
theorem make_r_loop {j k : Nat} (hj : j < 6) (hk : k ≤ 40) (v : Int32) : ∀ (n i : Nat) (b : CS), i ≤ k → k - i < n → ∃ b', f_X3_make_r_31 n (nI j) (nI k) v (nI i) b = some b' ∧ (∀ q, q ≠ j → b' q = b q) ∧ ∀ x, b' j x = if i ≤ x ∧ x < k then v else b j x := by
  intro n
  induction n with
  | zero => intro i b h1 h2; exact absurd h2 (by omega)
  | succ n ih =>
    intro i b h1 h2
    rw [f_X3_make_r_31]
    by_cases h : k ≤ i
    · rw [if_pos (nI_le h (by omega))]
      exact ⟨b, rfl, fun _ _ => rfl, fun x => by rw [if_neg (by omega)]⟩
    · rw [if_neg (nI_ge (Nat.not_le.mp h) (by omega)), ck_t _ (inb_nI hj (by omega)), ck_t _ (inb_nI (show i < 40 by omega) (by omega)), nI_clamp (by omega), nI_clamp (by omega), nI_1]
      obtain ⟨b', e, h3, h4⟩ := ih (i + 1) (cset b j i v) (by omega) (by omega)
      refine ⟨b', e, fun q hq => by rw [h3 q hq, cset_ne _ _ _ _ _ hq], fun x => ?_⟩
      rw [h4 x, cset_at]
      by_cases hx : x = i
      · subst hx; rw [if_neg (by omega), if_pos rfl, if_pos (by omega)]
      · rw [if_neg hx]
        by_cases hx2 : i ≤ x ∧ x < k
        · rw [if_pos hx2, if_pos (by omega)]
        · rw [if_neg hx2, if_neg (by omega)]
theorem make_r (b : CS) {j k : Nat} (hj : j < 6) (hk : k ≤ 40) (v : Int32) : ∃ b', f_X3_make_r b (nI j) (nI k) v = some b' ∧ (∀ q, q ≠ j → b' q = cset b 6 j (nI k) q) ∧ ∀ x, x < k → b' j x = v := by
  unfold f_X3_make_r
  rw [p_isNumber_r, ob1_s, if_bI, if_pos (by rw [nI_toInt (by omega)]; omega), if_neg (nI_pos (by omega)), if_pos (show nI k ≤ (40 : Int32) from nI_le (b := 40) hk (by omega)), ck_t _ (inb_nI hj (by omega)), nI_clamp (by omega)]
  obtain ⟨b', e, h3, h4⟩ := make_r_loop hj hk v FU 0 (cset b 6 j (nI k)) (by omega) (FU_ge (by omega))
  exact ⟨b', e, h3, fun x hx => by rw [h4 x, if_pos ⟨Nat.zero_le x, hx⟩]⟩
theorem missing_r {I : Nat → CS} {J : Nat → JS} (x : Int32) : f_X5_missingRefused_r I J x = if 0 ≤ x.toInt ∧ x.toInt < 6 then (if I 5 6 x.toNatClampNeg = -1 then some ((-3 : Int32), gset I 7 (cset (cset (I 7) 1 0 (nI 1)) 2 1 (I 7 2 1 + 1))) else some (0, I)) else some (-1, I) := by
  unfold f_X5_missingRefused_r f_X5_missingRefused_r_30
  rw [p_isNumber_r, ob1_s, if_bI]
  by_cases h : 0 ≤ x.toInt ∧ x.toInt < 6
  · rw [if_pos h, if_pos h]
    obtain ⟨j, hj, rfl⟩ := ix_of (n := 6) h.1 (by omega) (by omega)
    rw [there_r _ hj, ob1_s, if_bI, nI_clamp (by omega)]
    by_cases h2 : I 5 6 j = -1
    · rw [if_pos h2, if_neg (fun q => q h2)]
      rw [show (1 : Int32) = nI 1 from rfl, found4 _ _ 1 (by omega)]; rfl
    · rw [if_neg h2, if_pos h2]
  · rw [if_neg h, if_neg h]
theorem place_r {I : Nat → CS} {J : Nat → JS} (x y : Int32) : f_X5_placeRefused_r I J x y = if 0 ≤ x.toInt ∧ x.toInt < 6 then (if I 5 6 x.toNatClampNeg = -1 then some ((-3 : Int32), gset I 7 (cset (cset (I 7) 1 0 (nI 1)) 2 1 (I 7 2 1 + 1))) else if 0 ≤ y.toInt ∧ y.toInt < (I 5 6 x.toNatClampNeg).toInt then some (0, I) else some ((-3 : Int32), gset I 7 (cset (cset (I 7) 1 0 (nI 2)) 2 2 (I 7 2 2 + 1)))) else some (-1, I) := by
  unfold f_X5_placeRefused_r f_X5_placeRefused_r_37
  rw [missing_r]
  by_cases h : 0 ≤ x.toInt ∧ x.toInt < 6
  · rw [if_pos h, if_pos h]
    obtain ⟨j, hj, rfl⟩ := ix_of (n := 6) h.1 (by omega) (by omega)
    rw [nI_clamp (by omega)]
    by_cases h2 : I 5 6 j = -1
    · rw [if_pos h2, if_pos h2, ob2_s, if_neg (by decide)]
    · rw [if_neg h2, if_neg h2, ob2_s, if_pos rfl, holds_r _ hj, ob1_s, if_bI]
      by_cases h3 : 0 ≤ y.toInt ∧ y.toInt < (I 5 6 j).toInt
      · rw [if_pos h3, if_pos h3]
      · rw [if_neg h3, if_neg h3, show (2 : Int32) = nI 2 from rfl, found4 _ _ 2 (by omega)]; rfl
  · rw [if_neg h, if_neg h, ob2_s, if_neg (by decide)]
/-! ===== rows and texts ===== -/
theorem ix_60 (j i : Nat) : (60 : Int32) * nI j + nI i = nI (60 * j + i) := by
  rw [show (60 : Int32) = nI 60 from rfl, pk_mul, nI_add]
theorem there_t (b : CS) {j : Nat} (hj : j < 4) : f_X3_isThere_t b (nI j) = some (bI (¬ b 6 j = -1)) := by
  unfold f_X3_isThere_t f_X3_isThere_t_22
  rw [p_isNumber_t, ob1_s, if_bI, if_pos (by rw [nI_toInt (by omega)]; omega), ck_t _ (inb_nI hj (by omega)), nI_clamp (by omega)]
  by_cases h : b 6 j = -1
  · rw [if_pos h, bI_f (fun q => q h)]; rfl
  · rw [if_neg h, bI_t h]; rfl
theorem sizeOf_t (b : CS) {j : Nat} (hj : j < 4) : f_X3_sizeOf_t b (nI j) = some (b 6 j) := by
  unfold f_X3_sizeOf_t f_X3_sizeOf_t_18
  rw [p_isNumber_t, ob1_s, if_bI, if_pos (by rw [nI_toInt (by omega)]; omega), ck_t _ (inb_nI hj (by omega)), nI_clamp (by omega)]
theorem holds_t (b : CS) {j : Nat} (hj : j < 4) (x : Int32) : f_X3_holds_t b (nI j) x = some (bI (0 ≤ x.toInt ∧ x.toInt < (b 6 j).toInt)) := by
  unfold f_X3_holds_t f_X3_holds_t_26
  rw [p_isNumber_t, ob1_s, if_bI, if_pos (by rw [nI_toInt (by omega)]; omega), ck_t _ (inb_nI hj (by omega)), nI_clamp (by omega)]
  exact rngB x (b 6 j)
theorem get_t (b : CS) {j i : Nat} (hj : j < 4) (hi : i < 60) (hs : (i : Int) < (b 6 j).toInt) : f_X3_get_t b (nI j) (nI i) = some (b j i) := by
  unfold f_X3_get_t f_X3_get_t_21
  rw [holds_t b hj, ob1_s, if_bI, if_pos (by rw [nI_toInt (by omega)]; omega), ck_t _ (inb_nI hj (by omega)), ck_t _ (inb_nI hi (by omega)), nI_clamp (by omega), nI_clamp (by omega)]
theorem set_t (b : CS) {j i : Nat} (hj : j < 4) (hi : i < 60) (hs : (i : Int) < (b 6 j).toInt) (v : Int32) : f_X3_set_t b (nI j) (nI i) v = some (cset b j i v) := by
  unfold f_X3_set_t f_X3_set_t_18
  rw [holds_t b hj, ob1_s, if_bI, if_pos (by rw [nI_toInt (by omega)]; omega), ck_t _ (inb_nI hj (by omega)), ck_t _ (inb_nI hi (by omega)), nI_clamp (by omega), nI_clamp (by omega)]
theorem make_t_loop {j k : Nat} (hj : j < 4) (hk : k ≤ 60) (v : Int32) : ∀ (n i : Nat) (b : CS), i ≤ k → k - i < n → ∃ b', f_X3_make_t_31 n (nI j) (nI k) v (nI i) b = some b' ∧ (∀ q, q ≠ j → b' q = b q) ∧ ∀ x, b' j x = if i ≤ x ∧ x < k then v else b j x := by
  intro n
  induction n with
  | zero => intro i b h1 h2; exact absurd h2 (by omega)
  | succ n ih =>
    intro i b h1 h2
    rw [f_X3_make_t_31]
    by_cases h : k ≤ i
    · rw [if_pos (nI_le h (by omega))]
      exact ⟨b, rfl, fun _ _ => rfl, fun x => by rw [if_neg (by omega)]⟩
    · rw [if_neg (nI_ge (Nat.not_le.mp h) (by omega)), ck_t _ (inb_nI hj (by omega)), ck_t _ (inb_nI (show i < 60 by omega) (by omega)), nI_clamp (by omega), nI_clamp (by omega), nI_1]
      obtain ⟨b', e, h3, h4⟩ := ih (i + 1) (cset b j i v) (by omega) (by omega)
      refine ⟨b', e, fun q hq => by rw [h3 q hq, cset_ne _ _ _ _ _ hq], fun x => ?_⟩
      rw [h4 x, cset_at]
      by_cases hx : x = i
      · subst hx; rw [if_neg (by omega), if_pos rfl, if_pos (by omega)]
      · rw [if_neg hx]
        by_cases hx2 : i ≤ x ∧ x < k
        · rw [if_pos hx2, if_pos (by omega)]
        · rw [if_neg hx2, if_neg (by omega)]
theorem make_t (b : CS) {j k : Nat} (hj : j < 4) (hk : k ≤ 60) (v : Int32) : ∃ b', f_X3_make_t b (nI j) (nI k) v = some b' ∧ (∀ q, q ≠ j → b' q = cset b 6 j (nI k) q) ∧ ∀ x, x < k → b' j x = v := by
  unfold f_X3_make_t
  rw [p_isNumber_t, ob1_s, if_bI, if_pos (by rw [nI_toInt (by omega)]; omega), if_neg (nI_pos (by omega)), if_pos (show nI k ≤ (60 : Int32) from nI_le (b := 60) hk (by omega)), ck_t _ (inb_nI hj (by omega)), nI_clamp (by omega)]
  obtain ⟨b', e, h3, h4⟩ := make_t_loop hj hk v FU 0 (cset b 6 j (nI k)) (by omega) (FU_ge (by omega))
  exact ⟨b', e, h3, fun x hx => by rw [h4 x, if_pos ⟨Nat.zero_le x, hx⟩]⟩
theorem missing_t {I : Nat → CS} {J : Nat → JS} (x : Int32) : f_X5_missingRefused_t I J x = if 0 ≤ x.toInt ∧ x.toInt < 4 then (if I 6 6 x.toNatClampNeg = -1 then some ((-3 : Int32), gset I 7 (cset (cset (I 7) 1 0 (nI 1)) 2 1 (I 7 2 1 + 1))) else some (0, I)) else some (-1, I) := by
  unfold f_X5_missingRefused_t f_X5_missingRefused_t_30
  rw [p_isNumber_t, ob1_s, if_bI]
  by_cases h : 0 ≤ x.toInt ∧ x.toInt < 4
  · rw [if_pos h, if_pos h]
    obtain ⟨j, hj, rfl⟩ := ix_of (n := 4) h.1 (by omega) (by omega)
    rw [there_t _ hj, ob1_s, if_bI, nI_clamp (by omega)]
    by_cases h2 : I 6 6 j = -1
    · rw [if_pos h2, if_neg (fun q => q h2)]
      rw [show (1 : Int32) = nI 1 from rfl, found4 _ _ 1 (by omega)]; rfl
    · rw [if_neg h2, if_pos h2]
  · rw [if_neg h, if_neg h]
theorem place_t {I : Nat → CS} {J : Nat → JS} (x y : Int32) : f_X5_placeRefused_t I J x y = if 0 ≤ x.toInt ∧ x.toInt < 4 then (if I 6 6 x.toNatClampNeg = -1 then some ((-3 : Int32), gset I 7 (cset (cset (I 7) 1 0 (nI 1)) 2 1 (I 7 2 1 + 1))) else if 0 ≤ y.toInt ∧ y.toInt < (I 6 6 x.toNatClampNeg).toInt then some (0, I) else some ((-3 : Int32), gset I 7 (cset (cset (I 7) 1 0 (nI 2)) 2 2 (I 7 2 2 + 1)))) else some (-1, I) := by
  unfold f_X5_placeRefused_t f_X5_placeRefused_t_37
  rw [missing_t]
  by_cases h : 0 ≤ x.toInt ∧ x.toInt < 4
  · rw [if_pos h, if_pos h]
    obtain ⟨j, hj, rfl⟩ := ix_of (n := 4) h.1 (by omega) (by omega)
    rw [nI_clamp (by omega)]
    by_cases h2 : I 6 6 j = -1
    · rw [if_pos h2, if_pos h2, ob2_s, if_neg (by decide)]
    · rw [if_neg h2, if_neg h2, ob2_s, if_pos rfl, holds_t _ hj, ob1_s, if_bI]
      by_cases h3 : 0 ≤ y.toInt ∧ y.toInt < (I 6 6 j).toInt
      · rw [if_pos h3, if_pos h3]
      · rw [if_neg h3, if_neg h3, show (2 : Int32) = nI 2 from rfl, found4 _ _ 2 (by omega)]; rfl
  · rw [if_neg h, if_neg h, ob2_s, if_neg (by decide)]
