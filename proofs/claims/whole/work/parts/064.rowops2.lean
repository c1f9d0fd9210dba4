theorem row6_loop {j k : Nat} (hj : j < 6) (N : JS) : ∀ (n i : Nat) (M : CS), i ≤ 40 → 40 - i < n → ∃ M', f_X6_row_34 n (nI j) (nI k) (nI i) M N = some (nI k, M') ∧ (∀ q, q ≠ 1 → M' q = M q) ∧ ∀ x, M' 1 x = if 40 * j + i ≤ x ∧ x < 40 * j + 40 then 0 else M 1 x := by
  intro n
  induction n with
  | zero => intro i M h1 h2; exact absurd h2 (by omega)
  | succ n ih =>
    intro i M h1 h2
    rw [f_X6_row_34]
    by_cases h : 40 ≤ i
    · rw [if_pos (show (40 : Int32) ≤ nI i from nI_le (a := 40) h (by omega))]
      exact ⟨M, rfl, fun _ _ => rfl, fun x => by rw [if_neg (by omega)]⟩
    · rw [if_neg (show ¬ (40 : Int32) ≤ nI i from nI_ge (b := 40) (Nat.not_le.mp h) (by omega)), ix_40, ck_t _ (inb_nI (show 40 * j + i < 240 by omega) (by omega)), nI_clamp (by omega), nI_1]
      obtain ⟨M', e, h3, h4⟩ := ih (i + 1) (cset M 1 (40 * j + i) 0) (by omega) (by omega)
      refine ⟨M', e, fun q hq => by rw [h3 q hq, cset_ne _ _ _ _ _ hq], fun x => ?_⟩
      rw [h4 x, cset_at]
      by_cases hx : x = 40 * j + i
      · subst hx; rw [if_neg (by omega), if_pos rfl, if_pos (by omega)]
      · rw [if_neg hx]
        by_cases hx2 : 40 * j + i ≤ x ∧ x < 40 * j + 40
        · rw [if_pos hx2, if_pos (by omega)]
        · rw [if_neg hx2, if_neg (by omega)]
theorem o_row : Op_row := by
  intro I J M N x y R
  by_cases h : 0 ≤ x.toInt ∧ x.toInt < 6
  · obtain ⟨j, hj, rfl⟩ := ix_of (n := 6) h.1 (by omega) (by omega)
    by_cases h1 : y ≤ 40
    · by_cases h0 : 0 ≤ y
      · have h1' : y.toInt ≤ 40 := (i32_le y 40).mp h1
        have h0' : 0 ≤ y.toInt := (i32_le 0 y).mp h0
        obtain ⟨k, hk, rfl⟩ := ix_of (n := 41) h0' (by omega) (by omega)
        obtain ⟨b', e5, g1, g2⟩ := make_r (I 5) hj (show k ≤ 40 by omega) 0
        obtain ⟨M', e6, f1, f2⟩ := row6_loop (k := k) hj N FU 0 (cset M 0 j (nI k)) (by omega) (FU_ge (by omega))
        refine ⟨nI k, gset I 5 b', M', ?_, ?_, ?_, ?_, ?_, ?_, ?_⟩
        · unfold f_X5_row
          rw [p_isNumber_r, ob1_s, if_bI, if_pos h, if_pos h1, if_pos h0, e5, ob1_s]
        · unfold f_X6_row
          rw [p_isRow6, ob1_s, if_bI, if_pos h, if_pos h1, if_pos h0, ck_t _ (inb_nI hj (by omega)), nI_clamp (by omega)]
          exact e6
        · have q := R.1.make (b' := b') (rows' := M' 1) (by omega) hj (show k ≤ 40 by omega) 0 g1 g2 (fun x hx => by rw [f2, if_pos (by omega)]) (fun r x hr hx => by rw [f2, if_neg (by omega)]; rfl)
          rw [f1 0 (by omega)]
          exact q
        · rw [f1 2 (by omega), f1 3 (by omega)]; exact R.2.1
        · exact ⟨by rw [f1 7 (by omega)]; exact R.2.2.1.1, by rw [f1 8 (by omega)]; exact R.2.2.1.2.1, by rw [f1 9 (by omega)]; exact R.2.2.1.2.2.1, R.2.2.1.2.2.2⟩
        · rw [f1 4 (by omega)]; exact R.2.2.2.1
        · rw [f1 5 (by omega), f1 6 (by omega)]; exact R.2.2.2.2.set 5 _ (by omega)
      · refine ⟨-3, _, _, ?_, ?_, R.found 5⟩
        · unfold f_X5_row
          rw [p_isNumber_r, ob1_s, if_bI, if_pos h, if_pos h1, if_neg h0, show (5 : Int32) = nI 5 from rfl, found4 _ _ 5 (by omega)]; rfl
        · unfold f_X6_row
          rw [p_isRow6, ob1_s, if_bI, if_pos h, if_pos h1, if_neg h0, show (5 : Int32) = nI 5 from rfl, found6 _ _ 5 (by omega)]; rfl
    · refine ⟨-1, I, M, ?_, ?_, R⟩
      · unfold f_X5_row f_X5_row_17
        rw [p_isNumber_r, ob1_s, if_bI, if_pos h, if_neg h1]
      · unfold f_X6_row f_X6_row_13
        rw [p_isRow6, ob1_s, if_bI, if_pos h, if_neg h1]
  · refine ⟨-1, I, M, ?_, ?_, R⟩
    · unfold f_X5_row f_X5_row_17
      rw [p_isNumber_r, ob1_s, if_bI, if_neg h]
    · unfold f_X6_row f_X6_row_13
      rw [p_isRow6, ob1_s, if_bI, if_neg h]
theorem text6_loop {j k : Nat} (hj : j < 4) (N : JS) : ∀ (n i : Nat) (M : CS), i ≤ 60 → 60 - i < n → ∃ M', f_X6_text_34 n (nI j) (nI k) (nI i) M N = some (nI k, M') ∧ (∀ q, q ≠ 3 → M' q = M q) ∧ ∀ x, M' 3 x = if 60 * j + i ≤ x ∧ x < 60 * j + 60 then 32 else M 3 x := by
  intro n
  induction n with
  | zero => intro i M h1 h2; exact absurd h2 (by omega)
  | succ n ih =>
    intro i M h1 h2
    rw [f_X6_text_34]
    by_cases h : 60 ≤ i
    · rw [if_pos (show (60 : Int32) ≤ nI i from nI_le (a := 60) h (by omega))]
      exact ⟨M, rfl, fun _ _ => rfl, fun x => by rw [if_neg (by omega)]⟩
    · rw [if_neg (show ¬ (60 : Int32) ≤ nI i from nI_ge (b := 60) (Nat.not_le.mp h) (by omega)), ix_60, ck_t _ (inb_nI (show 60 * j + i < 240 by omega) (by omega)), nI_clamp (by omega), nI_1]
      obtain ⟨M', e, h3, h4⟩ := ih (i + 1) (cset M 3 (60 * j + i) 32) (by omega) (by omega)
      refine ⟨M', e, fun q hq => by rw [h3 q hq, cset_ne _ _ _ _ _ hq], fun x => ?_⟩
      rw [h4 x, cset_at]
      by_cases hx : x = 60 * j + i
      · subst hx; rw [if_neg (by omega), if_pos rfl, if_pos (by omega)]
      · rw [if_neg hx]
        by_cases hx2 : 60 * j + i ≤ x ∧ x < 60 * j + 60
        · rw [if_pos hx2, if_pos (by omega)]
        · rw [if_neg hx2, if_neg (by omega)]
theorem o_text : Op_text := by
  intro I J M N x y R
  by_cases h : 0 ≤ x.toInt ∧ x.toInt < 4
  · obtain ⟨j, hj, rfl⟩ := ix_of (n := 4) h.1 (by omega) (by omega)
    by_cases h1 : y ≤ 60
    · by_cases h0 : 0 ≤ y
      · have h1' : y.toInt ≤ 60 := (i32_le y 60).mp h1
        have h0' : 0 ≤ y.toInt := (i32_le 0 y).mp h0
        obtain ⟨k, hk, rfl⟩ := ix_of (n := 61) h0' (by omega) (by omega)
        obtain ⟨b', e5, g1, g2⟩ := make_t (I 6) hj (show k ≤ 60 by omega) 32
        obtain ⟨M', e6, f1, f2⟩ := text6_loop (k := k) hj N FU 0 (cset M 2 j (nI k)) (by omega) (FU_ge (by omega))
        refine ⟨nI k, gset I 6 b', M', ?_, ?_, ?_, ?_, ?_, ?_, ?_⟩
        · unfold f_X5_text
          rw [p_isNumber_t, ob1_s, if_bI, if_pos h, if_pos h1, if_pos h0, e5, ob1_s]
        · unfold f_X6_text
          rw [p_isText6, ob1_s, if_bI, if_pos h, if_pos h1, if_pos h0, ck_t _ (inb_nI hj (by omega)), nI_clamp (by omega)]
          exact e6
        · rw [f1 0 (by omega), f1 1 (by omega)]; exact R.1
        · have q := R.2.1.make (b' := b') (rows' := M' 3) (by omega) hj (show k ≤ 60 by omega) 32 g1 g2 (fun x hx => by rw [f2, if_pos (by omega)]) (fun r x hr hx => by rw [f2, if_neg (by omega)]; rfl)
          rw [f1 2 (by omega)]
          exact q
        · exact ⟨by rw [f1 7 (by omega)]; exact R.2.2.1.1, by rw [f1 8 (by omega)]; exact R.2.2.1.2.1, by rw [f1 9 (by omega)]; exact R.2.2.1.2.2.1, R.2.2.1.2.2.2⟩
        · rw [f1 4 (by omega)]; exact R.2.2.2.1
        · rw [f1 5 (by omega), f1 6 (by omega)]; exact R.2.2.2.2.set 6 _ (by omega)
      · refine ⟨-3, _, _, ?_, ?_, R.found 5⟩
        · unfold f_X5_text
          rw [p_isNumber_t, ob1_s, if_bI, if_pos h, if_pos h1, if_neg h0, show (5 : Int32) = nI 5 from rfl, found4 _ _ 5 (by omega)]; rfl
        · unfold f_X6_text
          rw [p_isText6, ob1_s, if_bI, if_pos h, if_pos h1, if_neg h0, show (5 : Int32) = nI 5 from rfl, found6 _ _ 5 (by omega)]; rfl
    · refine ⟨-1, I, M, ?_, ?_, R⟩
      · unfold f_X5_text f_X5_text_17
        rw [p_isNumber_t, ob1_s, if_bI, if_pos h, if_neg h1]
      · unfold f_X6_text f_X6_text_13
        rw [p_isText6, ob1_s, if_bI, if_pos h, if_neg h1]
  · refine ⟨-1, I, M, ?_, ?_, R⟩
    · unfold f_X5_text f_X5_text_17
      rw [p_isNumber_t, ob1_s, if_bI, if_neg h]
    · unfold f_X6_text f_X6_text_13
      rw [p_isText6, ob1_s, if_bI, if_neg h]
