/-! ===== rows: the operations ===== -/
theorem wij {w r j i i' : Nat} (hi : i < w) (hi' : i' < w) (h : w * r + i' = w * j + i) : r = j ∧ i' = i := by
  have h1 : (w * r + i') / w = r := by rw [Nat.mul_add_div (by omega), Nat.div_eq_of_lt hi', Nat.add_zero]
  have h2 : (w * j + i) / w = j := by rw [Nat.mul_add_div (by omega), Nat.div_eq_of_lt hi, Nat.add_zero]
  have h3 : r = j := by rw [← h1, h, h2]
  subst h3
  exact ⟨rfl, by omega⟩
theorem RowsR.tear {n w : Nat} {b : CS} {sz rows : Nat → Int32} (h : RowsR n w b sz rows) (hn : n ≤ 6) (j : Nat) : RowsR n w (cset b 6 j (-1)) (upd sz j (-1)) rows := by
  intro r hr
  obtain ⟨e1, e2⟩ := h r hr
  rw [cset_at, cset_ne b 6 j (-1) r (by omega)]
  show (if r = j then (-1 : Int32) else sz r) = _ ∧ _
  by_cases e : r = j
  · rw [if_pos e, if_pos e]; exact ⟨rfl, Or.inl rfl⟩
  · rw [if_neg e, if_neg e]; exact ⟨e1, e2⟩
theorem RowsR.put {n w : Nat} {b : CS} {sz rows : Nat → Int32} (h : RowsR n w b sz rows) (hn : n ≤ 6) {j i k : Nat} (hj : j < n) (hk : b 6 j = nI k) (hkw : k ≤ w) (hw : w < 1000) (hi : i < k) (v : Int32) : RowsR n w (cset b j i v) sz (upd rows (w * j + i) v) := by
  intro r hr
  obtain ⟨e1, e2⟩ := h r hr
  rw [cset_ne b j i v 6 (by omega)]
  refine ⟨e1, ?_⟩
  rcases e2 with e2 | ⟨k', h1, h2, h3⟩
  · exact Or.inl e2
  · refine Or.inr ⟨k', h1, h2, fun i' hi' => ?_⟩
    show (if w * r + i' = w * j + i then v else rows (w * r + i')) = _
    by_cases e : r = j
    · subst e
      rw [cset_at]
      by_cases e3 : i' = i
      · subst e3; rw [if_pos rfl, if_pos rfl]
      · rw [if_neg (by omega), if_neg e3, h3 i' hi']
    · rw [cset_ne b j i v r e, if_neg (fun q => e (wij (by omega) (by omega) q).1), h3 i' hi']
theorem RowsR.make {n w : Nat} {b b' : CS} {sz rows rows' : Nat → Int32} (h : RowsR n w b sz rows) (hn : n ≤ 6) {j k : Nat} (hj : j < n) (hkw : k ≤ w) (v : Int32) (h1 : ∀ q, q ≠ j → b' q = cset b 6 j (nI k) q) (h2 : ∀ x, x < k → b' j x = v) (h3 : ∀ x, x < w → rows' (w * j + x) = v) (h4 : ∀ r x, r ≠ j → x < w → rows' (w * r + x) = rows (w * r + x)) : RowsR n w b' (upd sz j (nI k)) rows' := by
  intro r hr
  obtain ⟨e1, e2⟩ := h r hr
  have h6 : b' 6 = cset b 6 j (nI k) 6 := h1 6 (by omega)
  rw [h6, cset_at]
  show (if r = j then nI k else sz r) = _ ∧ _
  by_cases e : r = j
  · subst e
    rw [if_pos rfl, if_pos rfl]
    exact ⟨rfl, Or.inr ⟨k, hkw, rfl, fun i hi => by rw [h3 i (by omega), h2 i hi]⟩⟩
  · rw [if_neg e, if_neg e]
    refine ⟨e1, ?_⟩
    rcases e2 with e2 | ⟨k', g1, g2, g3⟩
    · exact Or.inl e2
    · refine Or.inr ⟨k', g1, g2, fun i hi => ?_⟩
      rw [h4 r i e (by omega), g3 i hi, h1 r e, cset_ne b 6 j (nI k) r (by omega)]
theorem remove_r (b : CS) {j : Nat} (hj : j < 6) : f_X3_remove_r b (nI j) = some (cset b 6 j (-1)) := by
  unfold f_X3_remove_r f_X3_remove_r_15
  rw [p_isNumber_r, ob1_s, if_bI, if_pos (by rw [nI_toInt (by omega)]; omega), ck_t _ (inb_nI hj (by omega)), nI_clamp (by omega)]
theorem nI_m1 (k : Nat) (h : k < 2 ^ 31) : ¬ nI k = -1 := by
  intro q
  have := congrArg Int32.toInt q
  rw [nI_toInt h] at this
  have h2 : (-1 : Int32).toInt = -1 := by decide
  omega
theorem o_tear : Op_tear := by
  intro I J M N x R
  by_cases h : 0 ≤ x.toInt ∧ x.toInt < 6
  · obtain ⟨j, hj, rfl⟩ := ix_of (n := 6) h.1 (by omega) (by omega)
    obtain ⟨e1, e2⟩ := R.1 j hj
    by_cases h2 : I 5 6 j = -1
    · refine ⟨-3, _, _, ?_, ?_, R.found 1⟩
      · unfold f_X5_tear
        rw [missing_r, if_pos h, nI_clamp (by omega), if_pos h2, ob2_s, if_neg (by decide)]
      · unfold f_X6_tear
        rw [p_isRow6, ob1_s, if_bI, if_pos h, ck_t _ (inb_nI hj (by omega)), nI_clamp (by omega), e1, h2, if_neg (by decide), show (1 : Int32) = nI 1 from rfl, found6 _ _ 1 (by omega)]; rfl
    · obtain ⟨k, hk, e3, e4⟩ := e2.resolve_left h2
      refine ⟨1, gset I 5 (cset (I 5) 6 j (-1)), cset M 0 j (-1), ?_, ?_, R.1.tear (by omega) j, R.2.1, R.2.2.1, R.2.2.2.1, R.2.2.2.2.set 5 _ (by omega)⟩
      · unfold f_X5_tear
        rw [missing_r, if_pos h, nI_clamp (by omega), if_neg h2, ob2_s, if_pos rfl, remove_r _ hj, ob1_s]
      · unfold f_X6_tear
        rw [p_isRow6, ob1_s, if_bI, if_pos h, ck_t _ (inb_nI hj (by omega)), nI_clamp (by omega), e1, e3, if_pos (nI_pos' (by omega)), ck_t _ (inb_nI hj (by omega))]
  · refine ⟨-1, I, M, ?_, ?_, R⟩
    · unfold f_X5_tear
      rw [missing_r, if_neg h, ob2_s, if_neg (by decide)]
    · unfold f_X6_tear
      rw [p_isRow6, ob1_s, if_bI, if_neg h]
/-- the model's look at a place -/
theorem in_size (y : Int32) {k : Nat} (hk : k < 1000) : f_X6_in y.toInt64 (0 : Int64) (nI k - 1).toInt64 = some (bI (0 ≤ y.toInt ∧ y.toInt < (nI k).toInt)) := by
  rw [p_in6i]
  refine congrArg some (bI_congr ?_)
  have h1 : ((nI k - 1 : Int32).toInt64).toInt = (k : Int) - 1 := by
    rw [i32_w]
    exact pk_sub_toInt (b := 1) (by omega) (by omega)
  rw [h1, nI_toInt (by omega)]
  have h0 : (0 : Int64).toInt = 0 := by decide
  omega
theorem o_lay : Op_lay := by
  intro I J M N x y v R
  by_cases h : 0 ≤ x.toInt ∧ x.toInt < 6
  · obtain ⟨j, hj, rfl⟩ := ix_of (n := 6) h.1 (by omega) (by omega)
    obtain ⟨e1, e2⟩ := R.1 j hj
    by_cases h2 : I 5 6 j = -1
    · refine ⟨-3, _, _, ?_, ?_, R.found 1⟩
      · unfold f_X5_lay
        rw [place_r, if_pos h, nI_clamp (by omega), if_pos h2, ob2_s, if_neg (by decide)]
      · unfold f_X6_lay
        rw [p_isRow6, ob1_s, if_bI, if_pos h, ck_t _ (inb_nI hj (by omega)), nI_clamp (by omega), e1, h2, if_neg (by decide), show (1 : Int32) = nI 1 from rfl, found6 _ _ 1 (by omega)]; rfl
    · obtain ⟨k, hk, e3, e4⟩ := e2.resolve_left h2
      by_cases h3 : 0 ≤ y.toInt ∧ y.toInt < (nI k).toInt
      · have hkI := nI_toInt (n := k) (by omega)
        obtain ⟨i, hi, rfl⟩ := ix_of (n := k) h3.1 (by omega) (by omega)
        refine ⟨1, gset (gset I 7 (cset (I 7) 0 0 (I 5 j i))) 5 (cset (I 5) j i v), cset (cset M 1 (40 * j + i) v) 7 0 (I 5 j i), ?_, ?_, R.1.put (by omega) hj e3 hk (by omega) hi v, R.2.1, R.2.2.1.ask _, R.2.2.2.1, (R.2.2.2.2.set 7 _ (by omega)).set 5 _ (by omega)⟩
        · unfold f_X5_lay
          rw [place_r, if_pos h, nI_clamp (by omega), if_neg h2, e3, if_pos h3, ob2_s, if_pos rfl, get_r _ hj (show i < 40 by omega) (by rw [e3, hkI]; omega), ob1_s, set_r _ hj (show i < 40 by omega) (by rw [e3, hkI]; omega), ob1_s]
        · unfold f_X6_lay
          rw [p_isRow6, ob1_s, if_bI, if_pos h, ck_t _ (inb_nI hj (by omega)), nI_clamp (by omega), e1, e3, if_pos (nI_pos' (by omega)), ck_t _ (inb_nI hj (by omega)), in_size _ (by omega), ob1_s, if_bI, if_pos h3, ix_40, ck_t _ (inb_nI (show 40 * j + i < 240 by omega) (by omega)), ck_t _ (inb_nI (show 40 * j + i < 240 by omega) (by omega)), nI_clamp (by omega), e4 i hi]; rfl
      · refine ⟨-3, _, _, ?_, ?_, R.found 2⟩
        · unfold f_X5_lay
          rw [place_r, if_pos h, nI_clamp (by omega), if_neg h2, e3, if_neg h3, ob2_s, if_neg (by decide)]
        · unfold f_X6_lay
          rw [p_isRow6, ob1_s, if_bI, if_pos h, ck_t _ (inb_nI hj (by omega)), nI_clamp (by omega), e1, e3, if_pos (nI_pos' (by omega)), ck_t _ (inb_nI hj (by omega)), in_size _ (by omega), ob1_s, if_bI, if_neg h3, show (2 : Int32) = nI 2 from rfl, found6 _ _ 2 (by omega)]; rfl
  · refine ⟨-1, I, M, ?_, ?_, R⟩
    · unfold f_X5_lay
      rw [place_r, if_neg h, ob2_s, if_neg (by decide)]
    · unfold f_X6_lay
      rw [p_isRow6, ob1_s, if_bI, if_neg h]
theorem o_at : Op_at := by
  intro I J M N x y R
  by_cases h : 0 ≤ x.toInt ∧ x.toInt < 6
  · obtain ⟨j, hj, rfl⟩ := ix_of (n := 6) h.1 (by omega) (by omega)
    obtain ⟨e1, e2⟩ := R.1 j hj
    by_cases h2 : I 5 6 j = -1
    · refine ⟨-3, _, _, ?_, ?_, R.found 1⟩
      · unfold f_X5_at
        rw [place_r, if_pos h, nI_clamp (by omega), if_pos h2, ob2_s, if_neg (by decide)]
      · unfold f_X6_at
        rw [p_isRow6, ob1_s, if_bI, if_pos h, ck_t _ (inb_nI hj (by omega)), nI_clamp (by omega), e1, h2, if_neg (by decide), show (1 : Int32) = nI 1 from rfl, found6 _ _ 1 (by omega)]; rfl
    · obtain ⟨k, hk, e3, e4⟩ := e2.resolve_left h2
      by_cases h3 : 0 ≤ y.toInt ∧ y.toInt < (nI k).toInt
      · have hkI := nI_toInt (n := k) (by omega)
        obtain ⟨i, hi, rfl⟩ := ix_of (n := k) h3.1 (by omega) (by omega)
        refine ⟨1, _, _, ?_, ?_, R.ask (I 5 j i)⟩
        · unfold f_X5_at
          rw [place_r, if_pos h, nI_clamp (by omega), if_neg h2, e3, if_pos h3, ob2_s, if_pos rfl, get_r _ hj (show i < 40 by omega) (by rw [e3, hkI]; omega), ob1_s]
        · unfold f_X6_at
          rw [p_isRow6, ob1_s, if_bI, if_pos h, ck_t _ (inb_nI hj (by omega)), nI_clamp (by omega), e1, e3, if_pos (nI_pos' (by omega)), ck_t _ (inb_nI hj (by omega)), in_size _ (by omega), ob1_s, if_bI, if_pos h3, ix_40, ck_t _ (inb_nI (show 40 * j + i < 240 by omega) (by omega)), nI_clamp (by omega), e4 i hi]; rfl
      · refine ⟨-3, _, _, ?_, ?_, R.found 2⟩
        · unfold f_X5_at
          rw [place_r, if_pos h, nI_clamp (by omega), if_neg h2, e3, if_neg h3, ob2_s, if_neg (by decide)]
        · unfold f_X6_at
          rw [p_isRow6, ob1_s, if_bI, if_pos h, ck_t _ (inb_nI hj (by omega)), nI_clamp (by omega), e1, e3, if_pos (nI_pos' (by omega)), ck_t _ (inb_nI hj (by omega)), in_size _ (by omega), ob1_s, if_bI, if_neg h3, show (2 : Int32) = nI 2 from rfl, found6 _ _ 2 (by omega)]; rfl
  · refine ⟨-1, I, M, ?_, ?_, R⟩
    · unfold f_X5_at
      rw [place_r, if_neg h, ob2_s, if_neg (by decide)]
    · unfold f_X6_at
      rw [p_isRow6, ob1_s, if_bI, if_neg h]
theorem o_put : Op_put := by
  intro I J M N x y v R
  by_cases h : 0 ≤ x.toInt ∧ x.toInt < 4
  · obtain ⟨j, hj, rfl⟩ := ix_of (n := 4) h.1 (by omega) (by omega)
    obtain ⟨e1, e2⟩ := R.2.1 j hj
    by_cases h2 : I 6 6 j = -1
    · refine ⟨-3, _, _, ?_, ?_, R.found 1⟩
      · unfold f_X5_put
        rw [place_t, if_pos h, nI_clamp (by omega), if_pos h2, ob2_s, if_neg (by decide)]
      · unfold f_X6_put
        rw [p_isText6, ob1_s, if_bI, if_pos h, ck_t _ (inb_nI hj (by omega)), nI_clamp (by omega), e1, h2, if_neg (by decide), show (1 : Int32) = nI 1 from rfl, found6 _ _ 1 (by omega)]; rfl
    · obtain ⟨k, hk, e3, e4⟩ := e2.resolve_left h2
      by_cases h3 : 0 ≤ y.toInt ∧ y.toInt < (nI k).toInt
      · have hkI := nI_toInt (n := k) (by omega)
        obtain ⟨i, hi, rfl⟩ := ix_of (n := k) h3.1 (by omega) (by omega)
        refine ⟨I 6 j i + 1000, gset I 6 (cset (I 6) j i v.toInt8.toInt32), cset M 3 (60 * j + i) v.toInt8.toInt32, ?_, ?_, R.1, R.2.1.put (by omega) hj e3 hk (by omega) hi _, R.2.2.1, R.2.2.2.1, R.2.2.2.2.set 6 _ (by omega)⟩
        · unfold f_X5_put
          rw [place_t, if_pos h, nI_clamp (by omega), if_neg h2, e3, if_pos h3, ob2_s, if_pos rfl, get_t _ hj (show i < 60 by omega) (by rw [e3, hkI]; omega), ob1_s, set_t _ hj (show i < 60 by omega) (by rw [e3, hkI]; omega), ob1_s]
        · unfold f_X6_put
          rw [p_isText6, ob1_s, if_bI, if_pos h, ck_t _ (inb_nI hj (by omega)), nI_clamp (by omega), e1, e3, if_pos (nI_pos' (by omega)), ck_t _ (inb_nI hj (by omega)), in_size _ (by omega), ob1_s, if_bI, if_pos h3, ix_60, ck_t _ (inb_nI (show 60 * j + i < 240 by omega) (by omega)), ck_t _ (inb_nI (show 60 * j + i < 240 by omega) (by omega)), nI_clamp (by omega), e4 i hi]
      · refine ⟨-3, _, _, ?_, ?_, R.found 2⟩
        · unfold f_X5_put
          rw [place_t, if_pos h, nI_clamp (by omega), if_neg h2, e3, if_neg h3, ob2_s, if_neg (by decide)]
        · unfold f_X6_put
          rw [p_isText6, ob1_s, if_bI, if_pos h, ck_t _ (inb_nI hj (by omega)), nI_clamp (by omega), e1, e3, if_pos (nI_pos' (by omega)), ck_t _ (inb_nI hj (by omega)), in_size _ (by omega), ob1_s, if_bI, if_neg h3, show (2 : Int32) = nI 2 from rfl, found6 _ _ 2 (by omega)]; rfl
  · refine ⟨-1, I, M, ?_, ?_, R⟩
    · unfold f_X5_put
      rw [place_t, if_neg h, ob2_s, if_neg (by decide)]
    · unfold f_X6_put
      rw [p_isText6, ob1_s, if_bI, if_neg h]
