/-! ===== mean, copy; what is told ===== -/
theorem mean_loops {I : Nat → CS} {J : Nat → JS} {M : CS} {N : JS} {j k : Nat} (hj : j < 6) (hk : k ≤ 40) (h0 : 0 < k) (e1 : M 0 j = nI k) (e3 : I 5 6 j = nI k) (e4 : ∀ i, i < k → M 1 (40 * j + i) = I 5 j i) :
    ∀ (n m i : Nat) (a : Int64), i ≤ k → k - i < n → k - i < m → ∃ v, f_X5_mean_45 n (nI j) (nI k) a (nI i) I J = some (1, gset I 7 (cset (I 7) 0 0 v)) ∧ f_X6_mean_44 m (nI j) a (nI i) M N = some (1, cset M 7 0 v) := by
  intro n
  have hz : nzL (nI k).toInt64 = true := by
    unfold nzL
    rw [decide_eq_true_eq, i64_eq, i32_w, nI_toInt (by omega)]
    have : (0 : Int64).toInt = 0 := by decide
    omega
  induction n with
  | zero => intro m i a h1 h2; exact absurd h2 (by omega)
  | succ n ih =>
    intro m i a h1 h2 h3
    obtain ⟨m, rfl⟩ : ∃ q, m = q + 1 := ⟨m - 1, by omega⟩
    rw [f_X5_mean_45, f_X6_mean_44, ck_t _ (inb_nI hj (by omega)), nI_clamp (by omega), e1]
    by_cases h : k ≤ i
    · rw [if_pos (nI_le h (by omega)), if_pos (nI_le h (by omega)), ck_t _ hz, ck_t _ (inb_nI hj (by omega)), ck_t _ hz]
      exact ⟨_, rfl, rfl⟩
    · rw [if_neg (nI_ge (Nat.not_le.mp h) (by omega)), if_neg (nI_ge (Nat.not_le.mp h) (by omega)), get_r _ hj (show i < 40 by omega) (by rw [e3, nI_toInt (by omega)]; omega), ob1_s, ix_40, ck_t _ (inb_nI (show 40 * j + i < 240 by omega) (by omega)), nI_clamp (by omega), e4 i (by omega), nI_1]
      exact ih m (i + 1) _ (by omega) (by omega) (by omega)
theorem o_mean : Op_mean := by
  intro I J M N x R
  by_cases h : 0 ≤ x.toInt ∧ x.toInt < 6
  · obtain ⟨j, hj, rfl⟩ := ix_of (n := 6) h.1 (by omega) (by omega)
    obtain ⟨e1, e2⟩ := R.1 j hj
    by_cases h2 : I 5 6 j = -1
    · refine ⟨-3, _, _, ?_, ?_, R.found 1⟩
      · unfold f_X5_mean
        rw [missing_r, if_pos h, nI_clamp (by omega), if_pos h2, ob2_s, if_neg (by decide)]
      · unfold f_X6_mean
        rw [p_isRow6, ob1_s, if_bI, if_pos h, ck_t _ (inb_nI hj (by omega)), nI_clamp (by omega), e1, h2, if_neg (by decide), show (1 : Int32) = nI 1 from rfl, found6 _ _ 1 (by omega)]; rfl
    · obtain ⟨k, hk, e3, e4⟩ := e2.resolve_left h2
      by_cases h0 : 0 < k
      · obtain ⟨v, g1, g2⟩ := mean_loops (J := J) (N := N) hj hk h0 (by rw [e1, e3]) e3 e4 FU FU 0 0 (by omega) (FU_ge (by omega)) (FU_ge (by omega))
        refine ⟨1, _, _, ?_, ?_, R.ask v⟩
        · unfold f_X5_mean
          rw [missing_r, if_pos h, nI_clamp (by omega), if_neg h2, ob2_s, if_pos rfl, sizeOf_r _ hj, ob1_s, e3, if_pos (show (1 : Int32) ≤ nI k from nI_le (a := 1) h0 (by omega))]
          exact g1
        · unfold f_X6_mean
          rw [p_isRow6, ob1_s, if_bI, if_pos h, ck_t _ (inb_nI hj (by omega)), nI_clamp (by omega), e1, e3, if_pos (nI_pos' (by omega)), ck_t _ (inb_nI hj (by omega)), if_neg (nI_ne0 h0 (by omega))]
          exact g2
      · have hk0 : k = 0 := by omega
        subst hk0
        refine ⟨-3, _, _, ?_, ?_, R.found 4⟩
        · unfold f_X5_mean
          rw [missing_r, if_pos h, nI_clamp (by omega), if_neg h2, ob2_s, if_pos rfl, sizeOf_r _ hj, ob1_s, e3, if_neg (show ¬ (1 : Int32) ≤ nI 0 by decide), show (4 : Int32) = nI 4 from rfl, found4 _ _ 4 (by omega)]; rfl
        · unfold f_X6_mean
          rw [p_isRow6, ob1_s, if_bI, if_pos h, ck_t _ (inb_nI hj (by omega)), nI_clamp (by omega), e1, e3, if_pos (nI_pos' (by omega)), ck_t _ (inb_nI hj (by omega)), if_pos nI_0, show (4 : Int32) = nI 4 from rfl, found6 _ _ 4 (by omega)]; rfl
  · refine ⟨-1, I, M, ?_, ?_, R⟩
    · unfold f_X5_mean
      rw [missing_r, if_neg h, ob2_s, if_neg (by decide)]
    · unfold f_X6_mean
      rw [p_isRow6, ob1_s, if_bI, if_neg h]
theorem p_in6k (x : Int32) (lo hi : Int64) (a b : Int) (ha : lo.toInt = a) (hb : hi.toInt = b) : f_X6_in x.toInt64 lo hi = some (bI (a ≤ x.toInt ∧ x.toInt ≤ b)) := by
  subst ha; subst hb; exact p_in6i x lo hi
theorem o_asked : Op_asked := by
  intro I J M N R
  exact ⟨I 7 0 0, rfl, by rw [← R.2.2.1.1]; rfl, R⟩
theorem o_upper : Op_upper := by
  intro I J M N R
  exact ⟨J 0 0, rfl, by rw [← R.2.2.1.2.2.2.1]; rfl, R⟩
theorem o_lower : Op_lower := by
  intro I J M N R
  exact ⟨J 0 1, rfl, by rw [← R.2.2.1.2.2.2.2]; rfl, R⟩
theorem o_finding : Op_finding := by
  intro I J M N R
  exact ⟨I 7 1 0, rfl, by rw [← R.2.2.1.2.1]; rfl, R⟩
theorem o_findings : Op_findings := by
  intro I J M N x R
  have a1 : (1 : Int32).toInt = 1 := by decide
  have a5 : (5 : Int32).toInt = 5 := by decide
  by_cases h : 1 ≤ x.toInt ∧ x.toInt ≤ 5
  · obtain ⟨j, hj, rfl⟩ := ix_of (x := x) (n := 6) (by omega) (by omega) (by omega)
    refine ⟨I 7 2 j, ?_, ?_, R⟩
    · unfold f_X5_findings
      rw [if_neg (by rw [i32_lt]; omega), if_pos (by rw [i32_le]; omega), ck_t _ (inb_nI hj (by omega)), nI_clamp (by omega)]
    · unfold f_X6_findings f_X6_findings_22
      rw [p_in6k _ _ _ 1 5 (by decide) (by decide), ob1_s, if_bI, if_pos h, ck_t _ (inb_nI hj (by omega)), nI_clamp (by omega), R.2.2.1.2.2.1 j hj]
  · refine ⟨-1, ?_, ?_, R⟩
    · unfold f_X5_findings f_X5_findings_10
      by_cases h1 : x < 1
      · rw [if_pos h1]
      · rw [if_neg h1, if_neg]
        rw [i32_lt] at h1
        rw [i32_le]
        omega
    · unfold f_X6_findings f_X6_findings_22
      rw [p_in6k _ _ _ 1 5 (by decide) (by decide), ob1_s, if_bI, if_neg h]
