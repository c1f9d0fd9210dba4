/-! ===== copy ===== -/
theorem holdsRun0 {b : CS} {j k n : Nat} (hj : j < 6) (hk : k ≤ 40) (hs : b 6 j = nI k) (hn : n < 2 ^ 31) (x : Int32) : f_X3_holdsRun_r b (nI j) x (nI n) = some (bI (0 ≤ x.toInt ∧ x.toInt + n ≤ (k : Nat))) := by
  have e0 : (0 : Int32).toInt = 0 := by decide
  unfold f_X3_holdsRun_r f_X3_holdsRun_r_42 f_X3_holdsRun_r_43
  rw [there_r b hj, ob1_s, if_bI, hs, if_pos (nI_m1 k (by omega)), if_neg (show ¬ nI n < 0 from nI_pos hn), ck_t _ (inb_nI hj (by omega)), ck_t _ (inb_nI hj (by omega)), nI_clamp (by omega), hs]
  by_cases h1 : x < 0
  · rw [if_pos h1, bI_f (by rw [i32_lt, e0] at h1; omega)]; rfl
  · obtain ⟨i, hi, rfl⟩ := nI_of h1
    rw [if_neg h1, nI_toInt hi]
    by_cases h2 : i ≤ k
    · rw [if_neg (nI_nlt h2 (by omega)), pk_sub h2]
      by_cases h3 : n ≤ k - i
      · rw [if_neg (nI_nlt h3 (by omega)), bI_t (by omega)]; rfl
      · rw [if_pos (nI_lt (by omega) (by omega)), bI_f (by omega)]; rfl
    · rw [if_pos (nI_lt (by omega) (by omega)), bI_f (by omega)]; rfl
/-- what lies in a row after some steps of the copying -/
def cpd (A : Nat → Int32) (t i : Nat) (src dst n m : Nat) : Nat → Int32 := fun y => if dst ≤ y ∧ y < dst + n ∧ ((t ≤ i ∧ y - dst < m) ∨ (¬ t ≤ i ∧ n - m ≤ y - dst)) then A (src + (y - dst)) else A y
theorem copy_104 (N : JS) {js jt i t n : Nat} (hjs : js < 6) (hjt : jt < 6) (hi : i + n ≤ 40) (ht : t + n ≤ 40) (A : Nat → Int32) :
    ∀ (u m : Nat) (M : CS), m ≤ n → n - m < u → (∀ y, M 1 y = cpd A t i (40 * js + i) (40 * jt + t) n m y) → ∃ M', f_X6_copy_104 u (nI js) (nI i) (nI jt) (nI t) (nI n) (nI m) M N = some (1, M') ∧ (∀ q, q ≠ 1 → M' q = M q) ∧ ∀ y, M' 1 y = cpd A t i (40 * js + i) (40 * jt + t) n n y := by
  intro u
  induction u with
  | zero => intro m M h1 h2; exact absurd h2 (by omega)
  | succ u ih =>
    intro m M h1 h2 hM
    rw [f_X6_copy_104]
    by_cases hm : n ≤ m
    · rw [if_pos (nI_le hm (by omega))]
      have : m = n := by omega
      subst this
      exact ⟨M, rfl, fun _ _ => rfl, hM⟩
    · rw [if_neg (nI_ge (by omega) (by omega))]
      have go : ∀ o, o < n → (o = if t ≤ i then m else n - 1 - m) → ∃ M', f_X6_copy_129 (f_X6_copy_104 u) (nI js) (nI i) (nI jt) (nI t) (nI n) (nI m) (nI o) M N = some (1, M') ∧ (∀ q, q ≠ 1 → M' q = M q) ∧ ∀ y, M' 1 y = cpd A t i (40 * js + i) (40 * jt + t) n n y := by
        intro o ho hoe
        unfold f_X6_copy_129
        rw [ix_40, ix_40, nI_add, nI_add, ck_t _ (inb_nI (show 40 * js + i + o < 240 by omega) (by omega)), ck_t _ (inb_nI (show 40 * jt + t + o < 240 by omega) (by omega)), nI_clamp (by omega), nI_clamp (by omega), nI_1]
        have hsrc : M 1 (40 * js + i + o) = A (40 * js + i + o) := by
          rw [hM, cpd]
          refine if_neg (fun z => ?_)
          by_cases hf : t ≤ i
          · rw [if_pos hf] at hoe; omega
          · rw [if_neg hf] at hoe; omega
        obtain ⟨M', e, g1, g2⟩ := ih (m + 1) (cset M 1 (40 * jt + t + o) (M 1 (40 * js + i + o))) (by omega) (by omega) (fun y => by
          rw [cset_at, hsrc, hM, cpd, cpd]
          by_cases hy : y = 40 * jt + t + o
          · subst hy
            rw [if_pos rfl, if_pos (by
              by_cases hf : t ≤ i
              · rw [if_pos hf] at hoe; omega
              · rw [if_neg hf] at hoe; omega), Nat.add_sub_cancel_left]
          · rw [if_neg hy]
            by_cases hz : 40 * jt + t ≤ y ∧ y < 40 * jt + t + n ∧ ((t ≤ i ∧ y - (40 * jt + t) < m) ∨ (¬ t ≤ i ∧ n - m ≤ y - (40 * jt + t)))
            · rw [if_pos hz, if_pos (by omega)]
            · rw [if_neg hz, if_neg (by
                by_cases hf : t ≤ i
                · rw [if_pos hf] at hoe; omega
                · rw [if_neg hf] at hoe; omega)])
        exact ⟨M', e, fun q hq => by rw [g1 q hq, cset_ne _ _ _ _ _ hq], g2⟩
      by_cases hf : t ≤ i
      · rw [if_pos (nI_le hf (by omega))]
        exact go m (by omega) (by rw [if_pos hf])
      · rw [if_neg (nI_ge (by omega) (by omega)), show nI n - (1 : Int32) = nI (n - 1) from pk_sub (b := 1) (by omega), pk_sub (by omega)]
        exact go (n - 1 - m) (by omega) (by rw [if_neg hf])
theorem cpd_0 (A : Nat → Int32) (t i src dst n y : Nat) : A y = cpd A t i src dst n 0 y := by
  unfold cpd
  exact (if_neg (by omega)).symm
theorem cpd_n (A : Nat → Int32) (t i src dst n y : Nat) : cpd A t i src dst n n y = if dst ≤ y ∧ y < dst + n then A (src + (y - dst)) else A y := by
  unfold cpd
  by_cases hz : dst ≤ y ∧ y < dst + n
  · rw [if_pos hz, if_pos (by omega)]
  · rw [if_neg hz, if_neg (fun z => hz ⟨z.1, z.2.1⟩)]
theorem l_add (x y : Int32) : (x.toInt64 + y.toInt64).toInt = x.toInt + y.toInt := by
  have h1 := x.toInt_lt
  have h2 := x.le_toInt
  have h3 := y.toInt_lt
  have h4 := y.le_toInt
  rw [Int64.toInt_add, i32_w, i32_w]
  exact Int.bmod_eq_of_le (by omega) (by omega)
theorem o_copy : Op_copy := by
  intro I J M N y1 y2 y3 y4 y5 R
  have e0 : (0 : Int32).toInt = 0 := by decide
  unfold f_X5_copy f_X6_copy f_X5_copy_22 f_X5_copy_60 f_X5_copy_98 f_X6_copy_14 f_X6_copy_45 f_X6_copy_95
  have f11 : f_X4_found (I 7) (J 0) 1 = _ := found4 (I 7) (J 0) 1 (by omega)
  have f12 : f_X4_found (I 7) (J 0) 2 = _ := found4 (I 7) (J 0) 2 (by omega)
  have f15 : f_X4_found (I 7) (J 0) 5 = _ := found4 (I 7) (J 0) 5 (by omega)
  have f21 : f_X6_found M N 1 = _ := found6 M N 1 (by omega)
  have f22 : f_X6_found M N 2 = _ := found6 M N 2 (by omega)
  have f25 : f_X6_found M N 5 = _ := found6 M N 5 (by omega)
  rw [f11, f12, f15, f21, f22, f25, p_isNumber_r, p_isRow6, ob1_s, ob1_s, if_bI, if_bI, p_isNumber_r, p_isRow6, ob1_s, ob1_s, if_bI, if_bI]
  simp only [ob2_s]
  by_cases h1 : 0 ≤ y1.toInt ∧ y1.toInt < 6
  · rw [if_pos h1, if_pos h1]
    by_cases h3 : 0 ≤ y3.toInt ∧ y3.toInt < 6
    · rw [if_pos h3, if_pos h3]
      by_cases h5 : 0 ≤ y5
      · rw [if_pos h5, if_pos h5]
        obtain ⟨js, hjs, rfl⟩ := ix_of (n := 6) h1.1 h1.2 (by omega)
        obtain ⟨jt, hjt, rfl⟩ := ix_of (n := 6) h3.1 h3.2 (by omega)
        obtain ⟨n, hn, rfl⟩ := nI_of (x := y5) (by rw [i32_lt, e0]; rw [i32_le, e0] at h5; omega)
        obtain ⟨s1, s2⟩ := R.1 js hjs
        obtain ⟨t1, t2⟩ := R.1 jt hjt
        rw [there_r (I 5) hjs, ob1_s, if_bI, there_r (I 5) hjt, ob1_s, if_bI, nI_clamp (show js < 2 ^ 31 by omega), nI_clamp (show jt < 2 ^ 31 by omega), s1, t1, ck_t _ (inb_nI hjs (by omega)), ck_t _ (inb_nI hjt (by omega)), ck_t _ (inb_nI hjs (by omega)), ck_t _ (inb_nI hjt (by omega))]
        rcases s2 with s2 | ⟨ks, hks, s2, s3⟩
        · rw [s2, if_neg (fun z => z rfl), if_pos (show (-1 : Int32) < 0 by decide)]
          exact ⟨_, _, _, rfl, rfl, R.found 1⟩
        · rw [if_pos (show ¬ I 5 6 js = -1 by rw [s2]; exact nI_m1 ks (by omega)), if_neg (show ¬ I 5 6 js < 0 by rw [s2]; exact nI_pos (by omega))]
          rcases t2 with t2 | ⟨kt, hkt, t2, t3⟩
          · rw [t2, if_neg (fun z => z rfl), if_neg (show ¬ (0 : Int32) ≤ -1 by decide)]
            exact ⟨_, _, _, rfl, rfl, R.found 1⟩
          · rw [if_pos (show ¬ I 5 6 jt = -1 by rw [t2]; exact nI_m1 kt (by omega)), if_pos (show (0 : Int32) ≤ I 5 6 jt by rw [t2]; exact nI_pos' (by omega)), holdsRun0 hjs hks s2 hn, ob1_s, if_bI, holdsRun0 hjt hkt t2 hn, ob1_s, if_bI]
            by_cases h2 : y2 < 0
            · rw [if_pos h2, if_neg (show ¬ (0 ≤ y2.toInt ∧ y2.toInt + n ≤ (ks : Nat)) by rw [i32_lt, e0] at h2; omega)]
              exact ⟨_, _, _, rfl, rfl, R.found 2⟩
            · obtain ⟨i, hi, rfl⟩ := nI_of h2
              rw [if_neg h2, nI_toInt hi]
              by_cases h4 : y4 < 0
              · rw [if_pos h4, if_neg (show ¬ (0 ≤ y4.toInt ∧ y4.toInt + n ≤ (kt : Nat)) by rw [i32_lt, e0] at h4; omega), ite_self]
                exact ⟨_, _, _, rfl, rfl, R.found 2⟩
              · obtain ⟨t, ht, rfl⟩ := nI_of h4
                rw [if_neg h4, nI_toInt ht]
                by_cases c1 : i + n ≤ ks
                · rw [if_pos (show (0 : Int) ≤ (i : Nat) ∧ ((i : Nat) : Int) + n ≤ (ks : Nat) by omega), if_neg (show ¬ 0 < lg_cmp ((nI i).toInt64 + (nI n).toInt64) (I 5 6 js).toInt64 by rw [cmp_gt, l_add, i32_w, s2, nI_toInt hi, nI_toInt hn, nI_toInt (by omega)]; omega)]
                  by_cases c2 : t + n ≤ kt
                  · have hA := holdsRun0 hjs hks s2 hn (nI i)
                    have hB := holdsRun0 hjt hkt t2 hn (nI t)
                    rw [nI_toInt hi, bI_t (by omega)] at hA
                    rw [nI_toInt ht, bI_t (by omega)] at hB
                    obtain ⟨M', k1, k2, k3⟩ := copy_104 N hjs hjt (show i + n ≤ 40 by omega) (show t + n ≤ 40 by omega) (M 1) FU 0 M (by omega) (FU_ge (by omega)) (fun y => cpd_0 _ _ _ _ _ _ _)
                    have k1' : f_X6_copy_104 FU (nI js) (nI i) (nI jt) (nI t) (nI n) 0 M N = _ := k1
                    unfold f_X3_copyRun_r f_X3_copyRun_r_43
                    rw [if_pos (show (0 : Int) ≤ (t : Nat) ∧ ((t : Nat) : Int) + n ≤ (kt : Nat) by omega), if_pos (show lg_cmp ((nI t).toInt64 + (nI n).toInt64) (I 5 6 jt).toInt64 ≤ 0 by rw [cmp_le, l_add, i32_w, t2, nI_toInt ht, nI_toInt hn, nI_toInt (by omega)]; omega), hA, ob1_s, if_neg (show ¬ (1 : Int32) = 0 by decide), hB, ob1_s, if_neg (show ¬ (1 : Int32) = 0 by decide), ck_t _ (inb_nI hjs (by omega)), ck_t _ (inb_nI hjt (by omega)), ck_t _ (show cpok (nI i) (nI n) 40 = true from decide_eq_true ⟨nI_pos hi, nI_pos hn, by rw [nI_clamp hi, nI_clamp hn]; omega⟩), ck_t _ (show cpok (nI t) (nI n) 40 = true from decide_eq_true ⟨nI_pos ht, nI_pos hn, by rw [nI_clamp ht, nI_clamp hn]; omega⟩), ob1_s, k1', nI_clamp (show js < 2 ^ 31 by omega), nI_clamp (show jt < 2 ^ 31 by omega), nI_clamp hi, nI_clamp ht, nI_clamp hn]
                    refine ⟨_, _, _, rfl, rfl, ?_⟩
                    obtain ⟨r1, r2, r3, r4, r5⟩ := R
                    unfold Rel
                    rw [gset_at, gset_ne I 5 _ 6 (by omega), gset_ne I 5 _ 7 (by omega), gset_ne I 5 _ 0 (by omega), k2 0 (by omega), k2 2 (by omega), k2 3 (by omega), k2 4 (by omega), k2 5 (by omega), k2 6 (by omega)]
                    refine ⟨fun r hr => ?_, r2, ?_, r4, r5.set 5 _ (by omega)⟩
                    · rw [csetA_ne _ _ _ 6 (by omega)]
                      obtain ⟨p1, p2⟩ := r1 r hr
                      refine ⟨p1, ?_⟩
                      rcases p2 with p2 | ⟨k, hk, p2, p3⟩
                      · exact Or.inl p2
                      · refine Or.inr ⟨k, hk, p2, fun x hx => ?_⟩
                        rw [k3, cpd_n]
                        by_cases er : r = jt
                        · subst er
                          have hkk : k = kt := by rw [t2, nI_eq (by omega) (by omega)] at p2; omega
                          rw [csetA_at]
                          by_cases hz : t ≤ x ∧ x < t + n
                          · rw [if_pos (by omega), pk_cpy_in hz.1 hz.2, show 40 * js + i + (40 * r + x - (40 * r + t)) = 40 * js + (i + (x - t)) by omega]
                            exact s3 _ (by omega)
                          · rw [if_neg (by omega), pk_cpy_out (by omega)]
                            exact p3 x hx
                        · rw [csetA_ne _ _ _ r er, if_neg (by omega)]
                          exact p3 x hx
                    · unfold ToldR
                      rw [k2 7 (by omega), k2 8 (by omega), k2 9 (by omega)]
                      exact r3
                  · rw [if_neg (show ¬ ((0 : Int) ≤ (t : Nat) ∧ ((t : Nat) : Int) + n ≤ (kt : Nat)) by omega), if_neg (show ¬ lg_cmp ((nI t).toInt64 + (nI n).toInt64) (I 5 6 jt).toInt64 ≤ 0 by rw [cmp_le, l_add, i32_w, t2, nI_toInt ht, nI_toInt hn, nI_toInt (by omega)]; omega)]
                    exact ⟨_, _, _, rfl, rfl, R.found 2⟩
                · rw [if_neg (show ¬ ((0 : Int) ≤ (i : Nat) ∧ ((i : Nat) : Int) + n ≤ (ks : Nat)) by omega), if_pos (show 0 < lg_cmp ((nI i).toInt64 + (nI n).toInt64) (I 5 6 js).toInt64 by rw [cmp_gt, l_add, i32_w, s2, nI_toInt hi, nI_toInt hn, nI_toInt (by omega)]; omega)]
                  exact ⟨_, _, _, rfl, rfl, R.found 2⟩
      · rw [if_neg h5, if_neg h5]; exact ⟨_, _, _, rfl, rfl, R.found 5⟩
    · rw [if_neg h3, if_neg h3]; exact ⟨_, _, _, rfl, rfl, R⟩
  · rw [if_neg h1, if_neg h1]; exact ⟨_, _, _, rfl, rfl, R⟩
