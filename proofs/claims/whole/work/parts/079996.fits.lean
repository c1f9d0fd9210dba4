/-! ===== lowest terms; fits, sure ===== -/
theorem gcd_st (l r : Nat) : Nat.gcd r (l % r) = Nat.gcd l r := by
  rw [Nat.gcd_comm l r, Nat.gcd_rec r l]
  exact Nat.gcd_comm _ _
theorem mod_half {r s : Nat} (h0 : 0 < s) (h : s ≤ r) : 2 * (r % s) < r := by
  have h1 := Nat.mod_lt r h0
  have h2 := Nat.div_add_mod r s
  have h3 : 1 ≤ r / s := (Nat.le_div_iff_mul_le h0).mpr (by omega)
  have h4 : s * 1 ≤ s * (r / s) := Nat.mul_le_mul (Nat.le_refl s) h3
  omega
theorem lq {r : Nat} (hr : r < 2 ^ 63) : lg_cmp (lN r) 0 = 0 ↔ r = 0 := by
  rw [cmp_eq, show (0 : Int64) = lN 0 from rfl, pk_lEQ hr (by omega)]
theorem nzLN {r : Nat} (hr : r < 2 ^ 63) (h0 : 0 < r) : nzL (lN r) = true := decide_eq_true (fun q => by
  have := (pk_lEQ (b := 0) hr (by omega)).mp q
  omega)
theorem gs_9 : ∀ (k n l r i : Nat), r < 2 ^ k → k ≤ 60 → l < 2 ^ 63 → i + 2 * k ≤ 100 → 2 * k < n → f_X4_greatestShared_9 n (lN l) (lN r) (nI i) = some (lN (Nat.gcd l r))
  | 0, n, l, r, i, h1, h2, h3, h4, h5 => by
    obtain ⟨n, rfl⟩ : ∃ u, n = u + 1 := ⟨n - 1, by omega⟩
    have : r = 0 := by rw [Nat.pow_zero] at h1; omega
    subst this
    rw [f_X4_greatestShared_9, if_pos ((lq (r := 0) (by omega)).mpr rfl), Nat.gcd_zero_right]
    unfold f_X4_greatestShared_44
    split <;> rfl
  | k + 1, n, l, r, i, h1, h2, h3, h4, h5 => by
    have hp : 2 ^ (k + 1) = 2 * 2 ^ k := by rw [Nat.pow_succ, Nat.mul_comm]
    have hq : 2 ^ (k + 1) ≤ 2 ^ 60 := Nat.pow_le_pow_right (by omega) h2
    obtain ⟨n, rfl⟩ : ∃ u, n = u + 1 + 1 := ⟨n - 2, by omega⟩
    rw [f_X4_greatestShared_9, if_neg (show ¬ (100 : Int32) ≤ nI i from nI_ge (b := 100) (by omega) (by omega))]
    by_cases z : r = 0
    · subst z
      rw [if_pos ((lq (r := 0) (by omega)).mpr rfl), Nat.gcd_zero_right]; rfl
    · have hm := Nat.mod_lt l (show r > 0 by omega)
      rw [if_neg (fun q => z ((lq (by omega)).mp q)), ck_t _ (nzLN (by omega) (by omega)), lrem h3 (by omega) (by omega), nI_1, f_X4_greatestShared_9, if_neg (show ¬ (100 : Int32) ≤ nI (i + 1) from nI_ge (b := 100) (by omega) (by omega)), ← gcd_st l r]
      by_cases y : l % r = 0
      · rw [y, if_pos ((lq (r := 0) (by omega)).mpr rfl), Nat.gcd_zero_right]; rfl
      · have hh := mod_half (r := r) (s := l % r) (by omega) (by omega)
        rw [if_neg (fun q => y ((lq (by omega)).mp q)), ck_t _ (nzLN (by omega) (by omega)), lrem (by omega) (by omega) (by omega), nI_1, ← gcd_st r (l % r)]
        exact gs_9 k n (l % r) (r % (l % r)) (i + 1 + 1) (by omega) (by omega) (by omega) (by omega) (by omega)
theorem fr_6 (x1 x3 : Int64) (M : CS) (N : JS) : ∀ (k n l r : Nat), r < 2 ^ k → k ≤ 60 → l < 2 ^ 63 → 0 < l + r → 2 * k < n → f_X6_fraction_6 n x1 x3 (lN l) (lN r) M N = some ((1 : Int32), jset (jset N 0 (x1 / lN (Nat.gcd l r))) 1 (x3 / lN (Nat.gcd l r)))
  | 0, n, l, r, h1, h2, h3, h4, h5 => by
    obtain ⟨n, rfl⟩ : ∃ u, n = u + 1 := ⟨n - 1, by omega⟩
    have : r = 0 := by rw [Nat.pow_zero] at h1; omega
    subst this
    rw [f_X6_fraction_6, if_pos ((lq (r := 0) (by omega)).mpr rfl), Nat.gcd_zero_right, ck_t _ (nzLN h3 (by omega)), ck_t _ (nzLN h3 (by omega))]
  | k + 1, n, l, r, h1, h2, h3, h4, h5 => by
    have hp : 2 ^ (k + 1) = 2 * 2 ^ k := by rw [Nat.pow_succ, Nat.mul_comm]
    have hq : 2 ^ (k + 1) ≤ 2 ^ 60 := Nat.pow_le_pow_right (by omega) h2
    obtain ⟨n, rfl⟩ : ∃ u, n = u + 1 + 1 := ⟨n - 2, by omega⟩
    rw [f_X6_fraction_6]
    by_cases z : r = 0
    · subst z
      rw [if_pos ((lq (r := 0) (by omega)).mpr rfl), Nat.gcd_zero_right, ck_t _ (nzLN h3 (by omega)), ck_t _ (nzLN h3 (by omega))]
    · have hm := Nat.mod_lt l (show r > 0 by omega)
      rw [if_neg (fun q => z ((lq (by omega)).mp q)), ck_t _ (nzLN (by omega) (by omega)), lrem h3 (by omega) (by omega), f_X6_fraction_6, ← gcd_st l r]
      by_cases y : l % r = 0
      · rw [y, if_pos ((lq (r := 0) (by omega)).mpr rfl), Nat.gcd_zero_right, ck_t _ (nzLN (by omega) (by omega)), ck_t _ (nzLN (by omega) (by omega))]
      · have hh := mod_half (r := r) (s := l % r) (by omega) (by omega)
        rw [if_neg (fun q => y ((lq (by omega)).mp q)), ck_t _ (nzLN (by omega) (by omega)), lrem (by omega) (by omega) (by omega), ← gcd_st r (l % r)]
        exact fr_6 x1 x3 M N k n (l % r) (r % (l % r)) (by omega) (by omega) (by omega) (by omega) (by omega)
theorem tell4 (o : CS) (j : JS) {a b : Nat} (ha : a < 2 ^ 63) (h0 : 0 < b) (hb : b < 2 ^ 45) : f_X4_tell o j (lN a) (lN b) = some (jset (jset j 0 (lN (a / Nat.gcd a b))) 1 (lN (b / Nat.gcd a b))) := by
  have g0 := Nat.gcd_pos_of_pos_right a h0
  have g1 := Nat.gcd_le_right a h0
  have e : f_X4_greatestShared (lN a) (lN b) = some (lN (Nat.gcd a b)) := gs_9 45 FU a b 0 hb (by omega) ha (by omega) (FU_ge (by omega))
  unfold f_X4_tell f_X4_tell_30
  rw [e, ob1_s, if_neg (fun q => ?_), ck_t _ (nzLN (by omega) g0), ck_t _ (nzLN (by omega) g0), pk_lDiv ha g0 (by omega), pk_lDiv (by omega) g0 (by omega)]
  rw [cmp_le, pk_lT (by omega), show (0 : Int64).toInt = 0 from rfl] at q
  omega
theorem fraction6 (M : CS) (N : JS) {a b : Nat} (ha : a < 2 ^ 63) (h0 : 0 < b) (hb : b < 2 ^ 45) : f_X6_fraction M N (lN a) (lN b) = some ((1 : Int32), jset (jset N 0 (lN (a / Nat.gcd a b))) 1 (lN (b / Nat.gcd a b))) := by
  have g0 := Nat.gcd_pos_of_pos_right a h0
  have g1 := Nat.gcd_le_right a h0
  unfold f_X6_fraction
  rw [fr_6 (lN a) (lN b) M N 45 FU a b hb (by omega) ha (by omega) (FU_ge (by omega)), pk_lDiv ha g0 (by omega), pk_lDiv (by omega) g0 (by omega)]
theorem Rel.tell {I : Nat → CS} {J J' : Nat → JS} {M : CS} {N : JS} (R : Rel I J M N) {a b : Int64} (hj : J' 0 = jset (jset (J 0) 0 a) 1 b) : Rel I J' M (jset (jset N 0 a) 1 b) :=
  ⟨R.1, R.2.1, ⟨R.2.2.1.1, R.2.2.1.2.1, R.2.2.1.2.2.1, by rw [hj]; rfl, by rw [hj]; rfl⟩, R.2.2.2⟩
theorem wi_and (x L : Nat) : x &&& L &&& L = x &&& L := by rw [Nat.and_assoc, Nat.and_self]
theorem o_fits : Op_fits := by
  intro I J M N y1 R
  obtain ⟨h, hv, hc, ha⟩ := R.2.2.2.1
  have hL := lvh_lt hv
  unfold f_X5_fits f_X6_fits
  rcases fours_both R hv hc ha y1 with ⟨r, I', M', q, e1, e2, R1⟩ | ⟨j, f, hj, hf, rfl, hP, s1, s2, s3, ok, e1, e2⟩
  · rw [e1, e2, ob2_s, ob2_s, if_neg q, if_neg q]
    exact ⟨_, _, _, _, _, rfl, rfl, R1⟩
  · obtain ⟨m1, v1, x1, w1, o', j'', c', k1, k2, k3, k4, k5, k6, k7⟩ := find1 (o := I 8) hv (J 1) hj hf s1 ok hc rfl
    obtain ⟨m2, v2, x2, w2, M', l1, l2, l3⟩ := fits_27 hv N hj hf ok FU 0 0 (lv h) 0 (-9) M (by omega) (FU_ge (by omega)) ha s2 s3 (Ivt.start _ _ _)
    have l3' : f_X6_fits_27 FU (nI j) 0 (-9) (nI (lv h)) 0 M N = _ := l3
    obtain ⟨c1, c2, c3, c4⟩ := Ivt_cmp (F := fit h (I 5 j) f) hL (wi_and _ _) (fit_depL hv ok) k3 l2
    have hm2 := l2.m_le
    have ht : f_X4_tell (cset (I 7) 0 0 v1) (J 0) (lN m2) 1 = _ := tell4 (cset (I 7) 0 0 v1) (J 0) (b := 1) (show m2 < 2 ^ 63 by omega) (by omega) (by omega)
    rw [Nat.gcd_one_right, Nat.div_one, Nat.div_one] at ht
    rw [e1, e2, ob2_s, ob2_s, if_pos rfl, if_pos rfl, k1, ob3_s, live6 hv ha, ob1_s, l3', k7, ← c1, k4, ht, ob1_s, c2]
    have F : FrI I (gset (gset I 8 o') 0 c') := FrI.c2 (I' := gset I 8 o') ⟨fun g _ _ => gset_ne _ _ _ _ (by omega), fun _ _ => rfl⟩ k2
    exact ⟨_, _, _, _, _, rfl, rfl, ((R.fr F l1 (J' := J) rfl).ask v2).tell rfl⟩
theorem o_sure : Op_sure := by
  intro I J M N y1 R
  obtain ⟨h, hv, hc, ha⟩ := R.2.2.2.1
  have hL := lvh_lt hv
  unfold f_X5_sure f_X6_sure
  rcases fours_both R hv hc ha y1 with ⟨r, I', M', q, e1, e2, R1⟩ | ⟨j, f, hj, hf, rfl, hP, s1, s2, s3, ok, e1, e2⟩
  · rw [e1, e2, ob2_s, ob2_s, if_neg q, if_neg q]
    exact ⟨_, _, _, _, rfl, rfl, R1⟩
  · obtain ⟨m1, v1, x1, w1, o', j'', c', k1, k2, k3, k4, k5, k6, k7⟩ := find1 (o := I 8) hv (J 1) hj hf s1 ok hc rfl
    obtain ⟨m2, v2, x2, w2, M', l1, l2, l3⟩ := sure_29 hv N hj hf ok FU 0 0 (lv h) 0 (-9) M (by omega) (FU_ge (by omega)) ha s2 s3 (Ivt.start _ _ _)
    have l3' : f_X6_sure_29 FU (nI j) (nI (lv h)) (nI (lv h)) 0 0 0 M N = _ := l3
    obtain ⟨c1, c2, c3, c4⟩ := Ivt_cmp (F := fit h (I 5 j) f) hL (wi_and _ _) (fit_depL hv ok) k3 l2
    have hm2 := l2.m_le
    have F : FrI I (gset (gset I 8 o') 0 c') := FrI.c2 (I' := gset I 8 o') ⟨fun g _ _ => gset_ne _ _ _ _ (by omega), fun _ _ => rfl⟩ k2
    have f1 : f_X4_found (I 7) (J 0) 4 = _ := found4 (I 7) (J 0) 4 (by omega)
    have R2 := R.fr F l1 (J' := hset J 1 j'') rfl
    rw [e1, e2, ob2_s, ob2_s, if_pos rfl, if_pos rfl, k1, ob3_s, live6 hv ha, ob1_s, l3', k7, ← c1, f1, ob2_s, unmended0 hv (hc.fr k2), ob1_s]
    by_cases z : m2 = 0
    · rw [if_pos ((lq (by omega)).mpr z), if_neg (by omega)]
      exact ⟨_, _, _, _, rfl, rfl, R2.found 4⟩
    · have hm1 : 0 < m1 := by
        rcases Nat.eq_zero_or_pos m1 with y | y
        · rw [y, Nat.zero_mul] at c1; exact absurd c1 z
        · exact y
      rw [if_neg (fun y => z ((lq (by omega)).mp y)), if_pos (by omega), k6 hm1, c4 hm1, k5, c3, nI_andn]
      exact ⟨_, _, _, _, rfl, rfl, R2.ask _⟩
