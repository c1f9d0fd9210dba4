/-! ===== keep, on ===== -/
theorem takeFrom0 {c d : CS} {h : Nat → Nat → Nat} (hv : ChV h) (hd : ChC d h) : ∃ c', f_X0_takeFrom c d = some c' ∧ ChC c' h := by
  obtain ⟨v0, v1, v2, v3, v4, v5, v6, v7⟩ := hv
  obtain ⟨c0, c1, c2, c3, c4, c5, c6, c7⟩ := hd
  unfold f_X0_takeFrom
  refine ⟨_, rfl, c0, c1, c2, c3, c4, fun p hp => ?_, fun i hi => ?_, fun k hk => ?_⟩
  · show va_cpy (d 5) (c 5) 0 0 5 p = _ ∧ va_cpy (d 6) (c 6) 0 0 5 p = _ ∧ va_cpy (d 7) (c 7) 0 0 5 p = _
    rw [pk_cpy_in (by omega) (by omega), pk_cpy_in (by omega) (by omega), pk_cpy_in (by omega) (by omega), Nat.zero_add, Nat.sub_zero]
    exact c5 p hp
  · show va_cpy (d 8) (c 8) 0 0 12 i = _ ∧ va_cpy (d 9) (c 9) 0 0 12 i = _ ∧ va_cpy (d 10) (c 10) 0 0 12 i = _ ∧ va_cpy (d 11) (c 11) 0 0 12 i = _
    rw [pk_cpy_in (by omega) (by omega), pk_cpy_in (by omega) (by omega), pk_cpy_in (by omega) (by omega), pk_cpy_in (by omega) (by omega), Nat.zero_add, Nat.sub_zero]
    exact c6 i hi
  · show va_cpy (d 12) (c 12) 0 0 40 k = _
    rw [pk_cpy_in (by omega) (by omega), Nat.zero_add, Nat.sub_zero]
    exact c7 k hk
theorem ChM.cong {a a' : Nat → Int32} {h : Nat → Nat → Nat} (hv : ChV h) (ha : ChM a h) (e : ∀ i, i < 119 → a' i = a i) : ChM a' h := by
  obtain ⟨v0, v1, v2, v3, v4, v5, v6, v7⟩ := hv
  obtain ⟨a0, a1, a2, a3, a4, a5, a6⟩ := ha
  refine ⟨(e 0 (by omega)).trans a0, (e 1 (by omega)).trans a1, (e 2 (by omega)).trans a2, (e 3 (by omega)).trans a3, fun p hp => ?_, fun i hi => ?_, fun k hk => ?_⟩
  · rw [e (4 + p) (by omega), e (9 + p) (by omega), e (14 + p) (by omega)]; exact a4 p hp
  · rw [e (19 + i) (by omega), e (31 + i) (by omega), e (43 + i) (by omega), e (55 + i) (by omega), e (67 + i) (by omega)]; exact a5 i hi
  · rw [e (79 + k) (by omega)]; exact a6 k hk
theorem copies_nk (N : JS) {k : Nat} (hk : k < 3) : ∀ (n i : Nat) (M : CS), i ≤ 119 → 119 - i < n → ∃ M', f_X6_copies_now_keeps_3 n (nI 0) (nI (119 * k)) (nI i) M N = some M' ∧ (∀ q, q ≠ 5 → M' q = M q) ∧ ∀ x, M' 5 x = if 119 * k + i ≤ x ∧ x < 119 * k + 119 then M 4 (x - 119 * k) else M 5 x := by
  intro n
  induction n with
  | zero => intro i M h1 h2; exact absurd h2 (by omega)
  | succ n ih =>
    intro i M h1 h2
    rw [f_X6_copies_now_keeps_3]
    by_cases hi : 119 ≤ i
    · rw [if_pos (show (119 : Int32) ≤ nI i from nI_le (a := 119) hi (by omega))]
      exact ⟨M, rfl, fun _ _ => rfl, fun x => by rw [if_neg (by omega)]⟩
    · have hi' : i < 119 := Nat.not_le.mp hi
      rw [if_neg (show ¬ (119 : Int32) ≤ nI i from nI_ge (b := 119) hi' (by omega)), nI_add, nI_add, Nat.zero_add, ck_t _ (inb_nI hi' (by omega)), ck_t _ (inb_nI (show 119 * k + i < 357 by omega) (by omega)), nI_clamp (by omega), nI_clamp (by omega), nI_1]
      obtain ⟨M', e, g1, g2⟩ := ih (i + 1) (cset M 5 (119 * k + i) (M 4 i)) (by omega) (by omega)
      refine ⟨M', e, fun q hq => by rw [g1 q hq, cset_ne _ _ _ _ _ hq], fun x => ?_⟩
      rw [g2 x, cset_at, cset_ne _ _ _ _ 4 (by omega)]
      by_cases hx : x = 119 * k + i
      · subst hx
        rw [if_neg (by omega), if_pos rfl, if_pos (by omega), Nat.add_sub_cancel_left]
      · by_cases hx2 : 119 * k + (i + 1) ≤ x ∧ x < 119 * k + 119
        · rw [if_pos hx2, if_pos (by omega)]
        · rw [if_neg hx2, if_neg hx, if_neg (by omega)]
theorem copies_kn (N : JS) {k : Nat} (hk : k < 3) : ∀ (n i : Nat) (M : CS), i ≤ 119 → 119 - i < n → ∃ M', f_X6_copies_keeps_now_3 n (nI (119 * k)) (nI 0) (nI i) M N = some M' ∧ (∀ q, q ≠ 4 → M' q = M q) ∧ ∀ x, M' 4 x = if i ≤ x ∧ x < 119 then M 5 (119 * k + x) else M 4 x := by
  intro n
  induction n with
  | zero => intro i M h1 h2; exact absurd h2 (by omega)
  | succ n ih =>
    intro i M h1 h2
    rw [f_X6_copies_keeps_now_3]
    by_cases hi : 119 ≤ i
    · rw [if_pos (show (119 : Int32) ≤ nI i from nI_le (a := 119) hi (by omega))]
      exact ⟨M, rfl, fun _ _ => rfl, fun x => by rw [if_neg (by omega)]⟩
    · have hi' : i < 119 := Nat.not_le.mp hi
      rw [if_neg (show ¬ (119 : Int32) ≤ nI i from nI_ge (b := 119) hi' (by omega)), nI_add, nI_add, Nat.zero_add, ck_t _ (inb_nI (show 119 * k + i < 357 by omega) (by omega)), ck_t _ (inb_nI hi' (by omega)), nI_clamp (by omega), nI_clamp (by omega), nI_1]
      obtain ⟨M', e, g1, g2⟩ := ih (i + 1) (cset M 4 i (M 5 (119 * k + i))) (by omega) (by omega)
      refine ⟨M', e, fun q hq => by rw [g1 q hq, cset_ne _ _ _ _ _ hq], fun x => ?_⟩
      rw [g2 x, cset_at, cset_ne _ _ _ _ 5 (by omega)]
      by_cases hx : x = i
      · subst hx
        rw [if_neg (by omega), if_pos rfl, if_pos (by omega)]
      · by_cases hx2 : i + 1 ≤ x ∧ x < 119
        · rw [if_pos hx2, if_pos (by omega)]
        · rw [if_neg hx2, if_neg hx, if_neg (by omega)]
theorem o_keep : Op_keep := by
  intro I J M N y1 R
  obtain ⟨h, hv, hc, ha⟩ := R.2.2.2.1
  have v0 : h 0 0 ≤ 5 := hv.1
  unfold f_X5_keep f_X6_keep
  rw [p_isPlace5, p_in6i, ob1_s, ob1_s, if_bI, if_bI, show (0 : Int64).toInt = 0 by decide, show (2 : Int64).toInt = 2 by decide, hc.1, ha.1]
  by_cases h1 : 0 ≤ y1.toInt ∧ y1.toInt < 3
  · rw [if_pos h1, if_pos (show 0 ≤ y1.toInt ∧ y1.toInt ≤ 2 by omega)]
    obtain ⟨k, hk, rfl⟩ := ix_of (n := 3) h1.1 h1.2 (by omega)
    by_cases h2 : h 0 0 = 0
    · rw [h2, if_pos nI_0, if_pos nI_0]; exact ⟨_, _, _, rfl, rfl, R⟩
    · have h2' := nI_ne0 (n := h 0 0) (by omega) (by omega)
      rw [if_neg h2', if_neg h2', ck_t _ (inb_nI hk (by omega)), nI_clamp (by omega)]
      obtain ⟨c', e, g⟩ := takeFrom0 (c := I (2 + k)) hv hc
      obtain ⟨M', e', g1, g2⟩ := copies_nk N hk FU 0 M (by omega) (FU_ge (by omega))
      have e'' : f_X6_copies_now_keeps M N 0 ((119 : Int32) * nI k) = some M' := by
        rw [show (119 : Int32) = nI 119 from rfl, pk_mul]; exact e'
      rw [e, ob1_s, e'', ob1_s, ck_t _ (inb_nI hk (by omega)), gset_ne I (2 + k) c' 0 (by omega), hc.2.2.2.2.1, g1 4 (by omega), ha.2.2.2.1]
      obtain ⟨r1, r2, r3, r4, r5⟩ := R
      refine ⟨_, _, _, rfl, rfl, ?_⟩
      unfold Rel
      rw [gset_ne I (2 + k) c' 0 (by omega), gset_ne I (2 + k) c' 5 (by omega), gset_ne I (2 + k) c' 6 (by omega), gset_ne I (2 + k) c' 7 (by omega), cset_ne _ _ _ _ 0 (by omega), cset_ne _ _ _ _ 1 (by omega), cset_ne _ _ _ _ 2 (by omega), cset_ne _ _ _ _ 3 (by omega), cset_ne _ _ _ _ 4 (by omega), cset_ne _ _ _ _ 5 (by omega), g1 0 (by omega), g1 1 (by omega), g1 2 (by omega), g1 3 (by omega), g1 4 (by omega)]
      refine ⟨r1, r2, ?_, r4, fun k' hk' => ?_⟩
      · unfold ToldR
        rw [cset_ne _ _ _ _ 7 (by omega), cset_ne _ _ _ _ 8 (by omega), cset_ne _ _ _ _ 9 (by omega), g1 7 (by omega), g1 8 (by omega), g1 9 (by omega)]
        exact r3
      · rw [cset_at, g1 6 (by omega)]
        by_cases ek : k' = k
        · subst ek
          rw [if_pos rfl, gset_at]
          refine Or.inr ⟨rfl, h, by omega, hv, g, ha.cong hv (fun i hi => ?_)⟩
          show M' 5 (119 * k' + i) = M 4 i
          rw [g2, if_pos (by omega), Nat.add_sub_cancel_left]
        · rw [if_neg ek, gset_ne _ _ _ _ (by omega)]
          rcases r5 k' hk' with q | ⟨q, h', p1, p2, p3, p4⟩
          · exact Or.inl q
          · refine Or.inr ⟨q, h', p1, p2, p3, p4.cong p2 (fun i hi => ?_)⟩
            show M' 5 (119 * k' + i) = M 5 (119 * k' + i)
            rw [g2, if_neg (by omega)]
  · rw [if_neg h1, if_neg (show ¬ (0 ≤ y1.toInt ∧ y1.toInt ≤ 2) by omega)]; exact ⟨_, _, _, rfl, rfl, R⟩
theorem o_on : Op_on := by
  intro I J M N y1 R
  unfold f_X5_on f_X6_on f_X5_isKept f_X5_isKept_23 f_X5_isKept_24
  rw [p_isPlace5, p_in6i, ob1_s, ob1_s, ob1_s, if_bI, if_bI, if_bI, show (0 : Int64).toInt = 0 by decide, show (2 : Int64).toInt = 2 by decide]
  by_cases h1 : 0 ≤ y1.toInt ∧ y1.toInt < 3
  · simp only [if_pos h1, if_pos (show 0 ≤ y1.toInt ∧ y1.toInt ≤ 2 by omega)]
    obtain ⟨k, hk, rfl⟩ := ix_of (n := 3) h1.1 h1.2 (by omega)
    rw [ck_t _ (inb_nI hk (by omega)), ck_t _ (inb_nI hk (by omega)), ck_t _ (inb_nI hk (by omega)), nI_clamp (by omega)]
    rcases R.2.2.2.2 k hk with ⟨q1, q2⟩ | ⟨q, h, p1, hv, hc, ha⟩
    · rw [q1, q2, if_pos (show (0 : Int32) ≤ 0 by decide), if_pos rfl, show ck (isb 0) (some (0 : Int32)) = some 0 from rfl, ob1_s, if_pos rfl]
      have f1 : f_X4_found (I 7) (J 0) 1 = _ := found4 (I 7) (J 0) 1 (by omega)
      have f2 : f_X6_found M N 1 = _ := found6 M N 1 (by omega)
      rw [f1, f2, ob2_s, ob2_s]
      exact ⟨_, _, _, rfl, rfl, R.found 1⟩
    · have v0 : h 0 0 ≤ 5 := hv.1
      obtain ⟨c', e, g⟩ := takeFrom0 (c := I 0) hv hc
      obtain ⟨M', e', g1, g2⟩ := copies_kn N hk FU 0 M (by omega) (FU_ge (by omega))
      have e'' : f_X6_copies_keeps_now M N ((119 : Int32) * nI k) 0 = some M' := by
        rw [show (119 : Int32) = nI 119 from rfl, pk_mul]; exact e'
      have hM : ChM (M' 4) h := ha.cong hv (fun i hi => by rw [g2, if_pos (by omega)])
      rw [q, hc.1, if_neg (nI_nle (by omega) (by omega)), if_neg (by decide), show ck (isb 1) (some (1 : Int32)) = some 1 from rfl, ob1_s, if_neg (by decide), e, ob1_s, e'', ob1_s, g.2.2.2.2.1, hM.2.2.2.1]
      exact ⟨_, _, _, rfl, rfl, R.chain (fun q h1 _ => gset_ne _ _ _ _ (by omega)) (fun q _ hq => g1 q hq) ⟨h, hv, g, hM⟩⟩
  · simp only [if_neg h1, if_neg (show ¬ (0 ≤ y1.toInt ∧ y1.toInt ≤ 2) by omega)]; exact ⟨_, _, _, rfl, rfl, R⟩
