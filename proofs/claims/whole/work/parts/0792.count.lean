/-! ===== count ===== -/
theorem FU_s : FU = 4999 + 1 := rfl
theorem isOfKind1 {h : Nat → Nat → Nat} (hv : ChV h) {c : CS} (hc : ChC c h) {p : Nat} (hp : p < h 0 0) : f_X0_isOfKind c (nI p) 1 = f_X6_isOf (nI (h 5 p)) 1 ∧ (f_X6_isOf (nI (h 5 p)) 1 = some 0 ∨ f_X6_isOf (nI (h 5 p)) 1 = some 1) := by
  have v0 : h 0 0 ≤ 5 := hv.1
  have hk : h 5 p < 6 := by have := (hv.2.2.2.2.2.1 p hp).1; omega
  obtain ⟨kk, kv⟩ := kind_both (h 5 p) hk 1 (by omega) (by omega)
  have kk' : f_X0_isAlso (nI (h 5 p)) 1 = f_X6_isOf (nI (h 5 p)) 1 := kk
  have kv' : f_X6_isOf (nI (h 5 p)) 1 = some 0 ∨ f_X6_isOf (nI (h 5 p)) 1 = some 1 := kv
  refine ⟨?_, kv'⟩
  unfold f_X0_isOfKind f_X0_isOfKind_25 f_X0_isOfKind_26
  rw [p_isPerson0 hv hc, ob1_s, if_bI, nI_toInt (by omega), if_pos (by omega), ck_t _ (inb_nI (show p < 5 by omega) (by omega)), nI_clamp (by omega), (hc.2.2.2.2.2.1 p hp).1, kk']
  rcases kv' with q | q
  · rw [q, ob1_s, if_pos rfl]; rfl
  · rw [q, ob1_s, if_neg (show ¬ (1 : Int32) = 0 by decide)]; rfl
theorem drift_both {h : Nat → Nat → Nat} (hv : ChV h) {c M : CS} (N : JS) (hc : ChC c h) (ha : ChM (M 4) h) (x1 : Int32) : ∀ (n p : Nat) (x : Int32), p ≤ h 0 0 → h 0 0 - p < n → ∃ r, f_X0_drifters_4 n x (nI p) c = some r ∧ f_X6_counted_4 n x1 x (nI p) M N = f_X6_counted_48 FU x1 r 0 0 M N := by
  have v0 : h 0 0 ≤ 5 := hv.1
  intro n
  induction n with
  | zero => intro p x h1 h2; exact absurd h2 (by omega)
  | succ n ih =>
    intro p x h1 h2
    rw [f_X0_drifters_4, f_X6_counted_4, hc.1, ha.1]
    by_cases hp : h 0 0 ≤ p
    · have := nI_le hp (show p < 2 ^ 31 by omega)
      rw [if_pos this, if_pos this]; exact ⟨x, rfl, rfl⟩
    · have hp' : p < h 0 0 := Nat.not_le.mp hp
      have := nI_ge hp' (show h 0 0 < 2 ^ 31 by omega)
      obtain ⟨e1, e2⟩ := isOfKind1 hv hc hp'
      rw [if_neg this, if_neg this, e1, show (4 : Int32) + nI p = nI (4 + p) from nI_add 4 p, ck_t _ (inb_nI (show 4 + p < 119 by omega) (by omega)), nI_clamp (by omega), (ha.2.2.2.2.1 p hp').1]
      unfold f_X0_drifters_24 f_X6_counted_35
      rw [nI_1]
      rcases e2 with e2 | e2
      · rw [e2, ob1_s, ob1_s, if_pos rfl, if_pos rfl, Int32.add_zero]
        exact ih (p + 1) x (by omega) (by omega)
      · rw [e2, ob1_s, ob1_s, if_neg (show ¬ (1 : Int32) = 0 by decide), if_neg (show ¬ (1 : Int32) = 0 by decide)]
        exact ih (p + 1) (x + 1) (by omega) (by omega)
theorem rows_cnt {b M : CS} (N : JS) (R : RowsR 6 40 b (M 0) (M 1)) (x2 : Int32) : ∀ (n i : Nat) (x : Int32), i ≤ 6 → 6 - i < n → ∃ r, f_X3_howManyThere_r_4 n x (nI i) b = some r ∧ f_X6_counted_48 n 6 x2 x (nI i) M N = f_X6_counted_85 6 x2 r M N := by
  intro n
  induction n with
  | zero => intro p x h1 h2; exact absurd h2 (by omega)
  | succ n ih =>
    intro i x h1 h2
    rw [f_X3_howManyThere_r_4, f_X6_counted_48]
    by_cases hi : 6 ≤ i
    · have := show (6 : Int32) ≤ nI i from nI_le (a := 6) hi (by omega)
      rw [if_pos this, if_pos this]; exact ⟨x, rfl, rfl⟩
    · have hi' : i < 6 := Nat.not_le.mp hi
      have := show ¬ (6 : Int32) ≤ nI i from nI_ge (b := 6) hi' (by omega)
      obtain ⟨s1, s2⟩ := R i hi'
      rw [if_neg this, if_neg this, if_pos rfl, there_r b hi', ob1_s, if_bI, ck_t _ (inb_nI hi' (by omega)), nI_clamp (by omega), s1]
      unfold f_X3_howManyThere_r_24 f_X6_counted_77
      rw [nI_1]
      rcases s2 with s2 | ⟨k, hk, s2, s3⟩
      · rw [s2, if_neg (fun z => z rfl), if_neg (show ¬ (0 : Int32) ≤ -1 by decide), Int32.add_zero]
        exact ih (i + 1) x (by omega) (by omega)
      · rw [s2, if_pos (nI_m1 k (by omega)), if_pos (nI_pos' (by omega))]
        exact ih (i + 1) (x + 1) (by omega) (by omega)
theorem texts_cnt {b M : CS} (N : JS) (R : RowsR 4 60 b (M 2) (M 3)) (x2 : Int32) : ∀ (n i : Nat) (x : Int32), i ≤ 4 → 4 - i < n → ∃ r, f_X3_howManyThere_t_4 n x (nI i) b = some r ∧ f_X6_counted_88 n 7 x2 x (nI i) M N = f_X6_counted_124 7 x2 r M N := by
  intro n
  induction n with
  | zero => intro p x h1 h2; exact absurd h2 (by omega)
  | succ n ih =>
    intro i x h1 h2
    rw [f_X3_howManyThere_t_4, f_X6_counted_88]
    by_cases hi : 4 ≤ i
    · have := show (4 : Int32) ≤ nI i from nI_le (a := 4) hi (by omega)
      rw [if_pos this, if_pos this]; exact ⟨x, rfl, rfl⟩
    · have hi' : i < 4 := Nat.not_le.mp hi
      have := show ¬ (4 : Int32) ≤ nI i from nI_ge (b := 4) hi' (by omega)
      obtain ⟨s1, s2⟩ := R i hi'
      rw [if_neg this, if_neg this, if_pos rfl, there_t b hi', ob1_s, if_bI, ck_t _ (inb_nI hi' (by omega)), nI_clamp (by omega), s1]
      unfold f_X3_howManyThere_t_24 f_X6_counted_116
      rw [nI_1]
      rcases s2 with s2 | ⟨k, hk, s2, s3⟩
      · rw [s2, if_neg (fun z => z rfl), if_neg (show ¬ (0 : Int32) ≤ -1 by decide), Int32.add_zero]
        exact ih (i + 1) x (by omega) (by omega)
      · rw [s2, if_pos (nI_m1 k (by omega)), if_pos (nI_pos' (by omega))]
        exact ih (i + 1) (x + 1) (by omega) (by omega)
theorem kept_cnt {I : Nat → CS} (J : Nat → JS) {M : CS} (N : JS) (R : KeptR I (M 5) (M 6)) (x2 : Int32) : ∀ (n i : Nat) (x : Int32), i ≤ 3 → 3 - i < n → ∃ r, f_X5_keptChains_4 n x (nI i) I J = some r ∧ f_X6_counted_127 n 8 x2 x (nI i) M N = f_X6_counted_163 8 x2 r M N := by
  intro n
  induction n with
  | zero => intro p x h1 h2; exact absurd h2 (by omega)
  | succ n ih =>
    intro i x h1 h2
    rw [f_X5_keptChains_4, f_X6_counted_127]
    by_cases hi : 3 ≤ i
    · have := show (3 : Int32) ≤ nI i from nI_le (a := 3) hi (by omega)
      rw [if_pos this, if_pos this]; exact ⟨x, rfl, rfl⟩
    · have hi' : i < 3 := Nat.not_le.mp hi
      have := show ¬ (3 : Int32) ≤ nI i from nI_ge (b := 3) hi' (by omega)
      unfold f_X5_isKept f_X5_isKept_23 f_X5_isKept_24 f_X5_keptChains_20 f_X6_counted_155
      rw [if_neg this, if_neg this, if_pos rfl, p_isPlace5, ob1_s, if_bI, nI_toInt (by omega), if_pos (show (0 : Int) ≤ (i : Nat) ∧ ((i : Nat) : Int) < 3 by omega), ck_t _ (inb_nI hi' (by omega)), ck_t _ (inb_nI hi' (by omega)), nI_clamp (by omega), nI_1]
      rcases R i hi' with ⟨q1, q2⟩ | ⟨q, h, p1, hv, hc, ha⟩
      · rw [q1, q2, if_pos (show (0 : Int32) ≤ 0 by decide), show ck (isb 0) (some (0 : Int32)) = some 0 from rfl, ob1_s, if_pos rfl, if_pos rfl, Int32.add_zero]
        exact ih (i + 1) x (by omega) (by omega)
      · have v0 : h 0 0 ≤ 5 := hv.1
        rw [q, hc.1, if_neg (nI_nle (by omega) (by omega)), show ck (isb 1) (some (1 : Int32)) = some 1 from rfl, ob1_s, if_neg (show ¬ (1 : Int32) = 0 by decide), if_neg (show ¬ (1 : Int32) = 0 by decide)]
        exact ih (i + 1) (x + 1) (by omega) (by omega)
theorem skip48 (M : CS) (N : JS) (x1 x2 x3 : Int32) (h : ¬ x1 = 6) : f_X6_counted_48 FU x1 x2 x3 0 M N = f_X6_counted_85 x1 x2 x3 M N := by
  rw [FU_s, f_X6_counted_48, if_neg (show ¬ (6 : Int32) ≤ 0 by decide), if_neg h]
theorem skip85 (M : CS) (N : JS) (x1 x2 x3 : Int32) (h : ¬ x1 = 7) : f_X6_counted_85 x1 x2 x3 M N = f_X6_counted_124 x1 x2 x3 M N := by
  unfold f_X6_counted_85
  rw [FU_s, f_X6_counted_88, if_neg (show ¬ (4 : Int32) ≤ 0 by decide), if_neg h]
theorem skip124 (M : CS) (N : JS) (x1 x2 x3 : Int32) (h : ¬ x1 = 8) : f_X6_counted_124 x1 x2 x3 M N = f_X6_counted_163 x1 x2 x3 M N := by
  unfold f_X6_counted_124
  rw [FU_s, f_X6_counted_127, if_neg (show ¬ (3 : Int32) ≤ 0 by decide), if_neg h]
theorem counted_both {I : Nat → CS} {J : Nat → JS} {M : CS} {N : JS} (R : Rel I J M N) {w : Nat} (hw : w < 9) : ∃ r, f_X5_howMany I J (nI w) = some r ∧ f_X6_counted M N (nI w) = some r := by
  obtain ⟨h, hv, hc, ha⟩ := R.2.2.2.1
  have v0 : h 0 0 ≤ 5 := hv.1
  have v2 : h 2 0 < 4096 := Nat.lt_of_lt_of_le hv.2.2.1 (pow12 hv.2.1)
  obtain ⟨dr, d1, d2⟩ := drift_both hv N hc ha (nI w) FU 0 0 (by omega) (FU_ge (by omega))
  have d1' : f_X0_drifters (I 0) = some dr := d1
  have d2' : f_X6_counted M N (nI w) = f_X6_counted_48 FU (nI w) dr 0 0 M N := d2
  have fin : ∀ v : Nat, nI w = nI v → v < 6 → f_X6_counted M N (nI w) = f_X6_counted_163 (nI v) dr 0 M N := by
    intro v e hv6
    rw [d2', e]
    rw [skip48 _ _ _ _ _ (show ¬ nI v = (6 : Int32) from fun q => absurd ((nI_eq (b := 6) (by omega) (by omega)).mp q) (by omega)), skip85 _ _ _ _ _ (show ¬ nI v = (7 : Int32) from fun q => absurd ((nI_eq (b := 7) (by omega) (by omega)).mp q) (by omega)), skip124 _ _ _ _ _ (show ¬ nI v = (8 : Int32) from fun q => absurd ((nI_eq (b := 8) (by omega) (by omega)).mp q) (by omega))]
  unfold f_X5_howMany
  rcases (show w = 0 ∨ w = 1 ∨ w = 2 ∨ w = 3 ∨ w = 4 ∨ w = 5 ∨ w = 6 ∨ w = 7 ∨ w = 8 by omega) with rfl | rfl | rfl | rfl | rfl | rfl | rfl | rfl | rfl
  · exact ⟨_, rfl, by rw [fin 0 rfl (by omega)]; show some (M 4 0) = some (I 0 0 0); rw [hc.1, ha.1]⟩
  · exact ⟨_, rfl, by rw [fin 1 rfl (by omega)]; show some (M 4 1) = some (I 0 1 0); rw [hc.2.1, ha.2.1]⟩
  · refine ⟨nI (pc (h 2 0)), ?_, ?_⟩
    · show (ob1 (f_J6_bitCount_0f7a4 ((I 0) 2 0)) fun r1 => some (r1)) = _
      rw [hc.2.2.1, bitCount0 _ v2, ob1_s]
    · rw [fin 2 rfl (by omega)]
      show (ob1 (f_X6_mended M N) fun r1 => some (r1)) = _
      have := pc_lv hv
      unfold f_X6_mended
      rw [live6 hv ha, ob1_s, bits6 _ (lvh_lt hv), ob1_s, ha.2.1, pk_sub (by omega), ob1_s, show h 1 0 - pc (lv h) = pc (h 2 0) by omega]
  · exact ⟨_, rfl, by rw [fin 3 rfl (by omega)]; show some (M 4 2) = some (I 0 3 0); rw [hc.2.2.2.1, ha.2.2.1]⟩
  · exact ⟨_, rfl, by rw [fin 4 rfl (by omega)]; show some (M 4 3) = some (I 0 4 0); rw [hc.2.2.2.2.1, ha.2.2.2.1]⟩
  · refine ⟨dr, ?_, by rw [fin 5 rfl (by omega)]; rfl⟩
    show (ob1 (f_X0_drifters (I 0)) fun r2 => some (r2)) = _
    rw [d1', ob1_s]
  · obtain ⟨r, k1, k2⟩ := rows_cnt N R.1 dr FU 0 0 (by omega) (FU_ge (by omega))
    have k1' : f_X3_howManyThere_r (I 5) = some r := k1
    have k2' : f_X6_counted_48 FU (nI 6) dr 0 0 M N = f_X6_counted_85 6 dr r M N := k2
    refine ⟨r, ?_, ?_⟩
    · show (ob1 (f_X3_howManyThere_r (I 5)) fun r2 => some (r2)) = _
      rw [k1', ob1_s]
    · rw [d2', k2', skip85 _ _ _ _ _ (by decide), skip124 _ _ _ _ _ (by decide)]; rfl
  · obtain ⟨r, k1, k2⟩ := texts_cnt N R.2.1 dr FU 0 0 (by omega) (FU_ge (by omega))
    have k1' : f_X3_howManyThere_t (I 6) = some r := k1
    have k2' : f_X6_counted_85 (nI 7) dr 0 M N = f_X6_counted_124 7 dr r M N := k2
    refine ⟨r, ?_, ?_⟩
    · show (ob1 (f_X3_howManyThere_t (I 6)) fun r2 => some (r2)) = _
      rw [k1', ob1_s]
    · rw [d2', skip48 _ _ _ _ _ (by decide), k2', skip124 _ _ _ _ _ (by decide)]; rfl
  · obtain ⟨r, k1, k2⟩ := kept_cnt J N R.2.2.2.2 dr FU 0 0 (by omega) (FU_ge (by omega))
    have k1' : f_X5_keptChains I J = some r := k1
    have k2' : f_X6_counted_124 (nI 8) dr 0 M N = f_X6_counted_163 8 dr r M N := k2
    refine ⟨r, ?_, ?_⟩
    · show (ob1 (f_X5_keptChains I J) fun r2 => some (r2)) = _
      rw [k1', ob1_s]
    · rw [d2', skip48 _ _ _ _ _ (by decide), skip85 _ _ _ _ _ (by decide), k2']; rfl
theorem o_count : Op_count := by
  intro I J M N y1 R
  have e0 : (0 : Int32).toInt = 0 := by decide
  have e9 : (9 : Int32).toInt = 9 := by decide
  unfold f_X5_count f_X6_count f_X5_count_10 f_X6_count_21
  rw [p_in6i, ob1_s, if_bI, show (0 : Int64).toInt = 0 by decide, show (8 : Int64).toInt = 8 by decide]
  by_cases h2 : 0 ≤ y1.toInt ∧ y1.toInt ≤ 8
  · obtain ⟨w, hw, rfl⟩ := ix_of (x := y1) (n := 9) h2.1 (by omega) (by omega)
    obtain ⟨r, k1, k2⟩ := counted_both R hw
    rw [if_pos h2, if_neg (nI_pos (by omega)), if_pos (show nI w < (9 : Int32) from nI_lt (b := 9) hw (by omega)), k1, k2, ob1_s]
    exact ⟨_, rfl, rfl, R⟩
  · rw [if_neg h2]
    by_cases q1 : y1 < 0
    · rw [if_pos q1]; exact ⟨_, rfl, rfl, R⟩
    · rw [if_neg q1, if_neg (fun q : y1 < 9 => h2 (by rw [i32_lt, e0] at q1; rw [i32_lt, e9] at q; omega))]; exact ⟨_, rfl, rfl, R⟩
/-! ===== how it all begins ===== -/
theorem rel_0 : Rel tI0 tJ0 mo0 mj0 := by
  refine ⟨fun r hr => ?_, fun r hr => ?_, ⟨rfl, rfl, fun f hf => ?_, rfl, rfl⟩, ⟨fun _ _ => 0, ⟨Nat.zero_le _, Nat.zero_le _, (by decide : (0 : Nat) < 2 ^ 0), Nat.zero_le _, Nat.zero_le _, fun p hp => absurd hp (Nat.not_lt_zero _), fun i hi => absurd hi (Nat.not_lt_zero _), fun _ => 0, fun _ => 0, fun _ => 0, rfl, rfl, rfl, fun k hk => absurd hk (Nat.not_lt_zero _)⟩, ⟨rfl, rfl, rfl, rfl, rfl, fun p hp => absurd hp (Nat.not_lt_zero _), fun i hi => absurd hi (Nat.not_lt_zero _), fun k hk => absurd hk (Nat.not_lt_zero _)⟩, ⟨rfl, rfl, rfl, rfl, fun p hp => absurd hp (Nat.not_lt_zero _), fun i hi => absurd hi (Nat.not_lt_zero _), fun k hk => absurd hk (Nat.not_lt_zero _)⟩⟩, fun k hk => ?_⟩
  · rcases (show r = 0 ∨ r = 1 ∨ r = 2 ∨ r = 3 ∨ r = 4 ∨ r = 5 by omega) with rfl | rfl | rfl | rfl | rfl | rfl <;> exact ⟨rfl, Or.inl rfl⟩
  · rcases (show r = 0 ∨ r = 1 ∨ r = 2 ∨ r = 3 by omega) with rfl | rfl | rfl | rfl <;> exact ⟨rfl, Or.inl rfl⟩
  · rcases (show f = 0 ∨ f = 1 ∨ f = 2 ∨ f = 3 ∨ f = 4 ∨ f = 5 by omega) with rfl | rfl | rfl | rfl | rfl | rfl <;> rfl
  · rcases (show k = 0 ∨ k = 1 ∨ k = 2 by omega) with rfl | rfl | rfl <;> exact Or.inl ⟨rfl, rfl⟩
