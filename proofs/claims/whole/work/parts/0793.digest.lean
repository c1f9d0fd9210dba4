/-! ===== digest ===== -/
theorem dig_r_in {b M : CS} (N : JS) {r : Nat} (hr : r < 6) (s1 : M 0 r = b 6 r) (s2 : b 6 r = -1 ∨ ∃ k, k ≤ 40 ∧ b 6 r = nI k ∧ ∀ i, i < k → M 1 (40 * r + i) = b r i) (K : Int64 → Int32 → CS → Option Int64) (K' : Int64 → Int32 → CS → JS → Option (Int64 × CS)) : ∀ (n i : Nat) (x : Int64), i ≤ 40 → 40 - i < n → ∃ x', f_X3_digestOn_r_33 K n x (nI r) (nI i) b = K x' (nI (r + 1)) b ∧ f_X6_digest_205 K' n x (nI r) (nI i) M N = K' x' (nI (r + 1)) M N := by
  intro n
  induction n with
  | zero => intro i x h1 h2; exact absurd h2 (by omega)
  | succ n ih =>
    intro i x h1 h2
    rw [f_X3_digestOn_r_33, f_X6_digest_205, ck_t _ (inb_nI hr (by omega)), ck_t _ (inb_nI hr (by omega)), nI_clamp (by omega), s1, nI_1]
    rcases s2 with s2 | ⟨k, hk, s2, s3⟩
    · have : (-1 : Int32) ≤ nI i := by rw [i32_le, m1t, nI_toInt (by omega)]; omega
      rw [s2, if_pos this, if_pos this]
      exact ⟨x, rfl, rfl⟩
    · by_cases hi : k ≤ i
      · have := nI_le hi (show i < 2 ^ 31 by omega)
        rw [s2, if_pos this, if_pos this]
        exact ⟨x, rfl, rfl⟩
      · have := nI_ge (Nat.not_le.mp hi) (show k < 2 ^ 31 by omega)
        have hsz : (b 6 r).toInt = (k : Nat) := by rw [s2, nI_toInt (by omega)]
        rw [s2, if_neg this, if_neg this, get_r b hr (show i < 40 by omega) (by omega), ob1_s, ix_40, ck_t _ (inb_nI (show 40 * r + i < 240 by omega) (by omega)), nI_clamp (by omega), s3 i (by omega), nI_1]
        exact ih (i + 1) _ (by omega) (by omega)
theorem dig_r {b M : CS} (N : JS) (R : RowsR 6 40 b (M 0) (M 1)) : ∀ (n r : Nat) (x : Int64), r ≤ 6 → 6 - r < n → ∃ x', f_X3_digestOn_r_5 n x (nI r) b = some x' ∧ f_X6_digest_182 n x (nI r) M N = f_X6_digest_250 FU x' 0 M N := by
  intro n
  induction n with
  | zero => intro r x h1 h2; exact absurd h2 (by omega)
  | succ n ih =>
    intro r x h1 h2
    rw [f_X3_digestOn_r_5, f_X6_digest_182]
    by_cases hr : 6 ≤ r
    · have := show (6 : Int32) ≤ nI r from nI_le (a := 6) hr (by omega)
      rw [if_pos this, if_pos this]
      exact ⟨x, rfl, rfl⟩
    · have hr' : r < 6 := Nat.not_le.mp hr
      have := show ¬ (6 : Int32) ≤ nI r from nI_ge (b := 6) hr' (by omega)
      obtain ⟨s1, s2⟩ := R r hr'
      rw [if_neg this, if_neg this, ck_t _ (inb_nI hr' (by omega)), ck_t _ (inb_nI hr' (by omega)), nI_clamp (by omega), s1]
      obtain ⟨x', k1, k2⟩ := dig_r_in N hr' s1 s2 (f_X3_digestOn_r_5 n) (f_X6_digest_182 n) FU 0 ((31 : Int64) * x + (b 6 r).toInt64) (by omega) (FU_ge (by omega))
      have k1' : f_X3_digestOn_r_33 (f_X3_digestOn_r_5 n) FU ((31 : Int64) * x + (b 6 r).toInt64) (nI r) 0 b = _ := k1
      have k2' : f_X6_digest_205 (f_X6_digest_182 n) FU ((31 : Int64) * x + (b 6 r).toInt64) (nI r) 0 M N = _ := k2
      rw [k1', k2']
      exact ih (r + 1) x' (by omega) (by omega)
theorem dig_t_in {b M : CS} (N : JS) {r : Nat} (hr : r < 4) (s1 : M 2 r = b 6 r) (s2 : b 6 r = -1 ∨ ∃ k, k ≤ 60 ∧ b 6 r = nI k ∧ ∀ i, i < k → M 3 (60 * r + i) = b r i) (K : Int64 → Int32 → CS → Option Int64) (K' : Int64 → Int32 → CS → JS → Option (Int64 × CS)) : ∀ (n i : Nat) (x : Int64), i ≤ 60 → 60 - i < n → ∃ x', f_X3_digestOn_t_33 K n x (nI r) (nI i) b = K x' (nI (r + 1)) b ∧ f_X6_digest_272 K' n x (nI r) (nI i) M N = K' x' (nI (r + 1)) M N := by
  intro n
  induction n with
  | zero => intro i x h1 h2; exact absurd h2 (by omega)
  | succ n ih =>
    intro i x h1 h2
    rw [f_X3_digestOn_t_33, f_X6_digest_272, ck_t _ (inb_nI hr (by omega)), ck_t _ (inb_nI hr (by omega)), nI_clamp (by omega), s1, nI_1]
    rcases s2 with s2 | ⟨k, hk, s2, s3⟩
    · have : (-1 : Int32) ≤ nI i := by rw [i32_le, m1t, nI_toInt (by omega)]; omega
      rw [s2, if_pos this, if_pos this]
      exact ⟨x, rfl, rfl⟩
    · by_cases hi : k ≤ i
      · have := nI_le hi (show i < 2 ^ 31 by omega)
        rw [s2, if_pos this, if_pos this]
        exact ⟨x, rfl, rfl⟩
      · have := nI_ge (Nat.not_le.mp hi) (show k < 2 ^ 31 by omega)
        have hsz : (b 6 r).toInt = (k : Nat) := by rw [s2, nI_toInt (by omega)]
        rw [s2, if_neg this, if_neg this, get_t b hr (show i < 60 by omega) (by omega), ob1_s, ix_60, ck_t _ (inb_nI (show 60 * r + i < 240 by omega) (by omega)), nI_clamp (by omega), s3 i (by omega), nI_1]
        exact ih (i + 1) _ (by omega) (by omega)
theorem dig_t {b M : CS} (N : JS) (R : RowsR 4 60 b (M 2) (M 3)) : ∀ (n r : Nat) (x : Int64), r ≤ 4 → 4 - r < n → ∃ x', f_X3_digestOn_t_5 n x (nI r) b = some x' ∧ f_X6_digest_250 n x (nI r) M N = some (x', M) := by
  intro n
  induction n with
  | zero => intro r x h1 h2; exact absurd h2 (by omega)
  | succ n ih =>
    intro r x h1 h2
    rw [f_X3_digestOn_t_5, f_X6_digest_250]
    by_cases hr : 4 ≤ r
    · have := show (4 : Int32) ≤ nI r from nI_le (a := 4) hr (by omega)
      rw [if_pos this, if_pos this]
      exact ⟨x, rfl, rfl⟩
    · have hr' : r < 4 := Nat.not_le.mp hr
      have := show ¬ (4 : Int32) ≤ nI r from nI_ge (b := 4) hr' (by omega)
      obtain ⟨s1, s2⟩ := R r hr'
      rw [if_neg this, if_neg this, ck_t _ (inb_nI hr' (by omega)), ck_t _ (inb_nI hr' (by omega)), nI_clamp (by omega), s1]
      obtain ⟨x', k1, k2⟩ := dig_t_in N hr' s1 s2 (f_X3_digestOn_t_5 n) (f_X6_digest_250 n) FU 0 ((31 : Int64) * x + (b 6 r).toInt64) (by omega) (FU_ge (by omega))
      have k1' : f_X3_digestOn_t_33 (f_X3_digestOn_t_5 n) FU ((31 : Int64) * x + (b 6 r).toInt64) (nI r) 0 b = _ := k1
      have k2' : f_X6_digest_272 (f_X6_digest_250 n) FU ((31 : Int64) * x + (b 6 r).toInt64) (nI r) 0 M N = _ := k2
      rw [k1', k2']
      exact ih (r + 1) x' (by omega) (by omega)
theorem dig_p_in {h : Nat → Nat → Nat} (hv : ChV h) (N : JS) {p : Nat} (hp : p < h 0 0) (K : Int64 → Int32 → CS → Option (Int64 × CS)) (K' : Int64 → Int32 → CS → JS → Option (Int64 × CS)) : ∀ (n w : Nat) (x : Int64) (c M : CS), w ≤ 5 → 5 - w < n → ChC c h → ChM (M 4) h → ∃ x' c' M', f_X0_digestOn_17 K n x (nI p) (nI w) c = K x' (nI (p + 1)) c' ∧ f_X6_digest_46 K' n x (nI p) (nI w) M N = K' x' (nI (p + 1)) M' N ∧ (∀ q, q ≠ 13 → c' q = c q) ∧ FrM M M' := by
  intro n
  induction n with
  | zero => intro w x c M h1 h2; exact absurd h2 (by omega)
  | succ n ih =>
    intro w x c M h1 h2 hc hm
    rw [f_X0_digestOn_17, f_X6_digest_46]
    by_cases hw : 5 ≤ w
    · have := show (5 : Int32) ≤ nI w from nI_le (a := 5) hw (by omega)
      rw [if_pos this, if_pos this, nI_1]
      exact ⟨x, c, M, rfl, rfl, fun _ _ => rfl, FrM.rfl' M⟩
    · have hw' : w < 5 := Nat.not_le.mp hw
      have := show ¬ (5 : Int32) ≤ nI w from nI_ge (b := 5) hw' (by omega)
      obtain ⟨c1, e1, g1⟩ := personTrait0 hv hc hp hw'
      obtain ⟨M1, e2, g2⟩ := told6 N hv hm hp hw'
      rw [if_neg this, if_neg this, e1, ob2_s, e2, ob2_s, nI_1]
      obtain ⟨x', c', M', k1, k2, k3, k4⟩ := ih (w + 1) ((31 : Int64) * x + (ptr h p w).toInt64) c1 M1 (by omega) (by omega) (hc.fr g1) (g2.m hm)
      exact ⟨x', c', M', k1, k2, fun q hq => (k3 q hq).trans (g1 q hq), g2.trans k4⟩
theorem dig_p {h : Nat → Nat → Nat} (hv : ChV h) (N : JS) : ∀ (n p : Nat) (x : Int64) (c M : CS), p ≤ h 0 0 → h 0 0 - p < n → ChC c h → ChM (M 4) h → ∃ x' c' M', f_X0_digestOn_5 n x (nI p) c = f_X0_digestOn_54 FU x' 0 c' ∧ f_X6_digest_33 n x (nI p) M N = f_X6_digest_81 FU x' 0 M' N ∧ (∀ q, q ≠ 13 → c' q = c q) ∧ FrM M M' := by
  have v0 : h 0 0 ≤ 5 := hv.1
  intro n
  induction n with
  | zero => intro p x c M h1 h2; exact absurd h2 (by omega)
  | succ n ih =>
    intro p x c M h1 h2 hc hm
    rw [f_X0_digestOn_5, f_X6_digest_33, hc.1, hm.1]
    by_cases hp : h 0 0 ≤ p
    · have := nI_le hp (show p < 2 ^ 31 by omega)
      rw [if_pos this, if_pos this]
      exact ⟨x, c, M, rfl, rfl, fun _ _ => rfl, FrM.rfl' M⟩
    · have hp' : p < h 0 0 := Nat.not_le.mp hp
      have := nI_ge hp' (show h 0 0 < 2 ^ 31 by omega)
      obtain ⟨x1, c1, M1, k1, k2, k3, k4⟩ := dig_p_in hv N hp' (f_X0_digestOn_5 n) (f_X6_digest_33 n) FU 0 x c M (by omega) (FU_ge (by omega)) hc hm
      have k1' : f_X0_digestOn_17 (f_X0_digestOn_5 n) FU x (nI p) 0 c = _ := k1
      have k2' : f_X6_digest_46 (f_X6_digest_33 n) FU x (nI p) 0 M N = _ := k2
      rw [if_neg this, if_neg this, k1', k2']
      obtain ⟨x', c', M', l1, l2, l3, l4⟩ := ih (p + 1) x1 c1 M1 (by omega) (by omega) (hc.fr k3) (k4.m hm)
      exact ⟨x', c', M', l1, l2, fun q hq => (l3 q hq).trans (k3 q hq), k4.trans l4⟩
theorem dig_e_in {h : Nat → Nat → Nat} (hv : ChV h) {c M : CS} (N : JS) (hc : ChC c h) (hm : ChM (M 4) h) {i : Nat} (hi : i < h 1 0) (K : Int64 → Int32 → CS → Option (Int64 × CS)) (K' : Int64 → Int32 → CS → JS → Option (Int64 × CS)) : ∀ (n w : Nat) (x : Int64), w ≤ 5 → 5 - w < n → ∃ x', f_X0_digestOn_66 K n x (nI i) (nI w) c = K x' (nI (i + 1)) c ∧ f_X6_digest_94 K' n x (nI i) (nI w) M N = K' x' (nI (i + 1)) M N := by
  have v1 : h 1 0 ≤ 12 := hv.2.1
  intro n
  induction n with
  | zero => intro w x h1 h2; exact absurd h2 (by omega)
  | succ n ih =>
    intro w x h1 h2
    rw [f_X0_digestOn_66, f_X6_digest_94]
    by_cases hw : 5 ≤ w
    · have := show (5 : Int32) ≤ nI w from nI_le (a := 5) hw (by omega)
      rw [if_pos this, if_pos this, nI_1]
      exact ⟨x, rfl, rfl⟩
    · have hw' : w < 5 := Nat.not_le.mp hw
      have := show ¬ (5 : Int32) ≤ nI w from nI_ge (b := 5) hw' (by omega)
      rw [if_neg this, if_neg this, errorTrait0 hv hc hi hw', ob1_s, ix_err, ck_t _ (inb_nI (show 19 + 12 * w + i < 119 by omega) (by omega)), nI_clamp (by omega), error6 hv hm hi hw', nI_1]
      exact ih (w + 1) _ (by omega) (by omega)
theorem dig_e {h : Nat → Nat → Nat} (hv : ChV h) {c M : CS} (N : JS) (hc : ChC c h) (hm : ChM (M 4) h) : ∀ (n i : Nat) (x : Int64), i ≤ h 1 0 → h 1 0 - i < n → ∃ x', f_X0_digestOn_54 n x (nI i) c = some (x', c) ∧ f_X6_digest_81 n x (nI i) M N = f_X6_digest_137 FU x' 0 M N := by
  have v1 : h 1 0 ≤ 12 := hv.2.1
  intro n
  induction n with
  | zero => intro i x h1 h2; exact absurd h2 (by omega)
  | succ n ih =>
    intro i x h1 h2
    rw [f_X0_digestOn_54, f_X6_digest_81, hc.2.1, hm.2.1]
    by_cases hi : h 1 0 ≤ i
    · have := nI_le hi (show i < 2 ^ 31 by omega)
      rw [if_pos this, if_pos this]
      exact ⟨x, rfl, rfl⟩
    · have hi' : i < h 1 0 := Nat.not_le.mp hi
      have := nI_ge hi' (show h 1 0 < 2 ^ 31 by omega)
      obtain ⟨x1, k1, k2⟩ := dig_e_in hv N hc hm hi' (f_X0_digestOn_54 n) (f_X6_digest_81 n) FU 0 x (by omega) (FU_ge (by omega))
      have k1' : f_X0_digestOn_66 (f_X0_digestOn_54 n) FU x (nI i) 0 c = _ := k1
      have k2' : f_X6_digest_94 (f_X6_digest_81 n) FU x (nI i) 0 M N = _ := k2
      rw [if_neg this, if_neg this, k1', k2']
      exact ih (i + 1) x1 (by omega) (by omega)
theorem dig_k {I : Nat → CS} (J : Nat → JS) {M : CS} (N : JS) (R : KeptR I (M 5) (M 6)) : ∀ (n k : Nat) (x : Int64), k ≤ 3 → 3 - k < n → ∃ x', f_X5_digest_42 n x (nI k) I J = (ob1 (f_X3_digestOn_r (I 5) x') fun r1 => ob1 (f_X3_digestOn_t (I 6) r1) fun r2 => some (r2, I)) ∧ f_X6_digest_137 n x (nI k) M N = f_X6_digest_182 FU x' 0 M N := by
  intro n
  induction n with
  | zero => intro i x h1 h2; exact absurd h2 (by omega)
  | succ n ih =>
    intro k x h1 h2
    rw [f_X5_digest_42, f_X6_digest_137]
    by_cases hi : 3 ≤ k
    · have := show (3 : Int32) ≤ nI k from nI_le (a := 3) hi (by omega)
      rw [if_pos this, if_pos this]; exact ⟨x, rfl, rfl⟩
    · have hk : k < 3 := Nat.not_le.mp hi
      have := show ¬ (3 : Int32) ≤ nI k from nI_ge (b := 3) hk (by omega)
      unfold f_X5_isKept f_X5_isKept_23 f_X5_isKept_24 f_X5_digest_73 f_X6_digest_171
      rw [if_neg this, if_neg this, p_isPlace5, ob1_s, if_bI, nI_toInt (by omega), if_pos (show (0 : Int) ≤ (k : Nat) ∧ ((k : Nat) : Int) < 3 by omega), ck_t _ (inb_nI hk (by omega)), ck_t _ (inb_nI hk (by omega)), ck_t _ (inb_nI hk (by omega)), nI_clamp (show k < 2 ^ 31 by omega), nI_1]
      rcases R k hk with ⟨q1, q2⟩ | ⟨q, h, p1, hv, hc, ha⟩
      · rw [q1, q2, if_pos (show (0 : Int32) ≤ 0 by decide), show ck (isb 0) (some (0 : Int32)) = some 0 from rfl, ob1_s, if_pos rfl, if_pos rfl]
        exact ih (k + 1) _ (by omega) (by omega)
      · have v0 : h 0 0 ≤ 5 := hv.1
        have a3 : M 5 (119 * k + 3) = nI (h 4 0) := ha.2.2.2.1
        rw [q, hc.1, if_neg (nI_nle (by omega) (by omega)), show ck (isb 1) (some (1 : Int32)) = some 1 from rfl, ob1_s, if_neg (show ¬ (1 : Int32) = 0 by decide), if_neg (show ¬ (1 : Int32) = 0 by decide), show (119 : Int32) * nI k + (3 : Int32) = nI (119 * k + 3) by rw [show (119 : Int32) = nI 119 from rfl, pk_mul]; exact nI_add _ 3, ck_t _ (inb_nI (show 119 * k + 3 < 357 by omega) (by omega)), nI_clamp (by omega), a3, hc.2.2.2.2.1]
        exact ih (k + 1) _ (by omega) (by omega)
theorem dig_c {I : Nat → CS} {J : Nat → JS} {M : CS} {N : JS} (R : Rel I J M N) : ∀ (n w : Nat) (x : Int64), w ≤ 9 → 9 - w < n → ∃ x', f_X5_digest_6 n x (nI w) I J = (ob2 (f_X0_digestOn (I 0) x') fun r1 c1 => f_X5_digest_42 FU r1 (0 : Int32) (gset I 0 c1) J) ∧ f_X6_digest_6 n x (nI w) M N = f_X6_digest_33 FU x' 0 M N := by
  intro n
  induction n with
  | zero => intro i x h1 h2; exact absurd h2 (by omega)
  | succ n ih =>
    intro w x h1 h2
    rw [f_X5_digest_6, f_X6_digest_6]
    by_cases hw : 9 ≤ w
    · have := show (9 : Int32) ≤ nI w from nI_le (a := 9) hw (by omega)
      rw [if_pos this, if_pos this]; exact ⟨x, rfl, rfl⟩
    · have hw' : w < 9 := Nat.not_le.mp hw
      have := show ¬ (9 : Int32) ≤ nI w from nI_ge (b := 9) hw' (by omega)
      obtain ⟨r, k1, k2⟩ := counted_both R hw'
      rw [if_neg this, if_neg this, k1, k2, ob1_s, ob1_s, nI_1]
      exact ih (w + 1) _ (by omega) (by omega)
theorem o_digest : Op_digest := by
  intro I J M N R
  obtain ⟨h, hv, hc, ha⟩ := R.2.2.2.1
  have v0 : h 0 0 ≤ 5 := hv.1
  have v1 : h 1 0 ≤ 12 := hv.2.1
  obtain ⟨x1, a1, a2⟩ := dig_c R FU 0 17 (by omega) (FU_ge (by omega))
  obtain ⟨x2, c2, M2, b1, b2, b3, b4⟩ := dig_p hv N FU 0 x1 (I 0) M (by omega) (FU_ge (by omega)) hc ha
  obtain ⟨x3, d1, d2⟩ := dig_e hv N (hc.fr b3) (b4.m ha) FU 0 x2 (by omega) (FU_ge (by omega))
  have R2 := R.fr (FrI.c b3) b4 (J' := J) rfl
  obtain ⟨x4, e1, e2⟩ := dig_k J N R2.2.2.2.2 FU 0 x3 (by omega) (FU_ge (by omega))
  obtain ⟨x5, f1, f2⟩ := dig_r N R2.1 FU 0 x4 (by omega) (FU_ge (by omega))
  obtain ⟨x6, g1, g2⟩ := dig_t N R2.2.1 FU 0 x5 (by omega) (FU_ge (by omega))
  have a1' : f_X5_digest I J = _ := a1
  have b1' : f_X0_digestOn (I 0) x1 = _ := b1
  have d1' : f_X0_digestOn_54 FU x2 0 c2 = _ := d1
  have e1' : f_X5_digest_42 FU x3 0 (gset I 0 c2) J = _ := e1
  have f1' : f_X3_digestOn_r (gset I 0 c2 5) x4 = _ := f1
  have g1' : f_X3_digestOn_t (gset I 0 c2 6) x5 = _ := g1
  refine ⟨x6, gset I 0 c2, M2, ?_, ?_, R2⟩
  · rw [a1', b1', d1', ob2_s, e1', f1', ob1_s, g1', ob1_s]
  · exact a2.trans (b2.trans (d2.trans (e2.trans (f2.trans g2))))
