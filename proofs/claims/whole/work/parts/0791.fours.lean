/-! ===== rows of fours; lies ===== -/
abbrev okf (P : Nat) (b : Nat → Int32) (g : Nat) : Prop := (0 ≤ (b (4 * g)).toInt ∧ (b (4 * g)).toInt < 5) ∧ (0 ≤ (b (4 * g + 1)).toInt ∧ (b (4 * g + 1)).toInt < 20) ∧ (0 ≤ (b (4 * g + 2)).toInt ∧ (b (4 * g + 2)).toInt < (P : Nat)) ∧ (0 ≤ (b (4 * g + 3)).toInt ∧ (b (4 * g + 3)).toInt < 10)
def badc (P : Nat) (b : Nat → Int32) (g k : Nat) : Nat := cn (fun g => decide (¬ okf P b g)) g k
theorem badc_s (P : Nat) (b : Nat → Int32) (g k : Nat) : badc P b g (k + 1) = 0 ↔ okf P b g ∧ badc P b (g + 1) k = 0 := by
  unfold badc
  rw [cn]
  by_cases q : okf P b g
  · rw [if_neg (show ¬ (decide (¬ okf P b g)) = true from fun z => of_decide_eq_true z q), Nat.zero_add]; exact ⟨fun z => ⟨q, z⟩, fun z => z.2⟩
  · rw [if_pos (decide_eq_true q)]; exact ⟨fun z => absurd z (by omega), fun z => absurd z.1 q⟩
theorem badc_all {P : Nat} {b : Nat → Int32} : ∀ (k g : Nat), badc P b g k = 0 → ∀ x, g ≤ x → x < g + k → okf P b x
  | 0, g, _, x, h1, h2 => absurd h2 (by omega)
  | k + 1, g, h, x, h1, h2 => by
    have := (badc_s P b g k).mp h
    by_cases e : x = g
    · subst e; exact this.1
    · exact badc_all k (g + 1) this.2 x (by omega) (by omega)
theorem mul4 (g : Nat) : nI g * (4 : Int32) = nI (4 * g) := by rw [show (4 : Int32) = nI 4 from rfl, pk_mul, Nat.mul_comm]
theorem areFours_13 {h : Nat → Nat → Nat} (hv : ChV h) {I : Nat → CS} (J : Nat → JS) (hc : ChC (I 0) h) {j f : Nat} (hj : j < 6) (hf : f ≤ 10) (hs : I 5 6 j = nI (4 * f)) :
    ∀ (k n g : Nat), g + k = f → k < n → f_X5_areFours_13 n (nI j) (nI f) (nI g) I J = some (bI (badc (h 0 0) (I 5 j) g k = 0)) := by
  have hsz : (I 5 6 j).toInt = ((4 * f : Nat) : Int) := by rw [hs, nI_toInt (by omega)]
  intro k
  induction k with
  | zero =>
    intro n g h1 hn
    obtain ⟨n, rfl⟩ : ∃ u, n = u + 1 := ⟨n - 1, by omega⟩
    rw [f_X5_areFours_13, if_pos (nI_le (by omega) (by omega)), bI_t (show badc (h 0 0) (I 5 j) g 0 = 0 from rfl)]
  | succ k ih =>
    intro n g h1 hn
    obtain ⟨n, rfl⟩ : ∃ u, n = u + 1 := ⟨n - 1, by omega⟩
    rw [f_X5_areFours_13, if_neg (nI_ge (by omega) (by omega)), mul4, show nI (4 * g) + (1 : Int32) = nI (4 * g + 1) from nI_add _ 1, show nI (4 * g) + (2 : Int32) = nI (4 * g + 2) from nI_add _ 2, show nI (4 * g) + (3 : Int32) = nI (4 * g + 3) from nI_add _ 3, get_r (I 5) hj (by omega) (by omega), ob1_s, p_isTown5, ob1_s, if_bI, get_r (I 5) hj (by omega) (by omega), ob1_s, p_isDay5, ob1_s, if_bI, get_r (I 5) hj (by omega) (by omega), ob1_s, p_isPerson0 hv hc, ob1_s, if_bI, get_r (I 5) hj (by omega) (by omega), ob1_s, p_isDeed5, ob1_s, if_bI, nI_1, ih n (g + 1) (by omega) (by omega), bI_congr (badc_s _ _ _ _)]
    unfold f_X5_areFours_57 f_X5_areFours_99
    by_cases q1 : 0 ≤ (I 5 j (4 * g)).toInt ∧ (I 5 j (4 * g)).toInt < 5
    · rw [if_pos q1]
      by_cases q2 : 0 ≤ (I 5 j (4 * g + 1)).toInt ∧ (I 5 j (4 * g + 1)).toInt < 20
      · rw [if_pos q2]
        by_cases q3 : 0 ≤ (I 5 j (4 * g + 2)).toInt ∧ (I 5 j (4 * g + 2)).toInt < (h 0 0 : Nat)
        · rw [if_pos q3]
          by_cases q4 : 0 ≤ (I 5 j (4 * g + 3)).toInt ∧ (I 5 j (4 * g + 3)).toInt < 10
          · rw [if_pos q4]
            exact congrArg some (bI_congr ⟨fun z => ⟨⟨q1, q2, q3, q4⟩, z⟩, fun z => z.2⟩)
          · rw [if_neg q4, bI_f (fun z => q4 z.1.2.2.2)]
        · rw [if_neg q3, bI_f (fun z => q3 z.1.2.2.1)]
      · rw [if_neg q2, bI_f (fun z => q2 z.1.2.1)]
    · rw [if_neg q1, bI_f (fun z => q1 z.1.1)]
theorem fours_57 {h : Nat → Nat → Nat} (hv : ChV h) {M : CS} (N : JS) (ha : ChM (M 4) h) {b : Nat → Int32} {j f : Nat} (hj : j < 6) (hf : f ≤ 10) (hs : M 0 j = nI (4 * f)) (hb : ∀ i, i < 4 * f → M 1 (40 * j + i) = b i) :
    ∀ (k n g : Nat) (Q : Prop) [Decidable Q], g + k = f → k < n → f_X6_fours_57 n (nI j) (bI Q) (nI (4 * g)) M N = if Q ∧ badc (h 0 0) b g k = 0 then some (0, M) else some ((-3 : Int32), cset (cset M 8 0 (nI 3)) 9 3 (M 9 3 + 1)) := by
  intro k
  induction k with
  | zero =>
    intro n g Q _ h1 hn
    obtain ⟨n, rfl⟩ : ∃ u, n = u + 1 := ⟨n - 1, by omega⟩
    have f2 : f_X6_found M N 3 = _ := found6 M N 3 (by omega)
    rw [f_X6_fours_57, ck_t _ (inb_nI hj (by omega)), nI_clamp (by omega), hs, if_pos (nI_le (by omega) (by omega)), if_bI, f2, ob2_s]
    unfold f_X6_fours_163
    by_cases q : Q
    · rw [if_pos q, if_pos ⟨q, rfl⟩]
    · rw [if_neg q, if_neg (fun z => q z.1)]
  | succ k ih =>
    intro n g Q _ h1 hn
    obtain ⟨n, rfl⟩ : ∃ u, n = u + 1 := ⟨n - 1, by omega⟩
    have i0 : f_X6_fours_57 n (nI j) 0 (nI (4 * (g + 1))) M N = _ := ih n (g + 1) False (by omega) (by omega)
    have i1 : f_X6_fours_57 n (nI j) 1 (nI (4 * (g + 1))) M N = _ := ih n (g + 1) True (by omega) (by omega)
    rw [if_neg (fun z => z.1)] at i0
    rw [f_X6_fours_57, ck_t _ (inb_nI hj (by omega)), nI_clamp (show j < 2 ^ 31 by omega), hs, if_neg (nI_ge (by omega) (by omega)), if_bI]
    unfold f_X6_fours_142 f_X6_fours_143
    rw [show nI (4 * g) + (4 : Int32) = nI (4 * (g + 1)) from nI_add _ 4, i0, i1, ix_40, show nI (40 * j + 4 * g) + (1 : Int32) = nI (40 * j + (4 * g + 1)) from nI_add _ 1, show nI (40 * j + 4 * g) + (2 : Int32) = nI (40 * j + (4 * g + 2)) from nI_add _ 2, show nI (40 * j + 4 * g) + (3 : Int32) = nI (40 * j + (4 * g + 3)) from nI_add _ 3, ck_t _ (inb_nI (show 40 * j + 4 * g < 240 by omega) (by omega)), ck_t _ (inb_nI (show 40 * j + (4 * g + 1) < 240 by omega) (by omega)), ck_t _ (inb_nI (show 40 * j + (4 * g + 2) < 240 by omega) (by omega)), ck_t _ (inb_nI (show 40 * j + (4 * g + 3) < 240 by omega) (by omega)), nI_clamp (show 40 * j + 4 * g < 2 ^ 31 by omega), nI_clamp (show 40 * j + (4 * g + 1) < 2 ^ 31 by omega), nI_clamp (show 40 * j + (4 * g + 2) < 2 ^ 31 by omega), nI_clamp (show 40 * j + (4 * g + 3) < 2 ^ 31 by omega), hb (4 * g) (by omega), hb (4 * g + 1) (by omega), hb (4 * g + 2) (by omega), hb (4 * g + 3) (by omega), p_isTown6, ob1_s, if_bI, p_isDay6, ob1_s, if_bI, p_isPerson6 hv ha, ob1_s, if_bI, p_isDeed6, ob1_s, if_bI]
    by_cases q : Q
    · rw [if_pos q]
      by_cases q1 : 0 ≤ (b (4 * g)).toInt ∧ (b (4 * g)).toInt < 5
      · rw [if_pos q1]
        by_cases q2 : 0 ≤ (b (4 * g + 1)).toInt ∧ (b (4 * g + 1)).toInt < 20
        · rw [if_pos q2]
          by_cases q3 : 0 ≤ (b (4 * g + 2)).toInt ∧ (b (4 * g + 2)).toInt < (h 0 0 : Nat)
          · rw [if_pos q3]
            by_cases q4 : 0 ≤ (b (4 * g + 3)).toInt ∧ (b (4 * g + 3)).toInt < 10
            · rw [if_pos q4]
              by_cases z : badc (h 0 0) b (g + 1) k = 0
              · rw [if_pos ⟨trivial, z⟩, if_pos ⟨q, (badc_s _ _ _ _).mpr ⟨⟨q1, q2, q3, q4⟩, z⟩⟩]
              · rw [if_neg (fun y => z y.2), if_neg (fun y => z ((badc_s _ _ _ _).mp y.2).2)]
            · rw [if_neg q4, if_neg (fun y => q4 ((badc_s _ _ _ _).mp y.2).1.2.2.2)]
          · rw [if_neg q3, if_neg (fun y => q3 ((badc_s _ _ _ _).mp y.2).1.2.2.1)]
        · rw [if_neg q2, if_neg (fun y => q2 ((badc_s _ _ _ _).mp y.2).1.2.1)]
      · rw [if_neg q1, if_neg (fun y => q1 ((badc_s _ _ _ _).mp y.2).1.1)]
    · rw [if_neg q, if_neg (fun y => q y.1)]
/-- a row of fours, or refused: the same on both sides -/
theorem fours_both {I : Nat → CS} {J : Nat → JS} {M : CS} {N : JS} (R : Rel I J M N) {h : Nat → Nat → Nat} (hv : ChV h) (hc : ChC (I 0) h) (ha : ChM (M 4) h) (y1 : Int32) :
    (∃ r I' M', ¬ r = 0 ∧ f_X5_foursRefused I J y1 = some (r, I') ∧ f_X6_fours M N y1 = some (r, M') ∧ Rel I' J M' N) ∨
    (∃ j f, j < 6 ∧ f ≤ 10 ∧ y1 = nI j ∧ 0 < h 0 0 ∧ I 5 6 j = nI (4 * f) ∧ M 0 j = nI (4 * f) ∧ (∀ i, i < 4 * f → M 1 (40 * j + i) = I 5 j i) ∧ (∀ g, g < f → okf (h 0 0) (I 5 j) g) ∧ f_X5_foursRefused I J y1 = some (0, I) ∧ f_X6_fours M N y1 = some (0, M)) := by
  have v0 : h 0 0 ≤ 5 := hv.1
  unfold f_X5_foursRefused f_X6_fours f_X5_foursRefused_88
  rw [p_isNumber_r, p_isRow6, ob1_s, ob1_s, if_bI, if_bI, hc.1, ha.1]
  by_cases h1 : 0 ≤ y1.toInt ∧ y1.toInt < 6
  · rw [if_pos h1, if_pos h1]
    obtain ⟨j, hj, rfl⟩ := ix_of (n := 6) h1.1 h1.2 (by omega)
    by_cases h2 : h 0 0 = 0
    · rw [h2, if_pos nI_0, if_pos nI_0]; exact Or.inl ⟨_, _, _, by decide, rfl, rfl, R⟩
    · have h2' := nI_ne0 (n := h 0 0) (by omega) (by omega)
      obtain ⟨s1, s2⟩ := R.1 j hj
      rw [if_neg h2', if_neg h2', there_r (I 5) hj, ob1_s, if_bI, sizeOf_r (I 5) hj, ob1_s, ck_t _ (inb_nI hj (by omega)), ck_t _ (inb_nI hj (by omega)), nI_clamp (by omega), s1]
      have f1 : ∀ q, q < 6 → f_X4_found (I 7) (J 0) (nI q) = _ := fun q hq => found4 (I 7) (J 0) q hq
      have f2 : ∀ q, q < 6 → f_X6_found M N (nI q) = _ := fun q hq => found6 M N q hq
      have f11 : f_X4_found (I 7) (J 0) 1 = _ := f1 1 (by omega)
      have f21 : f_X6_found M N 1 = _ := f2 1 (by omega)
      have f15 : f_X4_found (I 7) (J 0) 5 = _ := f1 5 (by omega)
      have f25 : f_X6_found M N 5 = _ := f2 5 (by omega)
      have f13 : f_X4_found (I 7) (J 0) 3 = _ := f1 3 (by omega)
      rw [f11, f21, f15, f25, f13]
      rcases s2 with s2 | ⟨k, hk, s2, s3⟩
      · rw [s2, if_neg (fun z => z rfl), if_neg (show ¬ (0 : Int32) ≤ -1 by decide), ob2_s, ob2_s]
        exact Or.inl ⟨_, _, _, by decide, rfl, rfl, R.found 1⟩
      · rw [s2, if_pos (nI_m1 k (by omega)), if_pos (nI_pos' (by omega)), show (4 : Int32) = nI 4 from rfl, jrem_nI (by omega) (by omega) (by omega)]
        by_cases h4 : k % 4 = 0
        · obtain ⟨f, rfl⟩ : ∃ f, k = 4 * f := ⟨k / 4, by omega⟩
          have hA : f_X5_areFours I J (nI j) = some (bI (badc (h 0 0) (I 5 j) 0 f = 0)) := by
            unfold f_X5_areFours
            rw [sizeOf_r (I 5) hj, ob1_s, s2, show (4 : Int32) = nI 4 from rfl, pk_div (by omega) (by omega) (by omega), show 4 * f / 4 = f by omega]
            exact areFours_13 hv J hc hj (by omega) s2 f FU 0 (by omega) (FU_ge (by omega))
          have hB : f_X6_fours_57 FU (nI j) 1 0 M N = _ := fours_57 hv N ha hj (show f ≤ 10 by omega) (s1.trans s2) s3 f FU 0 True (by omega) (FU_ge (by omega))
          rw [h4, if_pos nI_0, if_pos nI_0, hA, hB, ob1_s, if_bI, ob2_s]
          by_cases z : badc (h 0 0) (I 5 j) 0 f = 0
          · rw [if_pos z, if_pos ⟨trivial, z⟩]
            exact Or.inr ⟨j, f, hj, by omega, rfl, by omega, s2, s1.trans s2, s3, fun g hg => badc_all f 0 z g (by omega) (by omega), rfl, rfl⟩
          · rw [if_neg z, if_neg (fun y => z y.2)]
            exact Or.inl ⟨_, _, _, by decide, rfl, rfl, R.found 3⟩
        · have h4' := nI_ne0 (n := k % 4) (by omega) (by omega)
          rw [if_neg h4', if_neg h4', ob2_s, ob2_s]
          exact Or.inl ⟨_, _, _, by decide, rfl, rfl, R.found 5⟩
  · rw [if_neg h1, if_neg h1]; exact Or.inl ⟨_, _, _, by decide, rfl, rfl, R⟩
/-- one four, as told -/
theorem four_r {h : Nat → Nat → Nat} {b : Nat → Int32} {g : Nat} (v0 : h 0 0 ≤ 5) (ok : okf (h 0 0) b g) : ∃ t d p w, t < 5 ∧ d < 20 ∧ p < h 0 0 ∧ w < 10 ∧ b (4 * g) = nI t ∧ b (4 * g + 1) = nI d ∧ b (4 * g + 2) = nI p ∧ b (4 * g + 3) = nI w := by
  obtain ⟨q1, q2, q3, q4⟩ := ok
  obtain ⟨t, ht, e1⟩ := ix_of (n := 5) q1.1 q1.2 (by omega)
  obtain ⟨d, hd, e2⟩ := ix_of (n := 20) q2.1 q2.2 (by omega)
  obtain ⟨p, hp, e3⟩ := ix_of q3.1 q3.2 (by omega)
  obtain ⟨w, hw, e4⟩ := ix_of (n := 10) q4.1 q4.2 (by omega)
  exact ⟨t, d, p, w, ht, hd, hp, hw, e1, e2, e3, e4⟩
/-- whether a four is as told, if just some errors happen -/
def asT (h : Nat → Nat → Nat) (real : Nat) (b : Nat → Int32) (g : Nat) : Bool := decide (dnI h (b (4 * g + 2)).toNatClampNeg real (b (4 * g)).toNatClampNeg (b (4 * g + 1)).toNatClampNeg = b (4 * g + 3))
theorem isAsTold1 {h : Nat → Nat → Nat} (hv : ChV h) {c b o : CS} (j' : JS) (hc : ChC c h) {j f g real : Nat} (hj : j < 6) (hf : f ≤ 10) (hs : b 6 j = nI (4 * f)) (hg : g < f) (ok : okf (h 0 0) (b j) g) (hr : real < 2 ^ 31) :
    ∃ c', f_X1_isAsTold o j' c b (nI j) (nI g) (nI real) = some (bI (asT h real (b j) g = true), c') ∧ ∀ q, q ≠ 13 → c' q = c q := by
  have v0 : h 0 0 ≤ 5 := hv.1
  have hsz : (b 6 j).toInt = ((4 * f : Nat) : Int) := by rw [hs, nI_toInt (by omega)]
  obtain ⟨t, d, p, w, ht, hd, hp, hw, e1, e2, e3, e4⟩ := four_r v0 ok
  obtain ⟨c', e, gg⟩ := doneIf0 hv hc ht hd hp hr
  have ea : asT h real (b j) g = decide (dnI h p real t d = nI w) := by
    unfold asT
    rw [e1, e2, e3, e4, nI_clamp (by omega), nI_clamp (by omega), nI_clamp (by omega)]
  unfold f_X1_isAsTold f_X1_isAsTold_58
  rw [mul4, show nI (4 * g) + (1 : Int32) = nI (4 * g + 1) from nI_add _ 1, show nI (4 * g) + (2 : Int32) = nI (4 * g + 2) from nI_add _ 2, show nI (4 * g) + (3 : Int32) = nI (4 * g + 3) from nI_add _ 3, get_r b hj (show 4 * g < 40 by omega) (by omega), ob1_s, get_r b hj (show 4 * g + 1 < 40 by omega) (by omega), ob1_s, get_r b hj (show 4 * g + 2 < 40 by omega) (by omega), ob1_s, get_r b hj (show 4 * g + 3 < 40 by omega) (by omega), ea, e1, e2, e3, e4, e, ob2_s, ob1_s]
  refine ⟨c', ?_, gg⟩
  by_cases q : dnI h p real t d = nI w
  · rw [if_pos q, bI_t (decide_eq_true q)]; rfl
  · rw [if_neg q, bI_f (fun z => q (of_decide_eq_true z))]; rfl
theorem lies_5 {h : Nat → Nat → Nat} (hv : ChV h) (J : Nat → JS) {j f : Nat} (hj : j < 6) (hf : f ≤ 10) (B : CS) (hs : B 6 j = nI (4 * f)) (ok : ∀ g, g < f → okf (h 0 0) (B j) g) :
    ∀ (n k g m : Nat) (x3 : Int32) (I : Nat → CS), g + k = f → k < n → m ≤ g → (m = 0 → x3 = -9) → ChC (I 0) h → I 5 = B →
      ∃ I', f_X5_lies_33 n (nI j) x3 (nI m) (nI f) (nI g) I J = some (nI (m + cn (fun g => !asT h (lv h) (B j) g) g k), gset I' 7 (cset (I' 7) 0 0 (if m = 0 then fs (fun g => !asT h (lv h) (B j) g) g k else x3))) ∧ FrI I I' := by
  intro n
  induction n with
  | zero => intro k g m x3 I _ h2; exact absurd h2 (by omega)
  | succ n ih =>
    intro k g m x3 I h1 h2 h3 hx hc hB
    rw [f_X5_lies_33]
    cases k with
    | zero =>
      rw [if_pos (nI_le (by omega) (by omega)), fs, cn, Nat.add_zero]
      refine ⟨I, ?_, FrI.rfl' I⟩
      by_cases hm : m = 0
      · rw [if_pos hm, hx hm]
      · rw [if_neg hm]
    | succ k =>
      obtain ⟨c1, e1, g1⟩ := isAsTold1 (o := I 8) hv (J 1) hc hj hf hs (show g < f by omega) (ok g (by omega)) (lvh_lt' hv)
      have F : FrI I (gset I 0 c1) := FrI.c g1
      have hB' : gset I 0 c1 5 = B := (gset_ne _ _ _ _ (by omega)).trans hB
      rw [if_neg (nI_ge (by omega) (by omega)), unmended0 hv hc, ob1_s, hB, e1, ob2_s, if_bI]
      unfold f_X5_lies_79 f_X5_lies_83
      rw [fs, cn]
      by_cases hh : asT h (lv h) (B j) g = true
      · have hh' : ¬ (!asT h (lv h) (B j) g) = true := by rw [hh]; decide
        rw [if_pos hh, if_neg hh', if_neg hh', nI_1, Nat.zero_add]
        obtain ⟨I', e, k1⟩ := ih k (g + 1) m x3 _ (by omega) (by omega) (by omega) hx (F.h hc) hB'
        exact ⟨I', e, F.trans k1⟩
      · have hh' : (!asT h (lv h) (B j) g) = true := by rw [(Bool.not_eq_true _).mp hh]; rfl
        rw [if_neg hh, if_pos hh', if_pos hh', nI_1, nI_1]
        have hs' : ∀ x : Int32, ∃ I', f_X5_lies_33 n (nI j) x (nI (m + 1)) (nI f) (nI (g + 1)) (gset I 0 c1) J = some (nI (m + (1 + cn (fun g => !asT h (lv h) (B j) g) (g + 1) k)), gset I' 7 (cset (I' 7) 0 0 x)) ∧ FrI I I' := by
          intro x
          obtain ⟨I', e, k1⟩ := ih k (g + 1) (m + 1) x _ (by omega) (by omega) (by omega) (fun q => absurd q (by omega)) (F.h hc) hB'
          rw [if_neg (by omega), Nat.add_assoc] at e
          exact ⟨I', e, F.trans k1⟩
        by_cases hm : m = 0
        · rw [if_pos hm, if_pos (show nI m = 0 by rw [hm]; exact nI_0)]; exact hs' (nI g)
        · rw [if_neg hm, if_neg (nI_ne0 (by omega) (by omega))]; exact hs' x3
theorem lies_6 {h : Nat → Nat → Nat} (hv : ChV h) (N : JS) {j f : Nat} (hj : j < 6) (hf : f ≤ 10) {b : Nat → Int32} (ok : ∀ g, g < f → okf (h 0 0) b g) :
    ∀ (g n : Nat) (M : CS), g ≤ f → g < n → ChM (M 4) h → (∀ i, i < 4 * f → M 1 (40 * j + i) = b i) → ∃ M', FrM M M' ∧ f_X6_lies_28 n (nI j) (nI (cn (fun g => !asT h (lv h) b g) g (f - g))) (fs (fun g => !asT h (lv h) b g) g (f - g)) (nI (4 * g) - (4 : Int32)) M N = some (nI (cn (fun g => !asT h (lv h) b g) 0 f), cset M' 7 0 (fs (fun g => !asT h (lv h) b g) 0 f)) := by
  have v0 : h 0 0 ≤ 5 := hv.1
  intro g
  induction g with
  | zero =>
    intro n M _ hn hm hb
    obtain ⟨n, rfl⟩ : ∃ u, n = u + 1 := ⟨n - 1, by omega⟩
    rw [f_X6_lies_28, if_pos (show nI (4 * 0) - (4 : Int32) < 0 by decide), Nat.sub_zero]
    exact ⟨M, FrM.rfl' M, rfl⟩
  | succ g ih =>
    intro n M hg hn hm hb
    obtain ⟨n, rfl⟩ : ∃ u, n = u + 1 := ⟨n - 1, by omega⟩
    obtain ⟨t, d, p, w, ht, hd, hp, hw, e1, e2, e3, e4⟩ := four_r v0 (ok g (by omega))
    obtain ⟨M1, k1, k2⟩ := doing6 N hv hm hp ht hd
    have F := FrM.lay k2
    have hb1 : ∀ i, i < 4 * f → M1 1 (40 * j + i) = b i := fun i hi => by rw [F 1 (by omega)]; exact hb i hi
    obtain ⟨M', l1, l2⟩ := ih n M1 (by omega) (by omega) (F.m hm) hb1
    rw [show f - g = (f - (g + 1)) + 1 by omega, fs, cn] at l2
    have ea : asT h (lv h) b g = decide (dnI h p (lv h) t d = nI w) := by
      unfold asT
      rw [e1, e2, e3, e4, nI_clamp (by omega), nI_clamp (by omega), nI_clamp (by omega)]
    have i4 : nI (4 * (g + 1)) - (4 : Int32) = nI (4 * g) := by rw [show (4 : Int32) = nI 4 from rfl, pk_sub (by omega)]; exact congrArg nI (by omega)
    have i5 : nI (4 * g) + (-4 : Int32) = nI (4 * g) - (4 : Int32) := (Int32.sub_eq_add_neg _ _).symm
    have i6 : nI (4 * g) / (4 : Int32) = nI g := by rw [show (4 : Int32) = nI 4 from rfl, pk_div (by omega) (by omega) (by omega)]; exact congrArg nI (by omega)
    refine ⟨M', F.trans l1, ?_⟩
    rw [f_X6_lies_28, i4, if_neg (nI_pos (by omega)), ix_40, show nI (40 * j + 4 * g) + (1 : Int32) = nI (40 * j + (4 * g + 1)) from nI_add _ 1, show nI (40 * j + 4 * g) + (2 : Int32) = nI (40 * j + (4 * g + 2)) from nI_add _ 2, show nI (40 * j + 4 * g) + (3 : Int32) = nI (40 * j + (4 * g + 3)) from nI_add _ 3, ck_t _ (inb_nI (show 40 * j + (4 * g + 2) < 240 by omega) (by omega)), ck_t _ (inb_nI (show 40 * j + 4 * g < 240 by omega) (by omega)), ck_t _ (inb_nI (show 40 * j + (4 * g + 1) < 240 by omega) (by omega)), nI_clamp (show 40 * j + 4 * g < 2 ^ 31 by omega), nI_clamp (show 40 * j + (4 * g + 1) < 2 ^ 31 by omega), nI_clamp (show 40 * j + (4 * g + 2) < 2 ^ 31 by omega), nI_clamp (show 40 * j + (4 * g + 3) < 2 ^ 31 by omega), hb (4 * g) (by omega), hb (4 * g + 1) (by omega), hb (4 * g + 2) (by omega), e1, e2, e3, k1, ob2_s, ck_t _ (inb_nI (show 40 * j + (4 * g + 3) < 240 by omega) (by omega)), hb1 (4 * g + 3) (by omega), e4]
    unfold f_X6_lies_88 f_X6_lies_101 f_X6_lies_117
    rw [i5, i6]
    by_cases hh : dnI h p (lv h) t d = nI w
    · have hh' : ¬ (!asT h (lv h) b g) = true := by rw [ea, decide_eq_true hh]; decide
      rw [if_neg hh', if_neg hh', Nat.zero_add] at l2
      rw [if_pos hh, if_pos rfl, if_pos rfl, Int32.add_zero]
      exact l2
    · have hh' : (!asT h (lv h) b g) = true := by rw [ea, decide_eq_false hh]; rfl
      rw [if_pos hh', if_pos hh', Nat.add_comm 1] at l2
      rw [if_neg hh, if_neg (show ¬ (1 : Int32) = 0 by decide), if_neg (show ¬ (1 : Int32) = 0 by decide), nI_1]
      exact l2
theorem o_lies : Op_lies := by
  intro I J M N y1 R
  obtain ⟨h, hv, hc, ha⟩ := R.2.2.2.1
  unfold f_X5_lies f_X6_lies
  rcases fours_both R hv hc ha y1 with ⟨r, I', M', q, e1, e2, R1⟩ | ⟨j, f, hj, hf, rfl, hP, s1, s2, s3, ok, e1, e2⟩
  · rw [e1, e2, ob2_s, ob2_s, if_neg q, if_neg q]
    exact ⟨_, _, _, rfl, rfl, R1⟩
  · obtain ⟨I', k1, k2⟩ := lies_5 hv J hj hf (I 5) s1 ok FU f 0 0 (-9) I (by omega) (FU_ge (by omega)) (by omega) (fun _ => rfl) hc rfl
    have k1' : f_X5_lies_33 FU (nI j) (-9) 0 (nI f) 0 I J = _ := k1
    obtain ⟨M', l1, l2⟩ := lies_6 hv N hj hf ok f FU M (by omega) (FU_ge (by omega)) ha s3
    rw [Nat.sub_self] at l2
    have l2' : f_X6_lies_28 FU (nI j) 0 (-9) (nI (4 * f) - (4 : Int32)) M N = _ := l2
    rw [e1, e2, ob2_s, ob2_s, if_pos rfl, if_pos rfl, sizeOf_r (I 5) hj, ob1_s, s1, show nI (4 * f) / (4 : Int32) = nI f by rw [show (4 : Int32) = nI 4 from rfl, pk_div (by omega) (by omega) (by omega)]; exact congrArg nI (by omega), k1', ck_t _ (inb_nI hj (by omega)), nI_clamp (by omega), s2, l2', if_pos rfl, Nat.zero_add]
    exact ⟨_, _, _, rfl, rfl, (R.fr k2 l1 (J' := J) rfl).ask _⟩
