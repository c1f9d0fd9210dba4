/-! ===== ops that read the chain ===== -/
theorem FrM.rfl' (M : CS) : FrM M M := fun _ _ => rfl
theorem FrM.m {M M' : CS} {h : Nat → Nat → Nat} (b : FrM M M') (ha : ChM (M 4) h) : ChM (M' 4) h := by rw [b 4 (by omega)]; exact ha
theorem FrI.h {I I' : Nat → CS} {h : Nat → Nat → Nat} (a : FrI I I') (hc : ChC (I 0) h) : ChC (I' 0) h := hc.fr a.2
/-- how many bits -/
def pc (n : Nat) : Nat := sm (mbit n) 12
theorem bits6a : ∀ a, a < 64 → ∀ b, b < 64 → f_X6_bits (nI (64 * a + b)) = some (nI (pc (64 * a + b))) := by decide +kernel
theorem bitCount0a : ∀ a, a < 64 → ∀ b, b < 64 → f_J6_bitCount_0f7a4 (nI (64 * a + b)) = some (nI (pc (64 * a + b))) := by decide +kernel
theorem bits6 (n : Nat) (h : n < 4096) : f_X6_bits (nI n) = some (nI (pc n)) := by
  have := bits6a (n / 64) (by omega) (n % 64) (by omega)
  rw [show 64 * (n / 64) + n % 64 = n by omega] at this
  exact this
theorem bitCount0 (n : Nat) (h : n < 4096) : f_J6_bitCount_0f7a4 (nI n) = some (nI (pc n)) := by
  have := bitCount0a (n / 64) (by omega) (n % 64) (by omega)
  rw [show 64 * (n / 64) + n % 64 = n by omega] at this
  exact this
/-- whether two towns differ -/
abbrev df (h : Nat → Nat → Nat) (p real t u d : Nat) : Prop := ¬ dnI h p real u d = dnI h p real t (d - (u - t))
theorem differs0 {c : CS} {h : Nat → Nat → Nat} (hv : ChV h) (hc : ChC c h) {t u d p real : Nat} (htu : t < u) (hu : u < 5) (hud : u ≤ d) (hd : d < 20) (hp : p < h 0 0) (hr : real < 2 ^ 31) :
    ∃ c', f_X0_differs c (nI t) (nI u) (nI d) (nI p) (nI real) = some (bI (df h p real t u d), c') ∧ ∀ q, q ≠ 13 → c' q = c q := by
  obtain ⟨c1, e1, g1⟩ := doneIf0 hv hc hu hd hp hr
  obtain ⟨c2, e2, g2⟩ := doneIf0 hv (hc.fr g1) (show t < 5 by omega) (show d - (u - t) < 20 by omega) hp hr
  unfold f_X0_differs f_X0_differs_32
  rw [e1, ob2_s, pk_sub (by omega), pk_sub (by omega), e2, ob2_s]
  refine ⟨c2, ?_, fun q hq => (g2 q hq).trans (g1 q hq)⟩
  by_cases hh : dnI h p real u d = dnI h p real t (d - (u - t))
  · rw [if_pos hh, bI_f (fun q => q hh)]; rfl
  · rw [if_neg hh, bI_t hh]; rfl
theorem differs6 {M : CS} {h : Nat → Nat → Nat} (N : JS) {t u d p real : Nat} (htu : t < u) (hu : u < 5) (hud : u ≤ d) (hd : d < 20) (hm : ∀ t d, t < 5 → d < 20 → M 13 (20 * t + d) = dnI h p real t d) :
    f_X6_differs M N (nI t) (nI u) (nI d) = some (bI (df h p real t u d)) := by
  unfold f_X6_differs f_X6_differs_34
  rw [ix_20, ix_20, ck_t _ (inb_nI (show 20 * u + d < 100 by omega) (by omega)), pk_sub (show t ≤ u by omega), pk_sub (by omega), ck_t _ (inb_nI (show 20 * t + d - (u - t) < 100 by omega) (by omega)), nI_clamp (by omega), nI_clamp (by omega), hm u d hu hd, show 20 * t + d - (u - t) = 20 * t + (d - (u - t)) by omega, hm t _ (by omega) (by omega)]
  by_cases hh : dnI h p real u d = dnI h p real t (d - (u - t))
  · rw [if_pos hh, bI_f (fun q => q hh)]; rfl
  · rw [if_neg hh, bI_t hh]; rfl
theorem bitor_lt {a p k : Nat} (ha : a < 2 ^ p) (hk : p + 1 ≤ k) : a ||| 2 ^ p < 2 ^ k :=
  Nat.or_lt_two_pow (Nat.lt_of_lt_of_le ha (Nat.pow_le_pow_right (by omega) (by omega))) (Nat.pow_lt_pow_right (by omega) (by omega))
theorem differing06 {h : Nat → Nat → Nat} (hv : ChV h) (N : JS) {t u d : Nat} (htu : t < u) (hu : u < 5) (hud : u ≤ d) (hd : d < 20) :
    ∀ (n p a : Nat) (c M : CS), p ≤ h 0 0 → h 0 0 - p < n → a < 2 ^ p → ChC c h → ChM (M 4) h → ∃ (b : Nat) (c' M' : CS), b < 32 ∧ f_X0_differing_6 n (nI t) (nI u) (nI d) (nI a) (nI p) c = some (nI b, c') ∧ f_X6_differing_6 n (nI t) (nI u) (nI d) (nI (lv h)) (nI a) (nI p) M N = some (nI b, M') ∧ (∀ q, q ≠ 13 → c' q = c q) ∧ FrM M M' := by
  have v0 : h 0 0 ≤ 5 := hv.1
  intro n
  induction n with
  | zero => intro p a c M h1 h2; exact absurd h2 (by omega)
  | succ n ih =>
    intro p a c M h1 h2 ha hc hm
    rw [f_X0_differing_6, f_X6_differing_6, hc.1, hm.1]
    by_cases hp : h 0 0 ≤ p
    · rw [if_pos (nI_le hp (by omega)), if_pos (nI_le hp (by omega))]
      exact ⟨a, c, M, Nat.lt_of_lt_of_le ha (show 2 ^ p ≤ 2 ^ 5 from Nat.pow_le_pow_right (by omega) (by omega)), rfl, rfl, fun _ _ => rfl, FrM.rfl' M⟩
    · have hp' : p < h 0 0 := Nat.not_le.mp hp
      obtain ⟨c1, e1, g1⟩ := differs0 hv hc htu hu hud hd hp' (lvh_lt' hv)
      obtain ⟨M1, e2, g2, g3⟩ := laysn6 N hv hm hp' (lvh_lt' hv)
      rw [if_neg (nI_ge hp' (by omega)), if_neg (nI_ge hp' (by omega)), unmended0 hv hc, ob1_s, e1, ob2_s, e2, ob1_s, differs6 N htu hu hud hd g3, ob1_s, if_bI, if_bI]
      unfold f_X0_differing_40 f_X6_differing_46
      by_cases hh : df h p (lv h) t u d
      · rw [if_pos hh, if_pos hh, one_shl (by omega), nI_or, nI_1]
        obtain ⟨b, c', M', k1, k2, k3, k4, k5⟩ := ih (p + 1) (a ||| 2 ^ p) c1 M1 (by omega) (by omega) (bitor_lt ha (by omega)) (hc.fr g1) ((FrM.lay g2).m hm)
        exact ⟨b, c', M', k1, k2, k3, fun q hq => (k4 q hq).trans (g1 q hq), (FrM.lay g2).trans k5⟩
      · rw [if_neg hh, if_neg hh, show (0 : Int32) = nI 0 from rfl, nI_or, nI_1, Nat.or_zero]
        obtain ⟨b, c', M', k1, k2, k3, k4, k5⟩ := ih (p + 1) a c1 M1 (by omega) (by omega) (Nat.lt_of_lt_of_le ha (Nat.pow_le_pow_right (by omega) (by omega))) (hc.fr g1) ((FrM.lay g2).m hm)
        exact ⟨b, c', M', k1, k2, k3, fun q hq => (k4 q hq).trans (g1 q hq), (FrM.lay g2).trans k5⟩
theorem differing_both {h : Nat → Nat → Nat} (hv : ChV h) (N : JS) {t u d : Nat} (htu : t < u) (hu : u < 5) (hud : u ≤ d) (hd : d < 20) {c M : CS} (hc : ChC c h) (hm : ChM (M 4) h) :
    ∃ (b : Nat) (c' M' : CS), b < 32 ∧ f_X0_differing c (nI t) (nI u) (nI d) = some (nI b, c') ∧ f_X6_differing M N (nI t) (nI u) (nI d) (nI (lv h)) = some (nI b, M') ∧ (∀ q, q ≠ 13 → c' q = c q) ∧ FrM M M' := by
  have v0 : h 0 0 ≤ 5 := hv.1
  exact differing06 hv N htu hu hud hd FU 0 0 c M (by omega) (FU_ge (by omega)) (by decide) hc hm
theorem arePair5 (x0 x1 : Int32) : f_X5_arePair x0 x1 = some (bI (0 ≤ x0.toInt ∧ x0.toInt < x1.toInt ∧ x1.toInt < 5)) := by
  unfold f_X5_arePair f_X5_arePair_23 f_X5_arePair_24
  rw [p_isTown5, ob1_s, if_bI, p_isTown5, ob1_s, if_bI]
  by_cases h1 : 0 ≤ x0.toInt ∧ x0.toInt < 5
  · rw [if_pos h1]
    by_cases h2 : 0 ≤ x1.toInt ∧ x1.toInt < 5
    · rw [if_pos h2]
      by_cases h3 : x1 ≤ x0
      · rw [if_pos h3, bI_f]; · rfl
        rw [i32_le] at h3; omega
      · rw [if_neg h3, bI_t]; · rfl
        rw [i32_le] at h3; omega
    · rw [if_neg h2, bI_f (by omega)]; rfl
  · rw [if_neg h1, bI_f (by omega)]; rfl
theorem areTowns6 (x0 x1 : Int32) : f_X6_areTowns x0 x1 = some (bI (0 ≤ x0.toInt ∧ x0.toInt < x1.toInt ∧ x1.toInt < 5)) := by
  unfold f_X6_areTowns f_X6_areTowns_18 f_X6_areTowns_19
  have e0 : (0 : Int32).toInt = 0 := by decide
  have e5 : (5 : Int32).toInt = 5 := by decide
  by_cases h1 : x0 < 0
  · rw [if_pos h1, bI_f]; · rfl
    rw [i32_lt, e0] at h1; omega
  · rw [if_neg h1]
    rw [i32_lt, e0] at h1
    by_cases h2 : x1 ≤ x0
    · rw [if_pos h2, bI_f]; · rfl
      rw [i32_le] at h2; omega
    · rw [if_neg h2]
      rw [i32_le] at h2
      by_cases h3 : (5 : Int32) ≤ x1
      · rw [if_pos h3, bI_f]; · rfl
        rw [i32_le, e5] at h3; omega
      · rw [if_neg h3, bI_t]; · rfl
        rw [i32_le, e5] at h3; omega
/-! differ -/
theorem o_differ : Op_differ := by
  intro I J M N y1 y2 y3 R
  obtain ⟨h, hv, hc, ha⟩ := R.2.2.2.1
  unfold f_X5_differ f_X6_differ f_X5_differ_20 f_X6_differ_35 f_X6_differ_36
  rw [arePair5, areTowns6, ob1_s, ob1_s, if_bI, if_bI, p_isDay5, p_in6i, ob1_s, ob1_s, if_bI, if_bI, i32_w]
  have e19 : (19 : Int64).toInt = 19 := by decide
  rw [e19]
  by_cases h1 : 0 ≤ y1.toInt ∧ y1.toInt < y2.toInt ∧ y2.toInt < 5
  · rw [if_pos h1, if_pos h1]
    obtain ⟨u, hu, rfl⟩ := ix_of (x := y2) (n := 5) (by omega) h1.2.2 (by omega)
    obtain ⟨t, ht, rfl⟩ := ix_of (x := y1) (n := 5) h1.1 (by omega) (by omega)
    rw [nI_toInt (by omega), nI_toInt (by omega)] at h1
    rw [nI_toInt (by omega)]
    by_cases h2 : 0 ≤ y3.toInt ∧ y3.toInt < 20
    · rw [if_pos h2]
      obtain ⟨d, hd, rfl⟩ := ix_of (x := y3) (n := 20) h2.1 h2.2 (by omega)
      rw [nI_toInt (by omega)]
      by_cases h3 : u ≤ d
      · rw [if_pos (nI_le h3 (by omega)), if_pos (by omega), live6 hv ha, ob1_s]
        obtain ⟨b, c', M', k1, k2, k3, k4, k5⟩ := differing_both hv N (show t < u by omega) hu h3 hd hc ha
        rw [k2, k3, ob2_s, ob2_s]
        exact ⟨_, _, _, rfl, rfl, R.fr (FrI.c k4) k5 rfl⟩
      · rw [if_neg (nI_ge (by omega) (by omega)), if_neg (by omega)]; exact ⟨_, _, _, rfl, rfl, R⟩
    · rw [if_neg h2, if_neg (by omega)]; exact ⟨_, _, _, rfl, rfl, R⟩
  · rw [if_neg h1, if_neg h1]; exact ⟨_, _, _, rfl, rfl, R⟩
/-! next -/
theorem next_both {h : Nat → Nat → Nat} (hv : ChV h) (J : Nat → JS) {M : CS} (N : JS) {t p : Nat} (x4 : Int32) (ht : t < 5) (hp : p < h 0 0) (hm : ∀ t d, t < 5 → d < 20 → M 13 (20 * t + d) = dnI h p (lv h) t d) :
    ∀ (n d : Nat) (I : Nat → CS), d ≤ 20 → 20 - d < n → ChC (I 0) h → ∃ r I', f_X5_next_38 n (nI t) (nI p) x4 (nI d) I J = some (r, I') ∧ f_X6_next_40 n (nI t) x4 (nI d) M N = some (r, M) ∧ FrI I I' := by
  intro n
  induction n with
  | zero => intro d I h1 h2; exact absurd h2 (by omega)
  | succ n ih =>
    intro d I h1 h2 hc
    rw [f_X5_next_38, f_X6_next_40]
    by_cases hd : 20 ≤ d
    · have := show (20 : Int32) ≤ nI d from nI_le (a := 20) hd (by omega)
      rw [if_pos this, if_pos this]
      exact ⟨_, _, rfl, rfl, FrI.rfl' I⟩
    · have hd' : d < 20 := Nat.not_le.mp hd
      have := show ¬ (20 : Int32) ≤ nI d from nI_ge (b := 20) hd' (by omega)
      obtain ⟨c', e, g⟩ := done0 hv hc ht hd' hp
      rw [if_neg this, if_neg this, e, ob2_s, ix_20, ck_t _ (inb_nI (show 20 * t + d < 100 by omega) (by omega)), nI_clamp (by omega), hm t d ht hd', nI_1]
      by_cases hq : dnI h p (lv h) t d = x4
      · rw [if_pos hq, if_pos hq]; exact ⟨_, _, rfl, rfl, FrI.c g⟩
      · rw [if_neg hq, if_neg hq]
        obtain ⟨r, I', k1, k2, k3⟩ := ih (d + 1) (gset I 0 c') (by omega) (by omega) ((FrI.c g).h hc)
        exact ⟨r, I', k1, k2, (FrI.c g).trans k3⟩
theorem o_next : Op_next := by
  intro I J M N y1 y2 y3 y4 R
  obtain ⟨h, hv, hc, ha⟩ := R.2.2.2.1
  have v0 : h 0 0 ≤ 5 := hv.1
  unfold f_X5_next f_X6_next f_X5_next_33 f_X6_next_30
  rw [p_isTown5, p_isTown6, ob1_s, ob1_s, if_bI, if_bI, p_isDay5, p_isDay6, ob1_s, ob1_s, if_bI, if_bI, p_isPerson0 hv hc, p_isPerson6 hv ha, ob1_s, ob1_s, if_bI, if_bI, p_isDeed5, p_isDeed6, ob1_s, ob1_s, if_bI, if_bI]
  by_cases h1 : 0 ≤ y1.toInt ∧ y1.toInt < 5
  · rw [if_pos h1, if_pos h1]
    by_cases h2 : 0 ≤ y2.toInt ∧ y2.toInt < 20
    · rw [if_pos h2, if_pos h2]
      by_cases h3 : 0 ≤ y3.toInt ∧ y3.toInt < (h 0 0 : Nat)
      · rw [if_pos h3, if_pos h3]
        by_cases h4 : 0 ≤ y4.toInt ∧ y4.toInt < 10
        · rw [if_pos h4, if_pos h4]
          obtain ⟨t, ht, rfl⟩ := ix_of (n := 5) h1.1 h1.2 (by omega)
          obtain ⟨d, hd, rfl⟩ := ix_of (n := 20) h2.1 h2.2 (by omega)
          obtain ⟨p, hp, rfl⟩ := ix_of h3.1 h3.2 (by omega)
          obtain ⟨M', e', g1, g2⟩ := layNow6 N hv ha hp
          obtain ⟨r, I', k1, k2, k3⟩ := next_both hv J N y4 ht hp g2 FU d I (by omega) (FU_ge (by omega)) hc
          rw [e', ob1_s, k1, k2]
          exact ⟨_, _, _, rfl, rfl, R.fr k3 (FrM.lay g1) rfl⟩
        · rw [if_neg h4, if_neg h4]; exact ⟨_, _, _, rfl, rfl, R⟩
      · rw [if_neg h3, if_neg h3]; exact ⟨_, _, _, rfl, rfl, R⟩
    · rw [if_neg h2, if_neg h2]; exact ⟨_, _, _, rfl, rfl, R⟩
  · rw [if_neg h1, if_neg h1]; exact ⟨_, _, _, rfl, rfl, R⟩
/-! how many, and the first -/
def cn (P : Nat → Bool) : Nat → Nat → Nat
  | _, 0 => 0
  | a, k + 1 => (if P a = true then 1 else 0) + cn P (a + 1) k
def fs (P : Nat → Bool) : Nat → Nat → Int32
  | _, 0 => -9
  | a, k + 1 => if P a = true then nI a else fs P (a + 1) k
theorem cn_le (P : Nat → Bool) : ∀ (k a : Nat), cn P a k ≤ k
  | 0, _ => by rw [cn]; omega
  | k + 1, a => by have := cn_le P k (a + 1); rw [cn]; split <;> omega
theorem fs_cn (P : Nat → Bool) : ∀ (k a : Nat), a + k < 1000 → (fs P a k = -9 ↔ cn P a k = 0)
  | 0, _, _ => by rw [cn, fs]; exact ⟨fun _ => rfl, fun _ => rfl⟩
  | k + 1, a, h => by
    rw [cn, fs]
    by_cases q : P a = true
    · rw [if_pos q, if_pos q]
      refine ⟨fun e => ?_, fun e => by omega⟩
      rw [i32_eq, nI_toInt (by omega)] at e
      have : (-9 : Int32).toInt = -9 := by decide
      omega
    · rw [if_neg q, if_neg q, Nat.zero_add]; exact fs_cn P k (a + 1) (by omega)
theorem lt_down {e t : Nat} (he : e < 1000) (ht : t < 1000) : nI e + (-1) < nI t ↔ e ≤ t := by
  cases e with
  | zero =>
    refine ⟨fun _ => by omega, fun _ => ?_⟩
    rw [i32_lt, nI_toInt (by omega)]
    have : (nI 0 + (-1 : Int32)).toInt = -1 := by decide
    omega
  | succ e => rw [pk_m1, nI_ltI (by omega) (by omega)]; omega
/-! since -/
theorem since_5 {h : Nat → Nat → Nat} (hv : ChV h) (J : Nat → JS) {t u p : Nat} (htu : t < u) (hu : u < 5) (hp : p < h 0 0) :
    ∀ (n k d m : Nat) (x4 : Int32) (I : Nat → CS), u ≤ d → d + k = 20 → k < n → m ≤ d → (m = 0 → x4 = -9) → ChC (I 0) h →
      ∃ I', f_X5_since_31 n (nI t) (nI u) (nI p) x4 (nI m) (nI d) I J = some (if m = 0 then fs (fun d => decide (df h p (lv h) t u d)) d k else x4, if m + cn (fun d => decide (df h p (lv h) t u d)) d k = 0 then I' else gset I' 7 (cset (I' 7) 0 0 (nI (m + cn (fun d => decide (df h p (lv h) t u d)) d k)))) ∧ FrI I I' := by
  intro n
  induction n with
  | zero => intro k d m x4 I _ _ h2; exact absurd h2 (by omega)
  | succ n ih =>
    intro k d m x4 I h0 h1 h2 h3 hx hc
    rw [f_X5_since_31]
    cases k with
    | zero =>
      rw [if_pos (show (20 : Int32) ≤ nI d from nI_le (a := 20) (by omega) (by omega)), fs, cn, Nat.add_zero]
      unfold f_X5_since_97
      refine ⟨I, ?_, FrI.rfl' I⟩
      by_cases hm : m = 0
      · rw [hm, if_pos (show nI 0 ≤ 0 by decide), if_pos rfl, if_pos rfl, hx hm]
      · rw [if_neg (nI_nle (by omega) (by omega)), if_neg hm, if_neg hm]
    | succ k =>
      obtain ⟨c1, e1, g1⟩ := differs0 hv hc htu hu h0 (show d < 20 by omega) hp (lvh_lt' hv)
      rw [if_neg (show ¬ (20 : Int32) ≤ nI d from nI_ge (b := 20) (by omega) (by omega)), unmended0 hv hc, ob1_s, e1, ob2_s, if_bI]
      unfold f_X5_since_72 f_X5_since_77
      rw [fs, cn]
      by_cases hh : df h p (lv h) t u d
      · have hh' := decide_eq_true hh
        rw [if_pos hh, if_pos hh', if_pos hh', nI_1, nI_1]
        have hs : ∀ x : Int32, ∃ I', f_X5_since_31 n (nI t) (nI u) (nI p) x (nI (m + 1)) (nI (d + 1)) (gset I 0 c1) J = some (x, if m + (1 + cn (fun d => decide (df h p (lv h) t u d)) (d + 1) k) = 0 then I' else gset I' 7 (cset (I' 7) 0 0 (nI (m + (1 + cn (fun d => decide (df h p (lv h) t u d)) (d + 1) k))))) ∧ FrI I I' := by
          intro x
          obtain ⟨I', e, k1⟩ := ih k (d + 1) (m + 1) x (gset I 0 c1) (by omega) (by omega) (by omega) (by omega) (fun q => absurd q (by omega)) ((FrI.c g1).h hc)
          rw [if_neg (by omega), Nat.add_assoc] at e
          exact ⟨I', e, (FrI.c g1).trans k1⟩
        by_cases hm : m = 0
        · rw [if_pos hm, if_pos (show nI m = 0 by rw [hm]; exact nI_0)]; exact hs (nI d)
        · rw [if_neg hm, if_neg (nI_ne0 (by omega) (by omega))]; exact hs x4
      · have hh' : ¬ decide (df h p (lv h) t u d) = true := fun q => hh (of_decide_eq_true q)
        rw [if_neg hh, if_neg hh', if_neg hh', nI_1, Nat.zero_add]
        obtain ⟨I', e, k1⟩ := ih k (d + 1) m x4 (gset I 0 c1) (by omega) (by omega) (by omega) (by omega) hx ((FrI.c g1).h hc)
        exact ⟨I', e, (FrI.c g1).trans k1⟩
theorem since_6 {h : Nat → Nat → Nat} {M : CS} (N : JS) {t u p : Nat} (htu : t < u) (hu : u < 5) (hm : ∀ t d, t < 5 → d < 20 → M 13 (20 * t + d) = dnI h p (lv h) t d) :
    ∀ (n e : Nat), u ≤ e → e ≤ 20 → e - u < n → f_X6_since_34 n (nI t) (nI u) (fs (fun d => decide (df h p (lv h) t u d)) e (20 - e)) (nI (cn (fun d => decide (df h p (lv h) t u d)) e (20 - e))) (nI e + (-1)) M N =
      some (fs (fun d => decide (df h p (lv h) t u d)) u (20 - u), if cn (fun d => decide (df h p (lv h) t u d)) u (20 - u) = 0 then M else cset M 7 0 (nI (cn (fun d => decide (df h p (lv h) t u d)) u (20 - u)))) := by
  intro n
  induction n with
  | zero => intro e h0 h1 h2; exact absurd h2 (by omega)
  | succ n ih =>
    intro e h0 h1 h2
    rw [f_X6_since_34]
    by_cases he : e ≤ u
    · have : e = u := by omega
      subst this
      rw [if_pos ((lt_down (by omega) (by omega)).mpr (Nat.le_refl _))]
      unfold f_X6_since_105 f_X6_answer
      by_cases hq : fs (fun d => decide (df h p (lv h) t e d)) e (20 - e) = -9
      · rw [if_pos hq, if_pos ((fs_cn _ _ _ (by omega)).mp hq), hq]
      · rw [if_neg hq, if_neg (fun q => hq ((fs_cn _ _ _ (by omega)).mpr q)), ob2_s]
    · obtain ⟨d, rfl⟩ : ∃ d, e = d + 1 := ⟨e - 1, by omega⟩
      have i1 := ih d (by omega) (by omega) (by omega)
      rw [show 20 - d = (20 - (d + 1)) + 1 by omega, fs, cn] at i1
      have hcl := cn_le (fun d => decide (df h p (lv h) t u d)) (20 - (d + 1)) (d + 1)
      rw [if_neg (fun q => he ((lt_down (by omega) (by omega)).mp q)), pk_m1, differs6 N htu hu (show u ≤ d by omega) (by omega) hm, ob1_s, if_bI]
      unfold f_X6_since_62 f_X6_since_77
      by_cases hh : df h p (lv h) t u d
      · have hh' := decide_eq_true hh
        rw [if_pos hh', if_pos hh', Nat.add_comm 1] at i1
        rw [if_pos hh, bI_t hh, if_neg (by decide), nI_1]
        exact i1
      · have hh' : ¬ decide (df h p (lv h) t u d) = true := fun q => hh (of_decide_eq_true q)
        rw [if_neg hh', if_neg hh', Nat.zero_add] at i1
        rw [if_neg hh, bI_f hh, if_pos rfl, show nI (cn (fun d => decide (df h p (lv h) t u d)) (d + 1) (20 - (d + 1))) + 0 = nI (cn (fun d => decide (df h p (lv h) t u d)) (d + 1) (20 - (d + 1))) from nI_add _ 0]
        exact i1
theorem o_since : Op_since := by
  intro I J M N y1 y2 y3 R
  obtain ⟨h, hv, hc, ha⟩ := R.2.2.2.1
  have v0 : h 0 0 ≤ 5 := hv.1
  unfold f_X5_since f_X6_since f_X5_since_19 f_X6_since_16
  rw [arePair5, areTowns6, ob1_s, ob1_s, if_bI, if_bI, p_isPerson0 hv hc, p_isPerson6 hv ha, ob1_s, ob1_s, if_bI, if_bI]
  by_cases h1 : 0 ≤ y1.toInt ∧ y1.toInt < y2.toInt ∧ y2.toInt < 5
  · rw [if_pos h1, if_pos h1]
    by_cases h3 : 0 ≤ y3.toInt ∧ y3.toInt < (h 0 0 : Nat)
    · rw [if_pos h3, if_pos h3]
      obtain ⟨u, hu, rfl⟩ := ix_of (x := y2) (n := 5) (by omega) h1.2.2 (by omega)
      obtain ⟨t, ht, rfl⟩ := ix_of (x := y1) (n := 5) h1.1 (by omega) (by omega)
      rw [nI_toInt (by omega), nI_toInt (by omega)] at h1
      obtain ⟨p, hp, rfl⟩ := ix_of h3.1 h3.2 (by omega)
      have htu : t < u := by omega
      obtain ⟨M', e', g1, g2⟩ := layNow6 N hv ha hp
      obtain ⟨I', e, g⟩ := since_5 hv J htu hu hp FU (20 - u) u 0 (-9) I (by omega) (by omega) (FU_ge (by omega)) (by omega) (fun _ => rfl) hc
      have e6 : f_X6_since_34 FU (nI t) (nI u) (-9) 0 19 M' N = _ := since_6 N htu hu g2 FU 20 (by omega) (by omega) (FU_ge (by omega))
      have e5 : f_X5_since_31 FU (nI t) (nI u) (nI p) (-9) 0 (nI u) I J = _ := e
      rw [e', ob1_s, e6, e5, if_pos rfl, Nat.zero_add]
      refine ⟨_, _, _, rfl, rfl, ?_⟩
      have R1 := R.fr g (FrM.lay g1) (J' := J) rfl
      by_cases hq : cn (fun d => decide (df h p (lv h) t u d)) u (20 - u) = 0
      · rw [if_pos hq, if_pos hq]; exact R1
      · rw [if_neg hq, if_neg hq]; exact R1.ask _
    · rw [if_neg h3, if_neg h3]; exact ⟨_, _, _, rfl, rfl, R⟩
  · rw [if_neg h1, if_neg h1]; exact ⟨_, _, _, rfl, rfl, R⟩
