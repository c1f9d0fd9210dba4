/-! ===== letter ===== -/
theorem cn_lt {P : Nat → Bool} {s : Nat} (hs : ¬ P s = true) : ∀ (k a : Nat), a ≤ s → s < a + k → cn P a k < k
  | 0, a, h1, h2 => absurd h2 (by omega)
  | k + 1, a, h1, h2 => by
    rw [cn]
    by_cases e : s = a
    · subst e
      rw [if_neg hs]
      have := cn_le P k (s + 1)
      omega
    · have := cn_lt hs k (a + 1) (by omega) (by omega)
      split <;> omega
theorem cn_cong {P Q : Nat → Bool} : ∀ (k a : Nat), (∀ x, a ≤ x → x < a + k → P x = Q x) → cn P a k = cn Q a k
  | 0, _, _ => rfl
  | k + 1, a, h => by
    rw [cn, cn, h a (by omega) (by omega), cn_cong k (a + 1) (fun x h1 h2 => h x (by omega) (by omega))]
theorem cn_set {P Q : Nat → Bool} {s : Nat} (hs : ¬ P s = true) (hq : Q s = true) (he : ∀ x, x ≠ s → Q x = P x) : ∀ (k a : Nat), a ≤ s → s < a + k → cn Q a k = cn P a k + 1
  | 0, a, h1, h2 => absurd h2 (by omega)
  | k + 1, a, h1, h2 => by
    rw [cn, cn]
    by_cases e : s = a
    · subst e
      rw [if_neg hs, if_pos hq, cn_cong k (s + 1) (fun x h1 _ => he x (by omega))]
      omega
    · rw [cn_set hs hq he k (a + 1) (by omega) (by omega), he a (fun q => e q.symm)]
      omega
theorem letter_cnt (M : CS) (s K : Nat) (v : Int32) (hs : s < K) (q : M 15 s = -1) (hv : ¬ v = -1) : cn (fun x => decide (¬ cset M 15 s v 15 x = -1)) 0 K = cn (fun x => decide (¬ M 15 x = -1)) 0 K + 1 := by
  have h1 : ¬ (fun x => decide (¬ M 15 x = -1)) s = true := fun z => of_decide_eq_true z q
  have h2 : (fun x => decide (¬ cset M 15 s v 15 x = -1)) s = true := decide_eq_true (by rw [cset_at, if_pos rfl]; exact hv)
  have h3 : ∀ x, x ≠ s → (fun x => decide (¬ cset M 15 s v 15 x = -1)) x = (fun x => decide (¬ M 15 x = -1)) x := fun x hx => by
    show decide (¬ cset M 15 s v 15 x = -1) = decide (¬ M 15 x = -1)
    rw [cset_at, if_neg hx]
  exact cn_set h1 h2 h3 K 0 (Nat.zero_le _) (by omega)
theorem m9 : (-9 : Int32).toInt = -9 := by decide
theorem m1t : (-1 : Int32).toInt = -1 := by decide
theorem letter_both {h : Nat → Nat → Nat} (hv : ChV h) (J : Nat → JS) (N : JS) {p : Nat} (hp : p < h 0 0) :
    ∀ (n m t w : Nat) (I : Nat → CS) (M : CS), t < 5 → w < 10 → m ≤ 50 → 51 - m < n → ChC (I 0) h → (∀ t d, t < 5 → d < 20 → M 13 (20 * t + d) = dnI h p (lv h) t d) →
      (∀ s, s < 50 → (I 9 0 s = -9 ∧ M 15 s = -1) ∨ ∃ k, k < 1000 ∧ I 9 0 s = nI k ∧ M 15 s = nI k) → cn (fun s => decide (¬ M 15 s = -1)) 0 50 = m →
      ∃ (r v : Int32) (I' : Nat → CS) (M' : CS), f_X5_letter_64 n (nI p) (nI t) (nI w) (nI m) I J = some (r, gset I' 7 (cset (I' 7) 0 0 v)) ∧ f_X6_letter_62 n (nI t) (nI w) (nI m) M N = some (r, cset M' 7 0 v) ∧ FrI I I' ∧ FrM M M' := by
  intro n
  induction n with
  | zero => intro m t w I M _ _ h1 h2; exact absurd h2 (by omega)
  | succ n ih =>
    intro m t w I M ht hw h1 h2 hc hm hI hcn
    rw [f_X5_letter_64, f_X6_letter_62, if_neg (show ¬ (50 : Int32) < nI m from nI_nlt (a := 50) h1 (by omega)), p_isDeed5, ob1_s, if_bI, nI_toInt (by omega), if_pos (show (0 : Int) ≤ (w : Nat) ∧ ((w : Nat) : Int) < 10 by omega), show nI t * (10 : Int32) + nI w = nI (10 * t + w) by rw [show (10 : Int32) = nI 10 from rfl, pk_mul, nI_add, Nat.mul_comm], show (10 : Int32) * nI t + nI w = nI (10 * t + w) by rw [show (10 : Int32) = nI 10 from rfl, pk_mul, nI_add], show (20 : Int32) * nI t + (10 : Int32) + nI w = nI (20 * t + (10 + w)) by rw [show (10 : Int32) = nI 10 from rfl, ix_20, nI_add, Nat.add_assoc], show (10 : Int32) + nI w = nI (10 + w) from nI_add 10 w, ck_t _ (inb_nI (show 10 * t + w < 50 by omega) (by omega)), ck_t _ (inb_nI (show 10 * t + w < 50 by omega) (by omega)), ck_t _ (inb_nI (show 10 * t + w < 50 by omega) (by omega)), ck_t _ (inb_nI (show 10 * t + w < 50 by omega) (by omega)), ck_t _ (inb_nI (show 10 * t + w < 50 by omega) (by omega)), ck_t _ (inb_nI (show 10 * t + w < 50 by omega) (by omega)), ck_t _ (inb_nI (show 20 * t + (10 + w) < 100 by omega) (by omega)), nI_clamp (show 10 * t + w < 2 ^ 31 by omega), nI_clamp (show 20 * t + (10 + w) < 2 ^ 31 by omega)]
    rcases hI (10 * t + w) (by omega) with ⟨q1, q2⟩ | ⟨k, hk, q1, q2⟩
    · have hlt := cn_lt (P := fun s => decide (¬ M 15 s = -1)) (s := 10 * t + w) (fun z => of_decide_eq_true z q2) 50 0 (by omega) (by omega)
      rw [hcn] at hlt
      obtain ⟨c1, e1, g1⟩ := done0 hv hc ht (show 10 + w < 20 by omega) hp
      obtain ⟨a, ha1, ha2⟩ := dnI_r (h := h) (p := p) (real := lv h) (show t ≤ 10 + w by omega)
      rw [q1, q2, if_pos rfl, if_neg (show ¬ (0 : Int32) ≤ -1 by decide), e1, ob2_s, hm t (10 + w) ht (by omega), ha2, nI_1, nI_1, show jrem (nI (t + 1)) (5 : Int32) = nI ((t + 1) % 5) from jrem_nI (d := 5) (by omega) (by omega) (by omega)]
      have hI' : ∀ s, s < 50 → ((gset (gset I 9 (cset (I 9) 0 (10 * t + w) (nI m))) 0 c1) 9 0 s = -9 ∧ cset M 15 (10 * t + w) (nI m) 15 s = -1) ∨ ∃ k, k < 1000 ∧ (gset (gset I 9 (cset (I 9) 0 (10 * t + w) (nI m))) 0 c1) 9 0 s = nI k ∧ cset M 15 (10 * t + w) (nI m) 15 s = nI k := by
        intro s hs
        rw [gset_ne _ _ _ 9 (by omega), gset_at, cset_at, cset_at]
        by_cases e : s = 10 * t + w
        · rw [if_pos e, if_pos e]; exact Or.inr ⟨m, by omega, rfl, rfl⟩
        · rw [if_neg e, if_neg e]; exact hI s hs
      have hcn' : cn (fun s => decide (¬ cset M 15 (10 * t + w) (nI m) 15 s = -1)) 0 50 = m + 1 := by
        rw [letter_cnt M (10 * t + w) 50 (nI m) (by omega) q2 (nI_m1 m (by omega)), hcn]
      have F : FrI I (gset (gset I 9 (cset (I 9) 0 (10 * t + w) (nI m))) 0 c1) := ⟨fun g h1 h2 => by rw [gset_ne _ _ _ _ (by omega), gset_ne _ _ _ _ (by omega)], g1⟩
      obtain ⟨r, v, I', M', l1, l2, l3, l4⟩ := ih (m + 1) ((t + 1) % 5) a _ (cset M 15 (10 * t + w) (nI m)) (by omega) ha1 (by omega) (by omega) (F.h hc) hm hI' hcn'
      exact ⟨r, v, I', M', l1, l2, F.trans l3, FrM.trans (fun q hq => cset_ne _ _ _ _ _ (by omega)) l4⟩
    · rw [q1, q2, if_neg (show ¬ nI k = -9 from fun q => by rw [i32_eq, nI_toInt (by omega), m9] at q; omega), if_pos (nI_pos' (by omega))]
      exact ⟨_, _, I, M, rfl, rfl, FrI.rfl' I, FrM.rfl' M⟩
theorem letter_30 (J : Nat → JS) (x1 x2 x3 : Int32) : ∀ (n i : Nat) (I : Nat → CS), i ≤ 50 → 50 - i < n → (∀ s, s < i → I 9 0 s = -9) → ∃ I', f_X5_letter_30 n x1 x2 x3 (nI i) I J = f_X5_letter_64 FU x2 x1 x3 0 I' J ∧ (∀ g, g ≠ 9 → I' g = I g) ∧ ∀ s, s < 50 → I' 9 0 s = -9 := by
  intro n
  induction n with
  | zero => intro i I h1 h2; exact absurd h2 (by omega)
  | succ n ih =>
    intro i I h1 h2 hs
    rw [f_X5_letter_30]
    by_cases hi : 50 ≤ i
    · rw [if_pos (show (50 : Int32) ≤ nI i from nI_le (a := 50) hi (by omega))]
      exact ⟨I, rfl, fun _ _ => rfl, fun s h => hs s (by omega)⟩
    · have hi' : i < 50 := Nat.not_le.mp hi
      rw [if_neg (show ¬ (50 : Int32) ≤ nI i from nI_ge (b := 50) hi' (by omega)), ck_t _ (inb_nI hi' (by omega)), nI_clamp (by omega), nI_1]
      obtain ⟨I', e, g1, g2⟩ := ih (i + 1) (gset I 9 (cset (I 9) 0 i (-9))) (by omega) (by omega) (fun s h => by
        rw [gset_at, cset_at]
        by_cases e : s = i
        · rw [if_pos e]
        · rw [if_neg e]; exact hs s (by omega))
      exact ⟨I', e, fun g hg => by rw [g1 g hg, gset_ne _ _ _ _ hg], g2⟩
theorem letter_32 (N : JS) (x1 x3 : Int32) : ∀ (n i : Nat) (M : CS), i ≤ 50 → 50 - i < n → (∀ s, s < i → M 15 s = -1) → ∃ M', f_X6_letter_32 n x1 x3 (nI i) M N = f_X6_letter_62 FU x1 x3 0 M' N ∧ (∀ g, g ≠ 15 → M' g = M g) ∧ ∀ s, s < 50 → M' 15 s = -1 := by
  intro n
  induction n with
  | zero => intro i I h1 h2; exact absurd h2 (by omega)
  | succ n ih =>
    intro i M h1 h2 hs
    rw [f_X6_letter_32]
    by_cases hi : 50 ≤ i
    · rw [if_pos (show (50 : Int32) ≤ nI i from nI_le (a := 50) hi (by omega))]
      exact ⟨M, rfl, fun _ _ => rfl, fun s h => hs s (by omega)⟩
    · have hi' : i < 50 := Nat.not_le.mp hi
      rw [if_neg (show ¬ (50 : Int32) ≤ nI i from nI_ge (b := 50) hi' (by omega)), ck_t _ (inb_nI hi' (by omega)), nI_clamp (by omega), nI_1]
      obtain ⟨M', e, g1, g2⟩ := ih (i + 1) (cset M 15 i (-1)) (by omega) (by omega) (fun s h => by
        rw [cset_at]
        by_cases e : s = i
        · rw [if_pos e]
        · rw [if_neg e]; exact hs s (by omega))
      exact ⟨M', e, fun g hg => by rw [g1 g hg, cset_ne _ _ _ _ _ hg], g2⟩
theorem cn_zero {P : Nat → Bool} : ∀ (k a : Nat), (∀ x, a ≤ x → x < a + k → P x = false) → cn P a k = 0
  | 0, _, _ => rfl
  | k + 1, a, h => by rw [cn, h a (by omega) (by omega), cn_zero k (a + 1) (fun x h1 h2 => h x (by omega) (by omega))]; rfl
theorem o_letter : Op_letter := by
  intro I J M N y1 y2 y3 R
  obtain ⟨h, hv, hc, ha⟩ := R.2.2.2.1
  have v0 : h 0 0 ≤ 5 := hv.1
  unfold f_X5_letter f_X6_letter f_X5_letter_25 f_X6_letter_22
  rw [p_isTown5, p_isTown6, ob1_s, ob1_s, if_bI, if_bI, p_isPerson0 hv hc, p_isPerson6 hv ha, ob1_s, ob1_s, if_bI, if_bI, p_isDeed5, p_isDeed6, ob1_s, ob1_s, if_bI, if_bI]
  by_cases h1 : 0 ≤ y1.toInt ∧ y1.toInt < 5
  · rw [if_pos h1, if_pos h1]
    by_cases h2 : 0 ≤ y2.toInt ∧ y2.toInt < (h 0 0 : Nat)
    · rw [if_pos h2, if_pos h2]
      by_cases h3 : 0 ≤ y3.toInt ∧ y3.toInt < 10
      · rw [if_pos h3, if_pos h3]
        obtain ⟨t, ht, rfl⟩ := ix_of (n := 5) h1.1 h1.2 (by omega)
        obtain ⟨p, hp, rfl⟩ := ix_of h2.1 h2.2 (by omega)
        obtain ⟨w, hw, rfl⟩ := ix_of (n := 10) h3.1 h3.2 (by omega)
        obtain ⟨M1, e1, a1, a2⟩ := layNow6 N hv ha hp
        obtain ⟨M2, e2, b1, b2⟩ := letter_32 N (nI t) (nI w) FU 0 M1 (by omega) (FU_ge (by omega)) (fun s hs => absurd hs (by omega))
        obtain ⟨I2, e3, d1, d2⟩ := letter_30 J (nI t) (nI p) (nI w) FU 0 I (by omega) (FU_ge (by omega)) (fun s hs => absurd hs (by omega))
        have F12 : FrM M M2 := (FrM.lay a1).trans (fun q hq => b1 q (by omega))
        have G : FrI I I2 := ⟨fun g h1 h2 => d1 g (by omega), fun q _ => by rw [d1 0 (by omega)]⟩
        obtain ⟨r, v, I', M', l1, l2, l3, l4⟩ := letter_both hv J N hp FU 0 t w I2 M2 ht hw (by omega) (FU_ge (by omega)) (G.h hc) (fun t d ht hd => by rw [b1 13 (by omega)]; exact a2 t d ht hd) (fun s hs => Or.inl ⟨d2 s hs, b2 s hs⟩) (cn_zero 50 0 (fun x _ hx => by simp [b2 x (by omega)]))
        have e2' : f_X6_letter_32 FU (nI t) (nI w) 0 M1 N = _ := e2
        have e3' : f_X5_letter_30 FU (nI t) (nI p) (nI w) 0 I J = _ := e3
        have l1' : f_X5_letter_64 FU (nI p) (nI t) (nI w) 0 I2 J = _ := l1
        have l2' : f_X6_letter_62 FU (nI t) (nI w) 0 M2 N = _ := l2
        rw [e1, ob1_s, e2', e3', l1', l2']
        exact ⟨_, _, _, rfl, rfl, (R.fr (G.trans l3) (F12.trans l4) (J' := J) rfl).ask _⟩
      · rw [if_neg h3, if_neg h3]; exact ⟨_, _, _, rfl, rfl, R⟩
    · rw [if_neg h2, if_neg h2]; exact ⟨_, _, _, rfl, rfl, R⟩
  · rw [if_neg h1, if_neg h1]; exact ⟨_, _, _, rfl, rfl, R⟩
/-! ===== lots ===== -/
theorem lrem {a d : Nat} (ha : a < 2 ^ 63) (h0 : 0 < d) (hd : d < 2 ^ 63) : jremL (lN a) (lN d) = lN (a % d) := pk_lRem ha h0 hd
theorem lots_both (J : Nat → JS) (N : JS) {x1 : Nat} (hx1 : x1 ≤ 10) : ∀ (n i s : Nat) (h : Nat → Nat → Nat) (I : Nat → CS) (M : CS), i ≤ x1 → x1 - i < n → s < 2147483647 → 0 < h 0 0 → h 1 0 + (x1 - i) ≤ 12 → h 4 0 + (x1 - i) ≤ 40 → ChV h → ChC (I 0) h → ChM (M 4) h →
    ∃ (r : Int32) (h' : Nat → Nat → Nat) (I' : Nat → CS) (M' : CS), f_X5_lots_70 n (nI x1) (lN s) (nI i) I J = some (r, I') ∧ f_X6_lots_73 n (nI x1) (lN s) (nI i) M N = some (r, M') ∧ (∀ g, g ≠ 0 → I' g = I g) ∧ (∀ q, q < 10 → q ≠ 4 → M' q = M q) ∧ ChV h' ∧ ChC (I' 0) h' ∧ ChM (M' 4) h' := by
  intro n
  induction n with
  | zero => intro i s h I M h1 h2; exact absurd h2 (by omega)
  | succ n ih =>
    intro i s h I M h1 h2 hs hP hE hT hv hc hm
    have v0 : h 0 0 ≤ 5 := hv.1
    rw [f_X5_lots_70, f_X6_lots_73]
    by_cases hi : x1 ≤ i
    · have := nI_le hi (show i < 2 ^ 31 by omega)
      obtain ⟨b, c', M', k1, k2, k3, k4, k5⟩ := differing_both hv N (show 0 < 4 by omega) (show 4 < 5 by omega) (show 4 ≤ 19 by omega) (show 19 < 20 by omega) hc hm
      have k2' : f_X0_differing (I 0) 0 4 19 = _ := k2
      have k3' : f_X6_differing M N 0 4 19 (nI (lv h)) = _ := k3
      rw [if_pos this, if_pos this, k2', ob2_s, bitCount0 b (by omega), ob1_s, live6 hv hm, ob1_s, k3', ob2_s, bits6 b (by omega), ob1_s]
      exact ⟨_, h, _, _, rfl, rfl, fun g hg => gset_ne _ _ _ _ hg, fun q hq _ => k5 q hq, hv, hc.fr k4, k5.m hm⟩
    · have := nI_ge (Nat.not_le.mp hi) (show x1 < 2 ^ 31 by omega)
      have hmul : s * 48271 < 2 ^ 63 := by omega
      have hv' : s * 48271 % 2147483647 < 2147483647 := Nat.mod_lt _ (by omega)
      rw [if_neg this, if_neg this, hc.1, hm.1, show (48271 : Int64) = lN 48271 from rfl, lN_mul, lN_mul, Nat.mul_comm 48271 s, show (2147483647 : Int64) = lN 2147483647 from rfl, lrem hmul (by omega) (by omega)]
      generalize s * 48271 % 2147483647 = v at hv' ⊢
      rw [nI_l (show h 0 0 < 2 ^ 31 by omega), show (5 : Int64) = lN 5 from rfl, show (8 : Int64) = lN 8 from rfl, show (20 : Int64) = lN 20 from rfl, show (256 : Int64) = lN 256 from rfl, show (4096 : Int64) = lN 4096 from rfl, show (9 : Int64) = lN 9 from rfl, pk_lDiv (by omega) (by omega) (by omega), pk_lDiv (by omega) (by omega) (by omega), pk_lDiv (by omega) (by omega) (by omega), lrem (by omega) (by omega) (by omega), lrem (by omega) (by omega) (by omega), lrem (by omega) (by omega) (by omega), lrem (by omega) (by omega) (by omega), lN_i, lN_i, lN_i, lN_i, lN_i, nI_1, show (5 : Int32) = nI 5 from rfl, show (8 : Int32) = nI 8 from rfl, show (20 : Int32) = nI 20 from rfl, show (256 : Int32) = nI 256 from rfl, show (4096 : Int32) = nI 4096 from rfl, show (9 : Int32) = nI 9 from rfl, pk_div (show v < 2 ^ 31 by omega) (by omega) (by omega), pk_div (show v < 2 ^ 31 by omega) (by omega) (by omega), pk_div (show v < 2 ^ 31 by omega) (by omega) (by omega), jrem_nI (show v < 2 ^ 31 by omega) (by omega) (by omega), jrem_nI (show v / 8 < 2 ^ 31 by omega) (by omega) (by omega), jrem_nI (show v / 256 < 2 ^ 31 by omega) hP (by omega), jrem_nI (show v / 4096 < 2 ^ 31 by omega) (by omega) (by omega), nI_1, nI_1]
      have hp : v / 256 % h 0 0 < h 0 0 := Nat.mod_lt _ hP
      obtain ⟨c', e, g⟩ := turnErred0 (t := v % 5) (d := v / 8 % 20) (p := v / 256 % h 0 0) (b := v / 4096 % 9 + 1) hc (show h 1 0 < 12 by omega) (show h 4 0 < 40 by omega)
      obtain ⟨M', e', g1, g2⟩ := comes6 (t := v % 5) (d := v / 8 % 20) (p := v / 256 % h 0 0) (b := v / 4096 % 9 + 1) N hv hm (show h 1 0 < 12 by omega) (show h 4 0 < 40 by omega)
      have nzl : nzL (lN (h 0 0)) = true := decide_eq_true (fun q => by
        have := (pk_lEQ (b := 0) (show h 0 0 < 2 ^ 63 by omega) (by omega)).mp q
        omega)
      have nzi : nz (nI (h 0 0)) = true := decide_eq_true (nI_ne0 hP (by omega))
      rw [ck_t _ nzl, ck_t _ nzi, e, ob1_s, e', ob2_s]
      obtain ⟨r, h'', I', M'', l1, l2, l3, l4, l5, l6, l7⟩ := ih (i + 1) v _ (gset I 0 c') M' (by omega) (by omega) hv' (show 0 < hErr h (v % 5) (v / 8 % 20) (v / 256 % h 0 0) (v / 4096 % 9 + 1) 0 0 from hP) (show h 1 0 + 1 + (x1 - (i + 1)) ≤ 12 by omega) (show h 4 0 + 1 + (x1 - (i + 1)) ≤ 40 by omega) (hErr_v hv (by omega) (by omega) hp (by omega) (by omega) (by omega) (by omega)) g g2
      exact ⟨r, h'', I', M'', l1, l2, fun g hg => (l3 g hg).trans (gset_ne _ _ _ _ hg), fun q hq hq4 => (l4 q hq hq4).trans (g1 q hq4), l5, l6, l7⟩
theorem o_lots : Op_lots := by
  intro I J M N y1 y2 R
  obtain ⟨h, hv, hc, ha⟩ := R.2.2.2.1
  have v0 : h 0 0 ≤ 5 := hv.1
  have v1 : h 1 0 ≤ 12 := hv.2.1
  have v4 : h 4 0 ≤ 40 := hv.2.2.2.2.1
  have e1 : (1 : Int32).toInt = 1 := by decide
  have e10 : (10 : Int32).toInt = 10 := by decide
  have eM : (2147483646 : Int32).toInt = 2147483646 := by decide
  unfold f_X5_lots f_X6_lots f_X5_lots_23 f_X5_lots_61 f_X6_lots_24 f_X6_lots_64
  rw [p_in6i, ob1_s, if_bI, p_in6i, ob1_s, if_bI, show (1 : Int64).toInt = 1 by decide, show (10 : Int64).toInt = 10 by decide, show (2147483646 : Int64).toInt = 2147483646 by decide]
  by_cases h1 : 1 ≤ y1.toInt ∧ y1.toInt ≤ 10
  · rw [if_pos h1, if_neg (show ¬ y1 < 1 by rw [i32_lt, e1]; omega), if_neg (show ¬ (10 : Int32) < y1 by rw [i32_lt, e10]; omega)]
    by_cases h2 : 1 ≤ y2.toInt ∧ y2.toInt ≤ 2147483646
    · rw [if_pos h2, if_neg (show ¬ y2 < 1 by rw [i32_lt, e1]; omega), if_pos (show y2 ≤ 2147483646 by rw [i32_le, eM]; omega), hc.1, ha.1]
      obtain ⟨x, hx, rfl⟩ := ix_of (x := y1) (n := 11) (by omega) (by omega) (by omega)
      obtain ⟨s, hs, rfl⟩ := ix_of (x := y2) (n := 2147483647) (by omega) (by omega) (by omega)
      rw [nI_toInt (by omega)] at h1
      by_cases hP : h 0 0 = 0
      · rw [hP, if_neg (show ¬ (1 : Int32) ≤ nI 0 by decide), if_pos nI_0]; exact ⟨_, _, _, rfl, rfl, R⟩
      · rw [if_pos (show (1 : Int32) ≤ nI (h 0 0) from nI_le (a := 1) (by omega) (by omega)), if_neg (nI_ne0 (n := h 0 0) (by omega) (by omega)), hasErrors0 hc.2.1 v1 (by omega), ob1_s, if_bI, hasTurns0 hc.2.2.2.2.1 v4 (by omega), ob1_s, if_bI, ha.2.1, ha.2.2.2.1, nI_add, nI_add]
        by_cases hE : x + h 1 0 ≤ 12
        · rw [if_pos hE, if_neg (show ¬ (12 : Int32) < nI (h 1 0 + x) from nI_nlt (a := 12) (by omega) (by omega))]
          by_cases hT : x + h 4 0 ≤ 40
          · rw [if_pos hT, if_pos (show nI (h 4 0 + x) ≤ (40 : Int32) from nI_le (b := 40) (by omega) (by omega)), nI_l (show s < 2 ^ 31 by omega)]
            obtain ⟨r, h'', I', M'', l1, l2, l3, l4, l5, l6, l7⟩ := lots_both J N (show x ≤ 10 by omega) FU 0 s h I M (by omega) (FU_ge (by omega)) hs (by omega) (by omega) (by omega) hv hc ha
            have l1' : f_X5_lots_70 FU (nI x) (lN s) 0 I J = _ := l1
            have l2' : f_X6_lots_73 FU (nI x) (lN s) 0 M N = _ := l2
            rw [l1', l2']
            exact ⟨_, _, _, rfl, rfl, R.chain (fun g h1 _ => l3 g (by omega)) l4 ⟨h'', l5, l6, l7⟩⟩
          · rw [if_neg hT, if_neg (show ¬ nI (h 4 0 + x) ≤ (40 : Int32) from nI_ge (a := 40) (by omega) (by omega))]; exact ⟨_, _, _, rfl, rfl, R⟩
        · rw [if_neg hE, if_pos (show (12 : Int32) < nI (h 1 0 + x) from nI_lt (a := 12) (by omega) (by omega))]; exact ⟨_, _, _, rfl, rfl, R⟩
    · rw [if_neg h2]
      by_cases q1 : y2 < 1
      · rw [if_pos q1]; exact ⟨_, _, _, rfl, rfl, R⟩
      · rw [if_neg q1, if_neg (fun q : y2 ≤ 2147483646 => h2 (by rw [i32_lt, e1] at q1; rw [i32_le, eM] at q; omega))]; exact ⟨_, _, _, rfl, rfl, R⟩
  · rw [if_neg h1]
    by_cases q1 : y1 < 1
    · rw [if_pos q1]; exact ⟨_, _, _, rfl, rfl, R⟩
    · rw [if_neg q1, if_pos (show (10 : Int32) < y1 by rw [i32_lt, e10]; rw [i32_lt, e1] at q1; omega)]; exact ⟨_, _, _, rfl, rfl, R⟩
