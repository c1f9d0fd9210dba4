/-! together -/
theorem together_5 {h : Nat → Nat → Nat} (hv : ChV h) (J : Nat → JS) {t p q : Nat} (ht : t < 5) (hp : p < h 0 0) (hq : q < h 0 0) :
    ∀ (n k d m : Nat) (x4 : Int32) (I : Nat → CS), d + k = 20 → k < n → m ≤ d → (m = 0 → x4 = -9) → ChC (I 0) h →
      ∃ I', f_X5_together_46 n (nI t) (nI p) (nI q) x4 (nI m) (nI d) I J = some (nI (m + cn (fun d => decide (dnI h p (lv h) t d = dnI h q (lv h) t d)) d k), gset I' 7 (cset (I' 7) 0 0 (if m = 0 then fs (fun d => decide (dnI h p (lv h) t d = dnI h q (lv h) t d)) d k else x4))) ∧ FrI I I' := by
  intro n
  induction n with
  | zero => intro k d m x4 I _ h2; exact absurd h2 (by omega)
  | succ n ih =>
    intro k d m x4 I h1 h2 h3 hx hc
    rw [f_X5_together_46]
    cases k with
    | zero =>
      rw [if_pos (show (20 : Int32) ≤ nI d from nI_le (a := 20) (by omega) (by omega)), fs, cn, Nat.add_zero]
      refine ⟨I, ?_, FrI.rfl' I⟩
      by_cases hm : m = 0
      · rw [if_pos hm, hx hm]
      · rw [if_neg hm]
    | succ k =>
      obtain ⟨c1, e1, g1⟩ := done0 hv hc ht (show d < 20 by omega) hp
      obtain ⟨c2, e2, g2⟩ := done0 hv (hc.fr g1) ht (show d < 20 by omega) hq
      have F : FrI I (gset (gset I 0 c1) 0 c2) := (FrI.c g1).c2 g2
      rw [if_neg (show ¬ (20 : Int32) ≤ nI d from nI_ge (b := 20) (by omega) (by omega)), e1, ob2_s, e2, ob2_s]
      unfold f_X5_together_90 f_X5_together_95
      rw [fs, cn]
      by_cases hh : dnI h p (lv h) t d = dnI h q (lv h) t d
      · have hh' := decide_eq_true hh
        rw [if_pos hh, if_pos hh', if_pos hh', nI_1, nI_1]
        have hs : ∀ x : Int32, ∃ I', f_X5_together_46 n (nI t) (nI p) (nI q) x (nI (m + 1)) (nI (d + 1)) (gset (gset I 0 c1) 0 c2) J = some (nI (m + (1 + cn (fun d => decide (dnI h p (lv h) t d = dnI h q (lv h) t d)) (d + 1) k)), gset I' 7 (cset (I' 7) 0 0 x)) ∧ FrI I I' := by
          intro x
          obtain ⟨I', e, k1⟩ := ih k (d + 1) (m + 1) x _ (by omega) (by omega) (by omega) (fun q => absurd q (by omega)) (F.h hc)
          rw [if_neg (by omega), Nat.add_assoc] at e
          exact ⟨I', e, F.trans k1⟩
        by_cases hm : m = 0
        · rw [if_pos hm, if_pos (show nI m = 0 by rw [hm]; exact nI_0)]; exact hs (nI d)
        · rw [if_neg hm, if_neg (nI_ne0 (by omega) (by omega))]; exact hs x4
      · have hh' : ¬ decide (dnI h p (lv h) t d = dnI h q (lv h) t d) = true := fun q => hh (of_decide_eq_true q)
        rw [if_neg hh, if_neg hh', if_neg hh', nI_1, Nat.zero_add]
        obtain ⟨I', e, k1⟩ := ih k (d + 1) m x4 _ (by omega) (by omega) (by omega) hx (F.h hc)
        exact ⟨I', e, F.trans k1⟩
theorem together_6 {h : Nat → Nat → Nat} {M : CS} (N : JS) {t p q : Nat} (ht : t < 5) (hm : ∀ t d, t < 5 → d < 20 → M 13 (20 * t + d) = dnI h q (lv h) t d) (hm2 : ∀ t d, t < 5 → d < 20 → M 14 (20 * t + d) = dnI h p (lv h) t d) :
    ∀ (n e : Nat), t ≤ e → e ≤ 20 → e - t < n → f_X6_together_81 n (nI t) (fs (fun d => decide (dnI h p (lv h) t d = dnI h q (lv h) t d)) e (20 - e)) (nI (cn (fun d => decide (dnI h p (lv h) t d = dnI h q (lv h) t d)) e (20 - e))) (nI e + (-1)) M N =
      some (nI (cn (fun d => decide (dnI h p (lv h) t d = dnI h q (lv h) t d)) t (20 - t)), cset M 7 0 (fs (fun d => decide (dnI h p (lv h) t d = dnI h q (lv h) t d)) t (20 - t))) := by
  intro n
  induction n with
  | zero => intro e h0 h1 h2; exact absurd h2 (by omega)
  | succ n ih =>
    intro e h0 h1 h2
    rw [f_X6_together_81]
    by_cases he : e ≤ t
    · have : e = t := by omega
      subst this
      rw [if_pos ((lt_down (by omega) (by omega)).mpr (Nat.le_refl _))]
      rfl
    · obtain ⟨d, rfl⟩ : ∃ d, e = d + 1 := ⟨e - 1, by omega⟩
      have i1 := ih d (by omega) (by omega) (by omega)
      rw [show 20 - d = (20 - (d + 1)) + 1 by omega, fs, cn] at i1
      have hcl := cn_le (fun d => decide (dnI h p (lv h) t d = dnI h q (lv h) t d)) (20 - (d + 1)) (d + 1)
      rw [if_neg (fun q => he ((lt_down (by omega) (by omega)).mp q)), pk_m1, ix_20, ck_t _ (inb_nI (show 20 * t + d < 100 by omega) (by omega)), ck_t _ (inb_nI (show 20 * t + d < 100 by omega) (by omega)), nI_clamp (by omega), hm t d ht (by omega), hm2 t d ht (by omega)]
      unfold f_X6_together_119 f_X6_together_133 f_X6_together_148
      by_cases hh : dnI h p (lv h) t d = dnI h q (lv h) t d
      · have hh' := decide_eq_true hh
        rw [if_pos hh', if_pos hh', Nat.add_comm 1] at i1
        rw [if_pos hh.symm, if_neg (by decide), if_neg (by decide), nI_1]
        exact i1
      · have hh' : ¬ decide (dnI h p (lv h) t d = dnI h q (lv h) t d) = true := fun q => hh (of_decide_eq_true q)
        rw [if_neg hh', if_neg hh', Nat.zero_add] at i1
        rw [if_neg (fun q => hh q.symm), if_pos rfl, if_pos rfl, show nI (cn (fun d => decide (dnI h p (lv h) t d = dnI h q (lv h) t d)) (d + 1) (20 - (d + 1))) + 0 = nI (cn (fun d => decide (dnI h p (lv h) t d = dnI h q (lv h) t d)) (d + 1) (20 - (d + 1))) from nI_add _ 0]
        exact i1
theorem together_38 (N : JS) (x1 x3 : Int32) : ∀ (n i : Nat) (M : CS), i ≤ 100 → 100 - i < n → (∀ x, x < i → M 14 x = M 13 x) → ∃ M', f_X6_together_38 n x1 x3 (nI i) M N = (ob1 (f_X6_layNow M' N x3) fun M1 => f_X6_together_81 FU x1 (-9) 0 19 M1 N) ∧ (∀ q, q ≠ 14 → M' q = M q) ∧ ∀ x, x < 100 → M' 14 x = M 13 x := by
  intro n
  induction n with
  | zero => intro i M h1 h2; exact absurd h2 (by omega)
  | succ n ih =>
    intro i M h1 h2 hm
    rw [f_X6_together_38]
    by_cases hi : 100 ≤ i
    · rw [if_pos (show (100 : Int32) ≤ nI i from nI_le (a := 100) hi (by omega))]
      exact ⟨M, rfl, fun _ _ => rfl, fun x hx => hm x (by omega)⟩
    · have hi' : i < 100 := Nat.not_le.mp hi
      rw [if_neg (show ¬ (100 : Int32) ≤ nI i from nI_ge (b := 100) hi' (by omega)), ck_t _ (inb_nI hi' (by omega)), ck_t _ (inb_nI hi' (by omega)), nI_clamp (by omega), nI_1]
      obtain ⟨M', e, g1, g2⟩ := ih (i + 1) (cset M 14 i (M 13 i)) (by omega) (by omega) (fun x hx => by
        rw [cset_at]
        show (if x = i then M 13 i else M 14 x) = M 13 x
        by_cases hxi : x = i
        · rw [if_pos hxi, hxi]
        · rw [if_neg hxi]; exact hm x (by omega))
      exact ⟨M', e, fun q hq => by rw [g1 q hq, cset_ne _ _ _ _ _ hq], g2⟩
theorem o_together : Op_together := by
  intro I J M N y1 y2 y3 R
  obtain ⟨h, hv, hc, ha⟩ := R.2.2.2.1
  have v0 : h 0 0 ≤ 5 := hv.1
  unfold f_X5_together f_X6_together f_X5_together_34 f_X6_together_28
  rw [p_isTown5, p_isTown6, ob1_s, ob1_s, if_bI, if_bI, p_isPerson0 hv hc, p_isPerson6 hv ha, ob1_s, ob1_s, if_bI, if_bI, p_isPerson0 hv hc, p_isPerson6 hv ha, ob1_s, ob1_s, if_bI, if_bI]
  by_cases h1 : 0 ≤ y1.toInt ∧ y1.toInt < 5
  · rw [if_pos h1, if_pos h1]
    by_cases h2 : 0 ≤ y2.toInt ∧ y2.toInt < (h 0 0 : Nat)
    · rw [if_pos h2, if_pos h2]
      by_cases h3 : 0 ≤ y3.toInt ∧ y3.toInt < (h 0 0 : Nat)
      · rw [if_pos h3, if_pos h3]
        by_cases h4 : y2 = y3
        · rw [if_pos h4, if_pos h4]; exact ⟨_, _, _, rfl, rfl, R⟩
        · rw [if_neg h4, if_neg h4]
          obtain ⟨t, ht, rfl⟩ := ix_of (n := 5) h1.1 h1.2 (by omega)
          obtain ⟨p, hp, rfl⟩ := ix_of h2.1 h2.2 (by omega)
          obtain ⟨q, hq, rfl⟩ := ix_of h3.1 h3.2 (by omega)
          obtain ⟨M1, e1, a1, a2⟩ := layNow6 N hv ha hp
          obtain ⟨M2, e2, b1, b2⟩ := together_38 N (nI t) (nI q) FU 0 M1 (by omega) (FU_ge (by omega)) (fun x hx => absurd hx (by omega))
          have F12 : FrM M M2 := (FrM.lay a1).trans (fun q hq => b1 q (by omega))
          obtain ⟨M3, e3, d1, d2⟩ := layNow6 N hv (F12.m ha) hq
          obtain ⟨I', e, g⟩ := together_5 hv J ht hp hq FU (20 - t) t 0 (-9) I (by omega) (FU_ge (by omega)) (by omega) (fun _ => rfl) hc
          have e6 : f_X6_together_81 FU (nI t) (-9) 0 19 M3 N = _ := together_6 N ht d2 (fun t d ht hd => by rw [d1 14 (by omega) (by omega), b2 _ (by omega)]; exact a2 t d ht hd) FU 20 (by omega) (by omega) (FU_ge (by omega))
          have e5 : f_X5_together_46 FU (nI t) (nI p) (nI q) (-9) 0 (nI t) I J = _ := e
          have e2' : f_X6_together_38 FU (nI t) (nI q) 0 M1 N = _ := e2
          rw [e1, ob1_s, e2', e3, ob1_s, e6, e5, if_pos rfl, Nat.zero_add]
          exact ⟨_, _, _, rfl, rfl, (R.fr g (F12.trans (FrM.lay d1)) (J' := J) rfl).ask _⟩
      · rw [if_neg h3, if_neg h3]; exact ⟨_, _, _, rfl, rfl, R⟩
    · rw [if_neg h2, if_neg h2]; exact ⟨_, _, _, rfl, rfl, R⟩
  · rw [if_neg h1, if_neg h1]; exact ⟨_, _, _, rfl, rfl, R⟩
/-! worst -/
theorem worst_both {h : Nat → Nat → Nat} (hv : ChV h) (J : Nat → JS) (N : JS) {d : Nat} (hd4 : 4 ≤ d) (hd : d < 20) :
    ∀ (n t : Nat) (x2 x3 : Int32) (I : Nat → CS) (M : CS), 1 ≤ t → t ≤ 5 → 5 - t < n → ChC (I 0) h → ChM (M 4) h → ∃ r v I' M', f_X5_worst_34 n (nI d) x2 x3 (nI t) I J = some (r, gset I' 7 (cset (I' 7) 0 0 v)) ∧ f_X6_worst_35 n (nI d) x2 x3 (nI t) M N = some (r, cset M' 7 0 v) ∧ FrI I I' ∧ FrM M M' := by
  intro n
  induction n with
  | zero => intro t x2 x3 I M _ h1 h2; exact absurd h2 (by omega)
  | succ n ih =>
    intro t x2 x3 I M h0 h1 h2 hc hm
    rw [f_X5_worst_34, f_X6_worst_35]
    by_cases ht : 5 ≤ t
    · have := show (5 : Int32) ≤ nI t from nI_le (a := 5) ht (by omega)
      rw [if_pos this, if_pos this]
      exact ⟨_, _, I, M, rfl, rfl, FrI.rfl' I, FrM.rfl' M⟩
    · have := show ¬ (5 : Int32) ≤ nI t from nI_ge (b := 5) (Nat.not_le.mp ht) (by omega)
      obtain ⟨b, c', M', k1, k2, k3, k4, k5⟩ := differing_both hv N (show t - 1 < t by omega) (show t < 5 by omega) (show t ≤ d by omega) hd hc hm
      rw [if_neg this, if_neg this, live6 hv hm, ob1_s, show nI t - (1 : Int32) = nI (t - 1) from pk_sub (b := 1) h0, k2, ob2_s, k3, ob2_s, bitCount0 b (by omega), ob1_s, bits6 b (by omega), ob1_s]
      unfold f_X5_worst_71 f_X6_worst_73 f_X6_worst_86
      rw [nI_1]
      by_cases hq : nI (pc b) ≤ x3
      · rw [if_pos hq, if_pos hq, if_pos hq]
        obtain ⟨r, v, I', M'', l1, l2, l3, l4⟩ := ih (t + 1) x2 x3 (gset I 0 c') M' (by omega) (by omega) (by omega) (hc.fr k4) (k5.m hm)
        exact ⟨r, v, I', M'', l1, l2, (FrI.c k4).trans l3, k5.trans l4⟩
      · rw [if_neg hq, if_neg hq, if_neg hq]
        obtain ⟨r, v, I', M'', l1, l2, l3, l4⟩ := ih (t + 1) (nI t) (nI (pc b)) (gset I 0 c') M' (by omega) (by omega) (by omega) (hc.fr k4) (k5.m hm)
        exact ⟨r, v, I', M'', l1, l2, (FrI.c k4).trans l3, k5.trans l4⟩
theorem o_worst : Op_worst := by
  intro I J M N y1 R
  obtain ⟨h, hv, hc, ha⟩ := R.2.2.2.1
  have v0 : h 0 0 ≤ 5 := hv.1
  unfold f_X5_worst f_X6_worst f_X5_worst_12
  rw [p_isDay5, p_in6i, ob1_s, ob1_s, if_bI, if_bI, hc.1, ha.1, show (4 : Int64).toInt = 4 by decide, show (19 : Int64).toInt = 19 by decide]
  by_cases h2 : 0 ≤ y1.toInt ∧ y1.toInt < 20
  · rw [if_pos h2]
    obtain ⟨d, hd, rfl⟩ := ix_of (n := 20) h2.1 h2.2 (by omega)
    rw [nI_toInt (by omega)]
    by_cases h3 : 4 ≤ d
    · rw [if_pos (show (4 : Int32) ≤ nI d from nI_le (a := 4) h3 (by omega)), if_pos (show (4 : Int) ≤ (d : Nat) ∧ ((d : Nat) : Int) ≤ 19 by omega)]
      by_cases h4 : nI (h 0 0) = 0
      · rw [if_pos h4, if_pos h4]; exact ⟨_, _, _, rfl, rfl, R⟩
      · rw [if_neg h4, if_neg h4]
        obtain ⟨r, v, I', M', k1, k2, k3, k4⟩ := worst_both hv J N h3 hd FU 1 0 (-1) I M (by omega) (by omega) (FU_ge (by omega)) hc ha
        have k1' : f_X5_worst_34 FU (nI d) 0 (-1) 1 I J = _ := k1
        have k2' : f_X6_worst_35 FU (nI d) 0 (-1) 1 M N = _ := k2
        rw [k1', k2']
        exact ⟨_, _, _, rfl, rfl, (R.fr k3 k4 (J' := J) rfl).ask _⟩
    · rw [if_neg (show ¬ (4 : Int32) ≤ nI d from nI_ge (b := 4) (by omega) (by omega)), if_neg (by omega)]; exact ⟨_, _, _, rfl, rfl, R⟩
  · rw [if_neg h2, if_neg (by omega)]; exact ⟨_, _, _, rfl, rfl, R⟩
/-! source -/
theorem and_pow {a i : Nat} : (a &&& 2 ^ i = 0) ↔ ¬ a.testBit i = true := by
  constructor
  · intro e q
    have := congrArg (fun z => z.testBit i) e
    simp [Nat.testBit_and, Nat.testBit_two_pow, q] at this
  · intro q
    refine Nat.eq_of_testBit_eq fun j => ?_
    rw [Nat.testBit_and, Nat.testBit_two_pow, Nat.zero_testBit]
    by_cases hj : i = j
    · subst hj; rw [(Bool.not_eq_true _).mp q]; rfl
    · rw [decide_eq_false hj, Bool.and_false]
theorem source_both {h : Nat → Nat → Nat} (hv : ChV h) (J : Nat → JS) (N : JS) {t d p : Nat} (x5 : Int32) (ht : t < 5) (hd : d < 20) (hp : p < h 0 0) :
    ∀ (n i a : Nat) (I : Nat → CS) (M : CS), i ≤ h 1 0 → h 1 0 - i < n → ChC (I 0) h → ChM (M 4) h → ∃ r I' M', f_X5_source_59 n (nI t) (nI d) (nI p) (nI (lv h)) x5 (nI a) (nI i) I J = some (r, I') ∧ f_X6_source_50 n (nI t) (nI d) (nI p) x5 (nI (lv h)) (nI a) (nI i) M N = some (r, M') ∧ FrI I I' ∧ FrM M M' := by
  have v1 : h 1 0 ≤ 12 := hv.2.1
  intro n
  induction n with
  | zero => intro i a I M h1 h2; exact absurd h2 (by omega)
  | succ n ih =>
    intro i a I M h1 h2 hc hm
    rw [f_X5_source_59, f_X6_source_50, hc.2.1, hm.2.1]
    by_cases hi : h 1 0 ≤ i
    · have := nI_le hi (show i < 2 ^ 31 by omega)
      rw [if_pos this, if_pos this]
      exact ⟨_, _, _, rfl, rfl, FrI.rfl' I, FrM.rfl' M⟩
    · have := nI_ge (Nat.not_le.mp hi) (show h 1 0 < 2 ^ 31 by omega)
      have hl := lvh_lt hv
      have hal : lv h &&& 2 ^ i ≤ lv h := Nat.and_le_left
      rw [if_neg this, if_neg this, has6 (lvh_lt' hv) (by omega), ob1_s, if_bI, one_shl (by omega), nI_and, nI_andn, nI_or]
      unfold f_X5_source_114 f_X6_source_112 f_X6_source_115
      rw [nI_1]
      by_cases hb : (lv h).testBit i = true
      · have hz : ¬ lv h &&& 2 ^ i = 0 := fun q => and_pow.mp q hb
        have had : adf (lv h) (2 ^ i) < 2 ^ 31 := by have := adf_le (lv h) (2 ^ i); omega
        obtain ⟨c1, e1, g1⟩ := doneIf0 hv hc ht hd hp had
        obtain ⟨M1, e2, g2, g3⟩ := laysn6 N hv hm hp had
        rw [if_neg (nI_ne0 (by omega) (by omega)), if_pos hb, e1, ob2_s, e2, ob1_s, ix_20, ck_t _ (inb_nI (show 20 * t + d < 100 by omega) (by omega)), nI_clamp (by omega), g3 t d ht hd]
        by_cases hq : dnI h p (adf (lv h) (2 ^ i)) t d = x5
        · rw [if_pos hq, if_pos hq, show (0 : Int32) = nI 0 from rfl, nI_or, Nat.or_zero]
          obtain ⟨r, I', M', l1, l2, l3, l4⟩ := ih (i + 1) a (gset I 0 c1) M1 (by omega) (by omega) (hc.fr g1) ((FrM.lay g2).m hm)
          exact ⟨r, I', M', l1, l2, (FrI.c g1).trans l3, (FrM.lay g2).trans l4⟩
        · rw [if_neg hq, if_neg hq, nI_or]
          obtain ⟨r, I', M', l1, l2, l3, l4⟩ := ih (i + 1) (a ||| 2 ^ i) (gset I 0 c1) M1 (by omega) (by omega) (hc.fr g1) ((FrM.lay g2).m hm)
          exact ⟨r, I', M', l1, l2, (FrI.c g1).trans l3, (FrM.lay g2).trans l4⟩
      · rw [and_pow.mpr hb, if_pos nI_0, if_neg hb]
        exact ih (i + 1) a I M (by omega) (by omega) hc hm
theorem o_source : Op_source := by
  intro I J M N y1 y2 y3 R
  obtain ⟨h, hv, hc, ha⟩ := R.2.2.2.1
  have v0 : h 0 0 ≤ 5 := hv.1
  have v1 : h 1 0 ≤ 12 := hv.2.1
  unfold f_X5_source f_X6_source f_X5_source_30 f_X6_source_27
  rw [p_isTown5, p_isTown6, ob1_s, ob1_s, if_bI, if_bI, p_isDay5, p_isDay6, ob1_s, ob1_s, if_bI, if_bI, p_isPerson0 hv hc, p_isPerson6 hv ha, ob1_s, ob1_s, if_bI, if_bI]
  by_cases h1 : 0 ≤ y1.toInt ∧ y1.toInt < 5
  · rw [if_pos h1, if_pos h1]
    obtain ⟨t, ht, rfl⟩ := ix_of (n := 5) h1.1 h1.2 (by omega)
    by_cases h2 : 0 ≤ y2.toInt ∧ y2.toInt < 20
    · rw [if_pos h2, if_pos h2]
      obtain ⟨d, hd, rfl⟩ := ix_of (n := 20) h2.1 h2.2 (by omega)
      by_cases h4 : t ≤ d
      · rw [if_neg (nI_nlt h4 (by omega)), if_pos (nI_le h4 (by omega))]
        by_cases h3 : 0 ≤ y3.toInt ∧ y3.toInt < (h 0 0 : Nat)
        · rw [if_pos h3, if_pos h3]
          obtain ⟨p, hp, rfl⟩ := ix_of h3.1 h3.2 (by omega)
          obtain ⟨c', e, g⟩ := done0 hv hc ht hd hp
          obtain ⟨M', e', g'⟩ := doing6 N hv ha hp ht hd
          have ha' := (FrM.lay g').m ha
          rw [unmended0 hv hc, ob1_s, e, e', ob2_s, ob2_s, live6 hv ha', ob1_s]
          obtain ⟨r, I', M'', l1, l2, l3, l4⟩ := source_both hv J N (dnI h p (lv h) t d) ht hd hp FU 0 0 (gset I 0 c') M' (by omega) (FU_ge (by omega)) (hc.fr g) ha'
          have l1' : f_X5_source_59 FU (nI t) (nI d) (nI p) (nI (lv h)) (dnI h p (lv h) t d) 0 0 (gset I 0 c') J = _ := l1
          have l2' : f_X6_source_50 FU (nI t) (nI d) (nI p) (dnI h p (lv h) t d) (nI (lv h)) 0 0 M' N = _ := l2
          rw [l1', l2']
          exact ⟨_, _, _, rfl, rfl, R.fr ((FrI.c g).trans l3) ((FrM.lay g').trans l4) rfl⟩
        · rw [if_neg h3, if_neg h3]; exact ⟨_, _, _, rfl, rfl, R⟩
      · rw [if_pos (nI_lt (by omega) (by omega)), if_neg (nI_ge (by omega) (by omega))]
        by_cases h3 : 0 ≤ y3.toInt ∧ y3.toInt < (h 0 0 : Nat)
        · rw [if_pos h3]; exact ⟨_, _, _, rfl, rfl, R⟩
        · rw [if_neg h3]; exact ⟨_, _, _, rfl, rfl, R⟩
    · rw [if_neg h2, if_neg h2]; exact ⟨_, _, _, rfl, rfl, R⟩
  · rw [if_neg h1, if_neg h1]; exact ⟨_, _, _, rfl, rfl, R⟩
