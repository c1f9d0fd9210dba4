/-! ===== mark ===== -/
theorem kind_both : ∀ k, k < 6 → ∀ q, q < 6 → 0 < q → f_X0_isAlso (nI k) (nI q) = f_X6_isOf (nI k) (nI q) ∧ (f_X6_isOf (nI k) (nI q) = some 0 ∨ f_X6_isOf (nI k) (nI q) = some 1) := by decide +kernel
theorem fmod_both : ∀ a, a < 10 → ∀ b, b < 10 → f_J9_floorMod_7cf53 (nI a - nI b) 10 = some (jrem ((nI a - nI b) + 10) 10) := by decide +kernel
theorem dnI_r {h : Nat → Nat → Nat} {p real t d : Nat} (htd : t ≤ d) : ∃ a, a < 10 ∧ dnI h p real t d = nI a := by
  unfold dnI
  rw [if_neg (by omega)]
  exact ⟨_, Dm_lt _ _ _ _ _ _, rfl⟩
theorem idle_both {h : Nat → Nat → Nat} (hv : ChV h) {M : CS} (N : JS) {p : Nat} (hp : p < h 0 0) (hm : ∀ t d, t < 5 → d < 20 → M 13 (20 * t + d) = dnI h p (lv h) t d) :
    ∀ (n d : Nat) (x : Int32) (c : CS), 1 ≤ d → d ≤ 20 → 20 - d < n → ChC c h → ∃ r c', f_X0_idleDays_4 n (nI p) x (nI d) c = some (r, c') ∧ f_X6_mark_105 n x (nI d) M N = some (r, M) ∧ ∀ q, q ≠ 13 → c' q = c q := by
  intro n
  induction n with
  | zero => intro d x c _ h1 h2; exact absurd h2 (by omega)
  | succ n ih =>
    intro d x c h0 h1 h2 hc
    rw [f_X0_idleDays_4, f_X6_mark_105]
    by_cases hd : 20 ≤ d
    · have := show (20 : Int32) ≤ nI d from nI_le (a := 20) hd (by omega)
      rw [if_pos this, if_pos this]
      exact ⟨_, _, rfl, rfl, fun _ _ => rfl⟩
    · have hd' : d < 20 := Nat.not_le.mp hd
      have := show ¬ (20 : Int32) ≤ nI d from nI_ge (b := 20) hd' (by omega)
      obtain ⟨c1, e1, g1⟩ := done0 hv hc (show 0 < 5 by omega) hd' hp
      obtain ⟨c2, e2, g2⟩ := done0 hv (hc.fr g1) (show 0 < 5 by omega) (show d - 1 < 20 by omega) hp
      have e1' : f_X0_done c 0 (nI d) (nI p) = _ := e1
      have e2' : f_X0_done c1 0 (nI (d - 1)) (nI p) = _ := e2
      have m1 := hm 0 d (by omega) hd'
      have m2 := hm 0 (d - 1) (by omega) (by omega)
      rw [Nat.mul_zero, Nat.zero_add] at m1 m2
      rw [if_neg this, if_neg this, e1', ob2_s, show nI d - (1 : Int32) = nI (d - 1) from pk_sub (b := 1) h0, e2', ob2_s, ck_t _ (inb_nI (show d < 100 by omega) (by omega)), ck_t _ (inb_nI (show d - 1 < 100 by omega) (by omega)), nI_clamp (by omega), nI_clamp (by omega), m1, m2]
      unfold f_X0_idleDays_32 f_X6_mark_137
      rw [nI_1]
      by_cases hq : dnI h p (lv h) 0 d = dnI h p (lv h) 0 (d - 1)
      · rw [if_pos hq, if_pos hq]
        obtain ⟨r, c', k1, k2, k3⟩ := ih (d + 1) (x + 1) c2 (by omega) (by omega) (by omega) ((hc.fr g1).fr g2)
        exact ⟨r, c', k1, k2, fun q hq => (k3 q hq).trans ((g2 q hq).trans (g1 q hq))⟩
      · rw [if_neg hq, if_neg hq, Int32.add_zero]
        obtain ⟨r, c', k1, k2, k3⟩ := ih (d + 1) x c2 (by omega) (by omega) (by omega) ((hc.fr g1).fr g2)
        exact ⟨r, c', k1, k2, fun q hq => (k3 q hq).trans ((g2 q hq).trans (g1 q hq))⟩
theorem like_both {h : Nat → Nat → Nat} (hv : ChV h) {M : CS} (N : JS) {p : Nat} (hp : p < h 0 0) (hm : ∀ t d, t < 5 → d < 20 → M 13 (20 * t + d) = dnI h p (lv h) t d) :
    ∀ (n t : Nat) (x : Int32) (c : CS), t ≤ 5 → 5 - t < n → ChC c h → ∃ r c', f_X0_likeTowns_4 n (nI p) x (nI t) c = some (r, c') ∧ f_X6_mark_150 n x (nI t) M N = some (r, M) ∧ ∀ q, q ≠ 13 → c' q = c q := by
  intro n
  induction n with
  | zero => intro d x c h1 h2; exact absurd h2 (by omega)
  | succ n ih =>
    intro t x c h1 h2 hc
    rw [f_X0_likeTowns_4, f_X6_mark_150]
    by_cases hd : 5 ≤ t
    · have := show (5 : Int32) ≤ nI t from nI_le (a := 5) hd (by omega)
      rw [if_pos this, if_pos this]
      exact ⟨_, _, rfl, rfl, fun _ _ => rfl⟩
    · have ht : t < 5 := Nat.not_le.mp hd
      have := show ¬ (5 : Int32) ≤ nI t from nI_ge (b := 5) ht (by omega)
      obtain ⟨c1, e1, g1⟩ := done0 hv hc ht (show 19 < 20 by omega) hp
      obtain ⟨c2, e2, g2⟩ := done0 hv (hc.fr g1) (show 0 < 5 by omega) (show 19 < 20 by omega) hp
      have e1' : f_X0_done c (nI t) 19 (nI p) = _ := e1
      have e2' : f_X0_done c1 0 19 (nI p) = _ := e2
      have m2 : M 13 19 = dnI h p (lv h) 0 19 := hm 0 19 (by omega) (by omega)
      rw [if_neg this, if_neg this, e1', ob2_s, e2', ob2_s, show (20 : Int32) * nI t + (19 : Int32) = nI (20 * t + 19) from ix_20 t 19, ck_t _ (inb_nI (show 20 * t + 19 < 100 by omega) (by omega)), nI_clamp (by omega), hm t 19 ht (by omega), m2]
      unfold f_X0_likeTowns_31 f_X6_mark_185
      rw [nI_1]
      by_cases hq : dnI h p (lv h) t 19 = dnI h p (lv h) 0 19
      · rw [if_pos hq, if_pos hq]
        obtain ⟨r, c', k1, k2, k3⟩ := ih (t + 1) (x + 1) c2 (by omega) (by omega) ((hc.fr g1).fr g2)
        exact ⟨r, c', k1, k2, fun q hq => (k3 q hq).trans ((g2 q hq).trans (g1 q hq))⟩
      · rw [if_neg hq, if_neg hq, Int32.add_zero]
        obtain ⟨r, c', k1, k2, k3⟩ := ih (t + 1) x c2 (by omega) (by omega) ((hc.fr g1).fr g2)
        exact ⟨r, c', k1, k2, fun q hq => (k3 q hq).trans ((g2 q hq).trans (g1 q hq))⟩
theorem nought_both {h : Nat → Nat → Nat} (hv : ChV h) {M : CS} (N : JS) {p : Nat} (hp : p < h 0 0) (hm : ∀ t d, t < 5 → d < 20 → M 13 (20 * t + d) = dnI h p (lv h) t d) :
    ∀ (n d : Nat) (x : Int32) (c : CS), d ≤ 20 → 20 - d < n → ChC c h → ∃ r c', f_X0_noughtDays_4 n (nI p) x (nI d) c = some (r, c') ∧ f_X6_mark_265 n x (nI d) M N = some (r, M) ∧ ∀ q, q ≠ 13 → c' q = c q := by
  intro n
  induction n with
  | zero => intro d x c h1 h2; exact absurd h2 (by omega)
  | succ n ih =>
    intro d x c h1 h2 hc
    rw [f_X0_noughtDays_4, f_X6_mark_265]
    by_cases hd : 20 ≤ d
    · have := show (20 : Int32) ≤ nI d from nI_le (a := 20) hd (by omega)
      rw [if_pos this, if_pos this]
      exact ⟨_, _, rfl, rfl, fun _ _ => rfl⟩
    · have hd' : d < 20 := Nat.not_le.mp hd
      have := show ¬ (20 : Int32) ≤ nI d from nI_ge (b := 20) hd' (by omega)
      obtain ⟨c1, e1, g1⟩ := done0 hv hc (show 0 < 5 by omega) hd' hp
      have e1' : f_X0_done c 0 (nI d) (nI p) = _ := e1
      have m1 := hm 0 d (by omega) hd'
      rw [Nat.mul_zero, Nat.zero_add] at m1
      rw [if_neg this, if_neg this, e1', ob2_s, ck_t _ (inb_nI (show d < 100 by omega) (by omega)), nI_clamp (by omega), m1]
      unfold f_X0_noughtDays_23 f_X6_mark_288
      rw [nI_1]
      by_cases hq : dnI h p (lv h) 0 d = 0
      · rw [if_pos hq, if_pos hq]
        obtain ⟨r, c', k1, k2, k3⟩ := ih (d + 1) (x + 1) c1 (by omega) (by omega) (hc.fr g1)
        exact ⟨r, c', k1, k2, fun q hq => (k3 q hq).trans (g1 q hq)⟩
      · rw [if_neg hq, if_neg hq, Int32.add_zero]
        obtain ⟨r, c', k1, k2, k3⟩ := ih (d + 1) x c1 (by omega) (by omega) (hc.fr g1)
        exact ⟨r, c', k1, k2, fun q hq => (k3 q hq).trans (g1 q hq)⟩
theorem others_both {h : Nat → Nat → Nat} (hv : ChV h) (N : JS) {p : Nat} (hp : p < h 0 0) :
    ∀ (n u : Nat) (x : Int32) (c M : CS), u ≤ h 0 0 → h 0 0 - u < n → ChC c h → ChM (M 4) h → ∃ r c' M', f_X0_othersAlike_4 n (nI p) x (nI u) c = some (r, c') ∧ f_X6_mark_211 n (nI p) x (dnI h p (lv h) 0 (h 3 0)) (nI u) M N = some (r, M') ∧ (∀ q, q ≠ 13 → c' q = c q) ∧ FrM M M' := by
  have v0 : h 0 0 ≤ 5 := hv.1
  have v3 : h 3 0 ≤ 19 := hv.2.2.2.1
  intro n
  induction n with
  | zero => intro d x c M h1 h2; exact absurd h2 (by omega)
  | succ n ih =>
    intro u x c M h1 h2 hc hm
    rw [f_X0_othersAlike_4, f_X6_mark_211, hc.1, hm.1]
    by_cases hu : h 0 0 ≤ u
    · have := nI_le hu (show u < 2 ^ 31 by omega)
      rw [if_pos this, if_pos this]
      exact ⟨_, _, _, rfl, rfl, fun _ _ => rfl, FrM.rfl' M⟩
    · have hu' : u < h 0 0 := Nat.not_le.mp hu
      have := nI_ge hu' (show h 0 0 < 2 ^ 31 by omega)
      rw [if_neg this, if_neg this]
      unfold f_X0_othersAlike_43 f_X6_mark_251 f_X6_mark_252
      by_cases hup : nI u = nI p
      · rw [if_pos hup, if_pos hup, nI_1, Int32.add_zero]
        exact ih (u + 1) x c M (by omega) (by omega) hc hm
      · obtain ⟨c1, e1, g1⟩ := done0 hv hc (show 0 < 5 by omega) (show h 3 0 < 20 by omega) hu'
        have hc1 := hc.fr g1
        obtain ⟨c2, e2, g2⟩ := done0 hv hc1 (show 0 < 5 by omega) (show h 3 0 < 20 by omega) hp
        obtain ⟨M1, e3, g3⟩ := doing6 N hv hm hu' (show 0 < 5 by omega) (show h 3 0 < 20 by omega)
        have e1' : f_X0_done c 0 (nI (h 3 0)) (nI u) = _ := e1
        have e2' : f_X0_done c1 0 (nI (h 3 0)) (nI p) = _ := e2
        have e3' : f_X6_doing M N (nI u) 0 (nI (h 3 0)) = _ := e3
        rw [if_neg hup, if_neg hup, hc.2.2.2.1, hm.2.2.1, e1', ob2_s, hc1.2.2.2.1, e2', ob2_s, e3', ob2_s, nI_1]
        by_cases hq : dnI h u (lv h) 0 (h 3 0) = dnI h p (lv h) 0 (h 3 0)
        · rw [if_pos hq, if_pos hq]
          obtain ⟨r, c', M', k1, k2, k3, k4⟩ := ih (u + 1) (x + 1) c2 M1 (by omega) (by omega) (hc1.fr g2) ((FrM.lay g3).m hm)
          exact ⟨r, c', M', k1, k2, fun q hq => (k3 q hq).trans ((g2 q hq).trans (g1 q hq)), (FrM.lay g3).trans k4⟩
        · rw [if_neg hq, if_neg hq, Int32.add_zero]
          obtain ⟨r, c', M', k1, k2, k3, k4⟩ := ih (u + 1) x c2 M1 (by omega) (by omega) (hc1.fr g2) ((FrM.lay g3).m hm)
          exact ⟨r, c', M', k1, k2, fun q hq => (k3 q hq).trans ((g2 q hq).trans (g1 q hq)), (FrM.lay g3).trans k4⟩
theorem o_mark : Op_mark := by
  intro I J M N y1 y2 R
  obtain ⟨h, hv, hc, ha⟩ := R.2.2.2.1
  have v0 : h 0 0 ≤ 5 := hv.1
  have v3 : h 3 0 ≤ 19 := hv.2.2.2.1
  have e1 : (1 : Int32).toInt = 1 := by decide
  have e6 : (6 : Int32).toInt = 6 := by decide
  unfold f_X5_mark f_X6_mark f_X5_mark_22 f_X6_mark_20
  rw [p_isPerson0 hv hc, p_isPerson6 hv ha, ob1_s, ob1_s, if_bI, if_bI, p_in6i, ob1_s, if_bI, show (1 : Int64).toInt = 1 by decide, show (5 : Int64).toInt = 5 by decide]
  by_cases h1 : 0 ≤ y1.toInt ∧ y1.toInt < (h 0 0 : Nat)
  · rw [if_pos h1, if_pos h1]
    obtain ⟨p, hp, rfl⟩ := ix_of h1.1 h1.2 (by omega)
    by_cases h2 : 1 ≤ y2.toInt ∧ y2.toInt ≤ 5
    · obtain ⟨w, hw, rfl⟩ := ix_of (x := y2) (n := 6) (by omega) (by omega) (by omega)
      rw [nI_toInt (by omega)] at h2
      have hk : h 5 p < 6 := by have := (hv.2.2.2.2.2.1 p hp).1; omega
      obtain ⟨kk, kv⟩ := kind_both (h 5 p) hk w hw (by omega)
      have b5 := (hc.2.2.2.2.2.1 p hp).1
      have d5 := (ha.2.2.2.2.1 p hp).1
      unfold f_X0_isOfKind f_X0_isOfKind_25 f_X0_isOfKind_26
      rw [if_pos (show 1 ≤ (nI w).toInt ∧ (nI w).toInt ≤ 5 by rw [nI_toInt (by omega)]; exact h2), if_neg (show ¬ nI w < (1 : Int32) from nI_nlt (b := 1) (by omega) (by omega)), if_pos (show nI w < (6 : Int32) from nI_lt (b := 6) hw (by omega)), p_isPerson0 hv hc, ob1_s, if_bI, if_pos h1, ck_t _ (inb_nI (show p < 5 by omega) (by omega)), nI_clamp (show p < 2 ^ 31 by omega), b5, kk, show (4 : Int32) + nI p = nI (4 + p) from nI_add 4 p, ck_t _ (inb_nI (show 4 + p < 119 by omega) (by omega)), nI_clamp (show 4 + p < 2 ^ 31 by omega), d5]
      rcases kv with kv | kv
      · rw [kv, ob1_s, ob1_s, if_pos rfl, if_pos rfl, show ck (isb 0) (some (0 : Int32)) = some 0 from rfl, ob1_s, if_pos rfl]
        have f1 : f_X4_found (I 7) (J 0) 3 = _ := found4 (I 7) (J 0) 3 (by omega)
        have f2 : f_X6_found M N 3 = _ := found6 M N 3 (by omega)
        rw [f1, f2, ob2_s, ob2_s]
        exact ⟨_, _, _, rfl, rfl, R.found 3⟩
      · rw [kv, ob1_s, ob1_s, if_neg (show ¬ (1 : Int32) = 0 by decide), if_neg (show ¬ (1 : Int32) = 0 by decide), show ck (isb 1) (some (1 : Int32)) = some 1 from rfl, ob1_s, if_neg (show ¬ (1 : Int32) = 0 by decide)]
        obtain ⟨M', e', g1, g2⟩ := layNow6 N hv ha hp
        have ha' := (FrM.lay g1).m ha
        rw [e', ob1_s]
        rcases (show w = 1 ∨ w = 2 ∨ w = 3 ∨ w = 4 ∨ w = 5 by omega) with rfl | rfl | rfl | rfl | rfl
        · rw [if_pos (show nI 1 = (1 : Int32) from rfl), if_pos (show nI 1 = (1 : Int32) from rfl)]
          obtain ⟨c1, k1, l1⟩ := done0 hv hc (show 4 < 5 by omega) (show 19 < 20 by omega) hp
          obtain ⟨c2, k2, l2⟩ := done0 hv (hc.fr l1) (show 0 < 5 by omega) (show 15 < 20 by omega) hp
          have k1' : f_X0_done (I 0) 4 19 (nI p) = _ := k1
          have k2' : f_X0_done c1 0 15 (nI p) = _ := k2
          have m1 : M' 13 99 = dnI h p (lv h) 4 19 := g2 4 19 (by omega) (by omega)
          have m2 : M' 13 15 = dnI h p (lv h) 0 15 := g2 0 15 (by omega) (by omega)
          obtain ⟨a, ha1, ha2⟩ := dnI_r (h := h) (p := p) (real := lv h) (show 4 ≤ 19 by omega)
          obtain ⟨b, hb1, hb2⟩ := dnI_r (h := h) (p := p) (real := lv h) (show 0 ≤ 15 by omega)
          unfold f_X0_drifted
          rw [k1', ob2_s, k2', ob2_s, m1, m2, ha2, hb2, fmod_both a ha1 b hb1, ob1_s, ob2_s]
          exact ⟨_, _, _, rfl, rfl, R.fr (FrI.c (fun q hq => (l2 q hq).trans (l1 q hq))) (FrM.lay g1) rfl⟩
        · rw [if_neg (show ¬ nI 2 = (1 : Int32) by decide), if_neg (show ¬ nI 2 = (1 : Int32) by decide), if_pos (show nI 2 = (2 : Int32) from rfl), if_pos (show nI 2 = (2 : Int32) from rfl)]
          obtain ⟨r, c', k1, k2, k3⟩ := idle_both hv N hp g2 FU 1 0 (I 0) (by omega) (by omega) (FU_ge (by omega)) hc
          have k1' : f_X0_idleDays (I 0) (nI p) = _ := k1
          have k2' : f_X6_mark_105 FU 0 1 M' N = _ := k2
          rw [k1', k2', ob2_s]
          exact ⟨_, _, _, rfl, rfl, R.fr (FrI.c k3) (FrM.lay g1) rfl⟩
        · rw [if_neg (show ¬ nI 3 = (1 : Int32) by decide), if_neg (show ¬ nI 3 = (1 : Int32) by decide), if_neg (show ¬ nI 3 = (2 : Int32) by decide), if_neg (show ¬ nI 3 = (2 : Int32) by decide), if_pos (show nI 3 = (3 : Int32) from rfl), if_pos (show nI 3 = (3 : Int32) from rfl)]
          obtain ⟨r, c', k1, k2, k3⟩ := like_both hv N hp g2 FU 1 0 (I 0) (by omega) (FU_ge (by omega)) hc
          have k1' : f_X0_likeTowns (I 0) (nI p) = _ := k1
          have k2' : f_X6_mark_150 FU 0 1 M' N = _ := k2
          rw [k1', k2', ob2_s]
          exact ⟨_, _, _, rfl, rfl, R.fr (FrI.c k3) (FrM.lay g1) rfl⟩
        · rw [if_neg (show ¬ nI 4 = (1 : Int32) by decide), if_neg (show ¬ nI 4 = (1 : Int32) by decide), if_neg (show ¬ nI 4 = (2 : Int32) by decide), if_neg (show ¬ nI 4 = (2 : Int32) by decide), if_neg (show ¬ nI 4 = (3 : Int32) by decide), if_neg (show ¬ nI 4 = (3 : Int32) by decide), if_pos (show nI 4 = (4 : Int32) from rfl), if_pos (show nI 4 = (4 : Int32) from rfl)]
          have m1 : M' 13 (h 3 0) = dnI h p (lv h) 0 (h 3 0) := by have := g2 0 (h 3 0) (by omega) (by omega); rw [Nat.mul_zero, Nat.zero_add] at this; exact this
          obtain ⟨r, c', M'', k1, k2, k3, k4⟩ := others_both hv N hp FU 0 0 (I 0) M' (by omega) (FU_ge (by omega)) hc ha'
          have k1' : f_X0_othersAlike (I 0) (nI p) = _ := k1
          have k2' : f_X6_mark_211 FU (nI p) 0 (dnI h p (lv h) 0 (h 3 0)) 0 M' N = _ := k2
          rw [ha'.2.2.1, ck_t _ (inb_nI (show h 3 0 < 100 by omega) (by omega)), nI_clamp (by omega), m1, k1', k2', ob2_s]
          exact ⟨_, _, _, rfl, rfl, R.fr (FrI.c k3) ((FrM.lay g1).trans k4) rfl⟩
        · rw [if_neg (show ¬ nI 5 = (1 : Int32) by decide), if_neg (show ¬ nI 5 = (1 : Int32) by decide), if_neg (show ¬ nI 5 = (2 : Int32) by decide), if_neg (show ¬ nI 5 = (2 : Int32) by decide), if_neg (show ¬ nI 5 = (3 : Int32) by decide), if_neg (show ¬ nI 5 = (3 : Int32) by decide), if_neg (show ¬ nI 5 = (4 : Int32) by decide), if_neg (show ¬ nI 5 = (4 : Int32) by decide)]
          obtain ⟨r, c', k1, k2, k3⟩ := nought_both hv N hp g2 FU 0 0 (I 0) (by omega) (FU_ge (by omega)) hc
          have k1' : f_X0_noughtDays (I 0) (nI p) = _ := k1
          have k2' : f_X6_mark_265 FU 0 0 M' N = _ := k2
          rw [k1', k2', ob2_s]
          exact ⟨_, _, _, rfl, rfl, R.fr (FrI.c k3) (FrM.lay g1) rfl⟩
    · rw [if_neg h2]
      by_cases q1 : y2 < 1
      · rw [if_pos q1]; exact ⟨_, _, _, rfl, rfl, R⟩
      · rw [if_neg q1, if_neg (fun q : y2 < 6 => h2 (by rw [i32_lt, e1] at q1; rw [i32_lt, e6] at q; omega))]; exact ⟨_, _, _, rfl, rfl, R⟩
  · rw [if_neg h1, if_neg h1]; exact ⟨_, _, _, rfl, rfl, R⟩
