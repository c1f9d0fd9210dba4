/-! ===== fits, sure: the model's way ===== -/
def tp (h : Nat → Nat → Nat) (real : Nat) (b : Nat → Int32) (p g : Nat) : Bool := !decide (b (4 * g + 2) = nI p) || asT h real b g
theorem fitsBy_31 {h : Nat → Nat → Nat} (hv : ChV h) (N : JS) (K : Int32 → Int32 → Int32 → Int32 → CS → JS → Option (Int32 × CS)) {M : CS} {b : Nat → Int32} {j f real p : Nat} (hj : j < 6) (hf : f ≤ 10) (hp : p < h 0 0) (hs : M 0 j = nI (4 * f)) (hb : ∀ i, i < 4 * f → M 1 (40 * j + i) = b i) (ok : ∀ g, g < f → okf (h 0 0) b g) (hm : ∀ t d, t < 5 → d < 20 → M 13 (20 * t + d) = dnI h p real t d) :
    ∀ (k n g : Nat) (Q : Bool), g + k = f → k < n → f_X6_fitsBy_31 K n (nI j) (nI real) (bI (Q = true)) (nI p) (nI (4 * g)) M N = K (nI j) (nI real) (bI ((Q && al (tp h real b p) g k) = true)) (nI (p + 1)) M N := by
  have v0 : h 0 0 ≤ 5 := hv.1
  intro k
  induction k with
  | zero =>
    intro n g Q h1 hn
    obtain ⟨n, rfl⟩ : ∃ u, n = u + 1 := ⟨n - 1, by omega⟩
    rw [f_X6_fitsBy_31, ck_t _ (inb_nI hj (by omega)), nI_clamp (by omega), hs, if_pos (nI_le (by omega) (by omega)), nI_1]
    exact congrArg (fun v => K (nI j) (nI real) v (nI (p + 1)) M N) (bI_congr (by rw [al, Bool.and_true]))
  | succ k ih =>
    intro n g Q h1 hn
    obtain ⟨n, rfl⟩ : ∃ u, n = u + 1 := ⟨n - 1, by omega⟩
    obtain ⟨t, d, p', w, ht, hd, hp', hw, e1, e2, e3, e4⟩ := four_r v0 (ok g (by omega))
    have i0 : f_X6_fitsBy_31 K n (nI j) (nI real) 0 (nI p) (nI (4 * (g + 1))) M N = _ := ih n (g + 1) false (by omega) (by omega)
    have i1 : f_X6_fitsBy_31 K n (nI j) (nI real) 1 (nI p) (nI (4 * (g + 1))) M N = _ := ih n (g + 1) true (by omega) (by omega)
    rw [f_X6_fitsBy_31, ck_t _ (inb_nI hj (by omega)), nI_clamp (show j < 2 ^ 31 by omega), hs, if_neg (nI_ge (by omega) (by omega)), if_bI]
    unfold f_X6_fitsBy_110 f_X6_fitsBy_106 f_X6_fitsBy_111
    rw [show nI (4 * g) + (4 : Int32) = nI (4 * (g + 1)) from nI_add _ 4, i0, i1, ix_40, show nI (40 * j + 4 * g) + (1 : Int32) = nI (40 * j + (4 * g + 1)) from nI_add _ 1, show nI (40 * j + 4 * g) + (2 : Int32) = nI (40 * j + (4 * g + 2)) from nI_add _ 2, show nI (40 * j + 4 * g) + (3 : Int32) = nI (40 * j + (4 * g + 3)) from nI_add _ 3, ck_t _ (inb_nI (show 40 * j + 4 * g < 240 by omega) (by omega)), ck_t _ (inb_nI (show 40 * j + (4 * g + 1) < 240 by omega) (by omega)), ck_t _ (inb_nI (show 40 * j + (4 * g + 2) < 240 by omega) (by omega)), ck_t _ (inb_nI (show 40 * j + (4 * g + 3) < 240 by omega) (by omega)), nI_clamp (show 40 * j + 4 * g < 2 ^ 31 by omega), nI_clamp (show 40 * j + (4 * g + 1) < 2 ^ 31 by omega), nI_clamp (show 40 * j + (4 * g + 2) < 2 ^ 31 by omega), nI_clamp (show 40 * j + (4 * g + 3) < 2 ^ 31 by omega), hb (4 * g) (by omega), hb (4 * g + 1) (by omega), hb (4 * g + 2) (by omega), hb (4 * g + 3) (by omega), e1, e2, e3, e4, ix_20, ck_t _ (inb_nI (show 20 * t + d < 100 by omega) (by omega)), nI_clamp (show 20 * t + d < 2 ^ 31 by omega), hm t d ht hd]
    have fin : ∀ (x y : Bool), x = y → K (nI j) (nI real) (bI (x = true)) (nI (p + 1)) M N = K (nI j) (nI real) (bI (y = true)) (nI (p + 1)) M N := fun x y e => by rw [e]
    have ea : asT h real b g = decide (dnI h p' real t d = nI w) := by
      unfold asT
      rw [e1, e2, e3, e4, nI_clamp (by omega), nI_clamp (by omega), nI_clamp (by omega)]
    by_cases q : Q = true
    · rw [if_pos q]
      by_cases q2 : nI p' = nI p
      · have hpp : p' = p := (nI_eq (by omega) (by omega)).mp q2
        rw [if_pos q2]
        by_cases q3 : dnI h p real t d = nI w
        · rw [if_pos q3]
          refine fin _ _ ?_
          rw [q, al, tp, ea, hpp, decide_eq_true q3, Bool.or_true] <;> rfl
        · rw [if_neg q3]
          refine fin _ _ ?_
          rw [q, al, tp, ea, hpp, decide_eq_false q3, e3, hpp, decide_eq_true (show nI p = nI p from rfl), Bool.false_and] <;> rfl
      · rw [if_neg q2]
        refine fin _ _ ?_
        rw [q, al, tp, e3, decide_eq_false q2] <;> rfl
    · rw [if_neg q]
      refine fin _ _ ?_
      rw [(Bool.not_eq_true _).mp q, Bool.false_and, Bool.false_and]
theorem fitsBy_5 {h : Nat → Nat → Nat} (hv : ChV h) (N : JS) {b : Nat → Int32} {j f real : Nat} (hj : j < 6) (hf : f ≤ 10) (hr : real < 2 ^ 31) (ok : ∀ g, g < f → okf (h 0 0) b g) :
    ∀ (n p : Nat) (Q : Bool) (M : CS), p ≤ h 0 0 → h 0 0 - p < n → ChM (M 4) h → M 0 j = nI (4 * f) → (∀ i, i < 4 * f → M 1 (40 * j + i) = b i) → ∃ M', FrM M M' ∧ f_X6_fitsBy_5 n (nI j) (nI real) (bI (Q = true)) (nI p) M N = some (bI ((Q && al (fun p => al (tp h real b p) 0 f) p (h 0 0 - p)) = true), M') := by
  have v0 : h 0 0 ≤ 5 := hv.1
  intro n
  induction n with
  | zero => intro p Q M h1 h2; exact absurd h2 (by omega)
  | succ n ih =>
    intro p Q M h1 h2 hm hs hb
    rw [f_X6_fitsBy_5, hm.1, if_bI]
    unfold f_X6_fitsBy_124
    rw [ck_t _ (bI_isb _)]
    by_cases hp : h 0 0 ≤ p
    · rw [if_pos (nI_le hp (by omega)), show h 0 0 - p = 0 by omega]
      exact ⟨M, FrM.rfl' M, congrArg (fun v => some (v, M)) (bI_congr (by rw [al, Bool.and_true]))⟩
    · have hp' : p < h 0 0 := Nat.not_le.mp hp
      rw [if_neg (nI_ge hp' (by omega))]
      by_cases q : Q = true
      · obtain ⟨M1, e2, g2, g3⟩ := laysn6 N hv hm hp' hr
        have F := FrM.lay g2
        have hb1 : ∀ i, i < 4 * f → M1 1 (40 * j + i) = b i := fun i hi => by rw [F 1 (by omega)]; exact hb i hi
        have hs1 : M1 0 j = nI (4 * f) := by rw [F 0 (by omega)]; exact hs
        have i1 : f_X6_fitsBy_31 (f_X6_fitsBy_5 n) FU (nI j) (nI real) (bI (Q = true)) (nI p) 0 M1 N = _ := fitsBy_31 hv N (f_X6_fitsBy_5 n) hj hf hp' hs1 hb1 ok g3 f FU 0 Q (by omega) (FU_ge (by omega))
        obtain ⟨M', k1, k2⟩ := ih (p + 1) (Q && al (tp h real b p) 0 f) M1 (by omega) (by omega) (F.m hm) hs1 hb1
        rw [if_pos q, e2, ob1_s, i1, k2]
        refine ⟨M', F.trans k1, congrArg (fun v => some (v, M')) (bI_congr ?_)⟩
        rw [show h 0 0 - p = (h 0 0 - (p + 1)) + 1 by omega, al, Bool.and_assoc]
      · rw [if_neg q]
        refine ⟨M, FrM.rfl' M, congrArg (fun v => some (v, M)) (bI_congr ?_)⟩
        rw [(Bool.not_eq_true _).mp q, Bool.false_and]
theorem fitsBy6 {h : Nat → Nat → Nat} (hv : ChV h) (N : JS) {b : Nat → Int32} {j f real : Nat} (hj : j < 6) (hf : f ≤ 10) (hr : real < 2 ^ 31) (ok : ∀ g, g < f → okf (h 0 0) b g) {M : CS} (hm : ChM (M 4) h) (hs : M 0 j = nI (4 * f)) (hb : ∀ i, i < 4 * f → M 1 (40 * j + i) = b i) :
    ∃ M', FrM M M' ∧ f_X6_fitsBy M N (nI j) (nI real) = some (bI (fit h b f real = true), M') := by
  have v0 : h 0 0 ≤ 5 := hv.1
  obtain ⟨M', k1, k2⟩ := fitsBy_5 hv N hj hf hr ok FU 0 true M (by omega) (FU_ge (by omega)) hm hs hb
  have k2' : f_X6_fitsBy M N (nI j) (nI real) = _ := k2
  refine ⟨M', k1, ?_⟩
  rw [k2']
  refine congrArg (fun v => some (v, M')) (bI_congr ?_)
  rw [Bool.true_and, Nat.sub_zero]
  unfold fit
  rw [al_iff, al_iff]
  constructor
  · intro z g h1 h2
    obtain ⟨t, d, p, w, ht, hd, hp, hw, e1, e2, e3, e4⟩ := four_r v0 (ok g (by omega))
    have z1 := (al_iff _ _ _).mp (z p (by omega) (by omega)) g h1 h2
    unfold tp at z1
    rw [e3, decide_eq_true (show nI p = nI p from rfl)] at z1
    exact z1
  · intro z p h1 h2
    show al (tp h real b p) 0 f = true
    rw [al_iff]
    intro g h3 h4
    unfold tp
    rw [z g h3 h4, Bool.or_true]
/-- whether a set is within L and fits -/
abbrev fL (h : Nat → Nat → Nat) (b : Nat → Int32) (f x : Nat) : Bool := decide (x &&& lv h = x) && fit h b f x
theorem fits_58e (K : Int32 → Int32 → Int32 → Int32 → Int32 → CS → JS → Option (Int32 × CS × JS)) (x1 x3 x4 x5 x6 : Int32) (M : CS) (N : JS) : f_X6_fits_58 K x1 x3 x4 x5 x6 M N = K x1 x3 x4 x5 (x6 + 1) M N := by
  unfold f_X6_fits_58 f_X6_fits_59 f_X6_fits_72 f_X6_fits_91 f_X6_fits_93
  rw [if_pos (show (0 : Int32) = 0 from rfl), if_pos (show (0 : Int32) = 0 from rfl), Int32.add_zero]
theorem fits_59e (K : Int32 → Int32 → Int32 → Int32 → Int32 → CS → JS → Option (Int32 × CS × JS)) (x1 x3 x4 x5 x6 : Int32) (M : CS) (N : JS) : f_X6_fits_59 K x1 x3 x4 x5 x6 1 M N = K x1 (x3 + 1) (if x4 = -9 then x6 else x4) x5 (x6 + 1) M N := by
  unfold f_X6_fits_59 f_X6_fits_72 f_X6_fits_91 f_X6_fits_93
  rw [if_neg (show ¬ (1 : Int32) = 0 by decide), if_neg (show ¬ (1 : Int32) = 0 by decide)]
  by_cases u : x4 = -9
  · rw [if_pos u, if_pos u]
  · rw [if_neg u, if_neg u]
theorem fits_27 {h : Nat → Nat → Nat} (hv : ChV h) (N : JS) {b : Nat → Int32} {j f : Nat} (hj : j < 6) (hf : f ≤ 10) (ok : ∀ g, g < f → okf (h 0 0) b g) :
    ∀ (n x m e w : Nat) (v : Int32) (M : CS), x ≤ lv h + 1 → lv h + 1 - x < n → ChM (M 4) h → M 0 j = nI (4 * f) → (∀ i, i < 4 * f → M 1 (40 * j + i) = b i) → Ivt (fL h b f) (fun x => x) (lv h) x m v e w →
      ∃ (m' : Nat) (v' : Int32) (e' w' : Nat) (M' : CS), FrM M M' ∧ Ivt (fL h b f) (fun x => x) (lv h) (lv h + 1) m' v' e' w' ∧ f_X6_fits_27 n (nI j) (nI m) v (nI (lv h)) (nI x) M N = some (1, cset M' 7 0 v', jset (jset N 0 (lN m')) 1 1) := by
  have hL := lvh_lt hv
  intro n
  induction n with
  | zero => intro x m e w v M h1 h2; exact absurd h2 (by omega)
  | succ n ih =>
    intro x m e w v M h1 h2 hm hs hb H
    have hml := H.m_le
    rw [f_X6_fits_27]
    by_cases hx : lv h < x
    · have ex : x = lv h + 1 := by omega
      rw [if_pos (nI_lt hx (by omega)), nI_l (by omega)]
      rw [ex] at H
      exact ⟨m, v, e, w, M, FrM.rfl' M, H, rfl⟩
    · rw [if_neg (nI_nlt (by omega) (by omega)), nI_andn]
      by_cases z : x &&& lv h = x
      · obtain ⟨M1, k1, k2⟩ := fitsBy6 hv N hj hf (show x < 2 ^ 31 by omega) ok hm hs hb
        have hb1 : ∀ i, i < 4 * f → M1 1 (40 * j + i) = b i := fun i hi => by rw [k1 1 (by omega)]; exact hb i hi
        have hs1 : M1 0 j = nI (4 * f) := by rw [k1 0 (by omega)]; exact hs
        rw [if_pos (show nI (adf x (lv h)) = 0 by rw [(adf_0 x (lv h)).mpr z]; exact nI_0), k2, ob2_s, if_bI]
        by_cases y : fit h b f x = true
        · have hP : fL h b f x = true := by show (decide (x &&& lv h = x) && fit h b f x) = true; rw [decide_eq_true z, y]; rfl
          obtain ⟨m', v', e', w', M', r1, r2, r3⟩ := ih (x + 1) (m + 1) _ _ _ M1 (by omega) (by omega) (k1.m hm) hs1 hb1 (H.yes hP (fun k hk => by show k < 2 ^ 31; omega))
          rw [if_pos y, fits_59e, nI_1, nI_1]
          exact ⟨m', v', e', w', M', k1.trans r1, r2, r3⟩
        · have hP : fL h b f x = false := by show (decide (x &&& lv h = x) && fit h b f x) = false; rw [(Bool.not_eq_true _).mp y, Bool.and_false]
          obtain ⟨m', v', e', w', M', r1, r2, r3⟩ := ih (x + 1) m e w v M1 (by omega) (by omega) (k1.m hm) hs1 hb1 (H.no hP)
          rw [if_neg y, fits_58e, nI_1]
          exact ⟨m', v', e', w', M', k1.trans r1, r2, r3⟩
      · have hne : ¬ adf x (lv h) = 0 := fun q => z ((adf_0 x (lv h)).mp q)
        have hle := adf_le x (lv h)
        have hP : fL h b f x = false := by show (decide (x &&& lv h = x) && fit h b f x) = false; rw [decide_eq_false z, Bool.false_and]
        rw [if_neg (nI_ne0 (by omega) (by omega)), fits_58e, nI_1]
        exact ih (x + 1) m e w v M (by omega) (by omega) hm hs hb (H.no hP)
theorem sure_29 {h : Nat → Nat → Nat} (hv : ChV h) (N : JS) {b : Nat → Int32} {j f : Nat} (hj : j < 6) (hf : f ≤ 10) (ok : ∀ g, g < f → okf (h 0 0) b g) :
    ∀ (n x m e w : Nat) (v : Int32) (M : CS), x ≤ lv h + 1 → lv h + 1 - x < n → ChM (M 4) h → M 0 j = nI (4 * f) → (∀ i, i < 4 * f → M 1 (40 * j + i) = b i) → Ivt (fL h b f) (fun x => x) (lv h) x m v e w →
      ∃ (m' : Nat) (v' : Int32) (e' w' : Nat) (M' : CS), FrM M M' ∧ Ivt (fL h b f) (fun x => x) (lv h) (lv h + 1) m' v' e' w' ∧ f_X6_sure_29 n (nI j) (nI (lv h)) (nI e) (nI w) (bI (0 < m)) (nI x) M N = if 0 < m' then some (nI e', cset M' 7 0 (nI (adf (lv h) w'))) else some ((-3 : Int32), cset (cset M' 8 0 (nI 4)) 9 4 (M' 9 4 + 1)) := by
  have hL := lvh_lt hv
  intro n
  induction n with
  | zero => intro x m e w v M h1 h2; exact absurd h2 (by omega)
  | succ n ih =>
    intro x m e w v M h1 h2 hm hs hb H
    have hml := H.m_le
    rw [f_X6_sure_29]
    by_cases hx : lv h < x
    · have ex : x = lv h + 1 := by omega
      have f2 : f_X6_found M N 4 = _ := found6 M N 4 (by omega)
      rw [if_pos (nI_lt hx (by omega)), if_bI, f2, ob2_s, nI_andn]
      rw [ex] at H
      refine ⟨m, v, e, w, M, FrM.rfl' M, H, ?_⟩
      by_cases y : 0 < m
      · rw [if_pos y, if_pos y]; rfl
      · rw [if_neg y, if_neg y]; rfl
    · rw [if_neg (nI_nlt (by omega) (by omega)), nI_andn]
      unfold f_X6_sure_71
      rw [nI_1]
      by_cases z : x &&& lv h = x
      · obtain ⟨M1, k1, k2⟩ := fitsBy6 hv N hj hf (show x < 2 ^ 31 by omega) ok hm hs hb
        have hb1 : ∀ i, i < 4 * f → M1 1 (40 * j + i) = b i := fun i hi => by rw [k1 1 (by omega)]; exact hb i hi
        have hs1 : M1 0 j = nI (4 * f) := by rw [k1 0 (by omega)]; exact hs
        rw [if_pos (show nI (adf x (lv h)) = 0 by rw [(adf_0 x (lv h)).mpr z]; exact nI_0), k2, ob2_s, if_bI]
        by_cases y : fit h b f x = true
        · have hP : fL h b f x = true := by show (decide (x &&& lv h = x) && fit h b f x) = true; rw [decide_eq_true z, y]; rfl
          obtain ⟨m', v', e', w', M', r1, r2, r3⟩ := ih (x + 1) (m + 1) _ _ _ M1 (by omega) (by omega) (k1.m hm) hs1 hb1 (H.yes hP (fun k hk => by show k < 2 ^ 31; omega))
          rw [bI_t (show 0 < m + 1 by omega)] at r3
          rw [if_pos y, nI_and, nI_or]
          exact ⟨m', v', e', w', M', k1.trans r1, r2, r3⟩
        · have hP : fL h b f x = false := by show (decide (x &&& lv h = x) && fit h b f x) = false; rw [(Bool.not_eq_true _).mp y, Bool.and_false]
          obtain ⟨m', v', e', w', M', r1, r2, r3⟩ := ih (x + 1) m e w v M1 (by omega) (by omega) (k1.m hm) hs1 hb1 (H.no hP)
          rw [if_neg y]
          exact ⟨m', v', e', w', M', k1.trans r1, r2, r3⟩
      · have hne : ¬ adf x (lv h) = 0 := fun q => z ((adf_0 x (lv h)).mp q)
        have hle := adf_le x (lv h)
        have hP : fL h b f x = false := by show (decide (x &&& lv h = x) && fit h b f x) = false; rw [decide_eq_false z, Bool.false_and]
        rw [if_neg (nI_ne0 (by omega) (by omega))]
        exact ih (x + 1) m e w v M (by omega) (by omega) hm hs hb (H.no hP)
