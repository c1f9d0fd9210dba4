/-! ===== odds ===== -/
theorem power_5 {a k : Nat} (ha : a < 2 ^ 31) (hk : k < 1000) : ∀ (n i : Nat), i ≤ k → k - i < n → f_X5_power_5 n (nI a) (nI k) (lN (a ^ i)) (nI i) = some (lN (a ^ k)) := by
  intro n
  induction n with
  | zero => intro i h1 h2; exact absurd h2 (by omega)
  | succ n ih =>
    intro i h1 h2
    rw [f_X5_power_5]
    by_cases hi : k ≤ i
    · rw [if_pos (nI_le hi (by omega)), show i = k by omega]
    · rw [if_neg (nI_ge (by omega) (by omega)), nI_l ha, lN_mul, nI_1, ← Nat.pow_succ]
      exact ih (i + 1) (by omega) (by omega)
theorem power5 {a k : Nat} (ha : a < 2 ^ 31) (hk : k < 1000) : f_X5_power (nI a) (nI k) = some (lN (a ^ k)) := power_5 ha hk FU 0 (by omega) (FU_ge (by omega))
theorem odds_85 {h : Nat → Nat → Nat} (hv : ChV h) (J : Nat → JS) {t d p hh A : Nat} {x4 : Int32} (ht : t < 5) (hd : d < 20) (hp : p < h 0 0) (h12 : hh ≤ 12) (hA : A < 4096) :
    ∀ (n i : Nat) (I : Nat → CS), i ≤ 2 ^ pc A → 2 ^ pc A - i < n → ChC (I 0) h →
      ∃ I', FrI I I' ∧ f_X5_odds_85 n (nI t) (nI d) (nI p) x4 (nI hh) (nI A) (nI (pc A)) (lN (sm (fun k => if dnI h p (pdk 12 A k) t d = x4 then hh ^ pc (pdk 12 A k) * (12 - hh) ^ (pc A - pc (pdk 12 A k)) else 0) i)) (nI (pdk 12 A i)) (nI i) I J = ob1 (f_X4_tell (I' 7) (J 0) (lN (sm (fun k => if dnI h p (pdk 12 A k) t d = x4 then hh ^ pc (pdk 12 A k) * (12 - hh) ^ (pc A - pc (pdk 12 A k)) else 0) (2 ^ pc A))) (lN (12 ^ pc A))) fun j2 => some ((1 : Int32), I', hset J 0 j2) := by
  have hpA : 2 ^ pc A ≤ 4096 := pow12 (pc_le A)
  have hpl := pc_le A
  intro n
  induction n with
  | zero => intro i I h1 h2; exact absurd h2 (by omega)
  | succ n ih =>
    intro i I h1 h2 hc
    rw [f_X5_odds_85, one_shl (by omega)]
    by_cases hi : 2 ^ pc A ≤ i
    · have ei : i = 2 ^ pc A := by omega
      subst ei
      have e12 : f_X5_power 12 (nI (pc A)) = some (lN (12 ^ pc A)) := power5 (a := 12) (by omega) (by omega)
      rw [if_pos (nI_le (Nat.le_refl _) (by omega)), e12, ob1_s]
      exact ⟨I, FrI.rfl' I, rfl⟩
    · have hs := pdk_le 12 A i hA
      have hpi : pc (pdk 12 A i) ≤ pc A := by
        have := pck_mono 12 _ _ (pdk_wi 12 A i hA)
        rw [← pc_pck, ← pc_pck] at this
        exact this
      obtain ⟨c1, e1, g1⟩ := doneIf0 hv hc ht hd hp (real := pdk 12 A i) (by omega)
      have F : FrI I (gset I 0 c1) := FrI.c g1
      obtain ⟨I', k1, k2⟩ := ih (i + 1) (gset I 0 c1) (by omega) (by omega) (F.h hc)
      rw [if_neg (nI_ge (by omega) (by omega)), e1, ob2_s]
      unfold f_X5_odds_144
      refine ⟨I', F.trans k1, ?_⟩
      rw [← k2, smf_succ]
      by_cases z : dnI h p (pdk 12 A i) t d = x4
      · rw [if_pos z, if_pos z, bitCount0 _ (by omega), ob1_s, power5 (by omega) (by omega), ob1_s, show (12 : Int32) - nI hh = nI (12 - hh) from pk_sub (a := 12) h12, pk_sub hpi, power5 (by omega) (by omega), ob1_s, nextSet0 hA, ob1_s, nI_1, lN_mul, lN_add]
      · rw [if_neg z, if_neg z, Nat.add_zero, nextSet0 hA, ob1_s, nI_1]
theorem odds_60 {h : Nat → Nat → Nat} (hv : ChV h) (x1 x2 x3 x4 x5 : Int32) (x7 : Int64) (M : CS) (N : JS) : ∀ (n i : Nat), i ≤ pc (lv h) → pc (lv h) - i < n → f_X6_odds_60 n x1 x2 x3 x4 x5 (nI (lv h)) x7 (lN (12 ^ i)) (nI i) M N = f_X6_odds_87 FU x1 x2 x3 x4 x5 (nI (lv h)) x7 (lN (12 ^ pc (lv h))) 0 M N := by
  have hpl := pc_le (lv h)
  intro n
  induction n with
  | zero => intro i h1 h2; exact absurd h2 (by omega)
  | succ n ih =>
    intro i h1 h2
    rw [f_X6_odds_60, bits6 _ (lvh_lt hv), ob1_s]
    by_cases hi : pc (lv h) ≤ i
    · rw [if_pos (nI_le hi (by omega)), show i = pc (lv h) by omega]
    · rw [if_neg (nI_ge (by omega) (by omega)), show (12 : Int64) = lN 12 from rfl, lN_mul, nI_1, ← Nat.pow_succ]
      exact ih (i + 1) (by omega) (by omega)
theorem odds_110 {h : Nat → Nat → Nat} (hv : ChV h) (N : JS) (K : Int32 → Int32 → Int32 → Int32 → Int32 → Int32 → Int64 → Int64 → Int32 → CS → JS → Option (Int32 × CS × JS)) {t d p hh x a : Nat} {x4 : Int32} (x9 : Int64) (ht : t < 5) (hd : d < 20) (hp : p < h 0 0) (h12 : hh ≤ 12) (hx : x < 4096) {M : CS} (hm : ChM (M 4) h) :
    ∃ M', FrM M M' ∧ ∀ (n i : Nat), i ≤ h 1 0 → h 1 0 - i < n → f_X6_odds_110 K n (nI t) (nI d) (nI p) x4 (nI hh) (nI (lv h)) (lN a) x9 (nI x) (lN (pr (wf hh (12 - hh) (lv h) x) i)) (nI i) M N = K (nI t) (nI d) (nI p) x4 (nI hh) (nI (lv h)) (lN (a + if dnI h p x t d = x4 then pr (wf hh (12 - hh) (lv h) x) (h 1 0) else 0)) x9 (nI (x + 1)) M' N := by
  have v1 : h 1 0 ≤ 12 := hv.2.1
  have hL := lvh_lt hv
  obtain ⟨M1, e2, g2, g3⟩ := laysn6 N hv hm hp (real := x) (by omega)
  refine ⟨M1, FrM.lay g2, ?_⟩
  intro n
  induction n with
  | zero => intro i h1 h2; exact absurd h2 (by omega)
  | succ n ih =>
    intro i h1 h2
    rw [f_X6_odds_110, hm.2.1]
    by_cases hi : h 1 0 ≤ i
    · rw [if_pos (nI_le hi (by omega)), e2, ob1_s, ix_20, ck_t _ (inb_nI (show 20 * t + d < 100 by omega) (by omega)), nI_clamp (by omega), g3 t d ht hd, show i = h 1 0 by omega]
      unfold f_X6_odds_200 f_X6_odds_203
      rw [nI_1]
      by_cases z : dnI h p x t d = x4
      · rw [if_pos z, if_pos z, lN_add]
      · rw [if_neg z, if_neg z, show (0 : Int64) = lN 0 from rfl, lN_add]
    · have i1 := ih (i + 1) (by omega) (by omega)
      rw [if_neg (nI_ge (by omega) (by omega)), has6 (by omega) (by omega), ob1_s, if_bI, has6 (by omega) (by omega), ob1_s, if_bI]
      unfold f_X6_odds_159
      rw [nI_1, show (12 : Int32) - nI hh = nI (12 - hh) from pk_sub (a := 12) h12, nI_l (by omega), nI_l (by omega), show (1 : Int64) = lN 1 from rfl, lN_mul, lN_mul, lN_mul, ← i1, pr]
      by_cases y : (lv h).testBit i = true
      · rw [if_pos y]
        by_cases z : x.testBit i = true
        · have hw : wf hh (12 - hh) (lv h) x i = hh := by unfold wf; rw [if_pos y, if_pos z]
          rw [if_pos z, hw]
        · have hw : wf hh (12 - hh) (lv h) x i = 12 - hh := by unfold wf; rw [if_pos y, if_neg z]
          rw [if_neg z, hw]
      · have hw : wf hh (12 - hh) (lv h) x i = 1 := by unfold wf; rw [if_neg y]
        rw [if_neg y, hw]
theorem odds_87 {h : Nat → Nat → Nat} (hv : ChV h) (N : JS) {t d p hh : Nat} {x4 : Int32} (x9 : Int64) (ht : t < 5) (hd : d < 20) (hp : p < h 0 0) (h12 : hh ≤ 12) :
    ∀ (n x : Nat) (M : CS), x ≤ lv h + 1 → lv h + 1 - x < n → ChM (M 4) h →
      ∃ M', FrM M M' ∧ f_X6_odds_87 n (nI t) (nI d) (nI p) x4 (nI hh) (nI (lv h)) (lN (sm (fun x => if x &&& lv h = x then (if dnI h p x t d = x4 then pr (wf hh (12 - hh) (lv h) x) (h 1 0) else 0) else 0) x)) x9 (nI x) M N = ob2 (f_X6_fraction M' N (lN (sm (fun x => if x &&& lv h = x then (if dnI h p x t d = x4 then pr (wf hh (12 - hh) (lv h) x) (h 1 0) else 0) else 0) (lv h + 1))) x9) fun r1 N1 => some (r1, M', N1) := by
  have v1 : h 1 0 ≤ 12 := hv.2.1
  have hL := lvh_lt hv
  intro n
  induction n with
  | zero => intro x M h1 h2; exact absurd h2 (by omega)
  | succ n ih =>
    intro x M h1 h2 hm
    rw [f_X6_odds_87]
    by_cases hx : lv h < x
    · have ex : x = lv h + 1 := by omega
      rw [if_pos (nI_lt hx (by omega)), ex]
      exact ⟨M, FrM.rfl' M, rfl⟩
    · rw [if_neg (nI_nlt (by omega) (by omega)), nI_andn]
      by_cases z : x &&& lv h = x
      · obtain ⟨M1, k1, k2⟩ := odds_110 hv N (f_X6_odds_87 n) (x := x) (x4 := x4) (a := sm (fun x => if x &&& lv h = x then (if dnI h p x t d = x4 then pr (wf hh (12 - hh) (lv h) x) (h 1 0) else 0) else 0) x) x9 ht hd hp h12 (by omega) hm
        have k2' := k2 FU 0 (by omega) (FU_ge (by omega))
        obtain ⟨M', r1, r2⟩ := ih (x + 1) M1 (by omega) (by omega) (k1.m hm)
        rw [smf_succ, if_pos z] at r2
        refine ⟨M', k1.trans r1, ?_⟩
        rw [if_pos (show nI (adf x (lv h)) = 0 by rw [(adf_0 x (lv h)).mpr z]; exact nI_0), ← r2]
        exact k2'
      · have hne : ¬ adf x (lv h) = 0 := fun q => z ((adf_0 x (lv h)).mp q)
        have hle := adf_le x (lv h)
        obtain ⟨M', r1, r2⟩ := ih (x + 1) M (by omega) (by omega) hm
        rw [smf_succ, if_neg z, Nat.add_zero] at r2
        refine ⟨M', r1, ?_⟩
        rw [if_neg (nI_ne0 (by omega) (by omega)), ← r2]
        unfold f_X6_odds_203
        rw [nI_1]
theorem odds_sums {h : Nat → Nat → Nat} (hv : ChV h) {t d p hh : Nat} {x4 : Int32} (hd : d < 20) (h12 : hh ≤ 12) {L A : Nat} (eL : L = lv h) (eA : A = ow h t d p &&& L) :
    ∃ U m, U ≤ 12 ^ pc A ∧ m + pc A = pc L ∧ sm (fun k => if dnI h p (pdk 12 A k) t d = x4 then hh ^ pc (pdk 12 A k) * (12 - hh) ^ (pc A - pc (pdk 12 A k)) else 0) (2 ^ pc A) = U ∧
      sm (fun x => if x &&& L = x then (if dnI h p x t d = x4 then pr (wf hh (12 - hh) L x) (h 1 0) else 0) else 0) (L + 1) = 12 ^ m * U := by
  have v1 : h 1 0 ≤ 12 := hv.2.1
  have hL : L < 4096 := by rw [eL]; exact lvh_lt hv
  have hA : A ≤ L := by rw [eA]; exact Nat.and_le_right
  have hA4 : A < 2 ^ 12 := by omega
  have hAL : A &&& L = A := by rw [eA]; exact wi_and _ _
  have e12 : hh + (12 - hh) = 12 := by omega
  have up : ∀ x, x &&& A = x → x &&& L = x := fun x hx => wi_bit.mpr (fun i hi => wi_bit.mp hAL i (wi_bit.mp hx i hi))
  have hpr : ∀ x, pr (wf hh (12 - hh) L x) (h 1 0) = wt hh (12 - hh) 12 L x := fun x => by
    rw [wt_pr, show (12 : Nat) = h 1 0 + (12 - h 1 0) by omega]
    refine (pr_ext _ (fun i hi => ?_)).symm
    unfold wf
    rw [eL, lv_bit, decide_eq_false (show ¬ i < h 1 0 by omega), Bool.false_and, if_neg (by decide)]
  refine ⟨WS hh (12 - hh) 12 A (fun x => if dnI h p (x &&& L) t d = x4 then 1 else 0), pck 12 (adf L A), ?_, ?_, ?_, ?_⟩
  · have := WS_le hh (12 - hh) 12 A (fun x => if dnI h p (x &&& L) t d = x4 then 1 else 0) (fun x => by show (if dnI h p (x &&& L) t d = x4 then 1 else 0) ≤ 1; split <;> omega)
    rw [e12, ← pc_pck] at this
    exact this
  · rw [pc_pck, pc_pck]; exact pck_adf hAL
  · rw [WS_SS, ← SS_class, pc_pck]
    refine sm_cong (fun k _ => ?_)
    show (if dnI h p (pdk 12 A k) t d = x4 then hh ^ pc (pdk 12 A k) * (12 - hh) ^ (pck 12 A - pc (pdk 12 A k)) else 0) = wt hh (12 - hh) 12 A (pdk 12 A k) * (if dnI h p (pdk 12 A k &&& L) t d = x4 then 1 else 0)
    have hw := pdk_wi 12 A k hA4
    have hmo := pck_mono 12 _ _ hw
    rw [up _ hw, wt_pow hh (12 - hh) 12 A (pdk 12 A k) (pck 12 A - pck 12 (pdk 12 A k)) hw (by omega), pc_pck]
    by_cases z : dnI h p (pdk 12 A k) t d = x4
    · rw [if_pos z, if_pos z, Nat.mul_one]
    · rw [if_neg z, if_neg z, Nat.mul_zero]
  · have hf := WS_free hh (12 - hh) 12 L A (pck 12 (adf L A)) (fun x => if dnI h p (x &&& L) t d = x4 then 1 else 0) hAL (fun x y hxy => by
      show (if dnI h p (x &&& L) t d = x4 then 1 else 0) = if dnI h p (y &&& L) t d = x4 then 1 else 0
      have hdn : dnI h p (x &&& L) t d = dnI h p (y &&& L) t d := dnI_dep hv hd (fun i hi ho => by
        rw [Nat.testBit_and, Nat.testBit_and]
        cases e : L.testBit i
        · rw [Bool.and_false, Bool.and_false]
        · have h1 : (x &&& A).testBit i = (y &&& A).testBit i := by rw [hxy]
          have h2 : A.testBit i = true := by
            rw [eA, Nat.testBit_and, e]
            unfold ow
            rw [owf_bit, decide_eq_true ⟨hi, ho⟩]; rfl
          rw [Nat.testBit_and, Nat.testBit_and, h2, Bool.and_true, Bool.and_true] at h1
          rw [h1])
      rw [hdn]) (pck_adf hAL)
    rw [e12] at hf
    rw [← hf, WS_SS, ← SS_model' hL]
    refine sm_cong (fun x _ => ?_)
    show (if x &&& L = x then (if dnI h p x t d = x4 then pr (wf hh (12 - hh) L x) (h 1 0) else 0) else 0) = if x &&& L = x then wt hh (12 - hh) 12 L x * (if dnI h p (x &&& L) t d = x4 then 1 else 0) else 0
    by_cases y : x &&& L = x
    · rw [if_pos y, if_pos y, y, hpr]
      by_cases z : dnI h p x t d = x4
      · rw [if_pos z, if_pos z, Nat.mul_one]
      · rw [if_neg z, if_neg z, Nat.mul_zero]
    · rw [if_neg y, if_neg y]
theorem o_odds : Op_odds := by
  intro I J M N y1 y2 y3 y4 y5 R
  obtain ⟨h, hv, hc, ha⟩ := R.2.2.2.1
  have v0 : h 0 0 ≤ 5 := hv.1
  have hL := lvh_lt hv
  unfold f_X5_odds f_X6_odds f_X5_odds_33 f_X5_odds_47 f_X6_odds_43
  have e12 : (12 : Int64).toInt = 12 := by decide
  have e0 : (0 : Int64).toInt = 0 := by decide
  have i12 : (12 : Int32).toInt = 12 := by decide
  have i0 : (0 : Int32).toInt = 0 := by decide
  rw [p_isTown5, p_isTown6, ob1_s, ob1_s, if_bI, if_bI, p_isDay5, p_isDay6, ob1_s, ob1_s, if_bI, if_bI, p_isPerson0 hv hc, p_isPerson6 hv ha, ob1_s, ob1_s, if_bI, if_bI, p_isDeed5, p_isDeed6, ob1_s, ob1_s, if_bI, if_bI, p_in6i, ob1_s, if_bI, e12, e0]
  by_cases h1 : 0 ≤ y1.toInt ∧ y1.toInt < 5
  · rw [if_pos h1, if_pos h1]
    by_cases h2 : 0 ≤ y2.toInt ∧ y2.toInt < 20
    · rw [if_pos h2, if_pos h2]
      by_cases h3 : 0 ≤ y3.toInt ∧ y3.toInt < (h 0 0 : Nat)
      · rw [if_pos h3, if_pos h3]
        by_cases h4 : 0 ≤ y4.toInt ∧ y4.toInt < 10
        · rw [if_pos h4, if_pos h4]
          by_cases h5 : y5 < 0
          · rw [if_pos h5]
            rw [i32_lt, i0] at h5
            rw [if_neg (show ¬ (0 ≤ y5.toInt ∧ y5.toInt ≤ 12) by omega)]
            exact ⟨_, _, _, _, _, rfl, rfl, R⟩
          · rw [if_neg h5]
            rw [i32_lt, i0] at h5
            by_cases h6 : y5 ≤ 12
            · rw [if_pos h6]
              rw [i32_le, i12] at h6
              rw [if_pos (show 0 ≤ y5.toInt ∧ y5.toInt ≤ 12 by omega)]
              obtain ⟨t, ht, rfl⟩ := ix_of (n := 5) h1.1 h1.2 (by omega)
              obtain ⟨d, hd, rfl⟩ := ix_of (n := 20) h2.1 h2.2 (by omega)
              obtain ⟨p, hp, rfl⟩ := ix_of h3.1 h3.2 (by omega)
              obtain ⟨hh, hh', rfl⟩ := ix_of (x := y5) (n := 13) (by omega) (by omega) (by omega)
              have h12 : hh ≤ 12 := by omega
              obtain ⟨A, eA⟩ : ∃ A, A = ow h t d p &&& lv h := ⟨_, rfl⟩
              have hA : A ≤ lv h := by rw [eA]; exact Nat.and_le_right
              obtain ⟨U, m, u1, u2, u3, u4⟩ := odds_sums (x4 := y4) hv (t := t) (p := p) hd h12 rfl eA
              obtain ⟨I', k1, k2⟩ := odds_85 hv J (x4 := y4) ht hd hp h12 (show A < 4096 by omega) FU 0 I (Nat.zero_le _) (FU_ge (by have := pow12 (pc_le A); omega)) hc
              rw [pdk_0, u3] at k2
              have k2' : f_X5_odds_85 FU (nI t) (nI d) (nI p) y4 (nI hh) (nI A) (nI (pc A)) 0 0 0 I J = _ := k2
              obtain ⟨M', l1, l2⟩ := odds_87 hv N (x4 := y4) (lN (12 ^ pc (lv h))) ht hd hp h12 FU 0 M (by omega) (FU_ge (by omega)) ha
              rw [u4] at l2
              have l2' : f_X6_odds_87 FU (nI t) (nI d) (nI p) y4 (nI hh) (nI (lv h)) 0 (lN (12 ^ pc (lv h))) 0 M N = _ := l2
              have l0 : f_X6_odds_60 FU (nI t) (nI d) (nI p) y4 (nI hh) (nI (lv h)) 0 1 0 M N = _ := odds_60 hv (nI t) (nI d) (nI p) y4 (nI hh) 0 M N FU 0 (by omega) (FU_ge (by have := pc_le (lv h); omega))
              have hpA := pc_le A
              have hpL := pc_le (lv h)
              have b1 : 12 ^ pc A ≤ 8916100448256 := Nat.le_trans (Nat.pow_le_pow_right (by omega) hpA) (by decide)
              have b2 : 12 ^ pc (lv h) ≤ 8916100448256 := Nat.le_trans (Nat.pow_le_pow_right (by omega) hpL) (by decide)
              have b3 : 0 < 12 ^ pc A := Nat.pow_pos (by omega)
              have b4 : 0 < 12 ^ pc (lv h) := Nat.pow_pos (by omega)
              have b5 : 0 < 12 ^ m := Nat.pow_pos (by omega)
              have b6 : 12 ^ pc (lv h) = 12 ^ m * 12 ^ pc A := by rw [← u2, Nat.pow_add]
              have b7 : 12 ^ m * U ≤ 12 ^ m * 12 ^ pc A := Nat.mul_le_mul (Nat.le_refl _) u1
              rw [tell4 _ _ (show U < 2 ^ 63 by omega) b3 (by omega), ob1_s] at k2'
              rw [fraction6 _ _ (show 12 ^ m * U < 2 ^ 63 by omega) b4 (by omega), ob2_s, b6, Nat.gcd_mul_left, Nat.mul_div_mul_left _ _ b5, Nat.mul_div_mul_left _ _ b5] at l2'
              rw [onTheWayC hv hc ht hd (show p < 5 by omega), ob1_s, unmended0 hv hc, ob1_s, nI_and, ← eA, bitCount0 A (by omega), ob1_s, k2', live6 hv ha, ob1_s, l0, b6, l2']
              exact ⟨_, _, _, _, _, rfl, rfl, (R.fr k1 l1 (J' := J) rfl).tell rfl⟩
            · rw [if_neg h6]
              rw [i32_le, i12] at h6
              rw [if_neg (show ¬ (0 ≤ y5.toInt ∧ y5.toInt ≤ 12) by omega)]
              exact ⟨_, _, _, _, _, rfl, rfl, R⟩
        · rw [if_neg h4, if_neg h4]; exact ⟨_, _, _, _, _, rfl, rfl, R⟩
      · rw [if_neg h3, if_neg h3]; exact ⟨_, _, _, _, _, rfl, rfl, R⟩
    · rw [if_neg h2, if_neg h2]; exact ⟨_, _, _, _, _, rfl, rfl, R⟩
  · rw [if_neg h1, if_neg h1]; exact ⟨_, _, _, _, _, rfl, rfl, R⟩
