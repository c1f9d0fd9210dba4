/-! ===== agree: the model's way ===== -/
theorem differing6 {h : Nat → Nat → Nat} (hv : ChV h) (N : JS) {t u d real : Nat} (htu : t < u) (hu : u < 5) (hud : u ≤ d) (hd : d < 20) (hr : real < 2 ^ 31) :
    ∀ (n p a : Nat) (M : CS), p ≤ h 0 0 → h 0 0 - p < n → a < 2 ^ p → ChM (M 4) h → ∃ (b : Nat) (M' : CS), b < 32 ∧ FrM M M' ∧ f_X6_differing_6 n (nI t) (nI u) (nI d) (nI real) (nI a) (nI p) M N = some (nI b, M') ∧ (b = 0 ↔ a = 0 ∧ ∀ q, p ≤ q → q < h 0 0 → ¬ df h q real t u d) := by
  have v0 : h 0 0 ≤ 5 := hv.1
  intro n
  induction n with
  | zero => intro p a M h1 h2; exact absurd h2 (by omega)
  | succ n ih =>
    intro p a M h1 h2 ha hm
    rw [f_X6_differing_6, hm.1]
    by_cases hp : h 0 0 ≤ p
    · rw [if_pos (nI_le hp (by omega))]
      exact ⟨a, M, Nat.lt_of_lt_of_le ha (show 2 ^ p ≤ 2 ^ 5 from Nat.pow_le_pow_right (by omega) (by omega)), FrM.rfl' M, rfl, fun e => ⟨e, fun q h3 h4 => absurd h4 (by omega)⟩, fun e => e.1⟩
    · have hp' : p < h 0 0 := Nat.not_le.mp hp
      obtain ⟨M1, e2, g2, g3⟩ := laysn6 N hv hm hp' hr
      rw [if_neg (nI_ge hp' (by omega)), e2, ob1_s, differs6 N htu hu hud hd g3, ob1_s, if_bI]
      unfold f_X6_differing_46
      by_cases hh : df h p real t u d
      · rw [if_pos hh, one_shl (by omega), nI_or, nI_1]
        obtain ⟨b, M', k1, k2, k3, k4⟩ := ih (p + 1) (a ||| 2 ^ p) M1 (by omega) (by omega) (bitor_lt ha (by omega)) ((FrM.lay g2).m hm)
        refine ⟨b, M', k1, (FrM.lay g2).trans k2, k3, fun e => ?_, fun e => absurd hh (e.2 p (by omega) hp')⟩
        have h3 := (k4.mp e).1
        have h4 : (a ||| 2 ^ p).testBit p = true := by rw [Nat.testBit_or, Nat.testBit_two_pow, decide_eq_true (show p = p from rfl), Bool.or_true]
        rw [h3, Nat.zero_testBit] at h4
        exact absurd h4 (by decide)
      · rw [if_neg hh, show (0 : Int32) = nI 0 from rfl, nI_or, nI_1, Nat.or_zero]
        obtain ⟨b, M', k1, k2, k3, k4⟩ := ih (p + 1) a M1 (by omega) (by omega) (Nat.lt_of_lt_of_le ha (Nat.pow_le_pow_right (by omega) (by omega))) ((FrM.lay g2).m hm)
        refine ⟨b, M', k1, (FrM.lay g2).trans k2, k3, fun e => ?_, fun e => k4.mpr ⟨e.1, fun q h3 h4 => e.2 q (by omega) h4⟩⟩
        have h3 := k4.mp e
        refine ⟨h3.1, fun q h4 h5 => ?_⟩
        by_cases y : q = p
        · rw [y]; exact hh
        · exact h3.2 q (by omega) h5
/-- what the model looks for -/
abbrev agm (h : Nat → Nat → Nat) (t u d S : Nat) : Prop := S &&& lv h = S ∧ ∀ q, q < h 0 0 → agr h t u d q S
theorem agree_36 {h : Nat → Nat → Nat} (hv : ChV h) (N : JS) {t u d : Nat} (htu : t < u) (hu : u < 5) (hud : u ≤ d) (hd : d < 20) :
    ∀ (n x fw : Nat) (v : Int32) (M : CS), x ≤ lv h + 1 → lv h + 1 - x < n → ChM (M 4) h → Bst (agm h t u d) (fun x => x) x v fw →
      ∃ (v' : Int32) (fw' : Nat) (M' : CS), FrM M M' ∧ Bst (agm h t u d) (fun x => x) (lv h + 1) v' fw' ∧ f_X6_agree_36 n (nI t) (nI u) (nI d) (nI (lv h)) v (nI x) M N = if v' = -9 then some (-9, M') else some (nI fw', cset M' 7 0 v') := by
  have v0 : h 0 0 ≤ 5 := hv.1
  have hL := lvh_lt hv
  intro n
  induction n with
  | zero => intro x fw v M h1 h2; exact absurd h2 (by omega)
  | succ n ih =>
    intro x fw v M h1 h2 hm H
    have hbv : ¬ v = -9 → f_X6_bits v = some (nI fw) ∧ fw ≤ 12 := fun q => by
      rcases H with ⟨a, _⟩ | ⟨k, a, b, c, _⟩
      · exact absurd a q
      · rw [b, c]; exact ⟨bits6 k (by omega), pc_le k⟩
    have hbn : v = -9 → fw = 13 := fun q => by
      rcases H with ⟨a, b, _⟩ | ⟨k, a, b, c, _⟩
      · exact b
      · rw [b] at q; exact absurd q (nI_n9 (show k < 2 ^ 31 by omega))
    rw [f_X6_agree_36]
    by_cases hx : lv h < x
    · have ex : x = lv h + 1 := by omega
      rw [if_pos (nI_lt hx (by omega))]
      rw [ex] at H
      refine ⟨v, fw, M, FrM.rfl' M, H, ?_⟩
      by_cases z : v = -9
      · rw [if_pos z, if_pos z]; rfl
      · rw [if_neg z, if_neg z, (hbv z).1, ob1_s]; rfl
    · have hal : adf (lv h) x ≤ lv h := adf_le _ _
      have no77 : ∀ M1, FrM M M1 → Bst (agm h t u d) (fun x => x) (x + 1) v fw → ∃ (v' : Int32) (fw' : Nat) (M' : CS), FrM M M' ∧ Bst (agm h t u d) (fun x => x) (lv h + 1) v' fw' ∧ f_X6_agree_36 n (nI t) (nI u) (nI d) (nI (lv h)) v (nI (x + 1)) M1 N = if v' = -9 then some (-9, M') else some (nI fw', cset M' 7 0 v') := fun M1 F B => by
        obtain ⟨v', fw', M', r1, r2, r3⟩ := ih (x + 1) fw v M1 (by omega) (by omega) (F.m hm) B
        exact ⟨v', fw', M', F.trans r1, r2, r3⟩
      have yes73 : x &&& lv h = x → pc x < fw → ∃ (v' : Int32) (fw' : Nat) (M' : CS), FrM M M' ∧ Bst (agm h t u d) (fun x => x) (lv h + 1) v' fw' ∧ f_X6_agree_73 (f_X6_agree_36 n) (nI t) (nI u) (nI d) (nI (lv h)) v (nI x) M N = if v' = -9 then some (-9, M') else some (nI fw', cset M' 7 0 v') := fun hw hpx => by
        obtain ⟨b, M1, k1, k2, k3, k4⟩ := differing6 hv N htu hu hud hd (real := adf (lv h) x) (by omega) FU 0 0 M (by omega) (FU_ge (by omega)) (by decide) hm
        have k3' : f_X6_differing M N (nI t) (nI u) (nI d) (nI (adf (lv h) x)) = some (nI b, M1) := k3
        unfold f_X6_agree_73 f_X6_agree_78 f_X6_agree_107 f_X6_agree_109
        rw [if_neg (show ¬ (1 : Int32) = 0 by decide), nI_andn, k3', ob2_s, nI_1]
        by_cases z : b = 0
        · rw [z, if_pos nI_0]
          obtain ⟨v', fw', M', r1, r2, r3⟩ := ih (x + 1) (pc x) (nI x) M1 (by omega) (by omega) (k2.m hm) (H.take (s := fun x => x) hpx ⟨hw, fun q hq => (k4.mp z).2 q (by omega) hq⟩)
          exact ⟨v', fw', M', k2.trans r1, r2, r3⟩
        · rw [if_neg (nI_ne0 (by omega) (by omega))]
          exact no77 M1 k2 (H.no (fun q => z (k4.mpr ⟨rfl, fun q' _ hq => q.2 q' hq⟩)))
      have e77 : f_X6_agree_77 (f_X6_agree_36 n) (nI t) (nI u) (nI d) (nI (lv h)) v (nI x) M N = f_X6_agree_36 n (nI t) (nI u) (nI d) (nI (lv h)) v (nI (x + 1)) M N := by
        unfold f_X6_agree_77 f_X6_agree_78 f_X6_agree_107 f_X6_agree_109
        rw [if_pos (show (0 : Int32) = 0 from rfl), nI_1]
      rw [if_neg (nI_nlt (by omega) (by omega)), nI_andn, e77]
      by_cases z : x &&& lv h = x
      · rw [if_pos (show nI (adf x (lv h)) = 0 by rw [(adf_0 x (lv h)).mpr z]; exact nI_0)]
        have hpx := pc_le x
        by_cases y : v = -9
        · rw [if_pos y]
          have := hbn y
          exact yes73 z (by omega)
        · have hb := hbv y
          have hb2 := hb.2
          rw [if_neg y, bits6 x (by omega), ob1_s, hb.1, ob1_s]
          by_cases w : fw ≤ pc x
          · rw [if_pos (nI_le w (by omega))]
            exact no77 M (FrM.rfl' M) (H.skip w (fun k hk => Nat.le_of_lt hk))
          · rw [if_neg (nI_ge (by omega) (by omega))]
            exact yes73 z (by omega)
      · have hne : ¬ adf x (lv h) = 0 := fun q => z ((adf_0 x (lv h)).mp q)
        have hle := adf_le x (lv h)
        rw [if_neg (nI_ne0 (by omega) (by omega))]
        exact no77 M (FrM.rfl' M) (H.no (fun q => z q.1))
theorem o_agree : Op_agree := by
  intro I J M N y1 y2 y3 R
  obtain ⟨h, hv, hc, ha⟩ := R.2.2.2.1
  have hL := lvh_lt hv
  have v0 : h 0 0 ≤ 5 := hv.1
  unfold f_X5_agree f_X6_agree f_X5_agree_20 f_X6_agree_21
  rw [arePair5, areTowns6, ob1_s, ob1_s, if_bI, if_bI, p_isDay5, p_in6i, ob1_s, ob1_s, if_bI, if_bI, i32_w]
  have e19 : (19 : Int64).toInt = 19 := by decide
  rw [e19]
  by_cases h1 : 0 ≤ y1.toInt ∧ y1.toInt < y2.toInt ∧ y2.toInt < 5
  · rw [if_pos h1, if_pos h1]
    obtain ⟨u, hu, rfl⟩ := ix_of (x := y2) (n := 5) (by omega) h1.2.2 (by omega)
    obtain ⟨t, ht, rfl⟩ := ix_of (x := y1) (n := 5) h1.1 (by omega) (by omega)
    rw [nI_toInt (by omega), nI_toInt (by omega)] at h1
    rw [nI_toInt (by omega)]
    by_cases h2 : 0 ≤ y3.toInt ∧ y3.toInt < 20
    · rw [if_pos h2]
      obtain ⟨d, hd, rfl⟩ := ix_of (x := y3) (n := 20) h2.1 h2.2 (by omega)
      rw [nI_toInt (by omega)]
      by_cases h3 : u ≤ d
      · have htu : t < u := by omega
        rw [if_pos (nI_le h3 (by omega)), if_pos (by omega), live6 hv ha, ob1_s]
        have J0 : Jnd h t u d 0 0 := ⟨Nat.zero_and _, fun q hq => absurd hq (by omega), fun S _ _ => by rw [bun, Nat.and_zero]; exact Or.inr ⟨rfl, Nat.le_refl _⟩⟩
        obtain ⟨I', k1, k2⟩ := agree_28 hv J htu hu h3 hd FU 0 0 I (by omega) (FU_ge (by omega)) hc J0
        obtain ⟨v', fw', M', l1, l2, l3⟩ := agree_36 hv N htu hu h3 hd FU 0 13 (-9) M (by omega) (FU_ge (by omega)) ha (Bst.start _ _)
        have l3' : f_X6_agree_36 FU (nI t) (nI u) (nI d) (nI (lv h)) (-9) 0 M N = _ := l3
        rw [l3']
        rcases k2 with ⟨q1, q2⟩ | ⟨U, q1, q2⟩
        · have q1' : f_X5_agree_28 FU (nI t) (nI u) (nI d) 0 0 I J = _ := q1
          rw [q1']
          rcases l2 with ⟨a, _⟩ | ⟨k, a, b, c, e, _⟩
          · rw [if_pos a]
            exact ⟨_, _, _, rfl, rfl, R.fr k1 l1 rfl⟩
          · exact absurd e.2 (q2 k e.1)
        · have q2' : f_X5_agree_28 FU (nI t) (nI u) (nI d) 0 0 I J = _ := q2
          rw [q2']
          have hUL : U &&& lv h = U := wi_bit.mpr (fun i hi => wi_bit.mp (bun_L h u d (h 0 0)) i (wi_bit.mp q1.1 i hi))
          have hU : U ≤ lv h := by rw [← hUL]; exact Nat.and_le_right
          have hUg : agm h t u d U := ⟨hUL, q1.2.1⟩
          rcases l2 with ⟨_, _, a⟩ | ⟨k, a, b, c, e, f⟩
          · exact absurd hUg (a U (by omega))
          · have x1 := f U (by omega) hUg
            have x2 : lex U k := lex_trans (q1.2.2 k e.1 e.2) (lex_sub (by rw [Nat.and_assoc, Nat.and_comm _ k, ← Nat.and_assoc, Nat.and_self]))
            have x3 : U = k := lex_anti x2 x1
            have b' : v' = nI k := b
            have c' : fw' = pc k := c
            rw [b', c', if_neg (nI_n9 (show k < 2 ^ 31 by omega)), x3]
            exact ⟨_, _, _, rfl, rfl, (R.fr k1 l1 (J' := J) rfl).ask _⟩
      · rw [if_neg (nI_ge (by omega) (by omega)), if_neg (by omega)]; exact ⟨_, _, _, rfl, rfl, R⟩
    · rw [if_neg h2, if_neg (by omega)]; exact ⟨_, _, _, rfl, rfl, R⟩
  · rw [if_neg h1, if_neg h1]; exact ⟨_, _, _, rfl, rfl, R⟩
