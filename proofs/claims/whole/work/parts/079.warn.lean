/-! ===== warn ===== -/
theorem D0_cong {k e st : Nat} {m m' : Nat → Nat} {d : Nat} (h : ∀ x, x ≤ d → m x = m' x) : D0 k e st m d = D0 k e st m' d := by
  rw [D0_closed, D0_closed, sm_cong (f := m) (g := m') (fun x hx => h x (by omega))]
theorem Dm_cong {k e st : Nat} {mo mo' : Nat → Nat → Nat} : ∀ (t d : Nat), t ≤ d → (∀ x, x ≤ d - t → mo 0 x = mo' 0 x) → (∀ s, 0 < s → s ≤ t → mo s (d - t + s) = mo' s (d - t + s)) → Dm k e st mo t d = Dm k e st mo' t d
  | 0, d, _, h0, _ => D0_cong (fun x hx => h0 x (by omega))
  | t + 1, d, htd, h0, h1 => by
    rw [Dm, Dm, Dm_cong t (d - 1) (by omega) (fun x hx => h0 x (by omega)) (fun s hs hst => by
      have := h1 s hs (by omega)
      rw [show d - (t + 1) + s = d - 1 - t + s by omega] at this
      exact this)]
    have := h1 (t + 1) (by omega) (by omega)
    rw [show d - (t + 1) + (t + 1) = d by omega] at this
    rw [this]
def wbf (z : Nat) : Nat → Nat := fun x => if x = z then 5 else 0
theorem wbf_le (z x : Nat) : wbf z x ≤ 5 := by unfold wbf; split <;> omega
/-- what is done if warned in town w on the way -/
def xw (h : Nat → Nat → Nat) (p t d w : Nat) : Int32 := nI (dn h (wbf (20 * w + (d - t + w))) p (lv h) t d)
theorem dn_off {h : Nat → Nat → Nat} {p t d w e : Nat} (htd : t ≤ d) (hd : d < 20) (hw : 0 < w) (he : e < 20) (hne : ¬ e = d - t + w) : dn h (wbf (20 * w + e)) p (lv h) t d = dn h (fun _ => 0) p (lv h) t d := by
  unfold dn
  refine Dm_cong t d htd (fun x hx => ?_) (fun s hs hst => ?_)
  · show wbf (20 * w + e) (20 * 0 + x) + _ = 0 + _
    unfold wbf
    rw [if_neg (by omega)]
  · show wbf (20 * w + e) (20 * s + (d - t + s)) + _ = 0 + _
    unfold wbf
    rw [if_neg (by omega)]
theorem doneIfWarned0 {c : CS} {h : Nat → Nat → Nat} (hv : ChV h) (hc : ChC c h) {t d p w : Nat} (ht : t < 5) (hd : d < 20) (htd : t ≤ d) (hp : p < h 0 0) (hw : 0 < w) (hwt : w ≤ t) :
    ∃ c', f_X0_doneIfWarned c (nI t) (nI d) (nI p) (nI w) = some (xw h p t d w, c') ∧ ∀ q, q ≠ 13 → c' q = c q := by
  have v0 : h 0 0 ≤ 5 := hv.1
  unfold f_X0_doneIfWarned f_X0_doneIfWarned_18
  rcases isReached0 hv hc (nI t) (nI d) (nI p) with ⟨t', d', p', q1, q2, q3, q4, q5, q6, q7, e⟩ | ⟨hn, e⟩
  · obtain ⟨c1, e1, g1, g2⟩ := gather0 hv hc ht hd htd (show p < 5 by omega) (lvh_lt' hv)
    have hme := erx_le hv p (lv h) (20 * w + (d - t + w))
    rw [e, ob1_s, if_neg (show ¬ (1 : Int32) = 0 by decide), p_isTown5, ob1_s, if_bI, nI_toInt (by omega), if_pos (show (0 : Int) ≤ (w : Nat) ∧ ((w : Nat) : Int) < 5 by omega), unmended0 hv hc, ob1_s, e1, ob1_s, ck_t _ (inb_nI (show w < 5 by omega) (by omega)), ck_t _ (inb_nI (show w < 5 by omega) (by omega)), nI_clamp (by omega), g2 w (by omega), mre_s hv hd htd hw hwt, show nI (erx h p (lv h) (20 * w + (d - t + w))) + (5 : Int32) = nI (erx h p (lv h) (20 * w + (d - t + w)) + 5) from nI_add _ 5]
    have g3 : ∀ q, q ≠ 13 → cset c1 13 w (nI (erx h p (lv h) (20 * w + (d - t + w)) + 5)) q = c q := fun q hq => by rw [cset_ne _ _ _ _ _ hq]; exact g1 q hq
    rw [arrive0 hv (hc.fr g3) (real := lv h) (wbf (20 * w + (d - t + w))) (fun x _ => wbf_le _ _) (fun x hx => if_neg (by omega)) ht hd htd hp (by rw [cset_at, if_neg (by omega)]; exact g2 0 (by omega)) (fun s h0 h1 => by
      rw [cset_at]
      unfold wbf
      by_cases es : s = w
      · subst es; rw [if_pos rfl, if_pos rfl, Nat.add_comm]
      · rw [if_neg es, if_neg (by omega), Nat.zero_add, g2 s (by omega), mre_s hv hd htd h0 h1]), ob1_s]
    exact ⟨_, rfl, g3⟩
  · exact absurd ⟨t, d, p, ht, hd, htd, hp, rfl, rfl, rfl⟩ hn
theorem warn_69 {h : Nat → Nat → Nat} (hv : ChV h) (N : JS) (K : Int32 → Int32 → Int32 → Int32 → Int32 → CS → JS → Option (Int32 × CS)) {t d p e : Nat} {x4 : Int32} (ht : t < 5) (hd : d < 20) (htd : t ≤ d) (hp : p < h 0 0) (he : e ≤ d) (hx : nI (dn h (fun _ => 0) p (lv h) t d) = x4) :
    ∀ (n w : Nat) (M : CS), 0 < w → w ≤ t + 1 → t + 1 - w < n → ChM (M 4) h → ∃ M', FrM M M' ∧ f_X6_warn_69 K n (nI t) (nI d) (nI p) x4 (nI e) (nI w) M N = if d - t + w ≤ e ∧ ¬ xw h p t d (e - (d - t)) = x4 then some (nI e, cset M' 7 0 (nI (e - (d - t)))) else K (nI t) (nI d) (nI p) x4 (nI (e + 1)) M' N := by
  intro n
  induction n with
  | zero => intro w M _ h1 h2; exact absurd h2 (by omega)
  | succ n ih =>
    intro w M h0 h1 h2 hm
    rw [f_X6_warn_69]
    by_cases hw : t < w
    · rw [if_pos (nI_lt hw (by omega)), nI_1]
      exact ⟨M, FrM.rfl' M, by rw [if_neg (by omega)]⟩
    · obtain ⟨M1, e1, g1, g2⟩ := lays6 N hv hm hp (lvh_lt' hv) (wbf (20 * w + e)) (fun x _ => wbf_le _ _) (nI (20 * w + e)) (fun x hx => by
        unfold wbf
        by_cases q : x = 20 * w + e
        · rw [if_pos q, if_pos (by rw [q])]; rfl
        · rw [if_neg q, if_neg (fun z => q ((nI_eq (by omega) (by omega)).mp z))]; rfl)
      rw [if_neg (nI_nlt (by omega) (by omega)), live6 hv hm, ob1_s, ix_20, ix_20, e1, ob1_s, ck_t _ (inb_nI (show 20 * t + d < 100 by omega) (by omega)), nI_clamp (by omega), g2 t d ht hd, if_neg (show ¬ d < t by omega), nI_1]
      obtain ⟨M', l1, l2⟩ := ih (w + 1) M1 (by omega) (by omega) (by omega) ((FrM.lay g1).m hm)
      by_cases hq : e = d - t + w
      · have hx2 : nI (dn h (wbf (20 * w + e)) p (lv h) t d) = xw h p t d (e - (d - t)) := by
          unfold xw
          rw [show e - (d - t) = w by omega, hq]
        rw [hx2]
        by_cases hy : xw h p t d (e - (d - t)) = x4
        · rw [if_pos hy]
          exact ⟨M', (FrM.lay g1).trans l1, by rw [l2, if_neg (fun z => z.2 hy), if_neg (fun z => z.2 hy)]⟩
        · rw [if_neg hy]
          exact ⟨M1, FrM.lay g1, by rw [if_pos ⟨by omega, hy⟩, show e - (d - t) = w by omega]; rfl⟩
      · rw [dn_off htd hd h0 (by omega) hq, if_pos hx]
        refine ⟨M', (FrM.lay g1).trans l1, ?_⟩
        rw [l2]
        by_cases hz : d - t + (w + 1) ≤ e ∧ ¬ xw h p t d (e - (d - t)) = x4
        · rw [if_pos hz, if_pos ⟨by omega, hz.2⟩]
        · rw [if_neg hz, if_neg (fun z => hz ⟨by omega, z.2⟩)]
/-- both, once the days have met -/
theorem warn_both {h : Nat → Nat → Nat} (hv : ChV h) (J : Nat → JS) (N : JS) {t d p : Nat} {x4 : Int32} (ht : t < 5) (hd : d < 20) (htd : t ≤ d) (hp : p < h 0 0) (hx : nI (dn h (fun _ => 0) p (lv h) t d) = x4) :
    ∀ (k n n' w : Nat) (I : Nat → CS) (M : CS), 0 < w → w + k = t + 1 → k < n → k < n' → h 3 0 ≤ d - t + w → ChC (I 0) h → ChM (M 4) h → Rel I J M N →
      ∃ r I' M', f_X5_warn_61 n (nI t) (nI d) (nI p) x4 (nI w) I J = some (r, I') ∧ f_X6_warn_60 n' (nI t) (nI d) (nI p) x4 (nI (d - t + w)) M N = some (r, M') ∧ Rel I' J M' N := by
  have v3 : h 3 0 ≤ 19 := hv.2.2.2.1
  intro k
  induction k with
  | zero =>
    intro n n' w I M h0 h1 hn hn' h3 hc hm R
    obtain ⟨n, rfl⟩ : ∃ u, n = u + 1 := ⟨n - 1, by omega⟩
    obtain ⟨n', rfl⟩ : ∃ u, n' = u + 1 := ⟨n' - 1, by omega⟩
    rw [f_X5_warn_61, f_X6_warn_60, if_pos (nI_lt (show t < w by omega) (by omega)), if_pos (nI_lt (show d < d - t + w by omega) (by omega))]
    exact ⟨_, _, _, rfl, rfl, R⟩
  | succ k ih =>
    intro n n' w I M h0 h1 hn hn' h3 hc hm R
    obtain ⟨n, rfl⟩ : ∃ u, n = u + 1 := ⟨n - 1, by omega⟩
    obtain ⟨n', rfl⟩ : ∃ u, n' = u + 1 := ⟨n' - 1, by omega⟩
    obtain ⟨c1, e1, g1⟩ := doneIfWarned0 hv hc ht hd htd hp h0 (show w ≤ t by omega)
    obtain ⟨M1, l1, l2⟩ := warn_69 hv N (f_X6_warn_60 n') (e := d - t + w) ht hd htd hp (by omega) hx FU 1 M (by omega) (by omega) (FU_ge (by omega)) hm
    have l2' : f_X6_warn_69 (f_X6_warn_60 n') FU (nI t) (nI d) (nI p) x4 (nI (d - t + w)) 1 M N = _ := l2
    rw [f_X5_warn_61, f_X6_warn_60, if_neg (nI_nlt (show w ≤ t by omega) (by omega)), if_neg (nI_nlt (show d - t + w ≤ d by omega) (by omega)), pk_sub htd, nI_add, hc.2.2.2.1, if_neg (nI_nlt h3 (by omega)), e1, ob2_s, l2', show d - t + w - (d - t) = w by omega]
    unfold f_X5_warn_116
    rw [nI_1]
    have R1 := R.fr (FrI.c g1) l1 (J' := J) rfl
    by_cases hy : xw h p t d w = x4
    · rw [if_pos hy, if_neg (fun z => z.2 hy)]
      exact ih n n' (w + 1) (gset I 0 c1) M1 (by omega) (by omega) (by omega) (by omega) (by omega) (hc.fr g1) (l1.m hm) R1
    · rw [if_neg hy, if_pos ⟨by omega, hy⟩]
      exact ⟨_, _, _, rfl, rfl, R1.ask _⟩
theorem warn_skip5 {h : Nat → Nat → Nat} (hv : ChV h) (J : Nat → JS) {t d p : Nat} {x4 : Int32} (ht : t < 5) (hd : d < 20) (htd : t ≤ d) {I : Nat → CS} (hc : ChC (I 0) h) :
    ∀ (k n w : Nat), w + k ≤ t + 1 → k < n → (∀ u, w ≤ u → u < w + k → d - t + u < h 3 0) → f_X5_warn_61 n (nI t) (nI d) (nI p) x4 (nI w) I J = f_X5_warn_61 (n - k) (nI t) (nI d) (nI p) x4 (nI (w + k)) I J := by
  have v3 : h 3 0 ≤ 19 := hv.2.2.2.1
  intro k
  induction k with
  | zero => intro n w _ _ _; rfl
  | succ k ih =>
    intro n w h1 hn hu
    obtain ⟨n, rfl⟩ : ∃ u, n = u + 1 := ⟨n - 1, by omega⟩
    rw [f_X5_warn_61, if_neg (nI_nlt (show w ≤ t by omega) (by omega)), pk_sub htd, nI_add, hc.2.2.2.1, if_pos (nI_lt (hu w (by omega) (by omega)) (by omega))]
    unfold f_X5_warn_116
    rw [nI_1, ih n (w + 1) (by omega) (by omega) (fun u h1 h2 => hu u (by omega) (by omega)), show w + 1 + k = w + (k + 1) by omega, show n + 1 - (k + 1) = n - k by omega]
theorem warn_skip6 {h : Nat → Nat → Nat} (hv : ChV h) (N : JS) {t d p : Nat} {x4 : Int32} (ht : t < 5) (hd : d < 20) (htd : t ≤ d) (hp : p < h 0 0) (hx : nI (dn h (fun _ => 0) p (lv h) t d) = x4) :
    ∀ (k n e : Nat) (M : CS), e + k ≤ d - t + 1 → e ≤ d → k < n → ChM (M 4) h → ∃ M', FrM M M' ∧ f_X6_warn_60 n (nI t) (nI d) (nI p) x4 (nI e) M N = f_X6_warn_60 (n - k) (nI t) (nI d) (nI p) x4 (nI (e + k)) M' N := by
  intro k
  induction k with
  | zero => intro n e M _ _ _ _; exact ⟨M, FrM.rfl' M, rfl⟩
  | succ k ih =>
    intro n e M h1 hed hn hm
    obtain ⟨n, rfl⟩ : ∃ u, n = u + 1 := ⟨n - 1, by omega⟩
    obtain ⟨M1, l1, l2⟩ := warn_69 hv N (f_X6_warn_60 n) (e := e) ht hd htd hp hed hx FU 1 M (by omega) (by omega) (FU_ge (by omega)) hm
    have l2' : f_X6_warn_69 (f_X6_warn_60 n) FU (nI t) (nI d) (nI p) x4 (nI e) 1 M N = _ := l2
    rw [f_X6_warn_60, if_neg (nI_nlt hed (by omega)), l2', if_neg (fun z => absurd z.1 (by omega))]
    by_cases hk : k = 0
    · subst hk
      exact ⟨M1, l1, rfl⟩
    · obtain ⟨M2, k1, k2⟩ := ih n (e + 1) M1 (by omega) (by omega) (by omega) (l1.m hm)
      exact ⟨M2, l1.trans k1, by rw [k2, show e + 1 + k = e + (k + 1) by omega, show n + 1 - (k + 1) = n - k by omega]⟩
theorem o_warn : Op_warn := by
  intro I J M N y1 y2 y3 y4 R
  obtain ⟨h, hv, hc, ha⟩ := R.2.2.2.1
  have v0 : h 0 0 ≤ 5 := hv.1
  have v3 : h 3 0 ≤ 19 := hv.2.2.2.1
  have e1 : (1 : Int32).toInt = 1 := by decide
  unfold f_X5_warn f_X6_warn f_X5_warn_38 f_X6_warn_35
  rw [p_isTown5, ob1_s, if_bI, p_in6i, ob1_s, if_bI, p_isDay5, p_isDay6, ob1_s, ob1_s, if_bI, if_bI, p_isPerson0 hv hc, p_isPerson6 hv ha, ob1_s, ob1_s, if_bI, if_bI, p_isDeed5, p_isDeed6, ob1_s, ob1_s, if_bI, if_bI, show (1 : Int64).toInt = 1 by decide, show (4 : Int64).toInt = 4 by decide]
  by_cases h1 : 1 ≤ y1.toInt ∧ y1.toInt ≤ 4
  · rw [if_pos (show 0 ≤ y1.toInt ∧ y1.toInt < 5 by omega), if_pos h1, if_neg (show ¬ y1 < 1 by rw [i32_lt, e1]; omega)]
    by_cases h2 : 0 ≤ y2.toInt ∧ y2.toInt < 20
    · rw [if_pos h2, if_pos h2]
      by_cases h3 : 0 ≤ y3.toInt ∧ y3.toInt < (h 0 0 : Nat)
      · rw [if_pos h3, if_pos h3]
        by_cases h4 : 0 ≤ y4.toInt ∧ y4.toInt < 10
        · rw [if_pos h4, if_pos h4]
          obtain ⟨t, ht, rfl⟩ := ix_of (x := y1) (n := 5) (by omega) (by omega) (by omega)
          obtain ⟨d, hd, rfl⟩ := ix_of (n := 20) h2.1 h2.2 (by omega)
          obtain ⟨p, hp, rfl⟩ := ix_of h3.1 h3.2 (by omega)
          rw [nI_toInt (by omega)] at h1
          obtain ⟨c', e, g⟩ := done0 hv hc ht hd hp
          obtain ⟨M', e', g'⟩ := doing6 N hv ha hp ht hd
          have R1 := R.fr (FrI.c g) (FrM.lay g') (J' := J) rfl
          have ha' := (FrM.lay g').m ha
          rw [e, e', ob2_s, ob2_s]
          by_cases hx : dnI h p (lv h) t d = y4
          · rw [if_pos hx, if_pos hx, ha'.2.2.1]
            have htd : t ≤ d := by
              refine Nat.not_lt.mp (fun q => ?_)
              unfold dnI at hx
              rw [if_pos q] at hx
              rw [← hx, m9] at h4
              omega
            have hx' : nI (dn h (fun _ => 0) p (lv h) t d) = y4 := by
              unfold dnI at hx
              rw [if_neg (by omega)] at hx
              exact hx
            have hc' : ChC (gset I 0 c' 0) h := hc.fr g
            by_cases hq : h 3 0 ≤ d - t + 1
            · obtain ⟨M2, k1, k2⟩ := warn_skip6 hv N ht hd htd hp hx' (d - t + 1 - h 3 0) FU (h 3 0) M' (by omega) (by omega) (FU_ge (by omega)) ha'
              rw [show h 3 0 + (d - t + 1 - h 3 0) = d - t + 1 by omega] at k2
              rw [k2]
              exact warn_both hv J N ht hd htd hp hx' t FU (FU - (d - t + 1 - h 3 0)) 1 _ M2 (by omega) (by omega) (FU_ge (by omega)) (by have : (24 : Nat) < FU := FU_ge (by omega); omega) hq hc' (k1.m ha') (R1.fr (FrI.rfl' _) k1 rfl)
            · have hs := warn_skip5 (p := p) (x4 := y4) hv J ht hd htd hc' (min (t + 1) (h 3 0 - (d - t)) - 1) FU 1 (by omega) (FU_ge (by omega)) (fun u h1 h2 => by omega)
              have hs' : f_X5_warn_61 FU (nI t) (nI d) (nI p) y4 1 (gset I 0 c') J = _ := hs
              rw [hs']
              by_cases hz : h 3 0 ≤ d
              · rw [show 1 + (min (t + 1) (h 3 0 - (d - t)) - 1) = h 3 0 - (d - t) by omega]
                have := warn_both hv J N ht hd htd hp hx' (t + 1 - (h 3 0 - (d - t))) (FU - (min (t + 1) (h 3 0 - (d - t)) - 1)) FU (h 3 0 - (d - t)) _ M' (by omega) (by omega) (by have : (24 : Nat) < FU := FU_ge (by omega); omega) (FU_ge (by omega)) (by omega) hc' ha' R1
                rw [show d - t + (h 3 0 - (d - t)) = h 3 0 by omega] at this
                exact this
              · rw [show 1 + (min (t + 1) (h 3 0 - (d - t)) - 1) = t + 1 by omega]
                obtain ⟨u, hu⟩ : ∃ u, FU - (min (t + 1) (h 3 0 - (d - t)) - 1) = u + 1 := ⟨FU - (min (t + 1) (h 3 0 - (d - t)) - 1) - 1, by have : (24 : Nat) < FU := FU_ge (by omega); omega⟩
                obtain ⟨u', hu'⟩ : ∃ u, FU = u + 1 := ⟨FU - 1, by have : (24 : Nat) < FU := FU_ge (by omega); omega⟩
                rw [hu, f_X5_warn_61, if_pos (nI_lt (by omega) (by omega)), hu', f_X6_warn_60, if_pos (nI_lt (by omega) (by omega))]
                exact ⟨_, _, _, rfl, rfl, R1⟩
          · rw [if_neg hx, if_neg hx]; exact ⟨_, _, _, rfl, rfl, R1⟩
        · rw [if_neg h4, if_neg h4]; exact ⟨_, _, _, rfl, rfl, R⟩
      · rw [if_neg h3, if_neg h3]; exact ⟨_, _, _, rfl, rfl, R⟩
    · rw [if_neg h2, if_neg h2]; exact ⟨_, _, _, rfl, rfl, R⟩
  · rw [if_neg h1]
    by_cases h0 : 0 ≤ y1.toInt ∧ y1.toInt < 5
    · rw [if_pos h0, if_pos (show y1 < 1 by rw [i32_lt, e1]; omega)]; exact ⟨_, _, _, rfl, rfl, R⟩
    · rw [if_neg h0]; exact ⟨_, _, _, rfl, rfl, R⟩
