/-! ===== the class's way of what is done ===== -/
theorem ChC.fr {c c' : CS} {h : Nat → Nat → Nat} (hc : ChC c h) (e : ∀ q, q ≠ 13 → c' q = c q) : ChC c' h := by
  unfold ChC
  rw [e 0 (by decide), e 1 (by decide), e 2 (by decide), e 3 (by decide), e 4 (by decide), e 5 (by decide), e 6 (by decide), e 7 (by decide), e 8 (by decide), e 9 (by decide), e 10 (by decide), e 11 (by decide), e 12 (by decide)]
  exact hc
theorem repeated0 {k v d : Nat} (hk : k ≤ 5) (hv : v < 10) (hd : d < 1000) : f_X0_repeated (nI k) (nI v) (nI d) = some (nI (bey k d v)) := by
  rw [← beyond6 hk hv hd]
  rcases (show k = 0 ∨ k = 1 ∨ k = 2 ∨ k = 3 ∨ k = 4 ∨ k = 5 by omega) with rfl | rfl | rfl | rfl | rfl | rfl <;> rfl
theorem isAlso0_lazy {k : Nat} (hk : k ≤ 5) : f_X0_isAlso (nI k) 2 = some (bI (lazyB k = true)) := by
  rcases (show k = 0 ∨ k = 1 ∨ k = 2 ∨ k = 3 ∨ k = 4 ∨ k = 5 by omega) with rfl | rfl | rfl | rfl | rfl | rfl <;> rfl
/-- whether an error is met on the way to a town and a day, in town s -/
abbrev hit (h : Nat → Nat → Nat) (t d p i s : Nat) : Prop := h 10 i = p ∧ ((s = 0 ∧ h 8 i = 0 ∧ h 9 i ≤ d - t) ∨ (0 < s ∧ s ≤ t ∧ h 8 i = s ∧ h 9 i = d - t + s))
theorem meets0 {c : CS} {h : Nat → Nat → Nat} (hv : ChV h) (hc : ChC c h) {i t d p : Nat} (hi : i < h 1 0) (ht : t < 5) (hd : d < 20) (htd : t ≤ d) (hp : p < 5) :
    (∃ s, s < 5 ∧ hit h t d p i s ∧ f_X0_meets c (nI i) (nI t) (nI d) (nI p) = some (nI s)) ∨ ((∀ s, ¬ hit h t d p i s) ∧ f_X0_meets c (nI i) (nI t) (nI d) (nI p) = some (-9)) := by
  obtain ⟨c0, c1, c2, c3, c4, c5, c6, c7⟩ := hc
  obtain ⟨v0, v1, v2, v3, v4, v5, v6, v7⟩ := hv
  obtain ⟨b1, b2, b3, b4⟩ := c6 i hi
  obtain ⟨w1, w2, w3, w4, w5⟩ := v6 i hi
  have e : f_X0_meets c (nI i) (nI t) (nI d) (nI p) = if h 10 i = p then (if h 8 i = 0 then (if h 9 i ≤ d - t then some (nI 0) else some (-9)) else if h 8 i ≤ t ∧ h 9 i = d - t + h 8 i then some (nI (h 8 i)) else some (-9)) else some (-9) := by
    unfold f_X0_meets f_X0_meets_21 f_X0_meets_54 f_X0_meets_80 f_X0_meets_82
    rw [pk_sub htd, if_neg (nI_pos (by omega)), ck_t _ (inb_nI (show i < 12 by omega) (by omega)), nI_clamp (by omega), b1, b2, b3]
    by_cases h1 : h 10 i = p
    · rw [if_pos ((nI_eq (by omega) (by omega)).mpr h1), if_pos h1, ck_t _ (inb_nI (show i < 12 by omega) (by omega))]
      by_cases h2 : h 8 i = 0
      · rw [h2, if_pos nI_0, if_pos rfl, ck_t _ (inb_nI (show i < 12 by omega) (by omega))]
        by_cases h3 : h 9 i ≤ d - t
        · rw [if_neg (nI_nlt h3 (by omega)), if_pos h3]; rfl
        · rw [if_pos (nI_lt (by omega) (by omega)), if_neg h3]
      · rw [if_neg (nI_ne0 (by omega) (by omega)), if_neg h2]
        by_cases h3 : h 8 i ≤ t
        · rw [if_neg (nI_nlt h3 (by omega)), ck_t _ (inb_nI (show i < 12 by omega) (by omega))]
          by_cases h4 : h 9 i = d - t + h 8 i
          · rw [if_pos (show h 8 i ≤ t ∧ h 9 i = d - t + h 8 i from ⟨h3, h4⟩), pk_sub (show h 8 i ≤ h 9 i by omega), if_pos (by rw [h4, Nat.add_sub_cancel])]
          · rw [if_neg (show ¬ (h 8 i ≤ t ∧ h 9 i = d - t + h 8 i) from fun q => h4 q.2)]
            rw [if_neg (fun q => ?_)]
            rw [i32_eq, pk_sub_toInt (by omega) (by omega), nI_toInt (by omega)] at q
            omega
        · rw [if_pos (nI_lt (by omega) (by omega)), if_neg (show ¬ (h 8 i ≤ t ∧ h 9 i = d - t + h 8 i) from fun q => h3 q.1)]
    · rw [if_neg (fun q => h1 ((nI_eq (by omega) (by omega)).mp q)), if_neg h1]
  rw [e]
  by_cases h1 : h 10 i = p
  · rw [if_pos h1]
    by_cases h2 : h 8 i = 0
    · rw [if_pos h2]
      by_cases h3 : h 9 i ≤ d - t
      · rw [if_pos h3]; exact Or.inl ⟨0, by omega, ⟨h1, Or.inl ⟨rfl, h2, h3⟩⟩, rfl⟩
      · rw [if_neg h3]; exact Or.inr ⟨fun s q => by rcases q.2 with q | q <;> omega, rfl⟩
    · rw [if_neg h2]
      by_cases h3 : h 8 i ≤ t ∧ h 9 i = d - t + h 8 i
      · rw [if_pos h3]; exact Or.inl ⟨h 8 i, by omega, ⟨h1, Or.inr ⟨by omega, h3.1, rfl, h3.2⟩⟩, rfl⟩
      · rw [if_neg h3]; exact Or.inr ⟨fun s q => by rcases q.2 with q | q <;> omega, rfl⟩
  · rw [if_neg h1]; exact Or.inr ⟨fun s q => h1 q.1, rfl⟩
theorem hit_one {h : Nat → Nat → Nat} {t d p i s s' : Nat} (a : hit h t d p i s) (b : hit h t d p i s') : s = s' := by
  rcases a.2 with a | a <;> rcases b.2 with b | b <;> omega
def mre (h : Nat → Nat → Nat) (t d p real s n : Nat) : Nat := sm (fun i => if real.testBit i = true ∧ hit h t d p i s then h 11 i else 0) n
theorem gather_26 {h : Nat → Nat → Nat} (hv : ChV h) {t d p real : Nat} (ht : t < 5) (hd : d < 20) (htd : t ≤ d) (hp : p < 5) (hr : real < 2 ^ 31) :
    ∀ (n i : Nat) (c : CS), i ≤ h 1 0 → h 1 0 - i < n → ChC c h → (∀ s, s < 5 → c 13 s = nI (mre h t d p real s i)) →
      ∃ c', f_X0_gather_26 n (nI t) (nI d) (nI p) (nI real) (nI i) c = some c' ∧ (∀ q, q ≠ 13 → c' q = c q) ∧ ∀ s, s < 5 → c' 13 s = nI (mre h t d p real s (h 1 0)) := by
  have v1 : h 1 0 ≤ 12 := hv.2.1
  intro n
  induction n with
  | zero => intro i c h1 h2; exact absurd h2 (by omega)
  | succ n ih =>
    intro i c h1 h2 hc hm
    rw [f_X0_gather_26, hc.2.1]
    by_cases hi : h 1 0 ≤ i
    · rw [if_pos (nI_le hi (by omega))]
      have : i = h 1 0 := by omega
      exact ⟨c, rfl, fun _ _ => rfl, by rw [← this]; exact hm⟩
    · have hi' : i < h 1 0 := Nat.not_le.mp hi
      have b4 := (hc.2.2.2.2.2.2.1 i hi').2.2.2
      have skip : (∀ s, s < 5 → ¬ (real.testBit i = true ∧ hit h t d p i s)) → ∃ c', f_X0_gather_59 (f_X0_gather_26 n) (nI t) (nI d) (nI p) (nI real) (nI i) (-9) c = some c' ∧ (∀ q, q ≠ 13 → c' q = c q) ∧ ∀ s, s < 5 → c' 13 s = nI (mre h t d p real s (h 1 0)) := by
        intro hn
        unfold f_X0_gather_59 f_X0_gather_89
        rw [if_pos (by decide), nI_1]
        exact ih (i + 1) c (by omega) (by omega) hc (fun s hs => by rw [hm s hs, mre, mre, smf_succ, if_neg (hn s hs)]; rfl)
      rw [if_neg (nI_ge hi' (by omega)), bit_at hr (by omega)]
      by_cases hb : real / 2 ^ i % 2 = 1
      · rw [hb, if_neg (by decide)]
        have hb' := (tb_iff real i).mpr hb
        rcases meets0 hv hc hi' ht hd htd hp with ⟨s0, hs0, hh, e⟩ | ⟨hh, e⟩
        · rw [e, ob1_s]
          unfold f_X0_gather_59 f_X0_gather_89
          rw [if_neg (nI_pos (by omega)), if_neg (show ¬ (5 : Int32) ≤ nI s0 from nI_ge (b := 5) hs0 (by omega)), ck_t _ (inb_nI hs0 (by omega)), ck_t _ (inb_nI (show i < 12 by omega) (by omega)), ck_t _ (inb_nI hs0 (by omega)), nI_clamp (by omega), nI_clamp (by omega), b4, hm s0 hs0, nI_add, nI_1]
          obtain ⟨c', e1, g1, g2⟩ := ih (i + 1) (cset c 13 s0 (nI (mre h t d p real s0 i + h 11 i))) (by omega) (by omega) (hc.fr (fun q hq => cset_ne _ _ _ _ _ hq)) (fun s hs => by
            rw [cset_at, mre, mre, smf_succ]
            by_cases hss : s = s0
            · subst hss; rw [if_pos rfl, if_pos ⟨hb', hh⟩]
            · rw [if_neg hss, hm s hs, if_neg (fun q => hss (hit_one q.2 hh))]; rfl)
          exact ⟨c', e1, fun q hq => by rw [g1 q hq, cset_ne _ _ _ _ _ hq], g2⟩
        · rw [e, ob1_s]
          exact skip (fun s _ q => hh s q.2)
      · rw [show real / 2 ^ i % 2 = 0 by omega, if_pos nI_0]
        exact skip (fun s _ q => hb ((tb_iff real i).mp q.1))
theorem gather_3 {h : Nat → Nat → Nat} (hv : ChV h) {t d p real : Nat} (ht : t < 5) (hd : d < 20) (htd : t ≤ d) (hp : p < 5) (hr : real < 2 ^ 31) :
    ∀ (n i : Nat) (c : CS), i ≤ 5 → 5 - i < n → ChC c h → (∀ s, s < i → c 13 s = nI 0) →
      ∃ c', f_X0_gather_3 n (nI t) (nI d) (nI p) (nI real) (nI i) c = some c' ∧ (∀ q, q ≠ 13 → c' q = c q) ∧ ∀ s, s < 5 → c' 13 s = nI (mre h t d p real s (h 1 0)) := by
  intro n
  induction n with
  | zero => intro i c h1 h2; exact absurd h2 (by omega)
  | succ n ih =>
    intro i c h1 h2 hc hm
    rw [f_X0_gather_3]
    by_cases hi : 5 ≤ i
    · rw [if_pos (show (5 : Int32) ≤ nI i from nI_le (a := 5) hi (by omega))]
      have hE : h 1 0 ≤ 12 := hv.2.1
      exact gather_26 hv ht hd htd hp hr FU 0 c (by omega) (FU_ge (by omega)) hc (fun s hs => hm s (by omega))
    · rw [if_neg (show ¬ (5 : Int32) ≤ nI i from nI_ge (b := 5) (Nat.not_le.mp hi) (by omega)), ck_t _ (inb_nI (Nat.not_le.mp hi) (by omega)), nI_clamp (by omega), nI_1]
      obtain ⟨c', e1, g1, g2⟩ := ih (i + 1) (cset c 13 i 0) (by omega) (by omega) (hc.fr (fun q hq => cset_ne _ _ _ _ _ hq)) (fun s hs => by
        rw [cset_at]
        by_cases hss : s = i
        · rw [if_pos hss]; rfl
        · rw [if_neg hss]; exact hm s (by omega))
      exact ⟨c', e1, fun q hq => by rw [g1 q hq, cset_ne _ _ _ _ _ hq], g2⟩
theorem gather0 {c : CS} {h : Nat → Nat → Nat} (hv : ChV h) (hc : ChC c h) {t d p real : Nat} (ht : t < 5) (hd : d < 20) (htd : t ≤ d) (hp : p < 5) (hr : real < 2 ^ 31) :
    ∃ c', f_X0_gather c (nI t) (nI d) (nI p) (nI real) = some c' ∧ (∀ q, q ≠ 13 → c' q = c q) ∧ ∀ s, s < 5 → c' 13 s = nI (mre h t d p real s (h 1 0)) := by
  unfold f_X0_gather
  exact gather_3 hv ht hd htd hp hr FU 0 c (by omega) (FU_ge (by omega)) hc (fun s hs => absurd hs (by omega))
/-- what is gathered is what the table holds on the way -/
theorem mre_s {h : Nat → Nat → Nat} (hv : ChV h) {t d p real s : Nat} (hd : d < 20) (htd : t ≤ d) (hs0 : 0 < s) (hs : s ≤ t) : mre h t d p real s (h 1 0) = erx h p real (20 * s + (d - t + s)) := by
  refine sm_cong (fun i hi => ?_)
  obtain ⟨w1, w2, w3, w4, w5⟩ := hv.2.2.2.2.2.2.1 i hi
  show (if _ then h 11 i else 0) = if _ then h 11 i else 0
  by_cases q : h 10 i = p ∧ real.testBit i = true ∧ 20 * h 8 i + h 9 i = 20 * s + (d - t + s)
  · rw [if_pos q, if_pos ⟨q.2.1, q.1, Or.inr ⟨hs0, hs, by omega, by omega⟩⟩]
  · rw [if_neg q, if_neg (fun r => q ⟨r.2.1, r.1, ?_⟩)]
    rcases r.2.2 with r | r <;> omega
theorem mre_0 {h : Nat → Nat → Nat} (hv : ChV h) {t d p real : Nat} (hd : d < 20) (htd : t ≤ d) : mre h t d p real 0 (h 1 0) = sm (fun x => erx h p real x) (d - t + 1) := by
  unfold erx
  rw [sm_swap (fun x i => if h 10 i = p ∧ real.testBit i = true ∧ 20 * h 8 i + h 9 i = x then h 11 i else 0)]
  refine sm_cong (fun i hi => ?_)
  obtain ⟨w1, w2, w3, w4, w5⟩ := hv.2.2.2.2.2.2.1 i hi
  show (if _ then h 11 i else 0) = sm (fun x => if h 10 i = p ∧ real.testBit i = true ∧ 20 * h 8 i + h 9 i = x then h 11 i else 0) (d - t + 1)
  by_cases q : h 10 i = p ∧ real.testBit i = true
  · rw [show sm (fun x => if h 10 i = p ∧ real.testBit i = true ∧ 20 * h 8 i + h 9 i = x then h 11 i else 0) (d - t + 1) = sm (fun x => if x = 20 * h 8 i + h 9 i then h 11 i else 0) (d - t + 1) from sm_cong (fun x _ => by
      show (if _ then h 11 i else 0) = if _ then h 11 i else 0
      by_cases r : 20 * h 8 i + h 9 i = x
      · rw [if_pos ⟨q.1, q.2, r⟩, if_pos r.symm]
      · rw [if_neg (fun z => r z.2.2), if_neg (fun z => r z.symm)]), sm_one]
    by_cases r : 20 * h 8 i + h 9 i < d - t + 1
    · rw [if_pos r, if_pos ⟨q.2, q.1, Or.inl ⟨rfl, by omega, by omega⟩⟩]
    · rw [if_neg r, if_neg (fun z => ?_)]
      rcases z.2.2 with z | z <;> omega
  · rw [if_neg (fun z => q ⟨z.2.1, z.1⟩)]
    exact (sm_zero (fun x _ => if_neg (fun z => q ⟨z.1, z.2.1⟩))).symm
/-- the way walked -/
theorem arrive_60 {h : Nat → Nat → Nat} (hv : ChV h) {c : CS} (hc : ChC c h) {t d p real : Nat} (wb : Nat → Nat) (hwb : ∀ x, x < 100 → wb x ≤ 5) (ht : t < 5) (hd : d < 20) (htd : t ≤ d) (hp : p < h 0 0) (hm : ∀ s, 0 < s → s ≤ t → c 13 s = nI (wb (20 * s + (d - t + s)) + erx h p real (20 * s + (d - t + s)))) :
    ∀ (n s : Nat), 0 < s → s ≤ t + 1 → t + 1 - s < n → f_X0_arrive_60 n (nI t) (nI p) (nI (d - t)) (nI (dn h wb p real (s - 1) (d - t + (s - 1)))) (nI s) c = some (nI (dn h wb p real t d)) := by
  have v0 : h 0 0 ≤ 5 := hv.1
  intro n
  induction n with
  | zero => intro s h0 h1 h2; exact absurd h2 (by omega)
  | succ n ih =>
    intro s h0 h1 h2
    rw [f_X0_arrive_60]
    by_cases hs : t < s
    · rw [if_pos (nI_lt hs (by omega)), show s - 1 = t by omega, show d - t + t = d by omega]
    · have hlt := Dm_lt (h 5 p) (h 6 p) (h 7 p) (fun t d => wb (20 * t + d) + erx h p real (20 * t + d)) (s - 1) (d - t + (s - 1))
      have hbl := bey_le (k := h 5 p) (d := d - t + s) hlt
      have h1w := hwb (20 * s + (d - t + s)) (by omega)
      have h2w := erx_le hv p real (20 * s + (d - t + s))
      rw [if_neg (nI_nlt (by omega) (by omega)), ck_t _ (inb_nI (show p < 5 by omega) (by omega)), nI_clamp (by omega), (hc.2.2.2.2.2.1 p hp).1, nI_add]
      unfold dn at ih ⊢
      rw [repeated0 (hv.2.2.2.2.2.1 p hp).1 hlt (by omega), ob1_s, ck_t _ (inb_nI (show s < 5 by omega) (by omega)), nI_clamp (by omega), hm s h0 (by omega), nI_add, jrem_10 (by omega), nI_1]
      refine Eq.trans ?_ (ih (s + 1) (by omega) (by omega) (by omega))
      obtain ⟨u, rfl⟩ : ∃ u, s = u + 1 := ⟨s - 1, by omega⟩
      rfl
theorem arrive0 {h : Nat → Nat → Nat} (hv : ChV h) {c : CS} (hc : ChC c h) {t d p real : Nat} (wb : Nat → Nat) (hwb : ∀ x, x < 100 → wb x ≤ 5) (hw0 : ∀ x, x < 20 → wb x = 0) (ht : t < 5) (hd : d < 20) (htd : t ≤ d) (hp : p < h 0 0) (hm0 : c 13 0 = nI (mre h t d p real 0 (h 1 0))) (hm : ∀ s, 0 < s → s ≤ t → c 13 s = nI (wb (20 * s + (d - t + s)) + erx h p real (20 * s + (d - t + s)))) :
    f_X0_arrive c (nI t) (nI d) (nI p) = some (nI (dn h wb p real t d)) := by
  have v0 : h 0 0 ≤ 5 := hv.1
  obtain ⟨k5, k6, k7⟩ := hv.2.2.2.2.2.1 p hp
  obtain ⟨b5, b6, b7⟩ := hc.2.2.2.2.2.1 p hp
  have hmr : mre h t d p real 0 (h 1 0) ≤ 108 := by
    have h1 : mre h t d p real 0 (h 1 0) ≤ h 1 0 * 9 := sm_le (fun i hi => by
      show (if _ then h 11 i else 0) ≤ 9
      split
      · exact (hv.2.2.2.2.2.2.1 i hi).2.2.2.2
      · omega)
    have : h 1 0 ≤ 12 := hv.2.1
    omega
  have e0 : (h 6 p + strd (h 5 p) (d - t) * h 7 p + mre h t d p real 0 (h 1 0)) % 10 = dn h wb p real 0 (d - t) := by
    unfold dn
    rw [Dm, D0_closed, mre_0 hv hd htd]
    refine congrArg (fun z => (h 6 p + strd (h 5 p) (d - t) * h 7 p + z) % 10) (sm_cong (fun x hx => ?_))
    show erx h p real x = wb (20 * 0 + x) + erx h p real (20 * 0 + x)
    rw [Nat.mul_zero, Nat.zero_add, hw0 x (by omega), Nat.zero_add]
  have hst : strd (h 5 p) (d - t) ≤ 19 := by unfold strd; split <;> omega
  have go : f_X0_arrive_27 (nI t) (nI p) (nI (d - t)) (nI (strd (h 5 p) (d - t))) c = some (nI (dn h wb p real t d)) := by
    have hmul : strd (h 5 p) (d - t) * h 7 p ≤ 19 * 9 := Nat.mul_le_mul hst k7
    unfold f_X0_arrive_27
    rw [ck_t _ (inb_nI (show p < 5 by omega) (by omega)), ck_t _ (inb_nI (show p < 5 by omega) (by omega)), nI_clamp (by omega), b6, b7, hm0, pk_mul, nI_add, nI_add, jrem_10 (by omega), e0]
    exact arrive_60 hv hc wb hwb ht hd htd hp hm FU 1 (by omega) (by omega) (FU_ge (by omega))
  unfold f_X0_arrive
  rw [ck_t _ (inb_nI (show p < 5 by omega) (by omega)), nI_clamp (by omega), b5, isAlso0_lazy k5, ob1_s, if_bI, pk_sub htd]
  unfold strd at go
  by_cases hl : lazyB (h 5 p) = true
  · rw [if_pos hl] at go ⊢
    rw [show (2 : Int32) = nI 2 from rfl, pk_div (by omega) (by omega) (by omega)]
    exact go
  · rw [if_neg hl] at go ⊢
    exact go
theorem isReached0 {c : CS} {h : Nat → Nat → Nat} (hv : ChV h) (hc : ChC c h) (x1 x2 x3 : Int32) : (∃ t d p, t < 5 ∧ d < 20 ∧ t ≤ d ∧ p < h 0 0 ∧ x1 = nI t ∧ x2 = nI d ∧ x3 = nI p ∧ f_X0_isReached c x1 x2 x3 = some 1) ∨ ((¬ ∃ t d p, t < 5 ∧ d < 20 ∧ t ≤ d ∧ p < h 0 0 ∧ x1 = nI t ∧ x2 = nI d ∧ x3 = nI p) ∧ f_X0_isReached c x1 x2 x3 = some 0) := by
  have v0 : h 0 0 ≤ 5 := hv.1
  unfold f_X0_isReached f_X0_isReached_31 f_X0_isReached_32
  rw [p_isTown5, ob1_s, if_bI, p_isDay5, ob1_s, if_bI, p_isPerson, ob1_s, if_bI, hc.1, nI_toInt (by omega)]
  by_cases h1 : 0 ≤ x1.toInt ∧ x1.toInt < 5
  · rw [if_pos h1]
    obtain ⟨t, ht, rfl⟩ := ix_of (n := 5) h1.1 h1.2 (by omega)
    by_cases h2 : 0 ≤ x2.toInt ∧ x2.toInt < 20
    · rw [if_pos h2]
      obtain ⟨d, hd, rfl⟩ := ix_of (n := 20) h2.1 h2.2 (by omega)
      by_cases h3 : t ≤ d
      · rw [if_neg (nI_nlt h3 (by omega))]
        by_cases h4 : 0 ≤ x3.toInt ∧ x3.toInt < (h 0 0 : Nat)
        · rw [if_pos h4]
          obtain ⟨p, hp, rfl⟩ := ix_of h4.1 h4.2 (by omega)
          exact Or.inl ⟨t, d, p, ht, hd, h3, hp, rfl, rfl, rfl, rfl⟩
        · rw [if_neg h4]
          refine Or.inr ⟨fun ⟨t', d', p', q1, q2, q3, q4, q5, q6, q7⟩ => h4 ?_, rfl⟩
          rw [q7, nI_toInt (by omega)]; omega
      · rw [if_pos (nI_lt (by omega) (by omega))]
        refine Or.inr ⟨fun ⟨t', d', p', q1, q2, q3, q4, q5, q6, q7⟩ => h3 ?_, rfl⟩
        rw [nI_eq (by omega) (by omega)] at q5 q6
        omega
    · rw [if_neg h2]
      refine Or.inr ⟨fun ⟨t', d', p', q1, q2, q3, q4, q5, q6, q7⟩ => h2 ?_, rfl⟩
      rw [q6, nI_toInt (by omega)]; omega
  · rw [if_neg h1]
    refine Or.inr ⟨fun ⟨t', d', p', q1, q2, q3, q4, q5, q6, q7⟩ => h1 ?_, rfl⟩
    rw [q5, nI_toInt (by omega)]; omega
/-- what is done at a place, of the class -/
def dnI (h : Nat → Nat → Nat) (p real t d : Nat) : Int32 := if d < t then -9 else nI (dn h (fun _ => 0) p real t d)
theorem doneIf0 {c : CS} {h : Nat → Nat → Nat} (hv : ChV h) (hc : ChC c h) {t d p real : Nat} (ht : t < 5) (hd : d < 20) (hp : p < h 0 0) (hr : real < 2 ^ 31) :
    ∃ c', f_X0_doneIf c (nI t) (nI d) (nI p) (nI real) = some (dnI h p real t d, c') ∧ ∀ q, q ≠ 13 → c' q = c q := by
  have v0 : h 0 0 ≤ 5 := hv.1
  unfold f_X0_doneIf dnI
  rcases isReached0 hv hc (nI t) (nI d) (nI p) with ⟨t', d', p', q1, q2, q3, q4, q5, q6, q7, e⟩ | ⟨hn, e⟩
  · rw [nI_eq (by omega) (by omega)] at q5 q6 q7
    subst q5 q6 q7
    obtain ⟨c', e1, g1, g2⟩ := gather0 hv hc ht hd q3 (show p < 5 by omega) hr
    rw [e, ob1_s, if_neg (by decide), e1, ob1_s, arrive0 hv (hc.fr g1) (fun _ => 0) (fun _ _ => by omega) (fun _ _ => rfl) ht hd q3 hp (g2 0 (by omega)) (fun s h0 h1 => by rw [g2 s (by omega), mre_s hv hd q3 h0 h1, Nat.zero_add]), ob1_s, if_neg (by omega)]
    exact ⟨c', rfl, g1⟩
  · rw [e, ob1_s, if_pos rfl]
    have : d < t := Nat.not_le.mp (fun q => hn ⟨t, d, p, ht, hd, q, hp, rfl, rfl, rfl⟩)
    rw [if_pos this]
    exact ⟨c, rfl, fun _ _ => rfl⟩
