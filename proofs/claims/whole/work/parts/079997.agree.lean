/-! ===== agree ===== -/
/-- fewer, or as few and not above -/
def lex (a b : Nat) : Prop := pc a < pc b ∨ (pc a = pc b ∧ a ≤ b)
theorem lex_trans {a b c : Nat} (h1 : lex a b) (h2 : lex b c) : lex a c := by
  unfold lex at *
  omega
theorem lex_anti {a b : Nat} (h1 : lex a b) (h2 : lex b a) : a = b := by
  unfold lex at *
  omega
theorem or_bit (u v b c : Nat) (hb : b < 2) (hc : c < 2) : (2 * u + b) ||| (2 * v + c) = 2 * (u ||| v) + (b ||| c) := by
  have h1 : ((2 * u + b) ||| (2 * v + c)) / 2 = u ||| v := by
    rw [Nat.or_div_two, show (2 * u + b) / 2 = u by omega, show (2 * v + c) / 2 = v by omega]
  have h2 : ((2 * u + b) ||| (2 * v + c)) % 2 = b ||| c := by
    have := Nat.or_mod_two_pow (a := 2 * u + b) (b := 2 * v + c) (n := 1)
    rw [Nat.pow_one] at this
    rw [this, show (2 * u + b) % 2 = b by omega, show (2 * v + c) % 2 = c by omega]
  omega
theorem or_add : ∀ (k x y : Nat), x < 2 ^ k → x &&& y = 0 → x ||| y = x + y
  | 0, x, y, h1, h2 => by
    rw [Nat.pow_zero] at h1
    rw [show x = 0 by omega, Nat.zero_or, Nat.zero_add]
  | k + 1, x, y, h1, h2 => by
    have hp : 2 ^ (k + 1) = 2 * 2 ^ k := by rw [Nat.pow_succ, Nat.mul_comm]
    rw [hp] at h1
    have ex : 2 * (x / 2) + x % 2 = x := by omega
    have ey : 2 * (y / 2) + y % 2 = y := by omega
    have a1 := and_bit (x / 2) (y / 2) (x % 2) (y % 2) (by omega) (by omega)
    have o1 := or_bit (x / 2) (y / 2) (x % 2) (y % 2) (by omega) (by omega)
    rw [ex, ey] at a1 o1
    rw [h2] at a1
    have i1 := or_add k (x / 2) (y / 2) (by omega) (by omega)
    have i2 : x % 2 ||| y % 2 = x % 2 + y % 2 := by
      rcases (show x % 2 = 0 ∨ x % 2 = 1 by omega) with q | q
      · rw [q, Nat.zero_or, Nat.zero_add]
      · rcases (show y % 2 = 0 ∨ y % 2 = 1 by omega) with r | r
        · rw [q, r]; rfl
        · rw [q, r, show (1 : Nat) &&& 1 = 1 from rfl] at a1
          exact absurd a1 (by omega)
    rw [o1, i1, i2]
    omega
theorem bit_excl {x y : Nat} (h : x &&& y = 0) (i : Nat) : ¬ (x.testBit i = true ∧ y.testBit i = true) := by
  intro q
  have h1 : (x &&& y).testBit i = true := by rw [Nat.testBit_and, q.1, q.2]; rfl
  rw [h, Nat.zero_testBit] at h1
  exact absurd h1 (by decide)
theorem pc_or {x y : Nat} (h : x &&& y = 0) : pc (x ||| y) = pc x + pc y := by
  unfold pc
  rw [← sm_add]
  refine sm_cong (fun i _ => ?_)
  show mbit (x ||| y) i = mbit x i + mbit y i
  have h1 := bit_excl h i
  unfold mbit
  rw [Nat.testBit_or]
  cases e1 : x.testBit i <;> cases e2 : y.testBit i
  · rfl
  · rfl
  · rfl
  · exact absurd ⟨e1, e2⟩ h1
theorem lex_or {a a' b b' : Nat} (h1 : lex a b) (h2 : lex a' b') (ha : a &&& a' = 0) (hb : b &&& b' = 0) (la : a < 4096) (lb : b < 4096) : lex (a ||| a') (b ||| b') := by
  unfold lex at *
  rw [pc_or ha, pc_or hb, or_add 12 a a' la ha, or_add 12 b b' lb hb]
  omega
theorem lex_sub {x y : Nat} (h : x &&& y = x) : lex x y := by
  have h1 := pck_mono 12 x y h
  rw [← pc_pck, ← pc_pck] at h1
  have h2 : x ≤ y := by rw [← h]; exact Nat.and_le_right
  unfold lex
  omega
/-- the best among the first n of a row of sets -/
def Bst (Q : Nat → Prop) (s : Nat → Nat) (n : Nat) (v : Int32) (fw : Nat) : Prop :=
  (v = -9 ∧ fw = 13 ∧ ∀ k, k < n → ¬ Q (s k)) ∨ ∃ k, k < n ∧ v = nI (s k) ∧ fw = pc (s k) ∧ Q (s k) ∧ ∀ x, x < n → Q (s x) → lex (s k) (s x)
theorem Bst.start (Q : Nat → Prop) (s : Nat → Nat) : Bst Q s 0 (-9) 13 := Or.inl ⟨rfl, rfl, fun k hk => absurd hk (by omega)⟩
theorem Bst.no {Q : Nat → Prop} {s : Nat → Nat} {n : Nat} {v : Int32} {fw : Nat} (H : Bst Q s n v fw) (q : ¬ Q (s n)) : Bst Q s (n + 1) v fw := by
  rcases H with ⟨a, b, c⟩ | ⟨k, a, b, c, d, e⟩
  · refine Or.inl ⟨a, b, fun k hk => ?_⟩
    by_cases y : k = n
    · rw [y]; exact q
    · exact c k (by omega)
  · refine Or.inr ⟨k, by omega, b, c, d, fun x hx hQ => ?_⟩
    by_cases y : x = n
    · rw [y] at hQ; exact absurd hQ q
    · exact e x (by omega) hQ
theorem Bst.skip {Q : Nat → Prop} {s : Nat → Nat} {n : Nat} {v : Int32} {fw : Nat} (H : Bst Q s n v fw) (q : fw ≤ pc (s n)) (mono : ∀ k, k < n → s k ≤ s n) : Bst Q s (n + 1) v fw := by
  rcases H with ⟨a, b, c⟩ | ⟨k, a, b, c, d, e⟩
  · have := pc_le (s n); omega
  · refine Or.inr ⟨k, by omega, b, c, d, fun x hx hQ => ?_⟩
    by_cases y : x = n
    · have := mono k a
      rw [y]; unfold lex; omega
    · exact e x (by omega) hQ
theorem Bst.take {Q : Nat → Prop} {s : Nat → Nat} {n : Nat} {v : Int32} {fw : Nat} (H : Bst Q s n v fw) (q : pc (s n) < fw) (hQ : Q (s n)) : Bst Q s (n + 1) (nI (s n)) (pc (s n)) := by
  refine Or.inr ⟨n, by omega, rfl, rfl, hQ, fun x hx hx2 => ?_⟩
  by_cases y : x = n
  · rw [y]; unfold lex; omega
  · rcases H with ⟨a, b, c⟩ | ⟨k, a, b, c, d, e⟩
    · exact absurd hx2 (c x (by omega))
    · have := e x (by omega) hx2
      unfold lex at *
      omega
/-- two towns agree in a person, if some errors more are mended -/
abbrev agr (h : Nat → Nat → Nat) (t u d p S : Nat) : Prop := ¬ df h p (adf (lv h) S) t u d
/-- the person's errors that count -/
def owl (h : Nat → Nat → Nat) (u d p : Nat) : Nat := ow h u d p &&& lv h
theorem owl_bit {h : Nat → Nat → Nat} {u d p i : Nat} (hi : (owl h u d p).testBit i = true) : h 10 i = p := by
  unfold owl ow at hi
  rw [Nat.testBit_and, Bool.and_eq_true, owf_bit] at hi
  exact (of_decide_eq_true hi.1).2.2.1
theorem owl_excl {h : Nat → Nat → Nat} {u d p q : Nat} (hpq : ¬ p = q) {x y : Nat} (hx : x &&& owl h u d p = x) (hy : y &&& owl h u d q = y) : x &&& y = 0 := by
  refine Nat.eq_of_testBit_eq fun i => ?_
  rw [Nat.testBit_and, Nat.zero_testBit]
  cases e1 : x.testBit i
  · rfl
  · cases e2 : y.testBit i
    · rfl
    · exact absurd ((owl_bit (wi_bit.mp hx i e1)).symm.trans (owl_bit (wi_bit.mp hy i e2))) hpq
theorem agr_dep {h : Nat → Nat → Nat} (hv : ChV h) {t u d p x y : Nat} (htu : t < u) (hud : u ≤ d) (hd : d < 20) (e : x &&& owl h u d p = y &&& owl h u d p) : agr h t u d p x ↔ agr h t u d p y := by
  have bit : ∀ i, i < h 1 0 → onw h u d p i → (adf (lv h) x).testBit i = (adf (lv h) y).testBit i := by
    intro i hi ho
    rw [adf_bit, adf_bit]
    cases hL : (lv h).testBit i
    · rfl
    · have h1 : (x &&& owl h u d p).testBit i = (y &&& owl h u d p).testBit i := by rw [e]
      have h2 : (owl h u d p).testBit i = true := by
        unfold owl ow
        rw [Nat.testBit_and, owf_bit, hL, decide_eq_true ⟨hi, ho⟩]; rfl
      rw [Nat.testBit_and, Nat.testBit_and, h2, Bool.and_true, Bool.and_true] at h1
      rw [h1]
  have e1 := dnI_dep hv (p := p) (t := u) (d := d) hd bit
  have e2 := dnI_dep hv (p := p) (t := t) (d := d - (u - t)) (a := adf (lv h) x) (b := adf (lv h) y) (by omega) (fun i hi ho => bit i hi (by
    obtain ⟨o1, o2, o3⟩ := ho
    refine ⟨hud, o2, ?_⟩
    rcases o3 with o3 | o3
    · exact Or.inl ⟨o3.1, by omega⟩
    · exact Or.inr ⟨o3.1, by omega, by omega⟩))
  show ¬ ¬ (dnI h p (adf (lv h) x) u d = dnI h p (adf (lv h) x) t (d - (u - t))) ↔ ¬ ¬ (dnI h p (adf (lv h) y) u d = dnI h p (adf (lv h) y) t (d - (u - t)))
  rw [e1, e2]
/-! the class's way -/
theorem fewest_33 {h : Nat → Nat → Nat} (hv : ChV h) {t u d p A : Nat} (htu : t < u) (hu : u < 5) (hud : u ≤ d) (hd : d < 20) (hp : p < h 0 0) (hA : A < 4096) :
    ∀ (n i fw : Nat) (v : Int32) (c : CS), i ≤ 2 ^ pc A → 2 ^ pc A - i < n → ChC c h → fw ≤ 13 → Bst (agr h t u d p) (pdk 12 A) i v fw →
      ∃ (v' : Int32) (fw' : Nat) (c' : CS), f_X0_fewestMended_33 n (nI t) (nI u) (nI d) (nI p) (nI (lv h)) (nI A) (nI fw) v (nI (pdk 12 A i)) (nI i) c = some (v', c') ∧ (∀ q, q ≠ 13 → c' q = c q) ∧ Bst (agr h t u d p) (pdk 12 A) (2 ^ pc A) v' fw' := by
  have hpA : 2 ^ pc A ≤ 4096 := pow12 (pc_le A)
  have hpl := pc_le A
  have hL := lvh_lt hv
  have hsz : ∀ k, pdk 12 A k < 4096 := fun k => by have := pdk_le 12 A k hA; omega
  intro n
  induction n with
  | zero => intro i fw v c h1 h2; exact absurd h2 (by omega)
  | succ n ih =>
    intro i fw v c h1 h2 hc hfw H
    rw [f_X0_fewestMended_33, bitCount0 A hA, ob1_s, one_shl (by omega)]
    by_cases hi : 2 ^ pc A ≤ i
    · have ei : i = 2 ^ pc A := by omega
      subst ei
      rw [if_pos (nI_le (Nat.le_refl _) (by omega))]
      exact ⟨v, fw, c, rfl, fun _ _ => rfl, H⟩
    · have hpi := pc_le (pdk 12 A i)
      rw [if_neg (nI_ge (by omega) (by omega)), bitCount0 _ (hsz i), ob1_s, nI_andn]
      unfold f_X0_fewestMended_86
      by_cases z : fw ≤ pc (pdk 12 A i)
      · rw [if_pos (nI_le z (by omega)), nextSet0 hA, ob1_s, nI_1]
        refine ih (i + 1) fw v c (by omega) (by omega) hc hfw (H.skip z (fun k hk => Nat.le_of_lt (pdk_mono 12 A k i hk ?_)))
        rw [← pc_pck]; omega
      · have hal : adf (lv h) (pdk 12 A i) ≤ lv h := adf_le _ _
        obtain ⟨c1, e1, g1⟩ := differs0 hv hc htu hu hud hd hp (real := adf (lv h) (pdk 12 A i)) (by omega)
        rw [if_neg (nI_ge (by omega) (by omega)), e1, ob2_s, if_bI]
        by_cases y : df h p (adf (lv h) (pdk 12 A i)) t u d
        · rw [if_pos y, nextSet0 hA, ob1_s, nI_1]
          obtain ⟨v', fw', c', r1, r2, r3⟩ := ih (i + 1) fw v c1 (by omega) (by omega) (hc.fr g1) hfw (H.no (fun q => q y))
          exact ⟨v', fw', c', r1, fun q hq => (r2 q hq).trans (g1 q hq), r3⟩
        · rw [if_neg y, nextSet0 hA, ob1_s, nI_1]
          obtain ⟨v', fw', c', r1, r2, r3⟩ := ih (i + 1) (pc (pdk 12 A i)) (nI (pdk 12 A i)) c1 (by omega) (by omega) (hc.fr g1) (by omega) (H.take (by omega) y)
          exact ⟨v', fw', c', r1, fun q hq => (r2 q hq).trans (g1 q hq), r3⟩
theorem fewest0 {h : Nat → Nat → Nat} (hv : ChV h) {t u d p : Nat} (htu : t < u) (hu : u < 5) (hud : u ≤ d) (hd : d < 20) (hp : p < h 0 0) {c : CS} (hc : ChC c h) :
    ∃ (v : Int32) (c' : CS), f_X0_fewestMended c (nI t) (nI u) (nI d) (nI p) = some (v, c') ∧ (∀ q, q ≠ 13 → c' q = c q) ∧
      ((v = -9 ∧ ∀ S, S &&& owl h u d p = S → ¬ agr h t u d p S) ∨ ∃ S, S &&& owl h u d p = S ∧ v = nI S ∧ agr h t u d p S ∧ ∀ S', S' &&& owl h u d p = S' → agr h t u d p S' → lex S S') := by
  have v0 : h 0 0 ≤ 5 := hv.1
  have hL := lvh_lt hv
  have hA : owl h u d p ≤ lv h := Nat.and_le_right
  have hA4 : owl h u d p < 4096 := by omega
  have hpA : 2 ^ pc (owl h u d p) ≤ 4096 := pow12 (pc_le _)
  obtain ⟨v, fw, c', r1, r2, r3⟩ := fewest_33 hv htu hu hud hd hp hA4 FU 0 13 (-9) c (Nat.zero_le _) (FU_ge (by omega)) hc (by omega) (Bst.start _ _)
  rw [pdk_0] at r1
  have r1' : f_X0_fewestMended_33 FU (nI t) (nI u) (nI d) (nI p) (nI (lv h)) (nI (owl h u d p)) 13 (-9) 0 0 c = some (v, c') := r1
  refine ⟨v, c', ?_, r2, ?_⟩
  · unfold f_X0_fewestMended
    rw [unmended0 hv hc, ob1_s, onTheWayC hv hc hu hd (show p < 5 by omega), ob1_s, nI_and]
    exact r1'
  · rcases r3 with ⟨a, _, b⟩ | ⟨k, a, b, _, c, e⟩
    · refine Or.inl ⟨a, fun S hS => ?_⟩
      obtain ⟨k, hk, ek⟩ := pdk_surj 12 (owl h u d p) S hA4 hS
      rw [← ek]
      exact b k (by rw [pc_pck]; exact hk)
    · refine Or.inr ⟨pdk 12 (owl h u d p) k, pdk_wi 12 _ k hA4, b, c, fun S hS hq => ?_⟩
      obtain ⟨k', hk', ek⟩ := pdk_surj 12 (owl h u d p) S hA4 hS
      rw [← ek] at hq ⊢
      exact e k' (by rw [pc_pck]; exact hk') hq
/-- the errors that count of the first persons -/
def bun (h : Nat → Nat → Nat) (u d : Nat) : Nat → Nat
  | 0 => 0
  | q + 1 => bun h u d q ||| owl h u d q
theorem bun_bit (h : Nat → Nat → Nat) (u d i : Nat) : ∀ q, (bun h u d q).testBit i = true → ∃ p, p < q ∧ (owl h u d p).testBit i = true
  | 0, e => by rw [bun, Nat.zero_testBit] at e; exact absurd e (by decide)
  | q + 1, e => by
    rw [bun, Nat.testBit_or, Bool.or_eq_true] at e
    rcases e with e | e
    · obtain ⟨p, a, b⟩ := bun_bit h u d i q e
      exact ⟨p, by omega, b⟩
    · exact ⟨q, by omega, e⟩
theorem bun_L (h : Nat → Nat → Nat) (u d q : Nat) : bun h u d q &&& lv h = bun h u d q := wi_bit.mpr (fun i hi => by
  obtain ⟨p, _, b⟩ := bun_bit h u d i q hi
  unfold owl at b
  rw [Nat.testBit_and, Bool.and_eq_true] at b
  exact b.2)
theorem bun_excl {h : Nat → Nat → Nat} {u d p x y : Nat} (hx : x &&& bun h u d p = x) (hy : y &&& owl h u d p = y) : x &&& y = 0 := by
  refine Nat.eq_of_testBit_eq fun i => ?_
  rw [Nat.testBit_and, Nat.zero_testBit]
  cases e1 : x.testBit i
  · rfl
  · cases e2 : y.testBit i
    · rfl
    · obtain ⟨q, a, b⟩ := bun_bit h u d i p (wi_bit.mp hx i e1)
      have h1 := owl_bit b
      have h2 := owl_bit (wi_bit.mp hy i e2)
      omega
/-- what is known of the first persons -/
def Jnd (h : Nat → Nat → Nat) (t u d p U : Nat) : Prop := U &&& bun h u d p = U ∧ (∀ q, q < p → agr h t u d q U) ∧ ∀ S, S &&& lv h = S → (∀ q, q < p → agr h t u d q S) → lex U (S &&& bun h u d p)
theorem Jnd.step {h : Nat → Nat → Nat} (hv : ChV h) {t u d p U S : Nat} (htu : t < u) (hud : u ≤ d) (hd : d < 20) (H : Jnd h t u d p U) (hS : S &&& owl h u d p = S) (hq : agr h t u d p S) (hm : ∀ S', S' &&& owl h u d p = S' → agr h t u d p S' → lex S S') : Jnd h t u d (p + 1) (U ||| S) := by
  obtain ⟨h1, h2, h3⟩ := H
  have hL := lvh_lt hv
  have hU : U ≤ lv h := by
    have a1 : U ≤ bun h u d p := by rw [← h1]; exact Nat.and_le_right
    have a2 : bun h u d p ≤ lv h := by rw [← bun_L h u d p]; exact Nat.and_le_right
    omega
  refine ⟨wi_bit.mpr (fun i hi => ?_), fun q hqp => ?_, fun X hX hXq => ?_⟩
  · rw [bun, Nat.testBit_or, Bool.or_eq_true]
    rw [Nat.testBit_or, Bool.or_eq_true] at hi
    rcases hi with hi | hi
    · exact Or.inl (wi_bit.mp h1 i hi)
    · exact Or.inr (wi_bit.mp hS i hi)
  · by_cases e : q = p
    · subst e
      refine (agr_dep hv htu hud hd ?_).mpr hq
      refine Nat.eq_of_testBit_eq fun i => ?_
      rw [Nat.testBit_and, Nat.testBit_and, Nat.testBit_or]
      cases e1 : (owl h u d q).testBit i
      · rw [Bool.and_false, Bool.and_false]
      · cases e2 : U.testBit i
        · rw [Bool.false_or]
        · obtain ⟨q', a, b⟩ := bun_bit h u d i q (wi_bit.mp h1 i e2)
          have := owl_bit b
          have := owl_bit e1
          omega
    · refine (agr_dep hv htu hud hd ?_).mpr (h2 q (by omega))
      refine Nat.eq_of_testBit_eq fun i => ?_
      rw [Nat.testBit_and, Nat.testBit_and, Nat.testBit_or]
      cases e1 : (owl h u d q).testBit i
      · rw [Bool.and_false, Bool.and_false]
      · cases e2 : S.testBit i
        · rw [Bool.or_false]
        · have := owl_bit e1
          have := owl_bit (wi_bit.mp hS i e2)
          omega
  · have x1 := h3 X hX (fun q hqp => hXq q (by omega))
    have x2 := hm (X &&& owl h u d p) (wi_and _ _) ((agr_dep hv htu hud hd (wi_and X (owl h u d p))).mpr (hXq p (by omega)))
    have hXb : X &&& bun h u d p ≤ lv h := by
      have a1 : X &&& bun h u d p ≤ bun h u d p := Nat.and_le_right
      have a2 : bun h u d p ≤ lv h := by rw [← bun_L h u d p]; exact Nat.and_le_right
      omega
    have := lex_or x1 x2 (bun_excl h1 hS) (bun_excl (wi_and _ _) (wi_and _ _)) (by omega) (by omega)
    rw [bun, Nat.and_or_distrib_left]
    exact this
theorem agree_28 {h : Nat → Nat → Nat} (hv : ChV h) (J : Nat → JS) {t u d : Nat} (htu : t < u) (hu : u < 5) (hud : u ≤ d) (hd : d < 20) :
    ∀ (n p U : Nat) (I : Nat → CS), p ≤ h 0 0 → h 0 0 - p < n → ChC (I 0) h → Jnd h t u d p U →
      ∃ (I' : Nat → CS), FrI I I' ∧ ((f_X5_agree_28 n (nI t) (nI u) (nI d) (nI U) (nI p) I J = some (-9, I') ∧ ∀ S, S &&& lv h = S → ¬ ∀ q, q < h 0 0 → agr h t u d q S) ∨
        ∃ U', Jnd h t u d (h 0 0) U' ∧ f_X5_agree_28 n (nI t) (nI u) (nI d) (nI U) (nI p) I J = some (nI (pc U'), gset I' 7 (cset (I' 7) 0 0 (nI U')))) := by
  have v0 : h 0 0 ≤ 5 := hv.1
  have hL := lvh_lt hv
  intro n
  induction n with
  | zero => intro p U I h1 h2; exact absurd h2 (by omega)
  | succ n ih =>
    intro p U I h1 h2 hc H
    rw [f_X5_agree_28, hc.1]
    by_cases hp : h 0 0 ≤ p
    · have ep : p = h 0 0 := by omega
      subst ep
      have hU : U ≤ lv h := by
        have a1 : U ≤ bun h u d (h 0 0) := by rw [← H.1]; exact Nat.and_le_right
        have a2 : bun h u d (h 0 0) ≤ lv h := by rw [← bun_L h u d (h 0 0)]; exact Nat.and_le_right
        omega
      rw [if_pos (nI_le (Nat.le_refl _) (by omega)), bitCount0 U (by omega), ob1_s]
      exact ⟨I, FrI.rfl' I, Or.inr ⟨U, H, rfl⟩⟩
    · have hp' : p < h 0 0 := Nat.not_le.mp hp
      obtain ⟨v, c', e1, g1, g2⟩ := fewest0 hv htu hu hud hd hp' hc
      rw [if_neg (nI_ge hp' (by omega)), e1, ob2_s, nI_1]
      rcases g2 with ⟨a, b⟩ | ⟨S, a, b, c, e⟩
      · rw [if_pos a]
        refine ⟨gset I 0 c', FrI.c g1, Or.inl ⟨rfl, fun S hS hq => ?_⟩⟩
        exact b (S &&& owl h u d p) (wi_and _ _) ((agr_dep hv htu hud hd (wi_and S (owl h u d p))).mpr (hq p hp'))
      · have hS : S ≤ lv h := by
          have a1 : S ≤ owl h u d p := by rw [← a]; exact Nat.and_le_right
          have a2 : owl h u d p ≤ lv h := Nat.and_le_right
          omega
        rw [b, if_neg (nI_n9 (by omega)), nI_or]
        have F : FrI I (gset I 0 c') := FrI.c g1
        obtain ⟨I', k1, k2⟩ := ih (p + 1) (U ||| S) (gset I 0 c') (by omega) (by omega) (F.h hc) (H.step hv htu hud hd a c e)
        exact ⟨I', F.trans k1, k2⟩
