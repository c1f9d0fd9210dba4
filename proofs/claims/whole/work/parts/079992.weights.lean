/-! ===== weighted sums over sets ===== -/
/-- the sum over the sets within L, by a for what is in one, by b for what is not -/
def WS (a b : Nat) : Nat → Nat → (Nat → Nat) → Nat
  | 0, _, g => g 0
  | k + 1, L, g => if L % 2 = 1 then b * WS a b k (L / 2) (fun y => g (2 * y)) + a * WS a b k (L / 2) (fun y => g (2 * y + 1)) else WS a b k (L / 2) (fun y => g (2 * y))
def wt (a b : Nat) : Nat → Nat → Nat → Nat
  | 0, _, _ => 1
  | k + 1, L, x => (if L % 2 = 1 then (if x % 2 = 1 then a else b) else 1) * wt a b k (L / 2) (x / 2)
theorem SS_congA : ∀ (k L : Nat) (f g : Nat → Nat), (∀ x, f x = g x) → SS k L f = SS k L g
  | 0, _, f, g, h => by rw [SS, SS]; exact h 0
  | k + 1, L, f, g, h => by
    rw [SS, SS, SS_congA k (L / 2) (fun y => f (2 * y)) (fun y => g (2 * y)) (fun x => h _), SS_congA k (L / 2) (fun y => f (2 * y + 1)) (fun y => g (2 * y + 1)) (fun x => h _)]
theorem wi_half {x L : Nat} (h : x &&& L = x) : x / 2 &&& L / 2 = x / 2 := by
  have := congrArg (fun z => z / 2) h
  rw [show (x &&& L) / 2 = x / 2 &&& L / 2 from Nat.and_div_two] at this
  exact this
theorem wi_low {x L : Nat} (h : x &&& L = x) (hL : L % 2 = 0) : x % 2 = 0 := by
  have h1 := (wi_0 (x / 2) (x % 2) (L / 2) (L % 2) (by omega) (by omega)).mp (by rw [show 2 * (x / 2) + x % 2 = x by omega, show 2 * (L / 2) + L % 2 = L by omega]; exact h)
  have := h1.2
  rw [hL, Nat.and_zero] at this
  exact this.symm
theorem SS_cong : ∀ (k L : Nat) (f g : Nat → Nat), L < 2 ^ k → (∀ x, x &&& L = x → f x = g x) → SS k L f = SS k L g
  | 0, L, f, g, hL, h => by rw [SS, SS]; exact h 0 (Nat.zero_and L)
  | k + 1, L, f, g, hL, h => by
    have hp : 2 ^ (k + 1) = 2 * 2 ^ k := by rw [Nat.pow_succ, Nat.mul_comm]
    rw [hp] at hL
    have e0 : ∀ x, x &&& L / 2 = x → f (2 * x) = g (2 * x) := fun x hx => h _ (by
      have := (wi_0 x 0 (L / 2) (L % 2) (by omega) (by omega)).mpr ⟨hx, Nat.zero_and _⟩
      rw [show 2 * (L / 2) + L % 2 = L by omega, Nat.add_zero] at this
      exact this)
    rw [SS, SS, SS_cong k (L / 2) (fun y => f (2 * y)) (fun y => g (2 * y)) (by omega) e0]
    by_cases a : L % 2 = 1
    · rw [if_pos a, if_pos a, SS_cong k (L / 2) (fun y => f (2 * y + 1)) (fun y => g (2 * y + 1)) (by omega) (fun x hx => h _ (by
        have := (wi_0 x 1 (L / 2) (L % 2) (by omega) (by omega)).mpr ⟨hx, by rw [a]; rfl⟩
        rw [show 2 * (L / 2) + L % 2 = L by omega] at this
        exact this))]
    · rw [if_neg a, if_neg a]
theorem SS_mul (c : Nat) : ∀ (k L : Nat) (g : Nat → Nat), SS k L (fun x => c * g x) = c * SS k L g
  | 0, _, g => by rw [SS, SS]
  | k + 1, L, g => by
    rw [SS, SS, SS_mul c k (L / 2) (fun y => g (2 * y)), SS_mul c k (L / 2) (fun y => g (2 * y + 1))]
    by_cases a : L % 2 = 1
    · rw [if_pos a, if_pos a, Nat.mul_add]
    · rw [if_neg a, if_neg a]
theorem WS_SS (a b : Nat) : ∀ (k L : Nat) (g : Nat → Nat), WS a b k L g = SS k L (fun x => wt a b k L x * g x)
  | 0, _, g => by rw [WS, SS, wt, Nat.one_mul]
  | k + 1, L, g => by
    rw [WS, SS, WS_SS a b k (L / 2) (fun y => g (2 * y)), WS_SS a b k (L / 2) (fun y => g (2 * y + 1))]
    by_cases q : L % 2 = 1
    · rw [if_pos q, if_pos q, ← SS_mul, ← SS_mul]
      refine add2 (SS_congA _ _ _ _ (fun x => ?_)) (SS_congA _ _ _ _ (fun x => ?_))
      · show b * (wt a b k (L / 2) x * g (2 * x)) = wt a b (k + 1) L (2 * x) * g (2 * x)
        rw [wt, if_pos q, if_neg (show ¬ 2 * x % 2 = 1 by omega), show 2 * x / 2 = x by omega, Nat.mul_assoc]
      · show a * (wt a b k (L / 2) x * g (2 * x + 1)) = wt a b (k + 1) L (2 * x + 1) * g (2 * x + 1)
        rw [wt, if_pos q, if_pos (show (2 * x + 1) % 2 = 1 by omega), show (2 * x + 1) / 2 = x by omega, Nat.mul_assoc]
    · rw [if_neg q, if_neg q]
      refine SS_congA _ _ _ _ (fun x => ?_)
      show wt a b k (L / 2) x * g (2 * x) = wt a b (k + 1) L (2 * x) * g (2 * x)
      rw [wt, if_neg q, show 2 * x / 2 = x by omega, Nat.one_mul]
theorem wt_11 : ∀ (k L x : Nat), wt 1 1 k L x = 1
  | 0, _, _ => rfl
  | k + 1, L, x => by
    rw [wt, wt_11 k, Nat.mul_one]
    split
    · split <;> rfl
    · rfl
theorem SS_WS (k L : Nat) (g : Nat → Nat) : SS k L g = WS 1 1 k L g := by
  rw [WS_SS]
  exact SS_congA _ _ _ _ (fun x => by rw [wt_11, Nat.one_mul])
theorem pck_mono : ∀ (k x L : Nat), x &&& L = x → pck k x ≤ pck k L
  | 0, _, _, _ => Nat.le_refl _
  | k + 1, x, L, h => by
    have i1 := pck_mono k (x / 2) (L / 2) (wi_half h)
    rw [pck, pck]
    by_cases q : L % 2 = 0
    · have := wi_low h q
      omega
    · omega
/-- what is free adds its weights -/
theorem WS_free (a b : Nat) : ∀ (k L A m : Nat) (g : Nat → Nat), A &&& L = A → (∀ x y, x &&& A = y &&& A → g x = g y) → m + pck k A = pck k L → WS a b k L g = (a + b) ^ m * WS a b k A g
  | 0, L, A, m, g, hA, hg, hm => by
    rw [pck, pck] at hm
    rw [show m = 0 by omega, Nat.pow_zero, Nat.one_mul, WS, WS]
  | k + 1, L, A, m, g, hA, hg, hm => by
    have eA : 2 * (A / 2) + A % 2 = A := by omega
    have mk : ∀ (b' : Nat), b' < 2 → ∀ x y, x &&& A / 2 = y &&& A / 2 → g (2 * x + b') = g (2 * y + b') := by
      intro b' hb x y hxy
      refine hg _ _ ?_
      have h1 := and_bit x (A / 2) b' (A % 2) hb (by omega)
      have h2 := and_bit y (A / 2) b' (A % 2) hb (by omega)
      rw [eA] at h1 h2
      rw [h1, h2, hxy]
    have hh := wi_half hA
    rw [pck, pck] at hm
    rw [WS, WS]
    by_cases qA : A % 2 = 1
    · have qL : L % 2 = 1 := by
        by_cases z : L % 2 = 0
        · have := wi_low hA z; omega
        · omega
      rw [if_pos qA, if_pos qL, WS_free a b k (L / 2) (A / 2) m (fun y => g (2 * y)) hh (mk 0 (by omega)) (by omega), WS_free a b k (L / 2) (A / 2) m (fun y => g (2 * y + 1)) hh (mk 1 (by omega)) (by omega), Nat.mul_add, Nat.mul_left_comm, Nat.mul_left_comm a]
    · by_cases qL : L % 2 = 1
      · have hmo := pck_mono k (A / 2) (L / 2) hh
        obtain ⟨m, rfl⟩ : ∃ u, m = u + 1 := ⟨m - 1, by omega⟩
        have e1 : (fun y => g (2 * y + 1)) = fun y => g (2 * y) := funext fun y => hg _ _ (by
          have h1 := and_bit y (A / 2) 1 (A % 2) (by omega) (by omega)
          have h2 := and_bit y (A / 2) 0 (A % 2) (by omega) (by omega)
          rw [eA] at h1 h2
          rw [h1]
          rw [Nat.add_zero] at h2
          rw [h2, show A % 2 = 0 by omega, Nat.and_zero, Nat.and_zero])
        rw [if_pos qL, if_neg qA, e1, WS_free a b k (L / 2) (A / 2) m (fun y => g (2 * y)) hh (mk 0 (by omega)) (by omega), ← Nat.add_mul, Nat.pow_succ, Nat.add_comm b a, ← Nat.mul_assoc, Nat.mul_comm (a + b)]
      · rw [if_neg qL, if_neg qA]
        exact WS_free a b k (L / 2) (A / 2) m (fun y => g (2 * y)) hh (mk 0 (by omega)) (by omega)
theorem WS_le (a b : Nat) : ∀ (k L : Nat) (g : Nat → Nat), (∀ x, g x ≤ 1) → WS a b k L g ≤ (a + b) ^ pck k L
  | 0, L, g, h => by rw [WS, pck, Nat.pow_zero]; exact h 0
  | k + 1, L, g, h => by
    have h1 := WS_le a b k (L / 2) (fun y => g (2 * y)) (fun x => h _)
    have h2 := WS_le a b k (L / 2) (fun y => g (2 * y + 1)) (fun x => h _)
    rw [WS, pck]
    by_cases q : L % 2 = 1
    · rw [if_pos q, q, Nat.add_comm 1, Nat.pow_succ, Nat.mul_comm _ (a + b), Nat.add_mul, Nat.add_comm (a * _)]
      exact Nat.add_le_add (Nat.mul_le_mul (Nat.le_refl _) h1) (Nat.mul_le_mul (Nat.le_refl _) h2)
    · rw [if_neg q, show L % 2 = 0 by omega, Nat.zero_add]
      exact h1
/-- the class's weights -/
theorem wt_pow (a b : Nat) : ∀ (k A x m : Nat), x &&& A = x → m + pck k x = pck k A → wt a b k A x = a ^ pck k x * b ^ m
  | 0, A, x, m, h, hm => by
    rw [pck, pck] at hm
    rw [wt, pck, show m = 0 by omega, Nat.pow_zero, Nat.pow_zero, Nat.mul_one]
  | k + 1, A, x, m, h, hm => by
    have hh := wi_half h
    have hmo := pck_mono k (x / 2) (A / 2) hh
    rw [pck, pck] at hm
    rw [wt, pck]
    by_cases qA : A % 2 = 1
    · rw [if_pos qA]
      by_cases qx : x % 2 = 1
      · rw [if_pos qx, qx, wt_pow a b k (A / 2) (x / 2) m hh (by omega), Nat.add_comm 1, Nat.pow_succ, Nat.mul_comm _ a, Nat.mul_assoc]
      · obtain ⟨m, rfl⟩ : ∃ u, m = u + 1 := ⟨m - 1, by omega⟩
        rw [if_neg qx, show x % 2 = 0 by omega, wt_pow a b k (A / 2) (x / 2) m hh (by omega), Nat.zero_add, Nat.pow_succ, Nat.mul_left_comm, Nat.mul_comm b]
    · have := wi_low h (show A % 2 = 0 by omega)
      rw [if_neg qA, this, wt_pow a b k (A / 2) (x / 2) m hh (by omega), Nat.zero_add, Nat.one_mul]
/-- the model's weights: a product -/
def pr (f : Nat → Nat) : Nat → Nat
  | 0 => 1
  | n + 1 => pr f n * f n
theorem pr_head (f : Nat → Nat) : ∀ n, pr f (n + 1) = f 0 * pr (fun i => f (i + 1)) n
  | 0 => by rw [pr, pr, pr, Nat.one_mul, Nat.mul_one]
  | n + 1 => by rw [pr, pr_head f n, pr, Nat.mul_assoc]
theorem pr_cong {f g : Nat → Nat} : ∀ {n : Nat}, (∀ i, i < n → f i = g i) → pr f n = pr g n
  | 0, _ => rfl
  | n + 1, h => by rw [pr, pr, pr_cong (fun i hi => h i (Nat.lt_succ_of_lt hi)), h n (Nat.lt_succ_self n)]
theorem pr_ext {f : Nat → Nat} {n : Nat} : ∀ d, (∀ i, n ≤ i → f i = 1) → pr f (n + d) = pr f n
  | 0, _ => rfl
  | d + 1, h => by rw [← Nat.add_assoc, pr, pr_ext d h, h (n + d) (by omega), Nat.mul_one]
def wf (a b L x i : Nat) : Nat := if L.testBit i = true then (if x.testBit i = true then a else b) else 1
theorem wt_pr (a b : Nat) : ∀ (k L x : Nat), wt a b k L x = pr (wf a b L x) k
  | 0, _, _ => rfl
  | k + 1, L, x => by
    rw [wt, pr_head, wt_pr a b k (L / 2) (x / 2)]
    have e1 : (if L % 2 = 1 then (if x % 2 = 1 then a else b) else 1) = wf a b L x 0 := by
      unfold wf
      rw [Nat.testBit_zero, Nat.testBit_zero]
      by_cases q : L % 2 = 1
      · rw [if_pos q, if_pos (decide_eq_true q)]
        by_cases q' : x % 2 = 1
        · rw [if_pos q', if_pos (decide_eq_true q')]
        · rw [if_neg q', if_neg (fun z => q' (of_decide_eq_true z))]
      · rw [if_neg q, if_neg (fun z => q (of_decide_eq_true z))]
    have e2 : pr (wf a b (L / 2) (x / 2)) k = pr (fun i => wf a b L x (i + 1)) k := pr_cong (fun i _ => by
      show wf a b (L / 2) (x / 2) i = wf a b L x (i + 1)
      unfold wf
      rw [Nat.testBit_succ, Nat.testBit_succ])
    rw [e1, e2]
/-- sums further on -/
theorem sm_ext {f : Nat → Nat} {n : Nat} : ∀ d, (∀ i, n ≤ i → f i = 0) → sm f (n + d) = sm f n
  | 0, _ => rfl
  | d + 1, h => by rw [← Nat.add_assoc, sm, sm_ext d h, h (n + d) (by omega), Nat.add_zero]
theorem SS_model' {L : Nat} (hL : L < 4096) (g : Nat → Nat) : sm (fun x => if x &&& L = x then g x else 0) (L + 1) = SS 12 L g := by
  rw [← SS_model 12 L g hL, show 2 ^ 12 = (L + 1) + (2 ^ 12 - (L + 1)) by omega]
  refine (sm_ext _ (fun i hi => if_neg (fun q => ?_))).symm
  have : i &&& L ≤ L := Nat.and_le_right
  omega
theorem adf_0 (x L : Nat) : adf x L = 0 ↔ x &&& L = x := by
  constructor
  · intro h
    refine Nat.eq_of_testBit_eq fun i => ?_
    have h1 := adf_bit x L i
    rw [h, Nat.zero_testBit] at h1
    rw [Nat.testBit_and]
    cases e1 : x.testBit i <;> cases e2 : L.testBit i <;> rw [e1, e2] at h1 <;> first | rfl | exact absurd h1 (by decide)
  · intro h
    refine Nat.eq_of_testBit_eq fun i => ?_
    have h1 := congrArg (fun z => z.testBit i) h
    have h1' : (x &&& L).testBit i = x.testBit i := h1
    rw [Nat.testBit_and] at h1'
    rw [adf_bit, Nat.zero_testBit]
    cases e1 : x.testBit i <;> cases e2 : L.testBit i <;> rw [e1, e2] at h1' <;> first | rfl | exact absurd h1' (by decide)
theorem wi_bit {x L : Nat} : x &&& L = x ↔ ∀ i, x.testBit i = true → L.testBit i = true := by
  constructor
  · intro h i hi
    rw [← h, Nat.testBit_and, Bool.and_eq_true] at hi
    exact hi.2
  · intro h
    refine Nat.eq_of_testBit_eq fun i => ?_
    rw [Nat.testBit_and]
    cases e1 : x.testBit i
    · rfl
    · rw [h i e1]; rfl
