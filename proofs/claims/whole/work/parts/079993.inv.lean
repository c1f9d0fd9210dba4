/-! ===== what is known of those that fit ===== -/
theorem nI_n9 {v : Nat} (h : v < 2 ^ 31) : ¬ nI v = -9 := fun q => by rw [i32_eq, nI_toInt h, m9] at q; omega
theorem sm_pos {f : Nat → Nat} {k : Nat} (hf : 0 < f k) : ∀ n, k < n → 0 < sm f n
  | 0, h => absurd h (by omega)
  | n + 1, h => by
    rw [sm]
    by_cases e : k = n
    · subst e; omega
    · have := sm_pos hf n (by omega); omega
def Ivt (P : Nat → Bool) (s : Nat → Nat) (L n m : Nat) (v : Int32) (e o : Nat) : Prop :=
  m = sm (fun k => if P k = true then 1 else 0) n ∧
  ((v = -9 ∧ ∀ k, k < n → P k = false) ∨ ∃ k, k < n ∧ P k = true ∧ v = nI (s k) ∧ ∀ x, x < k → P x = false) ∧
  (∀ i, e.testBit i = true ↔ L.testBit i = true ∧ ∀ k, k < n → P k = true → (s k).testBit i = true) ∧
  (∀ i, o.testBit i = true ↔ ∃ k, k < n ∧ P k = true ∧ (s k).testBit i = true)
theorem Ivt.start (P : Nat → Bool) (s : Nat → Nat) (L : Nat) : Ivt P s L 0 0 (-9) L 0 := by
  refine ⟨rfl, Or.inl ⟨rfl, fun k hk => absurd hk (by omega)⟩, fun i => ⟨fun z => ⟨z, fun k hk => absurd hk (by omega)⟩, fun z => z.1⟩, fun i => ⟨fun z => ?_, fun ⟨k, hk, _⟩ => absurd hk (by omega)⟩⟩
  rw [Nat.zero_testBit] at z
  exact absurd z (by decide)
theorem Ivt.no {P : Nat → Bool} {s : Nat → Nat} {L n m : Nat} {v : Int32} {e o : Nat} (H : Ivt P s L n m v e o) (q : P n = false) : Ivt P s L (n + 1) m v e o := by
  have nq : ¬ P n = true := by rw [q]; decide
  obtain ⟨h1, h2, h3, h4⟩ := H
  refine ⟨?_, ?_, fun i => ?_, fun i => ?_⟩
  · rw [sm, if_neg nq, Nat.add_zero]; exact h1
  · rcases h2 with ⟨a, b⟩ | ⟨k, a, b⟩
    · refine Or.inl ⟨a, fun k hk => ?_⟩
      by_cases z : k = n
      · rw [z]; exact q
      · exact b k (by omega)
    · exact Or.inr ⟨k, by omega, b⟩
  · rw [h3]
    refine ⟨fun z => ⟨z.1, fun k hk hP => ?_⟩, fun z => ⟨z.1, fun k hk hP => z.2 k (by omega) hP⟩⟩
    by_cases y : k = n
    · rw [y] at hP; exact absurd hP nq
    · exact z.2 k (by omega) hP
  · rw [h4]
    refine ⟨fun ⟨k, z1, z2⟩ => ⟨k, by omega, z2⟩, fun ⟨k, z1, z2, z3⟩ => ⟨k, ?_, z2, z3⟩⟩
    by_cases y : k = n
    · rw [y] at z2; exact absurd z2 nq
    · omega
theorem Ivt.v9 {P : Nat → Bool} {s : Nat → Nat} {L n m : Nat} {v : Int32} {e o : Nat} (H : Ivt P s L n m v e o) (hs : ∀ k, k < n → s k < 2 ^ 31) : v = -9 ↔ m = 0 := by
  obtain ⟨h1, h2, _⟩ := H
  rcases h2 with ⟨a, b⟩ | ⟨k, a, b, c, _⟩
  · refine ⟨fun _ => ?_, fun _ => a⟩
    rw [h1]
    exact sm_zero (fun k hk => by show (if P k = true then 1 else 0) = 0; rw [b k hk, if_neg (by decide)])
  · have : 0 < sm (fun k => if P k = true then 1 else 0) n := sm_pos (k := k) (by show 0 < (if P k = true then 1 else 0); rw [if_pos b]; omega) n a
    refine ⟨fun z => ?_, fun z => absurd z (by omega)⟩
    rw [c] at z
    exact absurd z (nI_n9 (hs k a))
theorem Ivt.yes {P : Nat → Bool} {s : Nat → Nat} {L n m : Nat} {v : Int32} {e o : Nat} (H : Ivt P s L n m v e o) (q : P n = true) (hs : ∀ k, k < n → s k < 2 ^ 31) : Ivt P s L (n + 1) (m + 1) (if v = -9 then nI (s n) else v) (e &&& s n) (o ||| s n) := by
  obtain ⟨h1, h2, h3, h4⟩ := H
  refine ⟨?_, ?_, fun i => ?_, fun i => ?_⟩
  · rw [sm, if_pos q, ← h1]
  · rcases h2 with ⟨a, b⟩ | ⟨k, a, b, c, d⟩
    · rw [if_pos a]
      exact Or.inr ⟨n, by omega, q, rfl, b⟩
    · rw [if_neg (by rw [c]; exact nI_n9 (hs k a))]
      exact Or.inr ⟨k, by omega, b, c, d⟩
  · rw [Nat.testBit_and, Bool.and_eq_true, h3]
    refine ⟨fun z => ⟨z.1.1, fun k hk hP => ?_⟩, fun z => ⟨⟨z.1, fun k hk hP => z.2 k (by omega) hP⟩, z.2 n (by omega) q⟩⟩
    by_cases y : k = n
    · rw [y]; exact z.2
    · exact z.1.2 k (by omega) hP
  · rw [Nat.testBit_or, Bool.or_eq_true, h4]
    constructor
    · intro z
      rcases z with ⟨k, z1, z2⟩ | z
      · exact ⟨k, by omega, z2⟩
      · exact ⟨n, by omega, q, z⟩
    · intro ⟨k, z1, z2, z3⟩
      by_cases y : k = n
      · rw [y] at z3; exact Or.inr z3
      · exact Or.inl ⟨k, by omega, z2, z3⟩
theorem Ivt.m_le {P : Nat → Bool} {s : Nat → Nat} {L n m : Nat} {v : Int32} {e o : Nat} (H : Ivt P s L n m v e o) : m ≤ n := by
  rw [H.1]
  have := sm_le (f := fun k => if P k = true then 1 else 0) (c := 1) (n := n) (fun k _ => by show (if P k = true then 1 else 0) ≤ 1; split <;> omega)
  omega
theorem pck_adf {L A : Nat} (h : A &&& L = A) : pck 12 (adf L A) + pck 12 A = pck 12 L := by
  rw [pck_sm, pck_sm, pck_sm, ← sm_add]
  refine sm_cong (fun i _ => ?_)
  show mbit (adf L A) i + mbit A i = mbit L i
  have h1 := wi_bit.mp h i
  unfold mbit
  rw [adf_bit]
  cases e1 : A.testBit i <;> cases e2 : L.testBit i
  · rfl
  · rfl
  · rw [e1, e2] at h1; exact absurd (h1 rfl) (by decide)
  · rfl
/-- the two ways to go through sets know the same -/
theorem Ivt_cmp {F : Nat → Bool} {L A m1 m2 e1 e2 w1 w2 : Nat} {v1 v2 : Int32} (hL : L < 4096) (hA : A &&& L = A) (dep : ∀ x y, x &&& L = x → y &&& L = y → x &&& A = y &&& A → F x = F y)
    (H1 : Ivt (fun k => F (pdk 12 A k)) (pdk 12 A) L (2 ^ pc A) m1 v1 e1 w1) (H2 : Ivt (fun x => decide (x &&& L = x) && F x) (fun x => x) L (L + 1) m2 v2 e2 w2) :
    m2 = m1 * 2 ^ pc (adf L A) ∧ v1 = v2 ∧ e1 = e2 ∧ (0 < m1 → w1 ||| adf L A = w2) := by
  have hA2 : A ≤ L := by rw [← hA]; exact Nat.and_le_right
  have hA4 : A < 2 ^ 12 := by omega
  have tr : ∀ x, x &&& A = x → x &&& L = x := fun x hx => wi_bit.mpr (fun i hi => wi_bit.mp hA i (wi_bit.mp hx i hi))
  have up : ∀ k, pdk 12 A k &&& L = pdk 12 A k := fun k => tr _ (pdk_wi 12 A k hA4)
  have upP : ∀ k, F (pdk 12 A k) = true → (decide (pdk 12 A k &&& L = pdk 12 A k) && F (pdk 12 A k)) = true := fun k hk => by rw [decide_eq_true (up k), hk]; rfl
  have upl : ∀ k, pdk 12 A k < L + 1 := fun k => by have := pdk_le 12 A k hA4; omega
  have idem : ∀ x, x &&& A &&& A = x &&& A := fun x => by rw [Nat.and_assoc, Nat.and_self]
  have down : ∀ x, (decide (x &&& L = x) && F x) = true → ∃ k, k < 2 ^ pc A ∧ pdk 12 A k = x &&& A ∧ F (pdk 12 A k) = true := by
    intro x hx
    rw [Bool.and_eq_true] at hx
    have hx1 := of_decide_eq_true hx.1
    obtain ⟨k, hk, e⟩ := pdk_surj 12 A (x &&& A) hA4 (idem x)
    refine ⟨k, by rw [pc_pck]; exact hk, e, ?_⟩
    rw [e, dep (x &&& A) x (tr _ (idem x)) hx1 (idem x)]
    exact hx.2
  obtain ⟨a1, b1, c1, d1⟩ := H1
  obtain ⟨a2, b2, c2, d2⟩ := H2
  have b1 : (v1 = -9 ∧ ∀ k, k < 2 ^ pc A → F (pdk 12 A k) = false) ∨ ∃ k, k < 2 ^ pc A ∧ F (pdk 12 A k) = true ∧ v1 = nI (pdk 12 A k) ∧ ∀ x, x < k → F (pdk 12 A x) = false := b1
  have b2 : (v2 = -9 ∧ ∀ x, x < L + 1 → (decide (x &&& L = x) && F x) = false) ∨ ∃ x, x < L + 1 ∧ (decide (x &&& L = x) && F x) = true ∧ v2 = nI x ∧ ∀ y, y < x → (decide (y &&& L = y) && F y) = false := b2
  have c1 : ∀ i, e1.testBit i = true ↔ L.testBit i = true ∧ ∀ k, k < 2 ^ pc A → F (pdk 12 A k) = true → (pdk 12 A k).testBit i = true := c1
  have c2 : ∀ i, e2.testBit i = true ↔ L.testBit i = true ∧ ∀ x, x < L + 1 → (decide (x &&& L = x) && F x) = true → x.testBit i = true := c2
  have d1 : ∀ i, w1.testBit i = true ↔ ∃ k, k < 2 ^ pc A ∧ F (pdk 12 A k) = true ∧ (pdk 12 A k).testBit i = true := d1
  have d2 : ∀ i, w2.testBit i = true ↔ ∃ x, x < L + 1 ∧ (decide (x &&& L = x) && F x) = true ∧ x.testBit i = true := d2
  refine ⟨?_, ?_, ?_, fun hm => ?_⟩
  · have s1 : m1 = SS 12 A (fun x => if F (x &&& L) = true then 1 else 0) := by
      rw [a1, pc_pck, ← SS_class]
      refine sm_cong (fun k _ => ?_)
      show (if F (pdk 12 A k) = true then 1 else 0) = if F (pdk 12 A k &&& L) = true then 1 else 0
      rw [up k]
    have s2 : m2 = SS 12 L (fun x => if F (x &&& L) = true then 1 else 0) := by
      rw [a2, ← SS_model' hL]
      refine sm_cong (fun x _ => ?_)
      show (if (decide (x &&& L = x) && F x) = true then 1 else 0) = if x &&& L = x then (if F (x &&& L) = true then 1 else 0) else 0
      by_cases z : x &&& L = x
      · rw [if_pos z, z, decide_eq_true (show x = x from rfl), Bool.true_and]
      · rw [if_neg z, decide_eq_false z, Bool.false_and, if_neg (by decide)]
    have hf := WS_free 1 1 12 L A (pck 12 (adf L A)) (fun x => if F (x &&& L) = true then 1 else 0) hA (fun x y hxy => by
      have hd := dep (x &&& L) (y &&& L) (by rw [Nat.and_assoc, Nat.and_self]) (by rw [Nat.and_assoc, Nat.and_self]) (by rw [Nat.and_assoc, Nat.and_comm L, hA, Nat.and_assoc, Nat.and_comm L, hA]; exact hxy)
      show (if F (x &&& L) = true then 1 else 0) = if F (y &&& L) = true then 1 else 0
      rw [hd]) (pck_adf hA)
    rw [show (1 + 1 : Nat) = 2 from rfl] at hf
    rw [s1, s2, SS_WS, SS_WS, hf, pc_pck, Nat.mul_comm]
  · rcases b1 with ⟨q1, q2⟩ | ⟨k, q1, q2, q3, q4⟩
    · rcases b2 with ⟨r1, r2⟩ | ⟨x, r1, r2, r3, r4⟩
      · rw [q1, r1]
      · obtain ⟨k, hk, _, e⟩ := down x r2
        have := q2 k hk
        rw [e] at this; exact absurd this (by decide)
    · rcases b2 with ⟨r1, r2⟩ | ⟨x, r1, r2, r3, r4⟩
      · have h1 := r2 (pdk 12 A k) (upl k)
        have h2 := upP k q2
        rw [h2] at h1; exact absurd h1 (by decide)
      · obtain ⟨k', hk', e', f'⟩ := down x r2
        have l1 : k ≤ k' := Nat.not_lt.mp (fun z => by have := q4 k' z; rw [f'] at this; exact absurd this (by decide))
        have l2 : pdk 12 A k ≤ pdk 12 A k' := by
          by_cases z : k = k'
          · rw [z]; exact Nat.le_refl _
          · exact Nat.le_of_lt (pdk_mono 12 A k k' (by omega) (by rw [← pc_pck]; exact hk'))
        have l3 : x &&& A ≤ x := Nat.and_le_left
        have l4 : x ≤ pdk 12 A k := Nat.not_lt.mp (fun z => by
          have h1 := r4 _ z
          have h2 := upP k q2
          rw [h2] at h1; exact absurd h1 (by decide))
        rw [q3, r3]
        exact congrArg nI (by omega)
  · refine Nat.eq_of_testBit_eq fun i => Bool.eq_iff_iff.mpr ?_
    rw [c1, c2]
    refine ⟨fun z => ⟨z.1, fun x _ hP => ?_⟩, fun z => ⟨z.1, fun k _ hP => z.2 _ (upl k) (upP k hP)⟩⟩
    obtain ⟨k, hk, e, f'⟩ := down x hP
    have := z.2 k hk f'
    rw [e, Nat.testBit_and, Bool.and_eq_true] at this
    exact this.1
  · refine Nat.eq_of_testBit_eq fun i => Bool.eq_iff_iff.mpr ?_
    rw [Nat.testBit_or, Bool.or_eq_true, d1, d2, adf_bit]
    constructor
    · intro z
      rcases z with ⟨k, _, z2, z3⟩ | z
      · exact ⟨_, upl k, upP k z2, z3⟩
      · rw [Bool.and_eq_true] at z
        have hb : ∃ k, F (pdk 12 A k) = true := by
          rcases b1 with ⟨q1, q2⟩ | ⟨k, q1, q2, q3, q4⟩
          · have : m1 = 0 := by
              rw [a1]
              exact sm_zero (fun k hk => by show (if F (pdk 12 A k) = true then 1 else 0) = 0; rw [q2 k hk, if_neg (by decide)])
            omega
          · exact ⟨k, q2⟩
        obtain ⟨k, hk⟩ := hb
        have nA : A.testBit i = false := by
          have := z.2
          cases e : A.testBit i
          · rfl
          · rw [e] at this; exact absurd this (by decide)
        have xL : (pdk 12 A k ||| 2 ^ i) &&& L = pdk 12 A k ||| 2 ^ i := wi_bit.mpr (fun j hj => by
          rw [Nat.testBit_or, Bool.or_eq_true, Nat.testBit_two_pow] at hj
          rcases hj with hj | hj
          · exact wi_bit.mp (up k) j hj
          · rw [← of_decide_eq_true hj]; exact z.1)
        have xA : (pdk 12 A k ||| 2 ^ i) &&& A = pdk 12 A k &&& A := Nat.eq_of_testBit_eq fun j => by
          rw [Nat.testBit_and, Nat.testBit_and, Nat.testBit_or, Nat.testBit_two_pow]
          by_cases y : i = j
          · subst y; rw [nA, Bool.and_false, Bool.and_false]
          · rw [decide_eq_false y, Bool.or_false]
        have xl : pdk 12 A k ||| 2 ^ i ≤ L := by rw [← xL]; exact Nat.and_le_right
        refine ⟨pdk 12 A k ||| 2 ^ i, by omega, ?_, ?_⟩
        · show (decide ((pdk 12 A k ||| 2 ^ i) &&& L = pdk 12 A k ||| 2 ^ i) && F (pdk 12 A k ||| 2 ^ i)) = true
          rw [decide_eq_true xL, dep _ _ xL (up k) xA, hk]; rfl
        · show (pdk 12 A k ||| 2 ^ i).testBit i = true
          rw [Nat.testBit_or, Nat.testBit_two_pow, decide_eq_true (show i = i from rfl), Bool.or_true]
    · intro ⟨x, z1, z2, z3⟩
      have z3' : x.testBit i = true := z3
      obtain ⟨k, hk, e, f'⟩ := down x z2
      cases hi : A.testBit i
      · right
        have z2' : (decide (x &&& L = x) && F x) = true := z2
        rw [Bool.and_eq_true] at z2'
        rw [wi_bit.mp (of_decide_eq_true z2'.1) i z3']; rfl
      · exact Or.inl ⟨k, hk, f', by rw [e, Nat.testBit_and, z3', hi]; rfl⟩
