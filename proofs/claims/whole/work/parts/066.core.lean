/-! ===== what is done: the mathematics ===== -/
def sm (f : Nat → Nat) : Nat → Nat
  | 0 => 0
  | n + 1 => sm f n + f n
theorem sm_cong {f g : Nat → Nat} : ∀ {n : Nat}, (∀ k, k < n → f k = g k) → sm f n = sm g n
  | 0, _ => rfl
  | n + 1, h => by rw [sm, sm, sm_cong (fun k hk => h k (by omega)), h n (by omega)]
theorem sm_zero : ∀ {n : Nat} {f : Nat → Nat}, (∀ k, k < n → f k = 0) → sm f n = 0
  | 0, _, _ => rfl
  | n + 1, f, h => by rw [sm, sm_zero (fun k hk => h k (by omega)), h n (by omega)]
theorem sm_add (f g : Nat → Nat) : ∀ n, sm (fun k => f k + g k) n = sm f n + sm g n
  | 0 => rfl
  | n + 1 => by rw [sm, sm, sm, sm_add f g n]; omega
theorem sm_swap (f : Nat → Nat → Nat) (m : Nat) : ∀ n, sm (fun a => sm (f a) m) n = sm (fun b => sm (fun a => f a b) n) m
  | 0 => by rw [sm]; exact (sm_zero (fun k _ => rfl)).symm
  | n + 1 => by
    rw [sm, sm_swap f m n, ← sm_add]
    exact sm_cong (fun k _ => rfl)
theorem sm_le {f : Nat → Nat} {c : Nat} : ∀ {n : Nat}, (∀ k, k < n → f k ≤ c) → sm f n ≤ n * c
  | 0, _ => by rw [sm]; omega
  | n + 1, h => by
    have h1 := sm_le (fun k hk => h k (Nat.lt_succ_of_lt hk))
    have h2 := h n (Nat.lt_succ_self n)
    rw [sm, Nat.succ_mul]; omega
theorem sm_one (a : Nat) (v : Nat) : ∀ n, sm (fun k => if k = a then v else 0) n = if a < n then v else 0
  | 0 => by rw [sm, if_neg (by omega)]
  | n + 1 => by
    rw [sm, sm_one a v n]
    by_cases h : n = a
    · subst h; rw [if_neg (by omega), if_pos rfl, if_pos (by omega)]; omega
    · rw [if_neg h]
      by_cases h2 : a < n
      · rw [if_pos h2, if_pos (by omega)]; rfl
      · rw [if_neg h2, if_neg (by omega)]
/-- a lazy one: kinds 2 and 5 -/
def lazyB (k : Nat) : Bool := k == 2 || k == 5
/-- what a kind does of what was done in the town ahead -/
def bey (k d v : Nat) : Nat := if k = 1 then v + 1 else if k = 3 then 9 - v else if k = 4 then (if d % 3 = 0 then v + 2 else v + 1) else if k = 5 then (if v = 0 then 5 else v) else v
def D0 (k e st : Nat) (m0 : Nat → Nat) : Nat → Nat
  | 0 => (e + m0 0) % 10
  | d + 1 => (D0 k e st m0 d + (if lazyB k = true ∧ (d + 1) % 2 = 1 then 0 else st) + m0 (d + 1)) % 10
def Dm (k e st : Nat) (mo : Nat → Nat → Nat) : Nat → Nat → Nat
  | 0, d => D0 k e st (mo 0) d
  | t + 1, d => (bey k d (Dm k e st mo t (d - 1)) + mo (t + 1) d) % 10
theorem D0_lt (k e st : Nat) (m0 : Nat → Nat) (d : Nat) : D0 k e st m0 d < 10 := by
  cases d <;> (rw [D0]; omega)
theorem Dm_lt (k e st : Nat) (mo : Nat → Nat → Nat) (t d : Nat) : Dm k e st mo t d < 10 := by
  cases t
  · rw [Dm]; exact D0_lt _ _ _ _ _
  · rw [Dm]; omega
theorem bey_le {k d v : Nat} (hv : v < 10) : bey k d v ≤ 11 := by
  unfold bey
  repeat' split
  all_goals omega
def strd (k d : Nat) : Nat := if lazyB k = true then d / 2 else d
theorem D0_closed (k e st : Nat) (m0 : Nat → Nat) : ∀ d, D0 k e st m0 d = (e + strd k d * st + sm m0 (d + 1)) % 10
  | 0 => by
    rw [D0, sm, sm]
    have : strd k 0 = 0 := by unfold strd; split <;> rfl
    rw [this]; simp
  | d + 1 => by
    rw [D0, D0_closed k e st m0 d]
    have h : strd k (d + 1) * st = strd k d * st + (if lazyB k = true ∧ (d + 1) % 2 = 1 then 0 else st) := by
      unfold strd
      by_cases hl : lazyB k = true
      · rw [if_pos hl, if_pos hl]
        by_cases h2 : (d + 1) % 2 = 1
        · rw [if_pos ⟨hl, h2⟩, show (d + 1) / 2 = d / 2 by omega]; rfl
        · rw [if_neg (fun q => h2 q.2), show (d + 1) / 2 = d / 2 + 1 by omega, Nat.succ_mul]
      · rw [if_neg hl, if_neg hl, if_neg (fun q => hl q.1), Nat.succ_mul]
    rw [h, show sm m0 (d + 1 + 1) = sm m0 (d + 1) + m0 (d + 1) from rfl]
    generalize (if lazyB k = true ∧ (d + 1) % 2 = 1 then 0 else st) = z
    generalize strd k d * st = y
    omega
/-- what errors (in real) and a warning add at a place of the table -/
def erx (h : Nat → Nat → Nat) (p real : Nat) (x : Nat) : Nat := sm (fun i => if h 10 i = p ∧ real.testBit i = true ∧ 20 * h 8 i + h 9 i = x then h 11 i else 0) (h 1 0)
def dn (h : Nat → Nat → Nat) (wb : Nat → Nat) (p real t d : Nat) : Nat := Dm (h 5 p) (h 6 p) (h 7 p) (fun t d => wb (20 * t + d) + erx h p real (20 * t + d)) t d
theorem erx_le {h : Nat → Nat → Nat} (hv : ChV h) (p real x : Nat) : erx h p real x ≤ 108 := by
  have h1 : erx h p real x ≤ h 1 0 * 9 := by
    refine sm_le (fun i hi => ?_)
    show (if _ then h 11 i else 0) ≤ 9
    split
    · exact (hv.2.2.2.2.2.2.1 i hi).2.2.2.2
    · omega
  have h2 : h 1 0 ≤ 12 := hv.2.1
  omega
/-- numbers in the machine's words -/
theorem jrem_nI {a d : Nat} (ha : a < 2 ^ 31) (h0 : 0 < d) (hd : d < 2 ^ 31) : jrem (nI a) (nI d) = nI (a % d) := pk_rem ha h0 hd
theorem jrem_10 {a : Nat} (ha : a < 2 ^ 31) : jrem (nI a) (10 : Int32) = nI (a % 10) := jrem_nI (d := 10) ha (by omega) (by omega)
theorem nI_addL (a b : Nat) (x : Int32) (h : x = nI a) : x + nI b = nI (a + b) := by rw [h, nI_add]
theorem lit_add (x y : Int32) (a b : Nat) (hx : x = nI a) (hy : y = nI b) : x + y = nI (a + b) := by rw [hx, hy, nI_add]
theorem ix_20 (j i : Nat) : (20 : Int32) * nI j + nI i = nI (20 * j + i) := by
  rw [show (20 : Int32) = nI 20 from rfl, pk_mul, nI_add]
theorem beyond6 {k v d : Nat} (hk : k ≤ 5) (hv : v < 10) (hd : d < 1000) : f_X6_beyond (nI k) (nI v) (nI d) = some (nI (bey k d v)) := by
  unfold f_X6_beyond f_X6_beyond_69 f_X6_beyond_68 f_X6_beyond_52 bey
  rcases (show k = 0 ∨ k = 1 ∨ k = 2 ∨ k = 3 ∨ k = 4 ∨ k = 5 by omega) with rfl | rfl | rfl | rfl | rfl | rfl
  · rfl
  · rw [if_pos (by decide), if_pos rfl, nI_1]
  · rfl
  · rw [if_neg (by decide), if_neg (by decide), if_pos (by decide), if_neg (by decide), if_pos rfl, show (9 : Int32) = nI 9 from rfl, pk_sub (by omega)]
  · show (if jrem (nI d) 3 = 0 then some (nI v + 2) else some (nI v + 1)) = some (nI (if d % 3 = 0 then v + 2 else v + 1))
    rw [show (3 : Int32) = nI 3 from rfl, jrem_nI (by omega) (by omega) (by omega)]
    by_cases h : d % 3 = 0
    · rw [h, if_pos nI_0, if_pos rfl]; exact congrArg some (lit_add _ _ v 2 rfl rfl)
    · rw [if_neg (nI_ne0 (by omega) (by omega)), if_neg h]; exact congrArg some (lit_add _ _ v 1 rfl rfl)
  · show (if nI v = 0 then some (5 : Int32) else some (nI v)) = some (nI (if v = 0 then 5 else v))
    by_cases h : v = 0
    · subst h; rw [if_pos nI_0, if_pos rfl]; rfl
    · rw [if_neg (nI_ne0 (by omega) (by omega)), if_neg h]
