/-! ===== sets in order ===== -/
/-- the n-th set of those within A -/
def pdk : Nat → Nat → Nat → Nat
  | 0, _, _ => 0
  | k + 1, A, n => if A % 2 = 1 then n % 2 + 2 * pdk k (A / 2) (n / 2) else 2 * pdk k (A / 2) n
theorem and_bit (u v b c : Nat) (hb : b < 2) (hc : c < 2) : (2 * u + b) &&& (2 * v + c) = 2 * (u &&& v) + (b &&& c) := by
  have h1 : ((2 * u + b) &&& (2 * v + c)) / 2 = u &&& v := by
    rw [Nat.and_div_two, show (2 * u + b) / 2 = u by omega, show (2 * v + c) / 2 = v by omega]
  have h2 : ((2 * u + b) &&& (2 * v + c)) % 2 = b &&& c := by
    have := Nat.and_mod_two_pow (a := 2 * u + b) (b := 2 * v + c) (n := 1)
    rw [Nat.pow_one] at this
    rw [this, show (2 * u + b) % 2 = b by omega, show (2 * v + c) % 2 = c by omega]
  omega
theorem pdk_le : ∀ (k A n : Nat), A < 2 ^ k → pdk k A n ≤ A
  | 0, _, _, _ => Nat.zero_le _
  | k + 1, A, n, h => by
    rw [Nat.pow_succ] at h
    rw [pdk]
    have h1 := pdk_le k (A / 2) (n / 2) (by omega)
    have h2 := pdk_le k (A / 2) n (by omega)
    split <;> omega
theorem pdk_and : ∀ (k A n : Nat), A < 2 ^ k → (pdk k A n + (2 ^ k - 1 - A)) &&& A = pdk k A n
  | 0, A, n, h => by
    rw [Nat.pow_zero] at h
    rw [show A = 0 by omega, Nat.and_zero]; rfl
  | k + 1, A, n, h => by
    have hp : 2 ^ (k + 1) = 2 * 2 ^ k := by rw [Nat.pow_succ, Nat.mul_comm]
    rw [hp] at h ⊢
    rw [pdk]
    by_cases a : A % 2 = 1
    · have i1 := pdk_and k (A / 2) (n / 2) (by omega)
      have l1 := pdk_le k (A / 2) (n / 2) (by omega)
      rw [if_pos a]
      have e1 : n % 2 + 2 * pdk k (A / 2) (n / 2) + (2 * 2 ^ k - 1 - A) = 2 * (pdk k (A / 2) (n / 2) + (2 ^ k - 1 - A / 2)) + n % 2 := by omega
      have e2 : A = 2 * (A / 2) + 1 := by omega
      have e3 := and_bit (pdk k (A / 2) (n / 2) + (2 ^ k - 1 - A / 2)) (A / 2) (n % 2) 1 (by omega) (by omega)
      rw [← e2, ← e1, i1] at e3
      rw [e3]
      rcases (show n % 2 = 0 ∨ n % 2 = 1 by omega) with q | q
      · rw [q, Nat.zero_and]; omega
      · rw [q, Nat.and_self]; omega
    · have i1 := pdk_and k (A / 2) n (by omega)
      have l1 := pdk_le k (A / 2) n (by omega)
      rw [if_neg a]
      have e1 : 2 * pdk k (A / 2) n + (2 * 2 ^ k - 1 - A) = 2 * (pdk k (A / 2) n + (2 ^ k - 1 - A / 2)) + 1 := by omega
      have e2 : A = 2 * (A / 2) + 0 := by omega
      have e3 := and_bit (pdk k (A / 2) n + (2 ^ k - 1 - A / 2)) (A / 2) 1 0 (by omega) (by omega)
      rw [← e2, ← e1, i1, Nat.and_zero, Nat.add_zero] at e3
      exact e3
theorem pdk_next : ∀ (k A n : Nat), A < 2 ^ k → ((pdk k A n + (2 ^ k - A)) % 2 ^ k) &&& A = pdk k A (n + 1)
  | 0, A, n, h => by
    rw [Nat.pow_zero] at h
    rw [show A = 0 by omega, Nat.and_zero]; rfl
  | k + 1, A, n, h => by
    have hp : 2 ^ (k + 1) = 2 * 2 ^ k := by rw [Nat.pow_succ, Nat.mul_comm]
    have hpos : 0 < 2 ^ k := Nat.pow_pos (by omega)
    rw [hp] at h ⊢
    rw [pdk, pdk]
    by_cases a : A % 2 = 1
    · have l1 := pdk_le k (A / 2) (n / 2) (by omega)
      rw [if_pos a, if_pos a]
      have e2 : A = 2 * (A / 2) + 1 := by omega
      by_cases o : n % 2 = 1
      · have i1 := pdk_next k (A / 2) (n / 2) (by omega)
        have e1 : (n % 2 + 2 * pdk k (A / 2) (n / 2) + (2 * 2 ^ k - A)) % (2 * 2 ^ k) = 2 * ((pdk k (A / 2) (n / 2) + (2 ^ k - A / 2)) % 2 ^ k) + 0 := by
          rw [show n % 2 + 2 * pdk k (A / 2) (n / 2) + (2 * 2 ^ k - A) = 2 * (pdk k (A / 2) (n / 2) + (2 ^ k - A / 2)) by omega, Nat.mul_mod_mul_left, Nat.add_zero]
        have e3 := and_bit ((pdk k (A / 2) (n / 2) + (2 ^ k - A / 2)) % 2 ^ k) (A / 2) 0 1 (by omega) (by omega)
        rw [← e2, ← e1, i1, Nat.zero_and, Nat.add_zero] at e3
        rw [e3, show (n + 1) % 2 = 0 by omega, show (n + 1) / 2 = n / 2 + 1 by omega, Nat.zero_add]
      · have i1 := pdk_and k (A / 2) (n / 2) (by omega)
        have e1 : (n % 2 + 2 * pdk k (A / 2) (n / 2) + (2 * 2 ^ k - A)) % (2 * 2 ^ k) = 2 * (pdk k (A / 2) (n / 2) + (2 ^ k - 1 - A / 2)) + 1 := by
          rw [show n % 2 + 2 * pdk k (A / 2) (n / 2) + (2 * 2 ^ k - A) = 2 * (pdk k (A / 2) (n / 2) + (2 ^ k - 1 - A / 2)) + 1 by omega]
          exact Nat.mod_eq_of_lt (by omega)
        have e3 := and_bit (pdk k (A / 2) (n / 2) + (2 ^ k - 1 - A / 2)) (A / 2) 1 1 (by omega) (by omega)
        rw [← e2, ← e1, i1, Nat.and_self] at e3
        rw [e3, show (n + 1) % 2 = 1 by omega, show (n + 1) / 2 = n / 2 by omega, Nat.add_comm]
    · have i1 := pdk_next k (A / 2) n (by omega)
      have l1 := pdk_le k (A / 2) n (by omega)
      rw [if_neg a, if_neg a]
      have e2 : A = 2 * (A / 2) + 0 := by omega
      have e1 : (2 * pdk k (A / 2) n + (2 * 2 ^ k - A)) % (2 * 2 ^ k) = 2 * ((pdk k (A / 2) n + (2 ^ k - A / 2)) % 2 ^ k) + 0 := by
        rw [show 2 * pdk k (A / 2) n + (2 * 2 ^ k - A) = 2 * (pdk k (A / 2) n + (2 ^ k - A / 2)) by omega, Nat.mul_mod_mul_left, Nat.add_zero]
      have e3 := and_bit ((pdk k (A / 2) n + (2 ^ k - A / 2)) % 2 ^ k) (A / 2) 0 0 (by omega) (by omega)
      rw [← e2, ← e1, i1, Nat.and_self, Nat.add_zero] at e3
      exact e3
