theorem pdk_wi : ∀ (k A n : Nat), A < 2 ^ k → pdk k A n &&& A = pdk k A n
  | 0, A, n, h => by rw [pdk, Nat.zero_and]
  | k + 1, A, n, h => by
    have hp : 2 ^ (k + 1) = 2 * 2 ^ k := by rw [Nat.pow_succ, Nat.mul_comm]
    rw [hp] at h
    rw [pdk]
    by_cases a : A % 2 = 1
    · have e2 : A = 2 * (A / 2) + 1 := by omega
      have := (wi_0 (pdk k (A / 2) (n / 2)) (n % 2) (A / 2) 1 (by omega) (by omega)).mpr ⟨pdk_wi k (A / 2) (n / 2) (by omega), by rcases (show n % 2 = 0 ∨ n % 2 = 1 by omega) with q | q <;> rw [q] <;> rfl⟩
      rw [← e2] at this
      rw [if_pos a, Nat.add_comm]; exact this
    · have e2 : A = 2 * (A / 2) + 0 := by omega
      have := (wi_0 (pdk k (A / 2) n) 0 (A / 2) 0 (by omega) (by omega)).mpr ⟨pdk_wi k (A / 2) n (by omega), rfl⟩
      rw [← e2, Nat.add_zero] at this
      rw [if_neg a]; exact this
theorem pdk_mono : ∀ (k A n m : Nat), n < m → m < 2 ^ pck k A → pdk k A n < pdk k A m
  | 0, A, n, m, h1, h2 => by rw [pck, Nat.pow_zero] at h2; omega
  | k + 1, A, n, m, h1, h2 => by
    rw [pck] at h2
    rw [pdk, pdk]
    by_cases a : A % 2 = 1
    · rw [a, Nat.add_comm, Nat.pow_succ] at h2
      rw [if_pos a, if_pos a]
      by_cases q : n / 2 = m / 2
      · rw [q]; omega
      · have := pdk_mono k (A / 2) (n / 2) (m / 2) (by omega) (by omega)
        omega
    · rw [show A % 2 = 0 by omega, Nat.zero_add] at h2
      rw [if_neg a, if_neg a]
      have := pdk_mono k (A / 2) n m h1 h2
      omega
theorem pdk_surj : ∀ (k A x : Nat), A < 2 ^ k → x &&& A = x → ∃ n, n < 2 ^ pck k A ∧ pdk k A n = x
  | 0, A, x, h, hx => by
    rw [Nat.pow_zero] at h
    rw [show A = 0 by omega, Nat.and_zero] at hx
    exact ⟨0, by rw [pck]; decide, hx⟩
  | k + 1, A, x, h, hx => by
    have hp : 2 ^ (k + 1) = 2 * 2 ^ k := by rw [Nat.pow_succ, Nat.mul_comm]
    rw [hp] at h
    have ex : x = 2 * (x / 2) + x % 2 := by omega
    have eA : A = 2 * (A / 2) + A % 2 := by omega
    have hw := (wi_0 (x / 2) (x % 2) (A / 2) (A % 2) (by omega) (by omega)).mp (by rw [← ex, ← eA]; exact hx)
    obtain ⟨n, hn, e⟩ := pdk_surj k (A / 2) (x / 2) (by omega) hw.1
    by_cases a : A % 2 = 1
    · refine ⟨2 * n + x % 2, ?_, ?_⟩
      · rw [pck, a, Nat.add_comm 1, Nat.pow_succ]; omega
      · rw [pdk, if_pos a, show (2 * n + x % 2) % 2 = x % 2 by omega, show (2 * n + x % 2) / 2 = n by omega, e]; omega
    · refine ⟨n, ?_, ?_⟩
      · rw [pck, show A % 2 = 0 by omega, Nat.zero_add]; exact hn
      · have h0 := hw.2
        rw [show A % 2 = 0 by omega, Nat.and_zero] at h0
        rw [pdk, if_neg a, e]; omega
theorem sm_head (f : Nat → Nat) : ∀ n, sm f (n + 1) = f 0 + sm (fun i => f (i + 1)) n
  | 0 => by rw [sm, sm, sm]; omega
  | n + 1 => by rw [sm, sm_head f n, sm]; omega
theorem pck_sm : ∀ (k A : Nat), pck k A = sm (mbit A) k
  | 0, A => rfl
  | k + 1, A => by
    rw [pck, sm_head, pck_sm k (A / 2)]
    refine add2 ?_ (sm_cong (fun i _ => ?_))
    · unfold mbit
      rw [Nat.testBit_zero]
      rcases (show A % 2 = 0 ∨ A % 2 = 1 by omega) with q | q
      · rw [q]; rfl
      · rw [q]; rfl
    · show mbit (A / 2) i = mbit A (i + 1)
      unfold mbit
      rw [Nat.testBit_succ]
theorem pc_pck (A : Nat) : pc A = pck 12 A := (pck_sm 12 A).symm
