theorem add2 {a b c d : Nat} (h1 : a = c) (h2 : b = d) : a + b = c + d := by rw [h1, h2]
theorem nI_wrap (s : Nat) : nI (s + 2 ^ 32) = nI s := by
  rw [← Int32.toBitVec_inj, bv_nI, bv_nI]
  exact BitVec.eq_of_toNat_eq (by rw [BitVec.toNat_ofNat, BitVec.toNat_ofNat, Nat.add_mod_right])
theorem nextSet0 {A n : Nat} (hA : A < 4096) : f_X5_nextSet (nI (pdk 12 A n)) (nI A) = some (nI (pdk 12 A (n + 1))) := by
  have h1 := pdk_next 12 A n hA
  have h2 : (pdk 12 A n + 2 ^ 32 - A) &&& A ≤ A := Nat.and_le_right
  have h3 := Nat.and_mod_two_pow (a := pdk 12 A n + 2 ^ 32 - A) (b := A) (n := 12)
  rw [show A % 2 ^ 12 = A from Nat.mod_eq_of_lt hA, show (pdk 12 A n + 2 ^ 32 - A) % 2 ^ 12 = (pdk 12 A n + (2 ^ 12 - A)) % 2 ^ 12 by omega, h1, Nat.mod_eq_of_lt (by omega)] at h3
  unfold f_X5_nextSet
  rw [← nI_wrap (pdk 12 A n), pk_sub (by omega), nI_and, h3]
theorem pdk_0 : ∀ (k A : Nat), pdk k A 0 = 0
  | 0, _ => rfl
  | k + 1, A => by rw [pdk]; split <;> simp [pdk_0 k]
/-- how many bits of the first k -/
def pck : Nat → Nat → Nat
  | 0, _ => 0
  | k + 1, A => A % 2 + pck k (A / 2)
/-- the sum over the sets within L -/
def SS : Nat → Nat → (Nat → Nat) → Nat
  | 0, _, g => g 0
  | k + 1, L, g => if L % 2 = 1 then SS k (L / 2) (fun y => g (2 * y)) + SS k (L / 2) (fun y => g (2 * y + 1)) else SS k (L / 2) (fun y => g (2 * y))
theorem sm_two (f : Nat → Nat) : ∀ n, sm f (2 * n) = sm (fun y => f (2 * y)) n + sm (fun y => f (2 * y + 1)) n
  | 0 => rfl
  | n + 1 => by rw [show 2 * (n + 1) = 2 * n + 1 + 1 by omega, sm, sm, sm_two f n, sm, sm]; omega
/-- whether within -/
def wi (x L : Nat) : Prop := x &&& L = x
theorem wi_0 (x b L c : Nat) (hb : b < 2) (hc : c < 2) : (2 * x + b) &&& (2 * L + c) = 2 * x + b ↔ (x &&& L = x ∧ b &&& c = b) := by
  rw [and_bit x L b c hb hc]
  have : b &&& c < 2 := Nat.lt_of_le_of_lt Nat.and_le_left hb
  omega
theorem SS_model : ∀ (k L : Nat) (g : Nat → Nat), L < 2 ^ k → sm (fun x => if x &&& L = x then g x else 0) (2 ^ k) = SS k L g
  | 0, L, g, h => by
    rw [Nat.pow_zero] at h
    rw [SS, Nat.pow_zero, sm, sm, if_pos (by rw [Nat.zero_and]), Nat.zero_add]
  | k + 1, L, g, h => by
    have hp : 2 ^ (k + 1) = 2 * 2 ^ k := by rw [Nat.pow_succ, Nat.mul_comm]
    rw [hp] at h
    rw [hp, sm_two, SS]
    by_cases a : L % 2 = 1
    · have e2 : L = 2 * (L / 2) + 1 := by omega
      rw [if_pos a, ← SS_model k (L / 2) (fun y => g (2 * y)) (by omega), ← SS_model k (L / 2) (fun y => g (2 * y + 1)) (by omega)]
      refine add2 (sm_cong (fun x _ => ?_)) (sm_cong (fun x _ => ?_))
      · show (if 2 * x &&& L = 2 * x then g (2 * x) else 0) = if x &&& L / 2 = x then g (2 * x) else 0
        have := wi_0 x 0 (L / 2) 1 (by omega) (by omega)
        rw [← e2, Nat.add_zero, Nat.zero_and] at this
        by_cases q : x &&& L / 2 = x
        · rw [if_pos q, if_pos (this.mpr ⟨q, rfl⟩)]
        · rw [if_neg q, if_neg (fun z => q (this.mp z).1)]
      · show (if 2 * x + 1 &&& L = 2 * x + 1 then g (2 * x + 1) else 0) = if x &&& L / 2 = x then g (2 * x + 1) else 0
        have := wi_0 x 1 (L / 2) 1 (by omega) (by omega)
        rw [← e2, Nat.and_self] at this
        by_cases q : x &&& L / 2 = x
        · rw [if_pos q, if_pos (this.mpr ⟨q, rfl⟩)]
        · rw [if_neg q, if_neg (fun z => q (this.mp z).1)]
    · have e2 : L = 2 * (L / 2) + 0 := by omega
      rw [if_neg a, ← SS_model k (L / 2) (fun y => g (2 * y)) (by omega)]
      have z2 : sm (fun y => if 2 * y + 1 &&& L = 2 * y + 1 then g (2 * y + 1) else 0) (2 ^ k) = 0 := sm_zero (fun x _ => by
        have := wi_0 x 1 (L / 2) 0 (by omega) (by omega)
        rw [← e2, Nat.and_zero] at this
        exact if_neg (fun z => absurd (this.mp z).2 (by omega)))
      rw [z2, Nat.add_zero]
      refine sm_cong (fun x _ => ?_)
      show (if 2 * x &&& L = 2 * x then g (2 * x) else 0) = if x &&& L / 2 = x then g (2 * x) else 0
      have := wi_0 x 0 (L / 2) 0 (by omega) (by omega)
      rw [← e2, Nat.add_zero, Nat.and_self] at this
      by_cases q : x &&& L / 2 = x
      · rw [if_pos q, if_pos (this.mpr ⟨q, rfl⟩)]
      · rw [if_neg q, if_neg (fun z => q (this.mp z).1)]
theorem SS_class : ∀ (k A : Nat) (g : Nat → Nat), sm (fun n => g (pdk k A n)) (2 ^ pck k A) = SS k A g
  | 0, A, g => by rw [pck, Nat.pow_zero, sm, sm, SS, Nat.zero_add]; rfl
  | k + 1, A, g => by
    rw [SS, pck]
    by_cases a : A % 2 = 1
    · rw [if_pos a, a, Nat.add_comm 1, Nat.pow_succ, Nat.mul_comm _ 2, sm_two, ← SS_class k (A / 2) (fun y => g (2 * y)), ← SS_class k (A / 2) (fun y => g (2 * y + 1))]
      refine add2 (sm_cong (fun n _ => ?_)) (sm_cong (fun n _ => ?_))
      · show g (pdk (k + 1) A (2 * n)) = g (2 * pdk k (A / 2) n)
        rw [pdk, if_pos a, show 2 * n % 2 = 0 by omega, show 2 * n / 2 = n by omega, Nat.zero_add]
      · show g (pdk (k + 1) A (2 * n + 1)) = g (2 * pdk k (A / 2) n + 1)
        rw [pdk, if_pos a, show (2 * n + 1) % 2 = 1 by omega, show (2 * n + 1) / 2 = n by omega, Nat.add_comm]
    · rw [if_neg a, show A % 2 = 0 by omega, Nat.zero_add, ← SS_class k (A / 2) (fun y => g (2 * y))]
      refine sm_cong (fun n _ => ?_)
      show g (pdk (k + 1) A n) = g (2 * pdk k (A / 2) n)
      rw [pdk, if_neg a]
