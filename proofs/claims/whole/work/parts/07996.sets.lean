/-! ===== errors on the way ===== -/
abbrev onw (h : Nat → Nat → Nat) (t d p i : Nat) : Prop := t ≤ d ∧ h 10 i = p ∧ ((h 8 i = 0 ∧ h 9 i ≤ d - t) ∨ (0 < h 8 i ∧ h 8 i ≤ t ∧ h 9 i = d - t + h 8 i))
theorem onw_hit {h : Nat → Nat → Nat} {t d p i : Nat} (htd : t ≤ d) : onw h t d p i ↔ ∃ s, hit h t d p i s := by
  constructor
  · intro ⟨_, q, r⟩
    rcases r with r | r
    · exact ⟨0, q, Or.inl ⟨rfl, r.1, r.2⟩⟩
    · exact ⟨h 8 i, q, Or.inr ⟨r.1, r.2.1, rfl, r.2.2⟩⟩
  · intro ⟨s, q, r⟩
    refine ⟨htd, q, ?_⟩
    rcases r with r | r
    · exact Or.inl ⟨r.2.1, r.2.2⟩
    · exact Or.inr ⟨by omega, by omega, by omega⟩
def owf (h : Nat → Nat → Nat) (t d p : Nat) : Nat → Nat
  | 0 => 0
  | i + 1 => if onw h t d p i then owf h t d p i ||| 2 ^ i else owf h t d p i
def ow (h : Nat → Nat → Nat) (t d p : Nat) : Nat := owf h t d p (h 1 0)
theorem owf_bit (h : Nat → Nat → Nat) (t d p j : Nat) : ∀ n, (owf h t d p n).testBit j = decide (j < n ∧ onw h t d p j)
  | 0 => by rw [owf, Nat.zero_testBit]; exact (decide_eq_false (fun q => absurd q.1 (by omega))).symm
  | n + 1 => by
    rw [owf]
    by_cases q : onw h t d p n
    · rw [if_pos q, Nat.testBit_or, Nat.testBit_two_pow, owf_bit h t d p j n]
      by_cases e : n = j
      · subst e
        rw [decide_eq_true (show n = n from rfl), Bool.or_true]
        exact (decide_eq_true ⟨by omega, q⟩).symm
      · rw [decide_eq_false e, Bool.or_false]
        exact decide_eq_decide.mpr ⟨fun z => ⟨by omega, z.2⟩, fun z => ⟨by omega, z.2⟩⟩
    · rw [if_neg q, owf_bit h t d p j n]
      refine decide_eq_decide.mpr ⟨fun z => ⟨by omega, z.2⟩, fun z => ⟨?_, z.2⟩⟩
      by_cases e : j = n
      · subst e; exact absurd z.2 q
      · omega
theorem owf_lt (h : Nat → Nat → Nat) (t d p : Nat) : ∀ n, owf h t d p n < 2 ^ n
  | 0 => by rw [owf]; decide
  | n + 1 => by
    have h1 := owf_lt h t d p n
    have h2 : 2 ^ n ≤ 2 ^ (n + 1) := Nat.pow_le_pow_right (by omega) (by omega)
    rw [owf]
    split
    · exact bitor_lt h1 (by omega)
    · omega
theorem onTheWay0 {h : Nat → Nat → Nat} (hv : ChV h) {c : CS} (hc : ChC c h) {t d p : Nat} (ht : t < 5) (hd : d < 20) (hp : p < 5) : ∀ (n i : Nat), i ≤ h 1 0 → h 1 0 - i < n → f_X0_onTheWay_6 n (nI t) (nI d) (nI p) (nI (owf h t d p i)) (nI i) c = some (nI (ow h t d p)) := by
  have v1 : h 1 0 ≤ 12 := hv.2.1
  intro n
  induction n with
  | zero => intro i h1 h2; exact absurd h2 (by omega)
  | succ n ih =>
    intro i h1 h2
    rw [f_X0_onTheWay_6, hc.2.1]
    by_cases hi : h 1 0 ≤ i
    · rw [if_pos (nI_le hi (by omega)), show i = h 1 0 by omega]; rfl
    · have hi' : i < h 1 0 := Nat.not_le.mp hi
      have i1 := ih (i + 1) (by omega) (by omega)
      rw [owf] at i1
      rw [if_neg (nI_ge hi' (by omega))]
      unfold f_X0_onTheWay_38
      by_cases htd : t ≤ d
      · rcases meets0 hv hc hi' ht hd htd hp with ⟨s, hs, hh, e⟩ | ⟨hh, e⟩
        · rw [if_pos ((onw_hit htd).mpr ⟨s, hh⟩)] at i1
          rw [e, ob1_s, if_neg (n9 (by omega)), one_shl (by omega), nI_or, nI_1]
          exact i1
        · rw [if_neg (fun q => by obtain ⟨s, hs⟩ := (onw_hit htd).mp q; exact hh s hs)] at i1
          rw [e, ob1_s, if_pos rfl, nI_1]
          exact i1
      · rw [if_neg (fun q => htd q.1)] at i1
        have e : f_X0_meets c (nI i) (nI t) (nI d) (nI p) = some (-9) := by
          unfold f_X0_meets f_X0_meets_21
          rw [if_pos (pk_sneg (by omega) (by omega))]
        rw [e, ob1_s, if_pos rfl, nI_1]
        exact i1
