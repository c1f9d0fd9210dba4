/-- what is done depends on the errors on the way only -/
theorem dnI_dep {h : Nat → Nat → Nat} (hv : ChV h) {p t d a b : Nat} (hd : d < 20) (e : ∀ i, i < h 1 0 → onw h t d p i → a.testBit i = b.testBit i) : dnI h p a t d = dnI h p b t d := by
  unfold dnI
  by_cases q : d < t
  · rw [if_pos q, if_pos q]
  · rw [if_neg q, if_neg q]
    unfold dn
    have same : ∀ x, (∀ i, i < h 1 0 → h 10 i = p → 20 * h 8 i + h 9 i = x → onw h t d p i) → erx h p a x = erx h p b x := by
      intro x hx
      unfold erx
      refine sm_cong (fun i hi => ?_)
      show (if _ then h 11 i else 0) = if _ then h 11 i else 0
      by_cases z : h 10 i = p ∧ 20 * h 8 i + h 9 i = x
      · have := e i hi (hx i hi z.1 z.2)
        rw [this]
      · rw [if_neg (fun y => z ⟨y.1, y.2.2⟩), if_neg (fun y => z ⟨y.1, y.2.2⟩)]
    refine congrArg nI (Dm_cong t d (by omega) (fun x hx => ?_) (fun s hs hst => ?_))
    · show 0 + erx h p a (20 * 0 + x) = 0 + erx h p b (20 * 0 + x)
      rw [same]
      intro i hi h1 h2
      obtain ⟨w1, w2, w3, w4, w5⟩ := hv.2.2.2.2.2.2.1 i hi
      exact ⟨by omega, h1, Or.inl ⟨by omega, by omega⟩⟩
    · show 0 + erx h p a (20 * s + (d - t + s)) = 0 + erx h p b (20 * s + (d - t + s))
      rw [same]
      intro i hi h1 h2
      obtain ⟨w1, w2, w3, w4, w5⟩ := hv.2.2.2.2.2.2.1 i hi
      exact ⟨by omega, h1, Or.inr ⟨by omega, by omega, by omega⟩⟩
