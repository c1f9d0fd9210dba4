theorem n9 {v : Nat} (h : v < 1000) : ¬ nI v = -9 := fun q => by rw [i32_eq, nI_toInt (by omega), m9] at q; omega
theorem fig_take {M b : CS} (N : JS) {j k i no many dst : Nat} (hj : j < 4) (hk : k ≤ 60) (hi : i ≤ 60) (hs : b 6 j = nI k) (s1 : M 2 j = nI k) (s3 : ∀ x, x < k → M 3 (60 * j + x) = b j x) (h11 : M 11 0 = nI i) (hno : no < 100) (hd : dst < 119) (hm : many ≤ 20) (hm0 : 0 < many) :
    (∃ v, v < many ∧ i < k ∧ f_X2_figure b (nI j) (nI i) (nI no) (nI many) = some (nI v) ∧ f_X6_takes M N (nI j) (nI dst) (nI no) (nI 0) (nI (many - 1)) = some (1, cset (cset M 10 dst (nI v)) 11 0 (nI (i + 1)))) ∨ (f_X2_figure b (nI j) (nI i) (nI no) (nI many) = some (-9) ∧ f_X6_takes M N (nI j) (nI dst) (nI no) (nI 0) (nI (many - 1)) = some (0, M)) := by
  rw [takes6 N hj hk hi s1 s3 h11 hno hd (by omega) (by omega)]
  rcases fig_both (b := b) (j := j) (k := k) (i := i) (no := no) (many := many) (lo := 0) hj hk (by omega) hs hno hm (by omega) with ⟨v, hv, q1, q2, q3⟩ | ⟨q2, q3⟩
  · rw [q3, nI_toInt (by omega), if_pos (show i < k ∧ ((0 : Nat) : Int) ≤ (v : Nat) ∧ ((v : Nat) : Int) ≤ ((many - 1 : Nat) : Int) by omega)]
    exact Or.inl ⟨v, hv, q1, q2, rfl⟩
  · rw [if_neg (fun z => q3 ⟨z.1, z.2.1, by have := z.2.2; omega⟩)]
    exact Or.inr ⟨q2, rfl⟩
theorem fig_take1 {M b : CS} (N : JS) {j k i no many dst : Nat} (hj : j < 4) (hk : k ≤ 60) (hi : i ≤ 60) (hs : b 6 j = nI k) (s1 : M 2 j = nI k) (s3 : ∀ x, x < k → M 3 (60 * j + x) = b j x) (h11 : M 11 0 = nI i) (hno : no < 100) (hd : dst < 119) (hm : many ≤ 20) (hm0 : 0 < many) :
    (∃ v, v < many ∧ 0 < v ∧ i < k ∧ f_X2_figure b (nI j) (nI i) (nI no) (nI many) = some (nI v) ∧ f_X6_takes M N (nI j) (nI dst) (nI no) (nI 1) (nI (many - 1)) = some (1, cset (cset M 10 dst (nI v)) 11 0 (nI (i + 1)))) ∨ ((f_X2_figure b (nI j) (nI i) (nI no) (nI many) = some (-9) ∨ f_X2_figure b (nI j) (nI i) (nI no) (nI many) = some 0) ∧ f_X6_takes M N (nI j) (nI dst) (nI no) (nI 1) (nI (many - 1)) = some (0, M)) := by
  rw [takes6 N hj hk hi s1 s3 h11 hno hd (by omega) (by omega)]
  rcases fig_both (b := b) (j := j) (k := k) (i := i) (no := no) (many := many) (lo := 0) hj hk (by omega) hs hno hm (by omega) with ⟨v, hv, q1, q2, q3⟩ | ⟨q2, q3⟩
  · rw [q3, nI_toInt (by omega)]
    by_cases hv0 : v = 0
    · rw [if_neg (show ¬ (i < k ∧ ((1 : Nat) : Int) ≤ (v : Nat) ∧ ((v : Nat) : Int) ≤ ((many - 1 : Nat) : Int)) by omega)]
      exact Or.inr ⟨Or.inr (by rw [q2, hv0]; rfl), rfl⟩
    · rw [if_pos (show i < k ∧ ((1 : Nat) : Int) ≤ (v : Nat) ∧ ((v : Nat) : Int) ≤ ((many - 1 : Nat) : Int) by omega)]
      exact Or.inl ⟨v, hv, by omega, q1, q2, rfl⟩
  · rw [if_neg (fun z => q3 ⟨z.1, by have := z.2.1; omega, by have := z.2.2; omega⟩)]
    exact Or.inr ⟨Or.inl q2, rfl⟩
def hAddE (h : Nat → Nat → Nat) (t d p b : Nat) : Nat → Nat → Nat := fun k i => if k = 1 then h 1 0 + 1 else if k = 8 then (if i = h 1 0 then t else h 8 i) else if k = 9 then (if i = h 1 0 then d else h 9 i) else if k = 10 then (if i = h 1 0 then p else h 10 i) else if k = 11 then (if i = h 1 0 then b else h 11 i) else h k i
theorem hAddE_v {h : Nat → Nat → Nat} (D : Dr h) {t d p b : Nat} (hE : h 1 0 < 6) (ht : t ≤ 4) (hd : d ≤ 19) (hp : p < h 0 0) (hb : 1 ≤ b) (hb9 : b ≤ 9) : Dr (hAddE h t d p b) := by
  obtain ⟨⟨v0, v1, v2, v3, v4, v5, v6, v7⟩, d2, d3, d4, d5⟩ := D
  refine ⟨⟨v0, show h 1 0 + 1 ≤ 12 by omega, Nat.lt_of_lt_of_le v2 (Nat.pow_le_pow_right (by omega) (show h 1 0 ≤ h 1 0 + 1 by omega)), v3, v4, v5, fun i hi => ?_, fun _ => h 1 0 + 1, fun _ => h 2 0, fun _ => h 3 0, rfl, rfl, rfl, fun k hk => ?_⟩, d2, d3, d4, hE⟩
  · have hi' : i < h 1 0 + 1 := hi
    show (if i = h 1 0 then t else h 8 i) ≤ 4 ∧ (if i = h 1 0 then d else h 9 i) ≤ 19 ∧ (if i = h 1 0 then p else h 10 i) < h 0 0 ∧ 1 ≤ (if i = h 1 0 then b else h 11 i) ∧ (if i = h 1 0 then b else h 11 i) ≤ 9
    by_cases e : i = h 1 0
    · simp only [if_pos e]; omega
    · simp only [if_neg e]; exact v6 i (by omega)
  · have hk' : k < h 4 0 := hk
    omega
