/-! ===== reading a text ===== -/
theorem byteAt6 {M : CS} (N : JS) {b : CS} {j k i : Nat} (hj : j < 4) (hk : k ≤ 60) (hi : i ≤ 60) (s1 : M 2 j = nI k) (s3 : ∀ x, x < k → M 3 (60 * j + x) = b j x) (h11 : M 11 0 = nI i) : f_X6_byteAt M N (nI j) = some (if k ≤ i then -1000 else b j i) := by
  unfold f_X6_byteAt f_X6_byteAt_33
  rw [ck_t _ (inb_nI hj (by omega)), nI_clamp (by omega), s1, h11]
  by_cases h : k ≤ i
  · rw [if_pos (nI_le h (by omega)), if_pos h]
  · rw [if_neg (nI_ge (by omega) (by omega)), if_neg h, ix_60, ck_t _ (inb_nI (show 60 * j + i < 240 by omega) (by omega)), nI_clamp (by omega), s3 i (by omega)]
/-- a figure: read on both sides, or on none -/
theorem fig_both {b : CS} {j k i no many lo : Nat} (hj : j < 4) (hk : k ≤ 60) (hi : i ≤ 64) (hs : b 6 j = nI k) (hno : no < 100) (hm : many ≤ 20) (hlo : lo ≤ 1) :
    (∃ v, v < many ∧ i < k ∧ f_X2_figure b (nI j) (nI i) (nI no) (nI many) = some (nI v) ∧ b j i - nI no = nI v) ∨ (f_X2_figure b (nI j) (nI i) (nI no) (nI many) = some (-9) ∧ ¬ (i < k ∧ 0 ≤ (b j i - nI no).toInt ∧ (b j i - nI no).toInt < (many : Nat))) := by
  have e0 : (0 : Int32).toInt = 0 := by decide
  have hsz : (b 6 j).toInt = (k : Nat) := by rw [hs, nI_toInt (by omega)]
  unfold f_X2_figure f_X2_figure_36 f_X2_figure_38
  by_cases h : i < k
  · rw [get_t b hj (by omega) (by omega), ob1_s, holds_t b hj, ob1_s, if_bI, nI_toInt (by omega), hsz, if_pos (by omega)]
    by_cases h1 : b j i - nI no < 0
    · rw [if_pos h1]
      refine Or.inr ⟨rfl, fun z => ?_⟩
      rw [i32_lt, e0] at h1
      omega
    · rw [if_neg h1]
      obtain ⟨v, hv, e⟩ := nI_of h1
      rw [e]
      by_cases h2 : many ≤ v
      · rw [if_pos (nI_le h2 (by omega)), nI_toInt (by omega)]
        exact Or.inr ⟨rfl, fun z => absurd z.2.2 (by omega)⟩
      · rw [if_neg (nI_ge (by omega) (by omega))]
        exact Or.inl ⟨v, by omega, h, rfl, rfl⟩
  · have hg : ∃ g, f_X3_get_t b (nI j) (nI i) = some g := by
      unfold f_X3_get_t f_X3_get_t_21
      rw [holds_t b hj, ob1_s, if_bI, nI_toInt (by omega), hsz, if_neg (by omega)]
      exact ⟨_, rfl⟩
    obtain ⟨g, hg⟩ := hg
    rw [hg, ob1_s, holds_t b hj, ob1_s, if_bI, nI_toInt (by omega), hsz, if_neg (by omega)]
    exact Or.inr ⟨rfl, fun z => h z.1⟩
theorem takes6 {M : CS} (N : JS) {b : CS} {j k i no lo hi' dst : Nat} (hj : j < 4) (hk : k ≤ 60) (hi : i ≤ 60) (s1 : M 2 j = nI k) (s3 : ∀ x, x < k → M 3 (60 * j + x) = b j x) (h11 : M 11 0 = nI i) (hno : no < 100) (hd : dst < 119) (hlo : lo < 1000) (hh : hi' < 1000) :
    f_X6_takes M N (nI j) (nI dst) (nI no) (nI lo) (nI hi') = if i < k ∧ (lo : Int) ≤ (b j i - nI no).toInt ∧ (b j i - nI no).toInt ≤ (hi' : Nat) then some (1, cset (cset M 10 dst (b j i - nI no)) 11 0 (nI (i + 1))) else some (0, M) := by
  unfold f_X6_takes
  rw [byteAt6 N hj hk hi s1 s3 h11, ob1_s, p_in6i, ob1_s, if_bI, i32_w, i32_w, nI_toInt (by omega), nI_toInt (by omega), h11, nI_1, ck_t _ (inb_nI hd (by omega)), nI_clamp (by omega)]
  by_cases h : k ≤ i
  · have : ((-1000 : Int32) - nI no).toInt = -1000 - (no : Int) := by
      have := (by decide +kernel : ∀ no, no < 100 → ((-1000 : Int32) - nI no).toInt = -1000 - (no : Int)) no hno
      exact this
    rw [if_pos h, this, if_neg (by omega), if_neg (fun z => absurd z.1 (by omega))]
  · rw [if_neg h]
    by_cases q : (lo : Int) ≤ (b j i - nI no).toInt ∧ (b j i - nI no).toInt ≤ (hi' : Nat)
    · rw [if_pos q, if_pos ⟨by omega, q⟩]
    · rw [if_neg q, if_neg (fun z => q z.2)]
