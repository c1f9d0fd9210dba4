/-! ===== turns ===== -/
theorem Rel.chain {I I' : Nat → CS} {J : Nat → JS} {M M' : CS} {N : JS} (R : Rel I J M N) (a : ∀ g, 2 ≤ g → g ≤ 7 → I' g = I g) (b : ∀ q, q < 10 → q ≠ 4 → M' q = M q) (hr : ChR (I' 0) (M' 4)) : Rel I' J M' N := by
  obtain ⟨r1, r2, r3, r4, r5⟩ := R
  unfold Rel
  rw [a 5 (by omega) (by omega), a 6 (by omega) (by omega), a 7 (by omega) (by omega), b 0 (by omega) (by omega), b 1 (by omega) (by omega), b 2 (by omega) (by omega), b 3 (by omega) (by omega), b 5 (by omega) (by omega), b 6 (by omega) (by omega)]
  refine ⟨r1, r2, ?_, hr, r5.fr (fun k hk => a (2 + k) (by omega) (by omega))⟩
  unfold ToldR
  rw [b 7 (by omega) (by omega), b 8 (by omega) (by omega), b 9 (by omega) (by omega)]
  exact r3
theorem Hist.step {h h' : Nat → Nat → Nat} (H : Hist h) (hv : h 2 0 < 2 ^ h 1 0) (e4 : h' 4 0 = h 4 0 + 1) (e12 : ∀ k, k < h 4 0 → h' 12 k = h 12 k)
    (hs : (h' 12 (h 4 0) = 0 ∧ h' 1 0 = h 1 0 + 1 ∧ h' 2 0 = h 2 0 ∧ h' 3 0 = h 3 0) ∨ (h' 12 (h 4 0) = 1 ∧ h' 1 0 = h 1 0 ∧ h' 2 0 = h 2 0 ∧ h' 3 0 = h 3 0 + 1) ∨ ∃ i, i < h 1 0 ∧ h' 12 (h 4 0) = i + 2 ∧ h' 1 0 = h 1 0 ∧ h' 2 0 = h 2 0 ^^^ 2 ^ i ∧ h' 3 0 = h 3 0) : Hist h' := by
  obtain ⟨E, Mm, Td, hE, hM, hT, hk⟩ := H
  refine ⟨fun k => if k = h 4 0 + 1 then h' 1 0 else E k, fun k => if k = h 4 0 + 1 then h' 2 0 else Mm k, fun k => if k = h 4 0 + 1 then h' 3 0 else Td k, ?_, ?_, ?_, fun k hk' => ?_⟩
  · show (if h' 4 0 = h 4 0 + 1 then h' 1 0 else E (h' 4 0)) = h' 1 0
    rw [if_pos e4]
  · show (if h' 4 0 = h 4 0 + 1 then h' 2 0 else Mm (h' 4 0)) = h' 2 0
    rw [if_pos e4]
  · show (if h' 4 0 = h 4 0 + 1 then h' 3 0 else Td (h' 4 0)) = h' 3 0
    rw [if_pos e4]
  · show (if k = h 4 0 + 1 then h' 2 0 else Mm k) < 2 ^ (if k = h 4 0 + 1 then h' 1 0 else E k) ∧ ((h' 12 k = 0 ∧ (if k + 1 = h 4 0 + 1 then h' 1 0 else E (k + 1)) = (if k = h 4 0 + 1 then h' 1 0 else E k) + 1 ∧ (if k + 1 = h 4 0 + 1 then h' 2 0 else Mm (k + 1)) = (if k = h 4 0 + 1 then h' 2 0 else Mm k) ∧ (if k + 1 = h 4 0 + 1 then h' 3 0 else Td (k + 1)) = (if k = h 4 0 + 1 then h' 3 0 else Td k)) ∨ (h' 12 k = 1 ∧ (if k + 1 = h 4 0 + 1 then h' 1 0 else E (k + 1)) = (if k = h 4 0 + 1 then h' 1 0 else E k) ∧ (if k + 1 = h 4 0 + 1 then h' 2 0 else Mm (k + 1)) = (if k = h 4 0 + 1 then h' 2 0 else Mm k) ∧ (if k + 1 = h 4 0 + 1 then h' 3 0 else Td (k + 1)) = (if k = h 4 0 + 1 then h' 3 0 else Td k) + 1) ∨ ∃ i, i < (if k = h 4 0 + 1 then h' 1 0 else E k) ∧ h' 12 k = i + 2 ∧ (if k + 1 = h 4 0 + 1 then h' 1 0 else E (k + 1)) = (if k = h 4 0 + 1 then h' 1 0 else E k) ∧ (if k + 1 = h 4 0 + 1 then h' 2 0 else Mm (k + 1)) = (if k = h 4 0 + 1 then h' 2 0 else Mm k) ^^^ 2 ^ i ∧ (if k + 1 = h 4 0 + 1 then h' 3 0 else Td (k + 1)) = (if k = h 4 0 + 1 then h' 3 0 else Td k))
    by_cases hq : k = h 4 0
    · subst hq
      simp only [if_true, if_neg (show ¬ h 4 0 = h 4 0 + 1 by omega), hE, hM, hT]
      exact ⟨hv, hs⟩
    · simp only [if_neg (show ¬ k = h 4 0 + 1 by omega), if_neg (show ¬ k + 1 = h 4 0 + 1 by omega), e12 k (by omega)]
      exact hk k (by omega)
/-- an error comes -/
def hErr (h : Nat → Nat → Nat) (t d p b : Nat) : Nat → Nat → Nat := fun k i => if k = 1 then h 1 0 + 1 else if k = 4 then h 4 0 + 1 else if k = 8 then (if i = h 1 0 then t else h 8 i) else if k = 9 then (if i = h 1 0 then d else h 9 i) else if k = 10 then (if i = h 1 0 then p else h 10 i) else if k = 11 then (if i = h 1 0 then b else h 11 i) else if k = 12 then (if i = h 4 0 then 0 else h 12 i) else h k i
theorem hErr_v {h : Nat → Nat → Nat} (hv : ChV h) {t d p b : Nat} (ht : t ≤ 4) (hd : d ≤ 19) (hp : p < h 0 0) (hb : 1 ≤ b) (hb9 : b ≤ 9) (hE : h 1 0 < 12) (hT : h 4 0 < 40) : ChV (hErr h t d p b) := by
  obtain ⟨v0, v1, v2, v3, v4, v5, v6, v7⟩ := hv
  refine ⟨v0, hE, Nat.lt_of_lt_of_le v2 (Nat.pow_le_pow_right (by omega) (show h 1 0 ≤ h 1 0 + 1 by omega)), v3, hT, v5, fun i hi => ?_, v7.step v2 rfl (fun k hk => if_neg (show ¬ k = h 4 0 by omega)) (Or.inl ⟨if_pos rfl, rfl, rfl, rfl⟩)⟩
  have hi' : i < h 1 0 + 1 := hi
  show (if i = h 1 0 then t else h 8 i) ≤ 4 ∧ (if i = h 1 0 then d else h 9 i) ≤ 19 ∧ (if i = h 1 0 then p else h 10 i) < h 0 0 ∧ 1 ≤ (if i = h 1 0 then b else h 11 i) ∧ (if i = h 1 0 then b else h 11 i) ≤ 9
  by_cases e : i = h 1 0
  · simp only [if_pos e]; omega
  · simp only [if_neg e]; exact v6 i (by omega)
theorem addTurn0 {c : CS} {T : Nat} (hT : T < 40) (h4 : c 4 0 = nI T) (x : Int32) : f_X0_addTurn c x = some (cset (cset c 12 T x) 4 0 (nI (T + 1))) := by
  unfold f_X0_addTurn f_X0_addTurn_29
  rw [h4, if_neg (show ¬ (40 : Int32) ≤ nI T from nI_ge (b := 40) hT (by omega)), ck_t _ (inb_nI hT (by omega)), nI_clamp (by omega), nI_1]
theorem turnErred0 {c : CS} {h : Nat → Nat → Nat} (hc : ChC c h) {t d p b : Nat} (hE : h 1 0 < 12) (hT : h 4 0 < 40) :
    ∃ c', f_X0_turnErred c (nI t) (nI d) (nI p) (nI b) = some c' ∧ ChC c' (hErr h t d p b) := by
  obtain ⟨c0, c1, c2, c3, c4, c5, c6, c7⟩ := hc
  unfold f_X0_turnErred f_X0_addError
  rw [c1, if_pos (show nI (h 1 0) < (12 : Int32) from nI_lt (b := 12) hE (by omega)), ck_t _ (inb_nI hE (by omega)), ck_t _ (inb_nI hE (by omega)), ck_t _ (inb_nI hE (by omega)), ck_t _ (inb_nI hE (by omega)), nI_clamp (by omega), nI_1, ob1_s, addTurn0 (c := cset (cset (cset (cset (cset c 8 (h 1 0) (nI t)) 9 (h 1 0) (nI d)) 10 (h 1 0) (nI p)) 11 (h 1 0) (nI b)) 1 0 (nI (h 1 0 + 1))) hT c4, ob1_s]
  refine ⟨_, rfl, c0, rfl, c2, c3, rfl, c5, fun i hi => ?_, fun k hk => ?_⟩
  · have hi' : i < h 1 0 + 1 := hi
    show (if i = h 1 0 then nI t else c 8 i) = nI (if i = h 1 0 then t else h 8 i) ∧ (if i = h 1 0 then nI d else c 9 i) = nI (if i = h 1 0 then d else h 9 i) ∧ (if i = h 1 0 then nI p else c 10 i) = nI (if i = h 1 0 then p else h 10 i) ∧ (if i = h 1 0 then nI b else c 11 i) = nI (if i = h 1 0 then b else h 11 i)
    by_cases e : i = h 1 0
    · simp only [if_pos e, and_self]
    · simp only [if_neg e]; exact c6 i (by omega)
  · have hk' : k < h 4 0 + 1 := hk
    show (if k = h 4 0 then -2 else c 12 k) = turnC (if k = h 4 0 then 0 else h 12 k)
    by_cases e : k = h 4 0
    · simp only [if_pos e]; rfl
    · simp only [if_neg e]; exact c7 k (by omega)
theorem turns6 {M : CS} (N : JS) {T : Nat} (hT : T < 40) (h3 : M 4 3 = nI T) (x : Int32) : f_X6_turns M N x = some (cset (cset M 4 (79 + T) x) 4 3 (nI (T + 1))) := by
  unfold f_X6_turns
  rw [h3, show (79 : Int32) = nI 79 from rfl, nI_add, ck_t _ (inb_nI (show 79 + T < 119 by omega) (by omega)), nI_clamp (by omega), cset_at, if_neg (by omega), h3, nI_1]
theorem comes6 {M : CS} {h : Nat → Nat → Nat} (N : JS) (hv : ChV h) (ha : ChM (M 4) h) {t d p b : Nat} (hE : h 1 0 < 12) (hT : h 4 0 < 40) :
    ∃ M', f_X6_comes M N (nI t) (nI d) (nI p) (nI b) = some (nI (h 1 0), M') ∧ (∀ q, q ≠ 4 → M' q = M q) ∧ ChM (M' 4) (hErr h t d p b) := by
  have v0 : h 0 0 ≤ 5 := hv.1
  have v2 := hv.2.2.1
  obtain ⟨a0, a1, a2, a3, a4, a5, a6⟩ := ha
  unfold f_X6_comes
  rw [a1, show (19 : Int32) = nI 19 from rfl, show (31 : Int32) = nI 31 from rfl, show (43 : Int32) = nI 43 from rfl, show (55 : Int32) = nI 55 from rfl, show (67 : Int32) = nI 67 from rfl, nI_add, nI_add, nI_add, nI_add, nI_add, ck_t _ (inb_nI (show 19 + h 1 0 < 119 by omega) (by omega)), ck_t _ (inb_nI (show 31 + h 1 0 < 119 by omega) (by omega)), ck_t _ (inb_nI (show 43 + h 1 0 < 119 by omega) (by omega)), ck_t _ (inb_nI (show 55 + h 1 0 < 119 by omega) (by omega)), ck_t _ (inb_nI (show 67 + h 1 0 < 119 by omega) (by omega)), nI_clamp (show 19 + h 1 0 < 2 ^ 31 by omega), nI_clamp (show 31 + h 1 0 < 2 ^ 31 by omega), nI_clamp (show 43 + h 1 0 < 2 ^ 31 by omega), nI_clamp (show 55 + h 1 0 < 2 ^ 31 by omega), nI_clamp (show 67 + h 1 0 < 2 ^ 31 by omega)]
  simp only [cset_at]
  rw [if_neg (show ¬ 1 = 67 + h 1 0 by omega), if_neg (show ¬ 1 = 55 + h 1 0 by omega), if_neg (show ¬ 1 = 43 + h 1 0 by omega), if_neg (show ¬ 1 = 31 + h 1 0 by omega), if_neg (show ¬ 1 = 19 + h 1 0 by omega), a1, nI_1]
  rw [turns6 N hT (by
    simp only [cset_at]
    rw [if_neg (by omega), if_neg (show ¬ 3 = 67 + h 1 0 by omega), if_neg (show ¬ 3 = 55 + h 1 0 by omega), if_neg (show ¬ 3 = 43 + h 1 0 by omega), if_neg (show ¬ 3 = 31 + h 1 0 by omega), if_neg (show ¬ 3 = 19 + h 1 0 by omega), a3]), ob1_s]
  refine ⟨_, rfl, fun q hq => by rw [cset_ne _ _ _ _ _ hq, cset_ne _ _ _ _ _ hq, cset_ne _ _ _ _ _ hq, cset_ne _ _ _ _ _ hq, cset_ne _ _ _ _ _ hq, cset_ne _ _ _ _ _ hq, cset_ne _ _ _ _ _ hq, cset_ne _ _ _ _ _ hq], ?_⟩
  have rd : ∀ j, (cset (cset (cset (cset (cset (cset (cset (cset M 4 (19 + h 1 0) (nI t)) 4 (31 + h 1 0) (nI d)) 4 (43 + h 1 0) (nI p)) 4 (55 + h 1 0) (nI b)) 4 (67 + h 1 0) 0) 4 1 (nI (h 1 0 + 1))) 4 (79 + h 4 0) 0) 4 3 (nI (h 4 0 + 1))) 4 j = if j = 3 then nI (h 4 0 + 1) else if j = 79 + h 4 0 then 0 else if j = 1 then nI (h 1 0 + 1) else if j = 67 + h 1 0 then 0 else if j = 55 + h 1 0 then nI b else if j = 43 + h 1 0 then nI p else if j = 31 + h 1 0 then nI d else if j = 19 + h 1 0 then nI t else M 4 j := fun j => by simp only [cset_at]
  have far : ∀ j, j ≠ 3 → j ≠ 1 → j < 19 → (cset (cset (cset (cset (cset (cset (cset (cset M 4 (19 + h 1 0) (nI t)) 4 (31 + h 1 0) (nI d)) 4 (43 + h 1 0) (nI p)) 4 (55 + h 1 0) (nI b)) 4 (67 + h 1 0) 0) 4 1 (nI (h 1 0 + 1))) 4 (79 + h 4 0) 0) 4 3 (nI (h 4 0 + 1))) 4 j = M 4 j := fun j h3 h1 h19 => by
    rw [rd, if_neg h3, if_neg (by omega), if_neg h1, if_neg (by omega), if_neg (by omega), if_neg (by omega), if_neg (by omega), if_neg (by omega)]
  refine ⟨(far 0 (by omega) (by omega) (by omega)).trans a0, ?_, (far 2 (by omega) (by omega) (by omega)).trans a2, rd 3, fun q hq => ?_, fun i hi => ?_, fun k hk => ?_⟩
  · rw [rd, if_neg (by omega), if_neg (by omega), if_pos rfl]; rfl
  · have hq' : q < h 0 0 := hq
    rw [far (4 + q) (by omega) (by omega) (by omega), far (9 + q) (by omega) (by omega) (by omega), far (14 + q) (by omega) (by omega) (by omega)]
    exact a4 q hq'
  · have hi' : i < h 1 0 + 1 := hi
    rw [rd, rd, rd, rd, rd]
    show _ = nI (if i = h 1 0 then t else h 8 i) ∧ _ = nI (if i = h 1 0 then d else h 9 i) ∧ _ = nI (if i = h 1 0 then p else h 10 i) ∧ _ = nI (if i = h 1 0 then b else h 11 i) ∧ _ = nI (mbit (h 2 0) i)
    by_cases e : i = h 1 0
    · subst e
      have hm : mbit (h 2 0) (h 1 0) = 0 := if_neg (fun q => by rw [Nat.testBit_lt_two_pow v2] at q; exact absurd q (by decide))
      simp only [if_true, hm]
      refine ⟨?_, ?_, ?_, ?_, ?_⟩
      · rw [if_neg (by omega), if_neg (by omega), if_neg (by omega), if_neg (by omega), if_neg (by omega), if_neg (by omega), if_neg (by omega)]
      · rw [if_neg (by omega), if_neg (by omega), if_neg (by omega), if_neg (by omega), if_neg (by omega), if_neg (by omega)]
      · rw [if_neg (by omega), if_neg (by omega), if_neg (by omega), if_neg (by omega), if_neg (by omega)]
      · rw [if_neg (by omega), if_neg (by omega), if_neg (by omega), if_neg (by omega)]
      · rw [if_neg (by omega), if_neg (by omega), if_neg (by omega)]; rfl
    · simp only [if_neg e]
      have nx : ∀ j, (j = 19 + i ∨ j = 31 + i ∨ j = 43 + i ∨ j = 55 + i ∨ j = 67 + i) → (if j = 3 then nI (h 4 0 + 1) else if j = 79 + h 4 0 then 0 else if j = 1 then nI (h 1 0 + 1) else if j = 67 + h 1 0 then 0 else if j = 55 + h 1 0 then nI b else if j = 43 + h 1 0 then nI p else if j = 31 + h 1 0 then nI d else if j = 19 + h 1 0 then nI t else M 4 j) = M 4 j := fun j hj => by
        rw [if_neg (by omega), if_neg (by omega), if_neg (by omega), if_neg (by omega), if_neg (by omega), if_neg (by omega), if_neg (by omega), if_neg (by omega)]
      rw [nx (19 + i) (by omega), nx (31 + i) (by omega), nx (43 + i) (by omega), nx (55 + i) (by omega), nx (67 + i) (by omega)]
      exact a5 i (by omega)
  · have hk' : k < h 4 0 + 1 := hk
    rw [rd]
    show _ = nI (if k = h 4 0 then 0 else h 12 k)
    by_cases e : k = h 4 0
    · subst e
      rw [if_pos rfl, if_neg (by omega), if_pos rfl]; rfl
    · rw [if_neg e, if_neg (by omega), if_neg (by omega), if_neg (by omega), if_neg (by omega), if_neg (by omega), if_neg (by omega), if_neg (by omega), if_neg (by omega)]
      exact a6 k (by omega)
theorem hasTurns0 {c : CS} {T n : Nat} (h4 : c 4 0 = nI T) (hT : T ≤ 40) (hn : n < 1000) : f_X0_hasTurnsLeft c (nI n) = some (bI (n + T ≤ 40)) := by
  unfold f_X0_hasTurnsLeft f_X0_hasTurnsLeft_16
  rw [h4, show (40 : Int32) = nI 40 from rfl, pk_sub hT]
  by_cases q : n + T ≤ 40
  · rw [if_neg (nI_nlt (by omega) (by omega)), bI_t q]; rfl
  · rw [if_pos (nI_lt (by omega) (by omega)), bI_f q]; rfl
theorem hasErrors0 {c : CS} {T n : Nat} (h4 : c 1 0 = nI T) (hT : T ≤ 12) (hn : n < 1000) : f_X0_hasErrorsLeft c (nI n) = some (bI (n + T ≤ 12)) := by
  unfold f_X0_hasErrorsLeft f_X0_hasErrorsLeft_16
  rw [h4, show (12 : Int32) = nI 12 from rfl, pk_sub hT]
  by_cases q : n + T ≤ 12
  · rw [if_neg (nI_nlt (by omega) (by omega)), bI_t q]; rfl
  · rw [if_pos (nI_lt (by omega) (by omega)), bI_f q]; rfl
theorem o_err : Op_err := by
  intro I J M N y1 y2 R
  obtain ⟨h, hv, hc, ha⟩ := R.2.2.2.1
  have v0 : h 0 0 ≤ 5 := hv.1
  have v1 : h 1 0 ≤ 12 := hv.2.1
  have v4 : h 4 0 ≤ 40 := hv.2.2.2.2.1
  unfold f_X5_err f_X6_err f_X5_err_15 f_X5_err_66 f_X5_err_90 f_X6_err_50 f_X6_err_74
  rw [p_in6i, ob1_s, if_bI, show (0 : Int64).toInt = 0 by decide, show (4999 : Int64).toInt = 4999 by decide]
  have e0 : (0 : Int32).toInt = 0 := by decide
  have e1 : (1 : Int32).toInt = 1 := by decide
  have e10 : (10 : Int32).toInt = 10 := by decide
  by_cases h1 : y1 < 0
  · rw [if_pos h1, if_neg (by rw [i32_lt, e0] at h1; omega)]; exact ⟨_, _, _, rfl, rfl, R⟩
  · rw [if_neg h1]
    obtain ⟨w, hw, rfl⟩ := nI_of h1
    rw [nI_toInt hw, show (1000 : Int32) = nI 1000 from rfl, show (10 : Int32) = nI 10 from rfl, show (100 : Int32) = nI 100 from rfl, pk_div hw (by omega) (by omega), pk_div hw (by omega) (by omega), jrem_nI hw (by omega) (by omega), jrem_nI hw (by omega) (by omega), pk_div (show w % 1000 < 2 ^ 31 by omega) (by omega) (by omega), jrem_nI (show w / 10 < 2 ^ 31 by omega) (by omega) (by omega), show w % 1000 / 10 = w / 10 % 100 by omega, p_isTown5, ob1_s, if_bI, p_isDay5, ob1_s, if_bI, p_isDay6, ob1_s, if_bI, p_isPerson0 hv hc, ob1_s, if_bI, p_isPerson6 hv ha, ob1_s, if_bI, p_in6i, ob1_s, if_bI, show (1 : Int64).toInt = 1 by decide, show (9 : Int64).toInt = 9 by decide, nI_toInt (show w / 1000 < 2 ^ 31 by omega), nI_toInt (show w / 10 % 100 < 2 ^ 31 by omega), nI_toInt (show w % 10 < 2 ^ 31 by omega)]
    by_cases hby : 1 ≤ y2.toInt ∧ y2.toInt ≤ 9
    · obtain ⟨b, hb, rfl⟩ := ix_of (x := y2) (n := 10) (by omega) (by omega) (by omega)
      rw [nI_toInt (by omega)] at hby
      have hb1 : ¬ nI b < (1 : Int32) := nI_nlt (b := 1) (by omega) (by omega)
      rw [if_neg hb1, if_pos (nI_lt hb (by omega)), nI_toInt (show b < 2 ^ 31 by omega), if_pos (show (1 : Int) ≤ (b : Nat) ∧ ((b : Nat) : Int) ≤ 9 by omega)]
      by_cases ht : w < 5000
      · rw [if_pos (show (0 : Int) ≤ ((w / 1000 : Nat) : Int) ∧ ((w / 1000 : Nat) : Int) < 5 by omega), if_pos (show (0 : Int) ≤ ((w : Nat) : Int) ∧ ((w : Nat) : Int) ≤ 4999 by omega)]
        by_cases hd : (0 : Int) ≤ ((w / 10 % 100 : Nat) : Int) ∧ ((w / 10 % 100 : Nat) : Int) < 20
        · rw [if_pos hd, if_pos hd]
          by_cases hp : (0 : Int) ≤ ((w % 10 : Nat) : Int) ∧ ((w % 10 : Nat) : Int) < (h 0 0 : Nat)
          · rw [if_pos hp, if_pos hp, show (1 : Int32) = nI 1 from rfl, hasErrors0 hc.2.1 v1 (by omega), ob1_s, if_bI, hasTurns0 hc.2.2.2.2.1 v4 (by omega), ob1_s, if_bI, ha.2.1, ha.2.2.2.1]
            by_cases hE : h 1 0 = 12
            · rw [if_neg (show ¬ 1 + h 1 0 ≤ 12 by omega), if_pos (show nI (h 1 0) = (12 : Int32) by rw [hE]; rfl)]; exact ⟨_, _, _, rfl, rfl, R⟩
            · rw [if_pos (show 1 + h 1 0 ≤ 12 by omega), if_neg (show ¬ nI (h 1 0) = (12 : Int32) from fun q => hE ((nI_eq (b := 12) (by omega) (by omega)).mp q))]
              by_cases hT : h 4 0 = 40
              · rw [if_neg (show ¬ 1 + h 4 0 ≤ 40 by omega), if_pos (show nI (h 4 0) = (40 : Int32) by rw [hT]; rfl)]; exact ⟨_, _, _, rfl, rfl, R⟩
              · rw [if_pos (show 1 + h 4 0 ≤ 40 by omega), if_neg (show ¬ nI (h 4 0) = (40 : Int32) from fun q => hT ((nI_eq (b := 40) (by omega) (by omega)).mp q))]
                obtain ⟨c', e, g⟩ := turnErred0 (t := w / 1000) (d := w / 10 % 100) (p := w % 10) (b := b) hc (show h 1 0 < 12 by omega) (show h 4 0 < 40 by omega)
                obtain ⟨M', e', g1, g2⟩ := comes6 (t := w / 1000) (d := w / 10 % 100) (p := w % 10) (b := b) N hv ha (show h 1 0 < 12 by omega) (show h 4 0 < 40 by omega)
                rw [e, e', ob1_s, ob2_s, g.2.1]
                refine ⟨_, _, _, rfl, ?_, R.chain (I' := gset I 0 c') (M' := M') (fun q h1 _ => gset_ne _ _ _ _ (by omega)) (fun q _ hq => g1 q hq) ⟨_, hErr_v hv (by omega) (by omega) (by omega) (by omega) (by omega) (by omega) (by omega), g, g2⟩⟩
                rw [show hErr h (w / 1000) (w / 10 % 100) (w % 10) b 1 0 = h 1 0 + 1 from rfl, show nI (h 1 0 + 1) - nI 1 = nI (h 1 0) from nI_pred _]
          · rw [if_neg hp, if_neg hp]; exact ⟨_, _, _, rfl, rfl, R⟩
        · rw [if_neg hd, if_neg hd]; exact ⟨_, _, _, rfl, rfl, R⟩
      · rw [if_neg (show ¬ ((0 : Int) ≤ ((w / 1000 : Nat) : Int) ∧ ((w / 1000 : Nat) : Int) < 5) by omega), if_neg (show ¬ ((0 : Int) ≤ ((w : Nat) : Int) ∧ ((w : Nat) : Int) ≤ 4999) by omega)]; exact ⟨_, _, _, rfl, rfl, R⟩
    · rw [if_neg hby]
      simp only [ite_self]
      by_cases q1 : y2 < 1
      · rw [if_pos q1]; exact ⟨_, _, _, rfl, rfl, R⟩
      · rw [if_neg q1, if_neg (fun q : y2 < nI 10 => hby (by rw [i32_lt, e1] at q1; rw [i32_lt, nI_toInt (by omega)] at q; omega))]; exact ⟨_, _, _, rfl, rfl, R⟩
