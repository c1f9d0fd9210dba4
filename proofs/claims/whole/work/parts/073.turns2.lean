/-! day -/
def hDay (h : Nat → Nat → Nat) : Nat → Nat → Nat := fun k i => if k = 3 then h 3 0 + 1 else if k = 4 then h 4 0 + 1 else if k = 12 then (if i = h 4 0 then 1 else h 12 i) else h k i
theorem hDay_v {h : Nat → Nat → Nat} (hv : ChV h) (hD : h 3 0 < 19) (hT : h 4 0 < 40) : ChV (hDay h) := by
  obtain ⟨v0, v1, v2, v3, v4, v5, v6, v7⟩ := hv
  exact ⟨v0, v1, v2, hD, hT, v5, v6, v7.step v2 rfl (fun k hk => if_neg (show ¬ k = h 4 0 by omega)) (Or.inr (Or.inl ⟨if_pos rfl, rfl, rfl, rfl⟩))⟩
theorem o_day : Op_day := by
  intro I J M N R
  obtain ⟨h, hv, hc, ha⟩ := R.2.2.2.1
  have v0 : h 0 0 ≤ 5 := hv.1
  have v1 : h 1 0 ≤ 12 := hv.2.1
  have v3 : h 3 0 ≤ 19 := hv.2.2.2.1
  have v4 : h 4 0 ≤ 40 := hv.2.2.2.2.1
  obtain ⟨c0, c1, c2, c3, c4, c5, c6, c7⟩ := hc
  obtain ⟨a0, a1, a2, a3, a4, a5, a6⟩ := ha
  unfold f_X5_day f_X6_day f_X5_day_22 f_X6_day_20
  rw [c0, c3, a0, a2, a3]
  by_cases h1 : nI (h 0 0) = 0
  · rw [if_pos h1, if_pos h1]; exact ⟨_, _, _, rfl, rfl, R⟩
  · rw [if_neg h1, if_neg h1]
    by_cases h2 : h 3 0 = 19
    · rw [if_neg (show ¬ nI (h 3 0) < (19 : Int32) from nI_nlt (b := 19) (by omega) (by omega)), if_pos (show nI (h 3 0) = (19 : Int32) by rw [h2]; rfl)]; exact ⟨_, _, _, rfl, rfl, R⟩
    · rw [if_pos (show nI (h 3 0) < (19 : Int32) from nI_lt (b := 19) (by omega) (by omega)), if_neg (show ¬ nI (h 3 0) = (19 : Int32) from fun q => h2 ((nI_eq (b := 19) (by omega) (by omega)).mp q)), show (1 : Int32) = nI 1 from rfl, hasTurns0 c4 v4 (by omega), ob1_s, if_bI]
      by_cases hT : h 4 0 = 40
      · rw [if_neg (show ¬ 1 + h 4 0 ≤ 40 by omega), if_pos (show nI (h 4 0) = (40 : Int32) by rw [hT]; rfl)]; exact ⟨_, _, _, rfl, rfl, R⟩
      · rw [if_pos (show 1 + h 4 0 ≤ 40 by omega), if_neg (show ¬ nI (h 4 0) = (40 : Int32) from fun q => hT ((nI_eq (b := 40) (by omega) (by omega)).mp q))]
        unfold f_X0_turnDay
        rw [c3, show nI (h 3 0) + (1 : Int32) = nI (h 3 0 + 1) from nI_1 _, nI_add, addTurn0 (c := cset (I 0) 3 0 (nI (h 3 0 + 1))) (show h 4 0 < 40 by omega) c4, ob1_s, ob1_s, turns6 (M := cset M 4 2 (nI (h 3 0 + 1))) N (show h 4 0 < 40 by omega) (by rw [cset_at, if_neg (by omega)]; exact a3), ob1_s]
        have rd : ∀ j, (cset (cset (cset M 4 2 (nI (h 3 0 + 1))) 4 (79 + h 4 0) (nI 1)) 4 3 (nI (h 4 0 + 1))) 4 j = if j = 3 then nI (h 4 0 + 1) else if j = 79 + h 4 0 then nI 1 else if j = 2 then nI (h 3 0 + 1) else M 4 j := fun j => by simp only [cset_at]
        have far : ∀ j, j ≠ 3 → j ≠ 2 → j < 79 → (cset (cset (cset M 4 2 (nI (h 3 0 + 1))) 4 (79 + h 4 0) (nI 1)) 4 3 (nI (h 4 0 + 1))) 4 j = M 4 j := fun j h3 h1 h19 => by
          rw [rd, if_neg h3, if_neg (by omega), if_neg h1]
        have e2 : (cset (cset (cset M 4 2 (nI (h 3 0 + 1))) 4 (79 + h 4 0) (nI 1)) 4 3 (nI (h 4 0 + 1))) 4 2 = nI (h 3 0 + 1) := by rw [rd, if_neg (by omega), if_neg (by omega), if_pos rfl]
        refine ⟨nI (h 3 0 + 1), _, _, rfl, by rw [e2], R.chain (fun q h1 _ => gset_ne _ _ _ _ (by omega)) (fun q _ hq => by rw [cset_ne _ _ _ _ _ hq, cset_ne _ _ _ _ _ hq, cset_ne _ _ _ _ _ hq]) ⟨hDay h, hDay_v hv (by omega) (by omega), ⟨c0, c1, c2, rfl, rfl, c5, c6, fun k hk => ?_⟩, ⟨(far 0 (by omega) (by omega) (by omega)).trans a0, (far 1 (by omega) (by omega) (by omega)).trans a1, e2, rd 3, fun q hq => ?_, fun i hi => ?_, fun k hk => ?_⟩⟩⟩
        · have hk' : k < h 4 0 + 1 := hk
          show (if k = h 4 0 then -1 else I 0 12 k) = turnC (if k = h 4 0 then 1 else h 12 k)
          by_cases e : k = h 4 0
          · simp only [if_pos e]; rfl
          · simp only [if_neg e]; exact c7 k (by omega)
        · have hq' : q < h 0 0 := hq
          rw [far (4 + q) (by omega) (by omega) (by omega), far (9 + q) (by omega) (by omega) (by omega), far (14 + q) (by omega) (by omega) (by omega)]
          exact a4 q hq'
        · have hi' : i < h 1 0 := hi
          rw [far (19 + i) (by omega) (by omega) (by omega), far (31 + i) (by omega) (by omega) (by omega), far (43 + i) (by omega) (by omega) (by omega), far (55 + i) (by omega) (by omega) (by omega), far (67 + i) (by omega) (by omega) (by omega)]
          exact a5 i hi'
        · have hk' : k < h 4 0 + 1 := hk
          rw [rd]
          show _ = nI (if k = h 4 0 then 1 else h 12 k)
          by_cases e : k = h 4 0
          · subst e
            rw [if_pos rfl, if_neg (by omega), if_pos rfl]
          · rw [if_neg e, if_neg (by omega), if_neg (by omega), if_neg (by omega)]
            exact a6 k (by omega)
/-! mend -/
def hMend (h : Nat → Nat → Nat) (i : Nat) : Nat → Nat → Nat := fun k j => if k = 2 then h 2 0 ^^^ 2 ^ i else if k = 4 then h 4 0 + 1 else if k = 12 then (if j = h 4 0 then i + 2 else h 12 j) else h k j
theorem xor_lt {m i e : Nat} (hm : m < 2 ^ e) (hi : i < e) : m ^^^ 2 ^ i < 2 ^ e := Nat.xor_lt_two_pow hm (Nat.pow_lt_pow_right (by omega) hi)
theorem hMend_v {h : Nat → Nat → Nat} (hv : ChV h) {i : Nat} (hi : i < h 1 0) (hT : h 4 0 < 40) : ChV (hMend h i) := by
  obtain ⟨v0, v1, v2, v3, v4, v5, v6, v7⟩ := hv
  exact ⟨v0, v1, xor_lt v2 hi, v3, hT, v5, v6, v7.step v2 rfl (fun k hk => if_neg (show ¬ k = h 4 0 by omega)) (Or.inr (Or.inr ⟨i, hi, if_pos rfl, rfl, rfl, rfl⟩))⟩
theorem mbit_xor (m i j : Nat) : mbit (m ^^^ 2 ^ i) j = if j = i then 1 - mbit m i else mbit m j := by
  unfold mbit
  rw [Nat.testBit_xor, Nat.testBit_two_pow]
  by_cases e : j = i
  · subst e
    rw [decide_eq_true rfl, if_pos rfl]
    cases m.testBit j <;> rfl
  · rw [if_neg e, decide_eq_false (fun q => e q.symm), Bool.xor_false]
theorem sm_below (E : Nat) : ∀ n, sm (fun i => if i < E then 1 else 0) n = min E n
  | 0 => by rw [sm]; omega
  | n + 1 => by rw [sm, sm_below E n]; split <;> omega
theorem pc_lv {h : Nat → Nat → Nat} (hv : ChV h) : pc (h 2 0) + pc (lv h) = h 1 0 := by
  have v1 : h 1 0 ≤ 12 := hv.2.1
  unfold pc
  rw [← sm_add]
  have : sm (fun k => mbit (h 2 0) k + mbit (lv h) k) 12 = sm (fun i => if i < h 1 0 then 1 else 0) 12 := sm_cong (fun k _ => by
    show mbit (h 2 0) k + mbit (lv h) k = if k < h 1 0 then 1 else 0
    unfold mbit
    rw [lv_bit]
    by_cases hk : k < h 1 0
    · rw [decide_eq_true hk, if_pos hk]
      cases (h 2 0).testBit k <;> rfl
    · rw [decide_eq_false hk, if_neg hk, Nat.testBit_lt_two_pow (Nat.lt_of_lt_of_le hv.2.2.1 (Nat.pow_le_pow_right (by omega) (by omega)))]
      rfl)
  rw [this, sm_below]
  omega
theorem pc_le (n : Nat) : pc n ≤ 12 := by
  unfold pc
  have : sm (mbit n) 12 ≤ 12 * 1 := sm_le (fun k _ => by unfold mbit; split <;> omega)
  omega
theorem isMended0 {c : CS} {h : Nat → Nat → Nat} (hv : ChV h) (hc : ChC c h) {i : Nat} (hi : i < 32) : f_X0_isMended c (nI i) = some (nI (mbit (h 2 0) i)) := by
  have v2 : h 2 0 < 2 ^ h 1 0 := hv.2.2.1
  have := pow12 hv.2.1
  unfold f_X0_isMended f_X0_isMended_16
  rw [hc.2.2.1, bit_at (by omega) hi]
  unfold mbit
  by_cases q : (h 2 0).testBit i = true
  · rw [if_pos q, (tb_iff _ _).mp q, if_neg (by decide)]; rfl
  · rw [if_neg q, show h 2 0 / 2 ^ i % 2 = 0 by (have z : ¬ h 2 0 / 2 ^ i % 2 = 1 := fun z => q ((tb_iff _ _).mpr z)); omega, if_pos nI_0]; rfl
theorem p_isError6 {M : CS} {h : Nat → Nat → Nat} (hv : ChV h) (ha : ChM (M 4) h) (N : JS) (x : Int32) : f_X6_isError M N x = some (bI (0 ≤ x.toInt ∧ x.toInt < (h 1 0 : Nat))) := by
  have h0 : h 1 0 ≤ 12 := hv.2.1
  refine p_in6z x 0 _ 0 _ (by decide) ?_
  rw [i32_w, ha.2.1]
  show (nI (h 1 0) - nI 1).toInt + 1 = _
  rw [pk_sub_toInt (by omega) (by omega)]
  omega
theorem p_isError0 {c : CS} {h : Nat → Nat → Nat} (hv : ChV h) (hc : ChC c h) (x : Int32) : f_X0_isError c x = some (bI (0 ≤ x.toInt ∧ x.toInt < (h 1 0 : Nat))) := by
  have h0 : h 1 0 ≤ 12 := hv.2.1
  rw [p_isError, hc.2.1, nI_toInt (by omega)]
theorem mbit_le (m i : Nat) : mbit m i ≤ 1 := by unfold mbit; split <;> omega
theorem mend_core {I : Nat → CS} {J : Nat → JS} {M : CS} {N : JS} (R : Rel I J M N) {h : Nat → Nat → Nat} (hv : ChV h) (hc : ChC (I 0) h) (ha : ChM (M 4) h) {i v : Nat} (hi : i < h 1 0) (hvv : v ≤ 1) :
    ∃ (r : Int32) (I' : Nat → CS) (M' : CS), f_X5_mend_40 (nI i) (nI (mbit (h 2 0) i)) (nI v) I J = some (r, I') ∧ (if M 4 (67 + i) = nI v then some ((-4 : Int32), M) else if (M 4 3) = (40 : Int32) then some ((-2 : Int32), M) else (ob1 (f_X6_turns (cset M 4 (67 + i) (nI v)) N (nI (2 + i))) fun M3 => ob1 (f_X6_mended M3 N) fun r4 => some (r4, M3))) = some (r, M') ∧ Rel I' J M' N := by
  have v0 : h 0 0 ≤ 5 := hv.1
  have v1 : h 1 0 ≤ 12 := hv.2.1
  have v4 : h 4 0 ≤ 40 := hv.2.2.2.2.1
  have hml := mbit_le (h 2 0) i
  obtain ⟨c0, c1, c2, c3, c4, c5, c6, c7⟩ := hc
  obtain ⟨a0, a1, a2, a3, a4, a5, a6⟩ := ha
  unfold f_X5_mend_40
  rw [(a5 i hi).2.2.2.2, a3]
  by_cases h1 : mbit (h 2 0) i = v
  · rw [h1, if_pos rfl, if_pos rfl]; exact ⟨_, _, _, rfl, rfl, R⟩
  · have h1' : ¬ nI (mbit (h 2 0) i) = nI v := fun q => h1 ((nI_eq (by omega) (by omega)).mp q)
    rw [if_neg h1', if_neg h1', show (1 : Int32) = nI 1 from rfl, hasTurns0 c4 v4 (by omega), ob1_s, if_bI]
    by_cases hT : h 4 0 = 40
    · rw [if_neg (show ¬ 1 + h 4 0 ≤ 40 by omega), if_pos (show nI (h 4 0) = (40 : Int32) by rw [hT]; rfl)]; exact ⟨_, _, _, rfl, rfl, R⟩
    · rw [if_pos (show 1 + h 4 0 ≤ 40 by omega), if_neg (show ¬ nI (h 4 0) = (40 : Int32) from fun q => hT ((nI_eq (b := 40) (by omega) (by omega)).mp q))]
      have hT' : h 4 0 < 40 := by omega
      have hv' := hMend_v hv hi hT'
      unfold f_X0_turnMended
      rw [c2, one_shl (by omega), nI_xor, addTurn0 (c := cset (I 0) 2 0 (nI (h 2 0 ^^^ 2 ^ i))) hT' c4, ob1_s, ob1_s, turns6 (M := cset M 4 (67 + i) (nI v)) N hT' (by rw [cset_at, if_neg (by omega)]; exact a3), ob1_s]
      have hm4 : h 2 0 ^^^ 2 ^ i < 4096 := Nat.lt_of_lt_of_le hv'.2.2.1 (pow12 v1)
      have rd : ∀ j, (cset (cset (cset M 4 (67 + i) (nI v)) 4 (79 + h 4 0) (nI (2 + i))) 4 3 (nI (h 4 0 + 1))) 4 j = if j = 3 then nI (h 4 0 + 1) else if j = 79 + h 4 0 then nI (2 + i) else if j = 67 + i then nI v else M 4 j := fun j => by simp only [cset_at]
      have far : ∀ j, j ≠ 3 → j ≠ 67 + i → j < 79 → (cset (cset (cset M 4 (67 + i) (nI v)) 4 (79 + h 4 0) (nI (2 + i))) 4 3 (nI (h 4 0 + 1))) 4 j = M 4 j := fun j h3 h1 h19 => by
        rw [rd, if_neg h3, if_neg (by omega), if_neg h1]
      have hCC : ChC (cset (cset (cset (I 0) 2 0 (nI (h 2 0 ^^^ 2 ^ i))) 12 (h 4 0) (nI i)) 4 0 (nI (h 4 0 + 1))) (hMend h i) := by
        refine ⟨c0, c1, rfl, c3, rfl, c5, c6, fun k hk => ?_⟩
        have hk' : k < h 4 0 + 1 := hk
        show (if k = h 4 0 then nI i else I 0 12 k) = turnC (if k = h 4 0 then i + 2 else h 12 k)
        by_cases e : k = h 4 0
        · simp only [if_pos e]; rfl
        · simp only [if_neg e]; exact c7 k (by omega)
      have hMM : ChM ((cset (cset (cset M 4 (67 + i) (nI v)) 4 (79 + h 4 0) (nI (2 + i))) 4 3 (nI (h 4 0 + 1))) 4) (hMend h i) := by
        refine ⟨(far 0 (by omega) (by omega) (by omega)).trans a0, (far 1 (by omega) (by omega) (by omega)).trans a1, (far 2 (by omega) (by omega) (by omega)).trans a2, rd 3, fun q hq => ?_, fun j hj => ?_, fun k hk => ?_⟩
        · have hq' : q < h 0 0 := hq
          rw [far (4 + q) (by omega) (by omega) (by omega), far (9 + q) (by omega) (by omega) (by omega), far (14 + q) (by omega) (by omega) (by omega)]
          exact a4 q hq'
        · have hj' : j < h 1 0 := hj
          rw [far (19 + j) (by omega) (by omega) (by omega), far (31 + j) (by omega) (by omega) (by omega), far (43 + j) (by omega) (by omega) (by omega), far (55 + j) (by omega) (by omega) (by omega)]
          refine ⟨(a5 j hj').1, (a5 j hj').2.1, (a5 j hj').2.2.1, (a5 j hj').2.2.2.1, ?_⟩
          rw [rd, show hMend h i 2 0 = h 2 0 ^^^ 2 ^ i from rfl, mbit_xor, if_neg (by omega), if_neg (by omega)]
          by_cases e : j = i
          · rw [if_pos (by omega), if_pos e]; exact congrArg nI (by omega)
          · rw [if_neg (by omega), if_neg e]; exact (a5 j hj').2.2.2.2
        · have hk' : k < h 4 0 + 1 := hk
          rw [rd]
          show _ = nI (if k = h 4 0 then i + 2 else h 12 k)
          by_cases e : k = h 4 0
          · subst e
            rw [if_pos rfl, if_neg (by omega), if_pos rfl, Nat.add_comm]
          · rw [if_neg e, if_neg (by omega), if_neg (by omega), if_neg (by omega)]
            exact a6 k (by omega)
      have e2 : cset (cset (cset (I 0) 2 0 (nI (h 2 0 ^^^ 2 ^ i))) 12 (h 4 0) (nI i)) 4 0 (nI (h 4 0 + 1)) 2 0 = nI (h 2 0 ^^^ 2 ^ i) := rfl
      have hsum := pc_lv hv'
      have hs2 : pc (h 2 0 ^^^ 2 ^ i) + pc (lv (hMend h i)) = h 1 0 := hsum
      unfold f_X6_mended
      rw [e2, bitCount0 _ hm4, ob1_s, live6 hv' hMM, ob1_s, bits6 _ (lvh_lt hv'), ob1_s, ob1_s, hMM.2.1]
      refine ⟨_, _, _, rfl, ?_, R.chain (fun q h1 _ => gset_ne _ _ _ _ (by omega)) (fun q _ hq => by rw [cset_ne _ _ _ _ _ hq, cset_ne _ _ _ _ _ hq, cset_ne _ _ _ _ _ hq]) ⟨hMend h i, hv', hCC, hMM⟩⟩
      rw [show hMend h i 1 0 = h 1 0 from rfl, pk_sub (by omega), show h 1 0 - pc (lv (hMend h i)) = pc (h 2 0 ^^^ 2 ^ i) by omega]
theorem o_mend : Op_mend := by
  intro I J M N y1 y2 R
  obtain ⟨h, hv, hc, ha⟩ := R.2.2.2.1
  have v1 : h 1 0 ≤ 12 := hv.2.1
  have e0 : (0 : Int32).toInt = 0 := by decide
  have e1 : (1 : Int32).toInt = 1 := by decide
  unfold f_X5_mend f_X6_mend f_X5_mend_20 f_X6_mend_18
  rw [p_isError0 hv hc, p_isError6 hv ha, ob1_s, ob1_s, if_bI, if_bI, p_in6i, ob1_s, if_bI, show (0 : Int64).toInt = 0 by decide, show (1 : Int64).toInt = 1 by decide]
  by_cases h1 : 0 ≤ y1.toInt ∧ y1.toInt < (h 1 0 : Nat)
  · rw [if_pos h1, if_pos h1]
    obtain ⟨i, hi, rfl⟩ := ix_of h1.1 h1.2 (by omega)
    by_cases h2 : 0 ≤ y2.toInt ∧ y2.toInt ≤ 1
    · obtain ⟨v, hvv, rfl⟩ := ix_of (x := y2) (n := 2) h2.1 (by omega) (by omega)
      rw [if_pos h2, if_neg (nI_pos (by omega)), if_pos (show nI v ≤ (1 : Int32) from nI_le (b := 1) (by omega) (by omega)), isMended0 hv hc (by omega), ob1_s, show (67 : Int32) = nI 67 from rfl, show (2 : Int32) = nI 2 from rfl, nI_add, nI_add, ck_t _ (inb_nI (show 67 + i < 119 by omega) (by omega)), ck_t _ (inb_nI (show 67 + i < 119 by omega) (by omega)), nI_clamp (by omega)]
      have core := mend_core R hv hc ha hi (show v ≤ 1 by omega)
      by_cases hv1 : v = 1
      · subst hv1
        rw [if_pos (show nI 1 = (1 : Int32) from rfl)]; exact core
      · have : v = 0 := by omega
        subst this
        rw [if_neg (show ¬ nI 0 = (1 : Int32) by decide)]; exact core
    · rw [if_neg h2]
      by_cases q1 : y2 < 0
      · rw [if_pos q1]; exact ⟨_, _, _, rfl, rfl, R⟩
      · rw [if_neg q1, if_neg (fun q : y2 ≤ 1 => h2 (by rw [i32_lt, e0] at q1; rw [i32_le, e1] at q; omega))]; exact ⟨_, _, _, rfl, rfl, R⟩
  · rw [if_neg h1, if_neg h1]; exact ⟨_, _, _, rfl, rfl, R⟩
