/-! ===== undo ===== -/
def hBk (h : Nat → Nat → Nat) (e m td : Nat) : Nat → Nat → Nat := fun k i => if k = 1 then e else if k = 2 then m else if k = 3 then td else if k = 4 then h 4 0 - 1 else h k i
/-- one turn back, on both sides; the model's count of turns is set at the end only -/
theorem back_both {h : Nat → Nat → Nat} (hv : ChV h) {c M : CS} (hc : ChC c h) (hm : ChM ((cset M 4 3 (nI (h 4 0))) 4) h) (hT : 0 < h 4 0) (K : Int32 → Int32 → Int32 → CS → JS → Option (Int32 × CS)) (x1 x2 : Int32) (N : JS) :
    ∃ (h' : Nat → Nat → Nat) (c' M' : CS), ChV h' ∧ ChC c' h' ∧ ChM ((cset M' 4 3 (nI (h' 4 0))) 4) h' ∧ h' 4 0 = h 4 0 - 1 ∧ f_X0_turnBack c = some c' ∧ (∀ q, q ≠ 4 → M' q = M q) ∧
      (ck (inb ((79 : Int32) + nI (h 4 0 - 1)) 119) (if ((M 4) ((79 : Int32) + nI (h 4 0 - 1)).toNatClampNeg) = 0 then f_X6_undo_115 K x1 x2 (nI (h 4 0 - 1)) (cset M 4 1 (((M 4) 1) - (1 : Int32))) N else if ((M 4) ((79 : Int32) + nI (h 4 0 - 1)).toNatClampNeg) = (1 : Int32) then f_X6_undo_115 K x1 x2 (nI (h 4 0 - 1)) (cset M 4 2 (((M 4) 2) - (1 : Int32))) N else ck (inb (((67 : Int32) + ((M 4) ((79 : Int32) + nI (h 4 0 - 1)).toNatClampNeg)) - (2 : Int32)) 119) (ck (inb (((67 : Int32) + ((M 4) ((79 : Int32) + nI (h 4 0 - 1)).toNatClampNeg)) - (2 : Int32)) 119) (f_X6_undo_115 K x1 x2 (nI (h 4 0 - 1)) (cset M 4 (((67 : Int32) + ((M 4) ((79 : Int32) + nI (h 4 0 - 1)).toNatClampNeg)) - (2 : Int32)).toNatClampNeg ((1 : Int32) - ((M 4) (((67 : Int32) + ((M 4) ((79 : Int32) + nI (h 4 0 - 1)).toNatClampNeg)) - (2 : Int32)).toNatClampNeg))) N)))) = K x1 x2 (nI (h 4 0 - 1) + (-1)) M' N := by
  obtain ⟨v0, v1, v2, v3, v4, v5, v6, E, Mm, Td, hE, hMm, hTd, hk⟩ := hv
  obtain ⟨c0, c1, c2, c3, c4, c5, c6, c7⟩ := hc
  obtain ⟨a0, a1, a2, a3, a4, a5, a6⟩ := hm
  have rd : ∀ j, j ≠ 3 → (cset M 4 3 (nI (h 4 0))) 4 j = M 4 j := fun j hj => by rw [cset_at, if_neg hj]
  rw [rd 0 (by omega)] at a0
  rw [rd 1 (by omega)] at a1
  rw [rd 2 (by omega)] at a2
  have a4' : ∀ p, p < h 0 0 → M 4 (4 + p) = nI (h 5 p) ∧ M 4 (9 + p) = nI (h 6 p) ∧ M 4 (14 + p) = nI (h 7 p) := fun p hp => by
    have := a4 p hp
    rw [rd (4 + p) (by omega), rd (9 + p) (by omega), rd (14 + p) (by omega)] at this
    exact this
  have a5' : ∀ i, i < h 1 0 → M 4 (19 + i) = nI (h 8 i) ∧ M 4 (31 + i) = nI (h 9 i) ∧ M 4 (43 + i) = nI (h 10 i) ∧ M 4 (55 + i) = nI (h 11 i) ∧ M 4 (67 + i) = nI (mbit (h 2 0) i) := fun i hi => by
    have := a5 i hi
    rw [rd (19 + i) (by omega), rd (31 + i) (by omega), rd (43 + i) (by omega), rd (55 + i) (by omega), rd (67 + i) (by omega)] at this
    exact this
  have a6' : ∀ k, k < h 4 0 → M 4 (79 + k) = nI (h 12 k) := fun k hk => by
    have := a6 k hk
    rw [rd (79 + k) (by omega)] at this
    exact this
  obtain ⟨hlt, hcase⟩ := hk (h 4 0 - 1) (by omega)
  rw [show h 4 0 - 1 + 1 = h 4 0 by omega, hE, hMm, hTd] at hcase
  have hle : E (h 4 0 - 1) ≤ h 1 0 := by rcases hcase with q | q | ⟨i, q⟩ <;> omega
  have hle3 : Td (h 4 0 - 1) ≤ 19 := by rcases hcase with q | q | ⟨i, q⟩ <;> omega
  have hV : ChV (hBk h (E (h 4 0 - 1)) (Mm (h 4 0 - 1)) (Td (h 4 0 - 1))) := by
    refine ⟨v0, Nat.le_trans hle v1, hlt, hle3, show h 4 0 - 1 ≤ 40 by omega, v5, fun i hi => v6 i (Nat.lt_of_lt_of_le hi hle), E, Mm, Td, rfl, rfl, rfl, fun k hk' => hk k ?_⟩
    have : k < h 4 0 - 1 := hk'
    omega
  have t7 := c7 (h 4 0 - 1) (by omega)
  have m7 := a6' (h 4 0 - 1) (by omega)
  have s1 : nI (h 4 0) - (1 : Int32) = nI (h 4 0 - 1) := pk_sub (b := 1) (by omega)
  unfold f_X0_turnBack f_X0_turnBack_78 f_X6_undo_115
  rw [c4, if_pos (show (1 : Int32) ≤ nI (h 4 0) from nI_le (a := 1) hT (by omega)), s1, ck_t _ (inb_nI (show h 4 0 - 1 < 40 by omega) (by omega)), nI_clamp (show h 4 0 - 1 < 2 ^ 31 by omega), t7, show (79 : Int32) + nI (h 4 0 - 1) = nI (79 + (h 4 0 - 1)) from nI_add 79 _, ck_t _ (inb_nI (show 79 + (h 4 0 - 1) < 119 by omega) (by omega)), nI_clamp (show 79 + (h 4 0 - 1) < 2 ^ 31 by omega), m7]
  -- how the model reads behind a setting of one cell
  have hMk : ∀ (e m td w : Nat) (v : Int32), e ≤ h 1 0 → w < 79 → w ≠ 3 → (w = 1 ∨ M 4 1 = nI e) → (w = 1 → v = nI e) → (w = 2 ∨ M 4 2 = nI td) → (w = 2 → v = nI td) → (w = 1 ∨ w = 2 ∨ 67 ≤ w) → (∀ i, i < e → (if 67 + i = w then v else M 4 (67 + i)) = nI (mbit m i)) → ChM ((cset (cset M 4 w v) 4 3 (nI (h 4 0 - 1))) 4) (hBk h e m td) := by
    intro e m td w v he hw hw3 q1 q1' q2 q2' q3 q4
    have rr : ∀ j, (cset (cset M 4 w v) 4 3 (nI (h 4 0 - 1))) 4 j = if j = 3 then nI (h 4 0 - 1) else if j = w then v else M 4 j := fun j => by rw [cset_at, cset_at]
    refine ⟨?_, ?_, ?_, rr 3, fun p hp => ?_, fun i hi => ?_, fun k hk => ?_⟩
    · rw [rr, if_neg (by omega), if_neg (by omega)]; exact a0
    · rw [rr, if_neg (by omega)]
      show _ = nI e
      by_cases q : 1 = w
      · rw [if_pos q]; exact q1' q.symm
      · rw [if_neg q]; rcases q1 with q1 | q1
        · exact absurd q1.symm q
        · exact q1
    · rw [rr, if_neg (by omega)]
      show _ = nI td
      by_cases q : 2 = w
      · rw [if_pos q]; exact q2' q.symm
      · rw [if_neg q]; rcases q2 with q2 | q2
        · exact absurd q2.symm q
        · exact q2
    · have hp' : p < h 0 0 := hp
      rw [rr (4 + p), rr (9 + p), rr (14 + p), if_neg (by omega), if_neg (by omega), if_neg (by omega), if_neg (by omega), if_neg (by omega), if_neg (by omega)]
      exact a4' p hp'
    · have hi' : i < e := hi
      have := a5' i (by omega)
      rw [rr (19 + i), rr (31 + i), rr (43 + i), rr (55 + i), rr (67 + i), if_neg (by omega), if_neg (by omega), if_neg (by omega), if_neg (by omega), if_neg (by omega), if_neg (by omega), if_neg (by omega), if_neg (by omega), if_neg (by omega)]
      exact ⟨this.1, this.2.1, this.2.2.1, this.2.2.2.1, q4 i hi'⟩
    · have hk' : k < h 4 0 - 1 := hk
      rw [rr, if_neg (by omega), if_neg (by omega)]
      exact a6' k (by omega)
  rcases hcase with ⟨q0, q1, q2, q3⟩ | ⟨q0, q1, q2, q3⟩ | ⟨i, q, q0, q1, q2, q3⟩
  · rw [q0, if_neg (show ¬ turnC 0 = -1 by decide), if_pos (show turnC 0 = -2 from rfl), if_pos nI_0]
    refine ⟨_, cset (cset c 4 0 (nI (h 4 0 - 1))) 1 0 (c 1 0 - 1), cset M 4 1 (nI (E (h 4 0 - 1))), hV, ⟨c0, ?_, ?_, ?_, rfl, c5, fun i hi => c6 i (Nat.lt_of_lt_of_le hi hle), fun k hk => ?_⟩, ?_, rfl, rfl, fun q hq => cset_ne _ _ _ _ _ hq, ?_⟩
    · show c 1 0 - 1 = nI (E (h 4 0 - 1))
      rw [c1, q1]; exact nI_pred _
    · show c 2 0 = nI (Mm (h 4 0 - 1))
      rw [c2, q2]
    · show c 3 0 = nI (Td (h 4 0 - 1))
      rw [c3, q3]
    · have hk' : k < h 4 0 - 1 := hk
      exact c7 k (by omega)
    · exact hMk _ _ _ 1 _ hle (by omega) (by omega) (Or.inl rfl) (fun _ => rfl) (Or.inr (by rw [a2, q3])) (fun q => absurd q (by omega)) (Or.inl rfl) (fun i hi => by rw [if_neg (by omega), ← q2]; exact (a5' i (by omega)).2.2.2.2)
    · rw [a1, q1, show nI (E (h 4 0 - 1) + 1) - (1 : Int32) = nI (E (h 4 0 - 1)) from nI_pred _]
  · rw [q0, if_pos (show turnC 1 = -1 from rfl), if_neg (show ¬ nI 1 = 0 by decide), if_pos (show nI 1 = (1 : Int32) from rfl)]
    refine ⟨_, cset (cset c 4 0 (nI (h 4 0 - 1))) 3 0 (c 3 0 - 1), cset M 4 2 (nI (Td (h 4 0 - 1))), hV, ⟨c0, ?_, ?_, ?_, rfl, c5, fun i hi => c6 i (Nat.lt_of_lt_of_le hi hle), fun k hk => ?_⟩, ?_, rfl, rfl, fun q hq => cset_ne _ _ _ _ _ hq, ?_⟩
    · show c 1 0 = nI (E (h 4 0 - 1))
      rw [c1, q1]
    · show c 2 0 = nI (Mm (h 4 0 - 1))
      rw [c2, q2]
    · show c 3 0 - 1 = nI (Td (h 4 0 - 1))
      rw [c3, q3]; exact nI_pred _
    · have hk' : k < h 4 0 - 1 := hk
      exact c7 k (by omega)
    · exact hMk _ _ _ 2 _ hle (by omega) (by omega) (Or.inr (by rw [a1, q1])) (fun q => absurd q (by omega)) (Or.inl rfl) (fun _ => rfl) (Or.inr (Or.inl rfl)) (fun i hi => by rw [if_neg (by omega), ← q2]; exact (a5' i (by omega)).2.2.2.2)
    · rw [a2, q3, show nI (Td (h 4 0 - 1) + 1) - (1 : Int32) = nI (Td (h 4 0 - 1)) from nI_pred _]
  · have hi1 : i < h 1 0 := by omega
    have hmb := mbit_le (h 2 0) i
    have xx : Mm (h 4 0 - 1) = h 2 0 ^^^ 2 ^ i := by rw [q2, Nat.xor_assoc, Nat.xor_self, Nat.xor_zero]
    have n1 : ¬ turnC (i + 2) = -1 := nI_m1 i (by omega)
    have n2 : ¬ turnC (i + 2) = -2 := fun q => by
      have q' : nI i = -2 := q
      rw [i32_eq, nI_toInt (by omega)] at q'
      have : (-2 : Int32).toInt = -2 := by decide
      omega
    rw [q0, if_neg n1, if_neg n2, if_neg (nI_ne0 (by omega) (by omega)), if_neg (show ¬ nI (i + 2) = (1 : Int32) from fun q => absurd ((nI_eq (b := 1) (by omega) (by omega)).mp q) (by omega)), show ((67 : Int32) + nI (i + 2)) - (2 : Int32) = nI (67 + i) by rw [show (67 : Int32) = nI 67 from rfl, nI_add, show (2 : Int32) = nI 2 from rfl, pk_sub (by omega)]; exact congrArg nI (by omega), ck_t _ (inb_nI (show 67 + i < 119 by omega) (by omega)), ck_t _ (inb_nI (show 67 + i < 119 by omega) (by omega)), nI_clamp (show 67 + i < 2 ^ 31 by omega), (a5' i hi1).2.2.2.2]
    refine ⟨_, cset (cset c 4 0 (nI (h 4 0 - 1))) 2 0 (c 2 0 ^^^ ((1 : Int32) <<< (turnC (i + 2) &&& 31))), cset M 4 (67 + i) (nI (1 - mbit (h 2 0) i)), hV, ⟨c0, ?_, ?_, ?_, rfl, c5, fun i hi => c6 i (Nat.lt_of_lt_of_le hi hle), fun k hk => ?_⟩, ?_, rfl, rfl, fun q hq => cset_ne _ _ _ _ _ hq, ?_⟩
    · show c 1 0 = nI (E (h 4 0 - 1))
      rw [c1, q1]
    · show c 2 0 ^^^ ((1 : Int32) <<< (nI i &&& 31)) = nI (Mm (h 4 0 - 1))
      rw [c2, one_shl (by omega), nI_xor, xx]
    · show c 3 0 = nI (Td (h 4 0 - 1))
      rw [c3, q3]
    · have hk' : k < h 4 0 - 1 := hk
      exact c7 k (by omega)
    · exact hMk _ _ _ (67 + i) _ hle (by omega) (by omega) (Or.inr (by rw [a1, q1])) (fun q => absurd q (by omega)) (Or.inr (by rw [a2, q3])) (fun q => absurd q (by omega)) (Or.inr (Or.inr (by omega))) (fun j hj => by
        rw [xx, mbit_xor]
        by_cases e : j = i
        · rw [if_pos (by omega), if_pos e]
        · rw [if_neg (by omega), if_neg e]; exact (a5' j (by omega)).2.2.2.2)
    · rw [show (1 : Int32) - nI (mbit (h 2 0) i) = nI (1 - mbit (h 2 0) i) from pk_sub (a := 1) hmb]
theorem undo_both {n0 : Nat} (J : Nat → JS) (N : JS) (x2 : Nat) (hx2 : x2 ≤ 40) : ∀ (n j : Nat) (h : Nat → Nat → Nat) (I : Nat → CS) (M : CS), j ≤ x2 → x2 - j < n → h 4 0 = n0 + (x2 - j) → ChV h → ChC (I 0) h → ChM ((cset M 4 3 (nI (h 4 0))) 4) h →
    ∃ (h' : Nat → Nat → Nat) (I' : Nat → CS) (M' : CS), f_X5_undo_29 n (nI x2) (nI j) I J = some (nI x2, I') ∧ f_X6_undo_36 n (nI n0) (nI x2) (nI (n0 + (x2 - j)) + (-1)) M N = some (nI x2, cset M' 4 3 (nI n0)) ∧ (∀ g, g ≠ 0 → I' g = I g) ∧ (∀ q, q ≠ 4 → M' q = M q) ∧ ChV h' ∧ ChC (I' 0) h' ∧ ChM ((cset M' 4 3 (nI n0)) 4) h' := by
  intro n
  induction n with
  | zero => intro j h I M h1 h2; exact absurd h2 (by omega)
  | succ n ih =>
    intro j h I M h1 h2 h4 hv hc hm
    have v4 : h 4 0 ≤ 40 := hv.2.2.2.2.1
    rw [f_X5_undo_29, f_X6_undo_36]
    by_cases hj : x2 ≤ j
    · have hx : x2 - j = 0 := by omega
      rw [hx, Nat.add_zero] at h4
      rw [hx, Nat.add_zero, show j = x2 by omega, if_pos (show nI x2 ≤ nI x2 by rw [i32_le]; omega), if_pos ((lt_down (by omega) (by omega)).mpr (Nat.le_refl _))]
      rw [h4] at hm
      exact ⟨h, I, M, rfl, rfl, fun _ _ => rfl, fun _ _ => rfl, hv, hc, hm⟩
    · obtain ⟨h', c', M', k1, k2, k3, k4, k5, k6, k7⟩ := back_both hv hc hm (show 0 < h 4 0 by omega) (f_X6_undo_36 n) (nI n0) (nI x2) N
      rw [if_neg (nI_ge (by omega) (by omega)), if_neg (fun q => absurd ((lt_down (by omega) (by omega)).mp q) (by omega)), k5, ob1_s, nI_1, show nI (n0 + (x2 - j)) + (-1) = nI (h 4 0 - 1) by rw [show n0 + (x2 - j) = (h 4 0 - 1) + 1 by omega, pk_m1]]
      rw [k7]
      obtain ⟨h'', I', M'', l1, l2, l3, l4, l5, l6, l7⟩ := ih (j + 1) h' (gset I 0 c') M' (by omega) (by omega) (by omega) k1 k2 k3
      refine ⟨h'', I', M'', l1, ?_, fun g hg => (l3 g hg).trans (gset_ne _ _ _ _ hg), fun q hq => (l4 q hq).trans (k6 q hq), l5, l6, l7⟩
      rw [show h 4 0 - 1 = n0 + (x2 - (j + 1)) by omega]
      exact l2
theorem o_undo : Op_undo := by
  intro I J M N y1 R
  obtain ⟨h, hv, hc, ha⟩ := R.2.2.2.1
  have v4 : h 4 0 ≤ 40 := hv.2.2.2.2.1
  have e0 : (0 : Int32).toInt = 0 := by decide
  unfold f_X5_undo f_X6_undo f_X5_undo_15
  rw [hc.2.2.2.2.1, ha.2.2.2.1, p_in6i, ob1_s, if_bI, i32_w, nI_toInt (by omega), show (0 : Int64).toInt = 0 by decide]
  by_cases h1 : y1 < 0
  · rw [if_pos h1, if_neg (by rw [i32_lt, e0] at h1; omega)]; exact ⟨_, _, _, rfl, rfl, R⟩
  · obtain ⟨n0, hn, rfl⟩ := nI_of h1
    rw [if_neg h1, nI_toInt hn]
    by_cases h2 : n0 ≤ h 4 0
    · rw [if_pos (nI_le h2 (by omega)), if_pos (show (0 : Int) ≤ (n0 : Nat) ∧ ((n0 : Nat) : Int) ≤ (h 4 0 : Nat) by omega), pk_sub h2]
      have hm : ChM ((cset M 4 3 (nI (h 4 0))) 4) h := ha.cong hv (fun i _ => by
        rw [cset_at]
        by_cases q : i = 3
        · rw [if_pos q, q, ha.2.2.2.1]
        · rw [if_neg q])
      obtain ⟨h', I', M', l1, l2, l3, l4, l5, l6, l7⟩ := undo_both (n0 := n0) J N (h 4 0 - n0) (by omega) FU 0 h I M (by omega) (FU_ge (by omega)) (by omega) hv hc hm
      have l1' : f_X5_undo_29 FU (nI (h 4 0 - n0)) 0 I J = _ := l1
      rw [show nI (n0 + (h 4 0 - n0 - 0)) + (-1) = nI (h 4 0) - (1 : Int32) by rw [show n0 + (h 4 0 - n0 - 0) = h 4 0 by omega, Int32.sub_eq_add_neg]] at l2
      rw [l1', l2]
      exact ⟨_, _, _, rfl, rfl, R.chain (fun g h1 _ => l3 g (by omega)) (fun q _ hq => by rw [cset_ne _ _ _ _ _ hq]; exact l4 q hq) ⟨h', l5, l6, l7⟩⟩
    · rw [if_neg (nI_ge (by omega) (by omega)), if_neg (show ¬ ((0 : Int) ≤ (n0 : Nat) ∧ ((n0 : Nat) : Int) ≤ (h 4 0 : Nat)) by omega)]; exact ⟨_, _, _, rfl, rfl, R⟩
