/-- the whole text -/
theorem read_both (N : JS) {b : CS} {j k : Nat} (hj : j < 4) (hk : k ≤ 60) (hs : b 6 j = nI k) :
    ∀ (n i m : Nat) (h : Nat → Nat → Nat) (c M : CS), i ≤ k → m ≤ i → k - i < n → Dr h → ChC c h → ChM (M 10) h → (∀ y, y < 12 → M 10 (67 + y) = 0) → M 2 j = nI k → (∀ x, x < k → M 3 (60 * j + x) = b j x) → M 11 0 = nI i →
      (∃ r c' M', ¬ r = -9 ∧ f_X2_read_19 n (nI j) (nI k) (nI i) (nI m) c b = some (r, c') ∧ f_X6_reads_26 n (nI j) M N = some (r, M') ∧ FrM M M') ∨
      (∃ h' c' M', f_X2_read_19 n (nI j) (nI k) (nI i) (nI m) c b = some (-9, c') ∧ f_X6_reads_26 n (nI j) M N = some (-9, M') ∧ FrM M M' ∧ Dr h' ∧ 0 < h' 0 0 ∧ ChC c' h' ∧ ChM (M' 10) h') := by
  have hsz : (b 6 j).toInt = (k : Nat) := by rw [hs, nI_toInt (by omega)]
  intro n
  induction n with
  | zero => intro i m h c M _ _ h2; exact absurd h2 (by omega)
  | succ n ih =>
    intro i m h c M h0 h1 h2 D hc hm hz s1 s3 h11
    have v0 : h 0 0 ≤ 5 := D.1.1
    rw [f_X2_read_19, f_X6_reads_26, if_neg (show ¬ (60 : Int32) < nI m from nI_nlt (a := 60) (by omega) (by omega)), ck_t _ (inb_nI hj (by omega)), nI_clamp (show j < 2 ^ 31 by omega), s1, h11]
    unfold f_X2_read_110 f_X2_read_126 f_X6_reads_114 f_X6_reads_91 f_X2_read_94
    by_cases hi : k ≤ i
    · have hik : i = k := by omega
      rw [if_pos (nI_le hi (by omega)), if_pos (nI_le hi (by omega)), hc.1, hm.1, hik]
      by_cases hP : h 0 0 = 0
      · rw [hP, if_pos (show nI 0 ≤ 0 by decide), if_pos nI_0]
        exact Or.inl ⟨_, _, _, n9 (by omega), rfl, rfl, FrM.rfl' M⟩
      · rw [if_neg (nI_nle (by omega) (by omega)), if_neg (nI_ne0 (by omega) (by omega))]
        exact Or.inr ⟨h, _, _, rfl, rfl, FrM.rfl' M, D, by omega, hc, hm⟩
    · have hi' : i < k := Nat.not_le.mp hi
      rw [if_neg (nI_ge hi' (by omega)), if_neg (nI_ge hi' (by omega)), get_t b hj (by omega) (by omega), ob1_s, byteAt6 N hj hk (by omega) s1 s3 h11, ob1_s, ob1_s, if_neg hi, nI_1, nI_1]
      by_cases q32 : b j i = 32
      · rw [if_pos q32, if_pos q32, if_pos rfl]
        have F : FrM M (cset M 11 0 (nI (i + 1))) := fun q hq => cset_ne _ _ _ _ _ (by omega)
        rcases ih (i + 1) (m + 1) h c (cset M 11 0 (nI (i + 1))) (by omega) (by omega) (by omega) D hc hm hz s1 s3 rfl with ⟨r, c', M', a1, a2, a3, a4⟩ | ⟨h', c', M', a1, a2, a3, a4⟩
        · exact Or.inl ⟨r, c', M', a1, a2, a3, F.trans a4⟩
        · exact Or.inr ⟨h', c', M', a1, a2, F.trans a3, a4⟩
      · rw [if_neg q32, if_neg q32]
        by_cases q120 : b j i = 120
        · rw [if_pos q120, if_pos q120, show nI i + (5 : Int32) = nI (i + 5) from nI_add _ 5]
          rcases readError_both D N hc hm hz hj hk hi' hs s1 s3 h11 q120 with ⟨f, c1, M1, b1, b2, b3, b4, b5⟩ | ⟨h1, c1, M1, b2, b3, b4, b5, b6, b7, b8, b9, b10⟩
          · rw [b2, ob2_s, b3, ob2_s, if_pos rfl, if_neg (n9 (by omega)), b4]
            exact Or.inl ⟨_, _, _, n9 (by omega), rfl, rfl, b5⟩
          · rw [b2, ob2_s, b3, ob2_s, if_neg (show ¬ (1 : Int32) = 0 by decide), if_pos rfl]
            rcases ih (i + 5) (m + 1) h1 c1 M1 b5 (by omega) (by omega) b7 b8 b9 b10 (by rw [b6 2 (by omega)]; exact s1) (fun x hx => by rw [b6 3 (by omega)]; exact s3 x hx) b4 with ⟨r, c', M', a1, a2, a3, a4⟩ | ⟨h', c', M', a1, a2, a3, a4⟩
            · exact Or.inl ⟨r, c', M', a1, a2, a3, b6.trans a4⟩
            · exact Or.inr ⟨h', c', M', a1, a2, b6.trans a3, a4⟩
        · rw [if_neg q120, if_neg q120, show nI i + (3 : Int32) = nI (i + 3) from nI_add _ 3]
          rcases readPerson_both D N hc hm hj hk hi' hs s1 s3 h11 with ⟨f, c1, M1, b1, b2, b3, b4, b5⟩ | ⟨h1, c1, M1, b2, b3, b4, b5, b6, b7, b8, b9, b10⟩
          · rw [b2, ob2_s, b3, ob2_s, if_pos rfl, if_neg (n9 (by omega)), b4]
            exact Or.inl ⟨_, _, _, n9 (by omega), rfl, rfl, b5⟩
          · rw [b2, ob2_s, b3, ob2_s, if_neg (show ¬ (1 : Int32) = 0 by decide), if_pos rfl]
            rcases ih (i + 3) (m + 1) h1 c1 M1 b5 (by omega) (by omega) b7 b8 b9 (fun y hy => (b10 y).trans (hz y hy)) (by rw [b6 2 (by omega)]; exact s1) (fun x hx => by rw [b6 3 (by omega)]; exact s3 x hx) b4 with ⟨r, c', M', a1, a2, a3, a4⟩ | ⟨h', c', M', a1, a2, a3, a4⟩
            · exact Or.inl ⟨r, c', M', a1, a2, a3, b6.trans a4⟩
            · exact Or.inr ⟨h', c', M', a1, a2, b6.trans a3, a4⟩
theorem reads_2 (N : JS) (x1 : Int32) : ∀ (n i : Nat) (M : CS), i ≤ 119 → 119 - i < n → (∀ x, x < i → M 10 x = 0) → ∃ M', f_X6_reads_2 n x1 (nI i) M N = f_X6_reads_26 FU x1 (cset M' 11 0 0) N ∧ FrM M M' ∧ ∀ x, x < 119 → M' 10 x = 0 := by
  intro n
  induction n with
  | zero => intro i M h1 h2; exact absurd h2 (by omega)
  | succ n ih =>
    intro i M h1 h2 hz
    rw [f_X6_reads_2]
    by_cases hi : 119 ≤ i
    · rw [if_pos (show (119 : Int32) ≤ nI i from nI_le (a := 119) hi (by omega))]
      exact ⟨M, rfl, FrM.rfl' M, fun x hx => hz x (by omega)⟩
    · have hi' : i < 119 := Nat.not_le.mp hi
      rw [if_neg (show ¬ (119 : Int32) ≤ nI i from nI_ge (b := 119) hi' (by omega)), ck_t _ (inb_nI hi' (by omega)), nI_clamp (by omega), nI_1]
      obtain ⟨M', e, g1, g2⟩ := ih (i + 1) (cset M 10 i 0) (by omega) (by omega) (fun x hx => by
        rw [cset_at]
        by_cases e : x = i
        · rw [if_pos e]
        · rw [if_neg e]; exact hz x (by omega))
      exact ⟨M', e, FrM.trans (fun q hq => cset_ne _ _ _ _ _ (by omega)) g1, g2⟩
/-- what a reading gives, on both sides -/
theorem reading {I : Nat → CS} {J : Nat → JS} {M : CS} {N : JS} (R : Rel I J M N) {j k : Nat} (hj : j < 4) (hk : k ≤ 60) (s2 : I 6 6 j = nI k) (s1 : M 2 j = nI k) (s3 : ∀ x, x < k → M 3 (60 * j + x) = I 6 j x) :
    (∃ r c' M', ¬ r = -9 ∧ f_X2_read (I 1) (I 6) (nI j) = some (r, c') ∧ f_X6_reads M N (nI j) = some (r, M') ∧ FrM M M') ∨
    (∃ h' c' M', f_X2_read (I 1) (I 6) (nI j) = some (-9, c') ∧ f_X6_reads M N (nI j) = some (-9, M') ∧ FrM M M' ∧ ChV h' ∧ 0 < h' 0 0 ∧ ChC c' h' ∧ ChM (M' 10) h') := by
  obtain ⟨M1, e1, g1, g2⟩ := reads_2 N (nI j) FU 0 M (by omega) (FU_ge (by omega)) (fun x hx => absurd hx (by omega))
  have e1' : f_X6_reads M N (nI j) = f_X6_reads_26 FU (nI j) (cset M1 11 0 0) N := e1
  have F : FrM M (cset M1 11 0 0) := g1.trans (fun q hq => cset_ne _ _ _ _ _ (by omega))
  have D : Dr (fun _ _ => 0) := ⟨⟨Nat.zero_le _, Nat.zero_le _, (by decide : (0 : Nat) < 2 ^ 0), Nat.zero_le _, Nat.zero_le _, fun p hp => absurd hp (Nat.not_lt_zero _), fun i hi => absurd hi (Nat.not_lt_zero _), fun _ => 0, fun _ => 0, fun _ => 0, rfl, rfl, rfl, fun k hk => absurd hk (Nat.not_lt_zero _)⟩, rfl, rfl, rfl, Nat.zero_le _⟩
  have hm : ChM ((cset M1 11 0 0) 10) (fun _ _ => 0) := ⟨g2 0 (by omega), g2 1 (by omega), g2 2 (by omega), g2 3 (by omega), fun p hp => absurd hp (Nat.not_lt_zero _), fun i hi => absurd hi (Nat.not_lt_zero _), fun k hk => absurd hk (Nat.not_lt_zero _)⟩
  have hc : ChC (cset (cset (cset (cset (cset (I 1) 0 0 0) 1 0 0) 2 0 0) 3 0 0) 4 0 0) (fun _ _ => 0) := ⟨rfl, rfl, rfl, rfl, rfl, fun p hp => absurd hp (Nat.not_lt_zero _), fun i hi => absurd hi (Nat.not_lt_zero _), fun k hk => absurd hk (Nat.not_lt_zero _)⟩
  have e2 : f_X2_read (I 1) (I 6) (nI j) = f_X2_read_19 FU (nI j) (nI k) (nI 0) (nI 0) (cset (cset (cset (cset (cset (I 1) 0 0 0) 1 0 0) 2 0 0) 3 0 0) 4 0 0) (I 6) := by
    unfold f_X2_read f_X0_clear
    rw [ob1_s, sizeOf_t (I 6) hj, ob1_s, s2]; rfl
  rw [e1', e2]
  rcases read_both N hj hk s2 FU 0 0 (fun _ _ => 0) _ (cset M1 11 0 0) (by omega) (by omega) (FU_ge (by omega)) D hc hm (fun y hy => g2 (67 + y) (by omega)) (by rw [F 2 (by omega)]; exact s1) (fun x hx => by rw [F 3 (by omega)]; exact s3 x hx) rfl with ⟨r, c', M', a1, a2, a3, a4⟩ | ⟨h', c', M', a1, a2, a3, a4, a5, a6, a7⟩
  · exact Or.inl ⟨r, c', M', a1, a2, a3, F.trans a4⟩
  · exact Or.inr ⟨h', c', M', a1, a2, F.trans a3, a4.1, a5, a6, a7⟩
theorem FrI.d (I : Nat → CS) (c : CS) : FrI I (gset I 1 c) := ⟨fun g h1 _ => gset_ne _ _ _ _ (by omega), fun q _ => by rw [gset_ne _ _ _ _ (by omega)]⟩
theorem o_fault : Op_fault := by
  intro I J M N y1 R
  unfold f_X5_fault f_X6_fault f_X6_fault_31
  rw [missing_t, p_isText6, ob1_s, if_bI]
  by_cases h1 : 0 ≤ y1.toInt ∧ y1.toInt < 4
  · rw [if_pos h1, if_pos h1]
    obtain ⟨j, hj, rfl⟩ := ix_of (n := 4) h1.1 h1.2 (by omega)
    obtain ⟨s1, s2⟩ := R.2.1 j hj
    have f2 : f_X6_found M N 1 = _ := found6 M N 1 (by omega)
    rw [ck_t _ (inb_nI hj (by omega)), nI_clamp (by omega), s1]
    rcases s2 with s2 | ⟨k, hk, s2, s3⟩
    · rw [s2, if_pos rfl, if_neg (show ¬ (0 : Int32) ≤ -1 by decide), ob2_s, if_neg (show ¬ (-3 : Int32) = 0 by decide), f2, ob2_s]
      exact ⟨_, _, _, rfl, rfl, R.found 1⟩
    · rw [s2, if_neg (nI_m1 k (by omega)), if_pos (nI_pos' (by omega)), ob2_s, if_pos rfl]
      rcases reading R hj hk s2 (s1.trans s2) s3 with ⟨r, c', M', a1, a2, a3, a4⟩ | ⟨h', c', M', a1, a2, a3, a4, a5, a6, a7⟩
      · rw [a2, a3, ob2_s, ob2_s]
        exact ⟨_, _, _, rfl, rfl, R.fr (FrI.d I c') a4 rfl⟩
      · rw [a1, a2, ob2_s, ob2_s]
        exact ⟨_, _, _, rfl, rfl, R.fr (FrI.d I c') a3 rfl⟩
  · rw [if_neg h1, if_neg h1, ob2_s, if_neg (show ¬ (-1 : Int32) = 0 by decide)]
    exact ⟨_, _, _, rfl, rfl, R⟩
