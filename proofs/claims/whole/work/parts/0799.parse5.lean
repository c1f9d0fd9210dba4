/-- the whole text -/
theorem read_both (N : JS) {b : CS} {j k : Nat} (hj : j < 4) (hk : k ≤ 60) (hs : b 6 j = nI k) :
    ∀ (n i m : Nat) (h : Nat → Nat → Nat) (c M : CS), i ≤ k → m ≤ i → k - i < n → Dr h → ChC c h → ChM (M 10) h → (∀ y, M 10 (67 + y) = 0) → M 2 j = nI k → (∀ x, x < k → M 3 (60 * j + x) = b j x) → M 11 0 = nI i →
      (∃ r c' M', ¬ r = -9 ∧ f_X2_read_19 n (nI j) (nI k) (nI i) (nI m) c b = some (r, c') ∧ f_X6_reads_26 n (nI j) M N = some (r, M') ∧ FrM M M') ∨
      (∃ h' c' M', f_X2_read_19 n (nI j) (nI k) (nI i) (nI m) c b = some (-9, c') ∧ f_X6_reads_26 n (nI j) M N = some (-9, M') ∧ FrM M M' ∧ Dr h' ∧ 0 < h' 0 0 ∧ ChC c' h' ∧ ChM (M' 10) h') := by
  have hsz : (b 6 j).toInt = (k : Nat) := by rw [hs, nI_toInt (by omega)]
  intro n
  induction n with
  | zero => intro i m h c M _ _ h2; exact absurd h2 (by omega)
  | succ n ih =>
    intro i m h c M h0 h1 h2 D hc hm hz s1 s3 h11
    have v0 : h 0 0 ≤ 5 := D.1.1
    rw [f_X2_read_19, f_X6_reads_26, if_neg (show ¬ (60 : Int32) < nI m from nI_nlt (a := 60) (by omega) (by omega)), ck_t _ (inb_nI hj (by omega)), nI_clamp (show j < 2 ^ 31 by omega), s1, h11]
    unfold f_X2_read_110 f_X2_read_126 f_X6_reads_114 f_X6_reads_91 f_X2_read_94
    by_cases hi : k ≤ i
    · have hik : i = k := by omega
      rw [if_pos (nI_le hi (by omega)), if_pos (nI_le hi (by omega)), hc.1, hm.1, hik]
      by_cases hP : h 0 0 = 0
      · rw [hP, if_pos (show nI 0 ≤ 0 by decide), if_pos nI_0]
        exact Or.inl ⟨_, _, _, n9 (by omega), rfl, rfl, FrM.rfl' M⟩
      · rw [if_neg (nI_nle (by omega) (by omega)), if_neg (nI_ne0 (by omega) (by omega))]
        exact Or.inr ⟨h, _, _, rfl, rfl, FrM.rfl' M, D, by omega, hc, hm⟩
    · have hi' : i < k := Nat.not_le.mp hi
      rw [if_neg (nI_ge hi' (by omega)), if_neg (nI_ge hi' (by omega)), get_t b hj (by omega) (by omega), ob1_s, byteAt6 N hj hk (by omega) s1 s3 h11, ob1_s, ob1_s, if_neg hi, nI_1, nI_1]
      by_cases q32 : b j i = 32
      · rw [if_pos q32, if_pos q32, if_pos rfl]
        have F : FrM M (cset M 11 0 (nI (i + 1))) := fun q hq => cset_ne _ _ _ _ _ (by omega)
        rcases ih (i + 1) (m + 1) h c (cset M 11 0 (nI (i + 1))) (by omega) (by omega) (by omega) D hc hm hz s1 s3 rfl with ⟨r, c', M', a1, a2, a3, a4⟩ | ⟨h', c', M', a1, a2, a3, a4⟩
        · exact Or.inl ⟨r, c', M', a1, a2, a3, F.trans a4⟩
        · exact Or.inr ⟨h', c', M', a1, a2, F.trans a3, a4⟩
      · rw [if_neg q32, if_neg q32]
        by_cases q120 : b j i = 120
        · rw [if_pos q120, if_pos q120, show nI i + (5 : Int32) = nI (i + 5) from nI_add _ 5]
          rcases readError_both D N hc hm hz hj hk hi' hs s1 s3 h11 q120 with ⟨f, c1, M1, b1, b2, b3, b4, b5⟩ | ⟨h1, c1, M1, b2, b3, b4, b5, b6, b7, b8, b9, b10⟩
          · rw [b2, ob2_s, b3, ob2_s, if_pos rfl, if_neg (n9 (by omega)), b4]
            exact Or.inl ⟨_, _, _, n9 (by omega), rfl, rfl, b5⟩
          · rw [b2, ob2_s, b3, ob2_s, if_neg (show ¬ (1 : Int32) = 0 by decide), if_pos rfl]
            rcases ih (i + 5) (m + 1) h1 c1 M1 b5 (by omega) (by omega) b7 b8 b9 b10 (by rw [b6 2 (by omega)]; exact s1) (fun x hx => by rw [b6 3 (by omega)]; exact s3 x hx) b4 with ⟨r, c', M', a1, a2, a3, a4⟩ | ⟨h', c', M', a1, a2, a3, a4⟩
            · exact Or.inl ⟨r, c', M', a1, a2, a3, b6.trans a4⟩
            · exact Or.inr ⟨h', c', M', a1, a2, b6.trans a3, a4⟩
        · rw [if_neg q120, if_neg q120, show nI i + (3 : Int32) = nI (i + 3) from nI_add _ 3]
          rcases readPerson_both D N hc hm hj hk hi' hs s1 s3 h11 with ⟨f, c1, M1, b1, b2, b3, b4, b5⟩ | ⟨h1, c1, M1, b2, b3, b4, b5, b6, b7, b8, b9, b10⟩
          · rw [b2, ob2_s, b3, ob2_s, if_pos rfl, if_neg (n9 (by omega)), b4]
            exact Or.inl ⟨_, _, _, n9 (by omega), rfl, rfl, b5⟩
          · rw [b2, ob2_s, b3, ob2_s, if_neg (show ¬ (1 : Int32) = 0 by decide), if_pos rfl]
            rcases ih (i + 3) (m + 1) h1 c1 M1 b5 (by omega) (by omega) b7 b8 b9 (fun y => (b10 y).trans (hz y)) (by rw [b6 2 (by omega)]; exact s1) (fun x hx => by rw [b6 3 (by omega)]; exact s3 x hx) b4 with ⟨r, c', M', a1, a2, a3, a4⟩ | ⟨h', c', M', a1, a2, a3, a4⟩
            · exact Or.inl ⟨r, c', M', a1, a2, a3, b6.trans a4⟩
            · exact Or.inr ⟨h', c', M', a1, a2, b6.trans a3, a4⟩
