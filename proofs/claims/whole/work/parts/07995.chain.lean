theorem copies_rn (N : JS) : ∀ (n i : Nat) (M : CS), i ≤ 119 → 119 - i < n → ∃ M', f_X6_copies_read_now_3 n (nI 0) (nI 0) (nI i) M N = some M' ∧ (∀ q, q ≠ 4 → M' q = M q) ∧ ∀ x, M' 4 x = if i ≤ x ∧ x < 119 then M 10 x else M 4 x := by
  intro n
  induction n with
  | zero => intro i M h1 h2; exact absurd h2 (by omega)
  | succ n ih =>
    intro i M h1 h2
    rw [f_X6_copies_read_now_3]
    by_cases hi : 119 ≤ i
    · rw [if_pos (show (119 : Int32) ≤ nI i from nI_le (a := 119) hi (by omega))]
      exact ⟨M, rfl, fun _ _ => rfl, fun x => by rw [if_neg (by omega)]⟩
    · have hi' : i < 119 := Nat.not_le.mp hi
      rw [if_neg (show ¬ (119 : Int32) ≤ nI i from nI_ge (b := 119) hi' (by omega)), nI_add, Nat.zero_add, ck_t _ (inb_nI hi' (by omega)), ck_t _ (inb_nI hi' (by omega)), nI_clamp (by omega), nI_1]
      obtain ⟨M', e, g1, g2⟩ := ih (i + 1) (cset M 4 i (M 10 i)) (by omega) (by omega)
      refine ⟨M', e, fun q hq => by rw [g1 q hq, cset_ne _ _ _ _ _ hq], fun x => ?_⟩
      rw [g2 x, cset_at, cset_ne _ _ _ _ 10 (by omega)]
      by_cases hx : x = i
      · subst hx
        rw [if_neg (by omega), if_pos rfl, if_pos (by omega)]
      · by_cases hx2 : i + 1 ≤ x ∧ x < 119
        · rw [if_pos hx2, if_pos (by omega)]
        · rw [if_neg hx2, if_neg hx, if_neg (by omega)]
theorem chain_52 (J : Nat → JS) (N : JS) : ∀ (n k : Nat) (I : Nat → CS) (M : CS), k ≤ 3 → 3 - k < n → (∀ x, x < k → I (2 + x) 0 0 = 0 ∧ M 6 x = 0) → ∃ I' M', f_X5_chain_52 n (nI k) I J = some (I 0 0 0, I') ∧ f_X6_chain_52 n (nI k) M N = some (M 4 0, M') ∧ (∀ g, ¬ (2 ≤ g ∧ g ≤ 4) → I' g = I g) ∧ (∀ q, q ≠ 6 → M' q = M q) ∧ ∀ x, x < 3 → I' (2 + x) 0 0 = 0 ∧ M' 6 x = 0 := by
  intro n
  induction n with
  | zero => intro k I M h1 h2; exact absurd h2 (by omega)
  | succ n ih =>
    intro k I M h1 h2 hz
    rw [f_X5_chain_52, f_X6_chain_52]
    by_cases hk : 3 ≤ k
    · have := show (3 : Int32) ≤ nI k from nI_le (a := 3) hk (by omega)
      rw [if_pos this, if_pos this]
      exact ⟨I, M, rfl, rfl, fun _ _ => rfl, fun _ _ => rfl, fun x hx => hz x (by omega)⟩
    · have hk' : k < 3 := Nat.not_le.mp hk
      have := show ¬ (3 : Int32) ≤ nI k from nI_ge (b := 3) hk' (by omega)
      unfold f_X0_clear
      rw [if_neg this, if_neg this, ck_t _ (inb_nI hk' (by omega)), ck_t _ (inb_nI hk' (by omega)), nI_clamp (by omega), ob1_s, nI_1]
      obtain ⟨I', M', a1, a2, a3, a4, a5⟩ := ih (k + 1) (gset I (2 + k) (cset (cset (cset (cset (cset (I (2 + k)) 0 0 0) 1 0 0) 2 0 0) 3 0 0) 4 0 0)) (cset M 6 k 0) (by omega) (by omega) (fun x hx => by
        rw [cset_at]
        by_cases e : x = k
        · subst e; rw [gset_at, if_pos rfl]; exact ⟨rfl, rfl⟩
        · rw [gset_ne _ _ _ _ (by omega), if_neg e]; exact hz x (by omega))
      rw [gset_ne _ _ _ 0 (by omega)] at a1
      rw [cset_ne _ _ _ _ 4 (by omega)] at a2
      exact ⟨I', M', a1, a2, fun g hg => by rw [a3 g hg, gset_ne _ _ _ _ (by omega)], fun q hq => by rw [a4 q hq, cset_ne _ _ _ _ _ hq], a5⟩
theorem o_chain : Op_chain := by
  intro I J M N y1 R
  unfold f_X5_chain f_X6_chain
  rw [missing_t, p_isText6, ob1_s, if_bI]
  by_cases h1 : 0 ≤ y1.toInt ∧ y1.toInt < 4
  · rw [if_pos h1, if_pos h1]
    obtain ⟨j, hj, rfl⟩ := ix_of (n := 4) h1.1 h1.2 (by omega)
    obtain ⟨s1, s2⟩ := R.2.1 j hj
    have f2 : f_X6_found M N 1 = _ := found6 M N 1 (by omega)
    rw [ck_t _ (inb_nI hj (by omega)), nI_clamp (by omega), s1]
    rcases s2 with s2 | ⟨k, hk, s2, s3⟩
    · rw [s2, if_pos rfl, if_neg (show ¬ (0 : Int32) ≤ -1 by decide), ob2_s, if_neg (show ¬ (-3 : Int32) = 0 by decide), f2, ob2_s]
      exact ⟨_, _, _, rfl, rfl, R.found 1⟩
    · rw [s2, if_neg (nI_m1 k (by omega)), if_pos (nI_pos' (by omega)), ob2_s, if_pos rfl]
      rcases reading R hj hk s2 (s1.trans s2) s3 with ⟨r, c', M', a1, a2, a3, a4⟩ | ⟨h', c', M', a1, a2, a3, a4, a5, a6, a7⟩
      · rw [a2, a3, ob2_s, ob2_s, if_neg a1, if_neg a1]
        exact ⟨_, _, _, rfl, rfl, R.fr (FrI.d I c') a4 rfl⟩
      · obtain ⟨c3, t1, t2⟩ := takeFrom0 (c := I 0) a4 a6
        obtain ⟨M3, u1, u2, u3⟩ := copies_rn N FU 0 M' (by omega) (FU_ge (by omega))
        have u1' : f_X6_copies_read_now M' N 0 0 = some M3 := u1
        have hM3 : ChM (M3 4) h' := a7.cong a4 (fun x hx => by rw [u3, if_pos (by omega)])
        rw [a1, a2, ob2_s, ob2_s, if_pos rfl, if_pos rfl, t1, ob1_s, u1', ob1_s]
        obtain ⟨I4, M4, w1, w2, w3, w4, w5⟩ := chain_52 J N FU 0 (gset (gset I 1 c') 0 c3) M3 (by omega) (FU_ge (by omega)) (fun x hx => absurd hx (by omega))
        have w1' : f_X5_chain_52 FU 0 (gset (gset I 1 c') 0 c3) J = some (c3 0 0, I4) := w1
        have w2' : f_X6_chain_52 FU 0 M3 N = _ := w2
        rw [w1', w2', t2.1, hM3.1]
        refine ⟨_, _, _, rfl, rfl, ?_⟩
        obtain ⟨r1, r2, r3, r4, r5⟩ := R
        have g5 : ∀ g, 5 ≤ g → I4 g = I g := fun g hg => by rw [w3 g (by omega), gset_ne _ _ _ _ (by omega), gset_ne _ _ _ _ (by omega)]
        have g0 : I4 0 = c3 := by rw [w3 0 (by omega), gset_at]
        have gm : ∀ q, q < 10 → q ≠ 4 → q ≠ 6 → M4 q = M q := fun q h1 h2 h3 => by rw [w4 q h3, u2 q h2, a3 q h1]
        unfold Rel
        rw [g5 5 (by omega), g5 6 (by omega), g5 7 (by omega), g0, gm 0 (by omega) (by omega) (by omega), gm 1 (by omega) (by omega) (by omega), gm 2 (by omega) (by omega) (by omega), gm 3 (by omega) (by omega) (by omega), w4 4 (by omega)]
        refine ⟨r1, r2, ?_, ⟨h', a4, t2, hM3⟩, fun k hk => Or.inl ⟨(w5 k hk).2, (w5 k hk).1⟩⟩
        unfold ToldR
        rw [gm 7 (by omega) (by omega) (by omega), gm 8 (by omega) (by omega) (by omega), gm 9 (by omega) (by omega) (by omega)]
        exact r3
  · rw [if_neg h1, if_neg h1, ob2_s, if_neg (show ¬ (-1 : Int32) = 0 by decide)]
    exact ⟨_, _, _, rfl, rfl, R⟩
