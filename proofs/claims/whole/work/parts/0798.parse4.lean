theorem readError_both {h : Nat → Nat → Nat} (D : Dr h) {c b M : CS} (N : JS) {j k i : Nat} (hc : ChC c h) (hm : ChM (M 10) h) (hm0 : ∀ y, y < 12 → M 10 (67 + y) = 0) (hj : j < 4) (hk : k ≤ 60) (hi : i < k) (hs : b 6 j = nI k) (s1 : M 2 j = nI k) (s3 : ∀ x, x < k → M 3 (60 * j + x) = b j x) (h11 : M 11 0 = nI i) (h120 : b j i = 120) :
    (∃ f c' M', f < 100 ∧ f_X2_readError c b (nI j) (nI i) = some (nI f, c') ∧ f_X6_takesError M N (nI j) = some (0, M') ∧ M' 11 0 = nI f ∧ FrM M M') ∨
    (∃ h' c' M', f_X2_readError c b (nI j) (nI i) = some (-9, c') ∧ f_X6_takesError M N (nI j) = some (1, M') ∧ M' 11 0 = nI (i + 5) ∧ i + 5 ≤ k ∧ FrM M M' ∧ Dr h' ∧ ChC c' h' ∧ ChM (M' 10) h' ∧ ∀ y, y < 12 → M' 10 (67 + y) = 0) := by
  have v0 : h 0 0 ≤ 5 := D.1.1
  have v1 : h 1 0 ≤ 6 := D.2.2.2.2
  unfold f_X2_readError f_X6_takesError f_X2_readError_22 f_X2_readError_129 f_X6_takesError_32 f_X6_takesError_131 f_X6_takesError_132
  rw [byteAt6 N hj hk (by omega) s1 s3 h11, ob1_s, if_neg (show ¬ k ≤ i by omega), h120, if_pos rfl, hc.1, hc.2.1, hm.1, hm.2.1]
  by_cases hP : h 0 0 = 0
  · rw [hP, if_pos nI_0, if_pos nI_0, ite_self]
    exact Or.inl ⟨i, c, M, by omega, rfl, rfl, h11, FrM.rfl' M⟩
  · have hP' := nI_ne0 (n := h 0 0) (by omega) (by omega)
    rw [if_neg hP', if_neg hP']
    by_cases hE : h 1 0 = 6
    · rw [hE, if_neg (show ¬ nI 6 < (6 : Int32) by decide), if_pos (show nI 6 = (6 : Int32) from rfl)]
      exact Or.inl ⟨i, c, M, by omega, rfl, rfl, h11, FrM.rfl' M⟩
    · have hE6 : h 1 0 < 6 := by omega
      rw [if_pos (show nI (h 1 0) < (6 : Int32) from nI_lt (b := 6) hE6 (by omega)), if_neg (show ¬ nI (h 1 0) = (6 : Int32) from fun q => hE ((nI_eq (b := 6) (by omega) (by omega)).mp q)), show (19 : Int32) + nI (h 1 0) = nI (19 + h 1 0) from nI_add 19 _, show (31 : Int32) + nI (h 1 0) = nI (31 + h 1 0) from nI_add 31 _, show (43 : Int32) + nI (h 1 0) = nI (43 + h 1 0) from nI_add 43 _, show (55 : Int32) + nI (h 1 0) = nI (55 + h 1 0) from nI_add 55 _, h11, nI_1, nI_1, show nI i + (2 : Int32) = nI (i + 2) from nI_add _ 2, show nI i + (3 : Int32) = nI (i + 3) from nI_add _ 3, show nI i + (4 : Int32) = nI (i + 4) from nI_add _ 4]
      have F1 : FrM M (cset (cset M 11 0 (nI (i + 1))) 10 1 (nI (h 1 0 + 1))) := fun q hq => by rw [cset_ne _ _ _ _ _ (by omega), cset_ne _ _ _ _ _ (by omega)]
      have r1 : ∀ y, (cset (cset M 11 0 (nI (i + 1))) 10 1 (nI (h 1 0 + 1))) 10 y = if y = 1 then nI (h 1 0 + 1) else M 10 y := fun y => by rw [cset_at, cset_ne _ _ _ _ 10 (by omega)]
      have m1 : (cset (cset M 11 0 (nI (i + 1))) 10 1 (nI (h 1 0 + 1))) 11 0 = nI (i + 1) := rfl
      generalize cset (cset M 11 0 (nI (i + 1))) 10 1 (nI (h 1 0 + 1)) = M1 at F1 r1 m1 ⊢
      rcases fig_take (M := M1) (b := b) N (i := i + 1) (no := 48) (many := 5) (dst := 19 + h 1 0) hj hk (by omega) hs (by rw [F1 2 (by omega)]; exact s1) (fun x hx => by rw [F1 3 (by omega)]; exact s3 x hx) m1 (by omega) (by omega) (by omega) (by omega) with ⟨t, ht, p1, p2, p3⟩ | ⟨p2, p3⟩
      · have p2' : f_X2_figure b (nI j) (nI (i + 1)) 48 5 = some (nI t) := p2
        have p3' : f_X6_takes M1 N (nI j) (nI (19 + h 1 0)) 48 0 4 = _ := p3
        rw [p2', ob1_s, if_neg (n9 (by omega)), p3', ob2_s, if_neg (show ¬ (1 : Int32) = 0 by decide)]
        have F2 : FrM M (cset (cset M1 10 (19 + h 1 0) (nI t)) 11 0 (nI (i + 1 + 1))) := F1.trans (fun q hq => by rw [cset_ne _ _ _ _ _ (by omega), cset_ne _ _ _ _ _ (by omega)])
        have r2 : ∀ y, (cset (cset M1 10 (19 + h 1 0) (nI t)) 11 0 (nI (i + 1 + 1))) 10 y = if y = 19 + h 1 0 then nI t else M1 10 y := fun y => by rw [cset_ne _ _ _ _ 10 (by omega), cset_at]
        have m2 : (cset (cset M1 10 (19 + h 1 0) (nI t)) 11 0 (nI (i + 1 + 1))) 11 0 = nI (i + 2) := rfl
        generalize cset (cset M1 10 (19 + h 1 0) (nI t)) 11 0 (nI (i + 1 + 1)) = M2 at F2 r2 m2 ⊢
        rcases fig_take (M := M2) (b := b) N (i := i + 2) (no := 65) (many := 20) (dst := 31 + h 1 0) hj hk (by omega) hs (by rw [F2 2 (by omega)]; exact s1) (fun x hx => by rw [F2 3 (by omega)]; exact s3 x hx) m2 (by omega) (by omega) (by omega) (by omega) with ⟨d, hd, q1, q2, q3⟩ | ⟨q2, q3⟩
        · have q2' : f_X2_figure b (nI j) (nI (i + 2)) 65 20 = some (nI d) := q2
          have q3' : f_X6_takes M2 N (nI j) (nI (31 + h 1 0)) 65 0 19 = _ := q3
          rw [q2', ob1_s, if_neg (n9 (by omega)), q3', ob2_s, if_neg (show ¬ (1 : Int32) = 0 by decide)]
          have F3 : FrM M (cset (cset M2 10 (31 + h 1 0) (nI d)) 11 0 (nI (i + 2 + 1))) := F2.trans (fun q hq => by rw [cset_ne _ _ _ _ _ (by omega), cset_ne _ _ _ _ _ (by omega)])
          have r3 : ∀ y, (cset (cset M2 10 (31 + h 1 0) (nI d)) 11 0 (nI (i + 2 + 1))) 10 y = if y = 31 + h 1 0 then nI d else M2 10 y := fun y => by rw [cset_ne _ _ _ _ 10 (by omega), cset_at]
          have m3 : (cset (cset M2 10 (31 + h 1 0) (nI d)) 11 0 (nI (i + 2 + 1))) 11 0 = nI (i + 3) := rfl
          generalize cset (cset M2 10 (31 + h 1 0) (nI d)) 11 0 (nI (i + 2 + 1)) = M3 at F3 r3 m3 ⊢
          have z0 : M3 10 0 - (1 : Int32) = nI (h 0 0 - 1) := by
            rw [r3, if_neg (by omega), r2, if_neg (by omega), r1, if_neg (by omega), hm.1]
            exact pk_sub (b := 1) (by omega)
          rcases fig_take (M := M3) (b := b) N (i := i + 3) (no := 48) (many := h 0 0) (dst := 43 + h 1 0) hj hk (by omega) hs (by rw [F3 2 (by omega)]; exact s1) (fun x hx => by rw [F3 3 (by omega)]; exact s3 x hx) m3 (by omega) (by omega) (by omega) (by omega) with ⟨p, hp, u1, u2, u3⟩ | ⟨u2, u3⟩
          · have u2' : f_X2_figure b (nI j) (nI (i + 3)) 48 (nI (h 0 0)) = some (nI p) := u2
            have u3' : f_X6_takes M3 N (nI j) (nI (43 + h 1 0)) 48 0 (nI (h 0 0 - 1)) = _ := u3
            rw [u2', ob1_s, if_neg (n9 (by omega)), z0, u3', ob2_s, if_neg (show ¬ (1 : Int32) = 0 by decide)]
            have F4 : FrM M (cset (cset M3 10 (43 + h 1 0) (nI p)) 11 0 (nI (i + 3 + 1))) := F3.trans (fun q hq => by rw [cset_ne _ _ _ _ _ (by omega), cset_ne _ _ _ _ _ (by omega)])
            have r4 : ∀ y, (cset (cset M3 10 (43 + h 1 0) (nI p)) 11 0 (nI (i + 3 + 1))) 10 y = if y = 43 + h 1 0 then nI p else M3 10 y := fun y => by rw [cset_ne _ _ _ _ 10 (by omega), cset_at]
            have m4 : (cset (cset M3 10 (43 + h 1 0) (nI p)) 11 0 (nI (i + 3 + 1))) 11 0 = nI (i + 4) := rfl
            generalize cset (cset M3 10 (43 + h 1 0) (nI p)) 11 0 (nI (i + 3 + 1)) = M4 at F4 r4 m4 ⊢
            rcases fig_take1 (M := M4) (b := b) N (i := i + 4) (no := 48) (many := 10) (dst := 55 + h 1 0) hj hk (by omega) hs (by rw [F4 2 (by omega)]; exact s1) (fun x hx => by rw [F4 3 (by omega)]; exact s3 x hx) m4 (by omega) (by omega) (by omega) (by omega) with ⟨y, hy, hy0, w1, w2, w3⟩ | ⟨w2, w3⟩
            · have w2' : f_X2_figure b (nI j) (nI (i + 4)) 48 10 = some (nI y) := w2
              have w3' : f_X6_takes M4 N (nI j) (nI (55 + h 1 0)) 48 1 9 = _ := w3
              unfold f_X0_addError
              rw [w2', ob1_s, if_neg (n9 (by omega)), if_neg (nI_ne0 hy0 (by omega)), w3', ob2_s, if_neg (show ¬ (1 : Int32) = 0 by decide), hc.2.1, if_pos (show nI (h 1 0) < (12 : Int32) from nI_lt (b := 12) (by omega) (by omega)), ck_t _ (inb_nI (show h 1 0 < 12 by omega) (by omega)), ck_t _ (inb_nI (show h 1 0 < 12 by omega) (by omega)), ck_t _ (inb_nI (show h 1 0 < 12 by omega) (by omega)), ck_t _ (inb_nI (show h 1 0 < 12 by omega) (by omega)), nI_clamp (show h 1 0 < 2 ^ 31 by omega), nI_1, ob1_s]
              have rr : ∀ z, (cset (cset M4 10 (55 + h 1 0) (nI y)) 11 0 (nI (i + 4 + 1))) 10 z = if z = 55 + h 1 0 then nI y else if z = 43 + h 1 0 then nI p else if z = 31 + h 1 0 then nI d else if z = 19 + h 1 0 then nI t else if z = 1 then nI (h 1 0 + 1) else M 10 z := fun z => by
                rw [cset_ne _ _ _ _ 10 (by omega), cset_at, r4, r3, r2, r1]
              refine Or.inr ⟨hAddE h t d p y, _, _, rfl, rfl, rfl, by omega, F4.trans (fun q hq => by rw [cset_ne _ _ _ _ _ (by omega), cset_ne _ _ _ _ _ (by omega)]), hAddE_v D hE6 (by omega) (by omega) hp (by omega) (by omega), ?_, ?_, fun z hz12 => ?_⟩
              · obtain ⟨c0, c1, c2, c3, c4, c5, c6, c7⟩ := hc
                refine ⟨c0, rfl, c2, c3, c4, c5, fun x hx => ?_, c7⟩
                have hx' : x < h 1 0 + 1 := hx
                show (if x = h 1 0 then nI t else c 8 x) = nI (if x = h 1 0 then t else h 8 x) ∧ (if x = h 1 0 then nI d else c 9 x) = nI (if x = h 1 0 then d else h 9 x) ∧ (if x = h 1 0 then nI p else c 10 x) = nI (if x = h 1 0 then p else h 10 x) ∧ (if x = h 1 0 then nI y else c 11 x) = nI (if x = h 1 0 then y else h 11 x)
                by_cases e : x = h 1 0
                · simp only [if_pos e, and_self]
                · simp only [if_neg e]; exact c6 x (by omega)
              · obtain ⟨a0, a1, a2, a3, a4, a5, a6⟩ := hm
                have far : ∀ z, z ≠ 1 → z < 19 → (cset (cset M4 10 (55 + h 1 0) (nI y)) 11 0 (nI (i + 4 + 1))) 10 z = M 10 z := fun z z1 z2 => by
                  rw [rr, if_neg (by omega), if_neg (by omega), if_neg (by omega), if_neg (by omega), if_neg (by omega)]
                refine ⟨(far 0 (by omega) (by omega)).trans a0, ?_, (far 2 (by omega) (by omega)).trans a2, (far 3 (by omega) (by omega)).trans a3, fun q hq => ?_, fun x hx => ?_, fun x hx => ?_⟩
                · rw [rr, if_neg (by omega), if_neg (by omega), if_neg (by omega), if_neg (by omega), if_pos rfl]; rfl
                · have hq' : q < h 0 0 := hq
                  rw [far (4 + q) (by omega) (by omega), far (9 + q) (by omega) (by omega), far (14 + q) (by omega) (by omega)]
                  exact a4 q hq'
                · have hx' : x < h 1 0 + 1 := hx
                  have hz : mbit (hAddE h t d p y 2 0) x = 0 := by
                    rw [show hAddE h t d p y 2 0 = h 2 0 from rfl, D.2.1]
                    unfold mbit
                    rw [Nat.zero_testBit]; rfl
                  have r67 : (cset (cset M4 10 (55 + h 1 0) (nI y)) 11 0 (nI (i + 4 + 1))) 10 (67 + x) = nI 0 := by
                    rw [rr, if_neg (by omega), if_neg (by omega), if_neg (by omega), if_neg (by omega), if_neg (by omega), hm0 x (by omega)]; rfl
                  rw [hz, r67, rr (19 + x), rr (31 + x), rr (43 + x), rr (55 + x)]
                  show _ = nI (if x = h 1 0 then t else h 8 x) ∧ _ = nI (if x = h 1 0 then d else h 9 x) ∧ _ = nI (if x = h 1 0 then p else h 10 x) ∧ _ = nI (if x = h 1 0 then y else h 11 x) ∧ _
                  by_cases e : x = h 1 0
                  · rw [if_pos e, if_pos e, if_pos e, if_pos e]
                    refine ⟨?_, ?_, ?_, ?_, rfl⟩
                    · rw [if_neg (by omega), if_neg (by omega), if_neg (by omega), if_pos (by omega)]
                    · rw [if_neg (by omega), if_neg (by omega), if_pos (by omega)]
                    · rw [if_neg (by omega), if_pos (by omega)]
                    · rw [if_pos (by omega)]
                  · rw [if_neg e, if_neg e, if_neg e, if_neg e]
                    have := a5 x (by omega)
                    refine ⟨?_, ?_, ?_, ?_, rfl⟩
                    · rw [if_neg (by omega), if_neg (by omega), if_neg (by omega), if_neg (by omega), if_neg (by omega)]; exact this.1
                    · rw [if_neg (by omega), if_neg (by omega), if_neg (by omega), if_neg (by omega), if_neg (by omega)]; exact this.2.1
                    · rw [if_neg (by omega), if_neg (by omega), if_neg (by omega), if_neg (by omega), if_neg (by omega)]; exact this.2.2.1
                    · rw [if_neg (by omega), if_neg (by omega), if_neg (by omega), if_neg (by omega), if_neg (by omega)]; exact this.2.2.2.1
                · have hx' : x < h 4 0 := hx
                  have := D.2.2.2.1
                  omega
              · rw [rr, if_neg (by omega), if_neg (by omega), if_neg (by omega), if_neg (by omega), if_neg (by omega)]; exact hm0 z hz12
            · have w3' : f_X6_takes M4 N (nI j) (nI (55 + h 1 0)) 48 1 9 = _ := w3
              rcases w2 with w2 | w2
              · have w2' : f_X2_figure b (nI j) (nI (i + 4)) 48 10 = some (-9) := w2
                rw [w2', ob1_s, if_pos rfl, w3', ob2_s, if_pos rfl]
                exact Or.inl ⟨i + 4, c, M4, by omega, rfl, rfl, m4, F4⟩
              · have w2' : f_X2_figure b (nI j) (nI (i + 4)) 48 10 = some 0 := w2
                rw [w2', ob1_s, if_neg (show ¬ (0 : Int32) = -9 by decide), if_pos rfl, w3', ob2_s, if_pos rfl]
                exact Or.inl ⟨i + 4, c, M4, by omega, rfl, rfl, m4, F4⟩
          · have u2' : f_X2_figure b (nI j) (nI (i + 3)) 48 (nI (h 0 0)) = some (-9) := u2
            have u3' : f_X6_takes M3 N (nI j) (nI (43 + h 1 0)) 48 0 (nI (h 0 0 - 1)) = _ := u3
            rw [u2', ob1_s, if_pos rfl, z0, u3', ob2_s, if_pos rfl]
            exact Or.inl ⟨i + 3, c, M3, by omega, rfl, rfl, m3, F3⟩
        · have q2' : f_X2_figure b (nI j) (nI (i + 2)) 65 20 = some (-9) := q2
          have q3' : f_X6_takes M2 N (nI j) (nI (31 + h 1 0)) 65 0 19 = _ := q3
          rw [q2', ob1_s, if_pos rfl, q3', ob2_s, if_pos rfl]
          exact Or.inl ⟨i + 2, c, M2, by omega, rfl, rfl, m2, F2⟩
      · have p2' : f_X2_figure b (nI j) (nI (i + 1)) 48 5 = some (-9) := p2
        have p3' : f_X6_takes M1 N (nI j) (nI (19 + h 1 0)) 48 0 4 = _ := p3
        rw [p2', ob1_s, if_pos rfl, p3', ob2_s, if_pos rfl]
        exact Or.inl ⟨i + 1, c, M1, by omega, rfl, rfl, m1, F1⟩
