theorem kindOf2 (x : Int32) : f_X2_kindOf x = if (112 : Int32) = x then some 0 else if (100 : Int32) = x then some 1 else if (122 : Int32) = x then some 2 else if (108 : Int32) = x then some 3 else if (115 : Int32) = x then some 4 else if (102 : Int32) = x then some 5 else some (-9) := rfl
theorem kindOf_both (x : Int32) : (∃ kd, kd < 6 ∧ f_X2_kindOf x = some (nI kd) ∧ f_X6_kindOf x = some (nI kd)) ∨ (f_X2_kindOf x = some (-9) ∧ f_X6_kindOf x = some (-1)) := by
  rw [kindOf2]
  unfold f_X6_kindOf f_X6_kindOf_61
  by_cases h1 : x = 112
  · rw [if_pos h1.symm, if_pos h1]; exact Or.inl ⟨0, by omega, rfl, rfl⟩
  rw [if_neg (fun q => h1 q.symm), if_neg h1]
  by_cases h2 : x = 100
  · rw [if_pos h2.symm, if_pos h2]; exact Or.inl ⟨1, by omega, rfl, rfl⟩
  rw [if_neg (fun q => h2 q.symm), if_neg h2]
  by_cases h3 : x = 122
  · rw [if_pos h3.symm, if_pos h3]; exact Or.inl ⟨2, by omega, rfl, rfl⟩
  rw [if_neg (fun q => h3 q.symm), if_neg h3]
  by_cases h4 : x = 108
  · rw [if_pos h4.symm, if_pos h4]; exact Or.inl ⟨3, by omega, rfl, rfl⟩
  rw [if_neg (fun q => h4 q.symm), if_neg h4]
  by_cases h5 : x = 115
  · rw [if_pos h5.symm, if_pos h5]; exact Or.inl ⟨4, by omega, rfl, rfl⟩
  rw [if_neg (fun q => h5 q.symm), if_neg h5]
  by_cases h6 : x = 102
  · rw [if_pos h6.symm, if_pos h6]; exact Or.inl ⟨5, by omega, rfl, rfl⟩
  rw [if_neg (fun q => h6 q.symm), if_neg h6]
  exact Or.inr ⟨rfl, rfl⟩
/-- a draft: no turns yet, nothing mended -/
def Dr (h : Nat → Nat → Nat) : Prop := ChV h ∧ h 2 0 = 0 ∧ h 3 0 = 0 ∧ h 4 0 = 0 ∧ h 1 0 ≤ 6
def hAddP (h : Nat → Nat → Nat) (kd de st : Nat) : Nat → Nat → Nat := fun k i => if k = 0 then h 0 0 + 1 else if k = 5 then (if i = h 0 0 then kd else h 5 i) else if k = 6 then (if i = h 0 0 then de else h 6 i) else if k = 7 then (if i = h 0 0 then st else h 7 i) else h k i
theorem hAddP_v {h : Nat → Nat → Nat} (D : Dr h) {kd de st : Nat} (hP : h 0 0 < 5) (hk : kd ≤ 5) (hd : de ≤ 9) (hs : st ≤ 9) : Dr (hAddP h kd de st) := by
  obtain ⟨⟨v0, v1, v2, v3, v4, v5, v6, v7⟩, d2, d3, d4, d5⟩ := D
  refine ⟨⟨hP, v1, v2, v3, v4, fun p hp => ?_, fun i hi => ?_, v7⟩, d2, d3, d4, d5⟩
  · have hp' : p < h 0 0 + 1 := hp
    show (if p = h 0 0 then kd else h 5 p) ≤ 5 ∧ (if p = h 0 0 then de else h 6 p) ≤ 9 ∧ (if p = h 0 0 then st else h 7 p) ≤ 9
    by_cases e : p = h 0 0
    · simp only [if_pos e]; omega
    · simp only [if_neg e]; exact v5 p (by omega)
  · have := v6 i hi
    exact ⟨this.1, this.2.1, Nat.lt_succ_of_lt this.2.2.1, this.2.2.2⟩
theorem readPerson_both {h : Nat → Nat → Nat} (D : Dr h) {c b M : CS} (N : JS) {j k i : Nat} (hc : ChC c h) (hm : ChM (M 10) h) (hj : j < 4) (hk : k ≤ 60) (hi : i < k) (hs : b 6 j = nI k) (s1 : M 2 j = nI k) (s3 : ∀ x, x < k → M 3 (60 * j + x) = b j x) (h11 : M 11 0 = nI i) :
    (∃ f c' M', f < 100 ∧ f_X2_readPerson c b (nI j) (nI i) = some (nI f, c') ∧ f_X6_takesPerson M N (nI j) = some (0, M') ∧ M' 11 0 = nI f ∧ FrM M M') ∨
    (∃ h' c' M', f_X2_readPerson c b (nI j) (nI i) = some (-9, c') ∧ f_X6_takesPerson M N (nI j) = some (1, M') ∧ M' 11 0 = nI (i + 3) ∧ i + 3 ≤ k ∧ FrM M M' ∧ Dr h' ∧ ChC c' h' ∧ ChM (M' 10) h' ∧ ∀ y, M' 10 (67 + y) = M 10 (67 + y)) := by
  have v0 : h 0 0 ≤ 5 := D.1.1
  have v1 : h 1 0 ≤ 12 := D.1.2.1
  have hsz : (b 6 j).toInt = (k : Nat) := by rw [hs, nI_toInt (by omega)]
  unfold f_X2_readPerson f_X6_takesPerson f_X2_readPerson_39 f_X6_takesPerson_34 f_X6_takesPerson_103 f_X6_takesPerson_104
  rw [get_t b hj (by omega) (by omega), ob1_s, byteAt6 N hj hk (by omega) s1 s3 h11, ob1_s, if_neg (show ¬ k ≤ i by omega)]
  rcases kindOf_both (b j i) with ⟨kd, hkd, e1, e2⟩ | ⟨e1, e2⟩
  · rw [e1, e2, ob1_s, ob1_s, if_neg (show ¬ nI kd = -9 from fun q => by rw [i32_eq, nI_toInt (by omega), m9] at q; omega), if_neg (nI_pos (by omega)), hc.1, hc.2.1, hm.1, hm.2.1]
    by_cases hE : 0 < h 1 0
    · rw [if_pos (show (0 : Int32) < nI (h 1 0) from nI_lt (a := 0) hE (by omega)), if_neg (nI_nle hE (by omega)), ite_self]
      exact Or.inl ⟨i, c, M, by omega, rfl, rfl, h11, FrM.rfl' M⟩
    · have hE0 : h 1 0 = 0 := by omega
      rw [hE0, if_neg (show ¬ (0 : Int32) < nI 0 by decide), if_pos (show nI 0 ≤ 0 by decide)]
      by_cases hP : h 0 0 = 5
      · rw [hP, if_neg (show ¬ nI 5 < (5 : Int32) by decide), if_pos (show nI 5 = (5 : Int32) from rfl)]
        exact Or.inl ⟨i, c, M, by omega, rfl, rfl, h11, FrM.rfl' M⟩
      · have hP' : h 0 0 < 5 := by omega
        rw [if_pos (show nI (h 0 0) < (5 : Int32) from nI_lt (b := 5) hP' (by omega)), if_neg (show ¬ nI (h 0 0) = (5 : Int32) from fun q => hP ((nI_eq (b := 5) (by omega) (by omega)).mp q)), show (4 : Int32) + nI (h 0 0) = nI (4 + h 0 0) from nI_add 4 _, show (9 : Int32) + nI (h 0 0) = nI (9 + h 0 0) from nI_add 9 _, show (14 : Int32) + nI (h 0 0) = nI (14 + h 0 0) from nI_add 14 _, ck_t _ (inb_nI (show 4 + h 0 0 < 119 by omega) (by omega)), nI_clamp (show 4 + h 0 0 < 2 ^ 31 by omega), h11, nI_1, show nI i + (2 : Int32) = nI (i + 2) from nI_add _ 2]
        have ea : (cset (cset M 11 0 (nI (i + 1))) 10 (4 + h 0 0) (nI kd)) 10 0 = nI (h 0 0) := by rw [cset_at, if_neg (by omega), cset_ne _ _ _ _ 10 (by omega)]; exact hm.1
        rw [ea, nI_1]
        have F1 : FrM M (cset (cset (cset M 11 0 (nI (i + 1))) 10 (4 + h 0 0) (nI kd)) 10 0 (nI (h 0 0 + 1))) := fun q hq => by rw [cset_ne _ _ _ _ _ (by omega), cset_ne _ _ _ _ _ (by omega), cset_ne _ _ _ _ _ (by omega)]
        have t1 := takes6 (M := cset (cset (cset M 11 0 (nI (i + 1))) 10 (4 + h 0 0) (nI kd)) 10 0 (nI (h 0 0 + 1))) N (b := b) (i := i + 1) (no := 48) (lo := 0) (hi' := 9) (dst := 9 + h 0 0) hj hk (by omega) (by rw [F1 2 (by omega)]; exact s1) (fun x hx => by rw [F1 3 (by omega)]; exact s3 x hx) (by rw [cset_ne _ _ _ _ 11 (by omega), cset_ne _ _ _ _ 11 (by omega)]; rfl) (by omega) (by omega) (by omega) (by omega)
        generalize hM1 : cset (cset (cset M 11 0 (nI (i + 1))) 10 (4 + h 0 0) (nI kd)) 10 0 (nI (h 0 0 + 1)) = M1 at F1 t1 ⊢
        have m1a : M1 11 0 = nI (i + 1) := by rw [← hM1, cset_ne _ _ _ _ 11 (by omega), cset_ne _ _ _ _ 11 (by omega)]; rfl
        have t1' : f_X6_takes M1 N (nI j) (nI (9 + h 0 0)) 48 0 9 = _ := t1
        have f1 := fig_both (b := b) (j := j) (k := k) (i := i + 1) (no := 48) (many := 10) (lo := 0) hj hk (by omega) hs (by omega) (by omega) (by omega)
        rcases f1 with ⟨v1, hv1, q1, q2, q3⟩ | ⟨q2, q3⟩
        · have q2' : f_X2_figure b (nI j) (nI (i + 1)) 48 10 = some (nI v1) := q2
          rw [q3, nI_toInt (by omega), if_pos (show i + 1 < k ∧ ((0 : Nat) : Int) ≤ (v1 : Nat) ∧ ((v1 : Nat) : Int) ≤ (9 : Nat) by omega)] at t1'
          have F2 : FrM M (cset (cset M1 10 (9 + h 0 0) (nI v1)) 11 0 (nI (i + 1 + 1))) := F1.trans (fun q hq => by rw [cset_ne _ _ _ _ _ (by omega), cset_ne _ _ _ _ _ (by omega)])
          have t2 := takes6 (M := cset (cset M1 10 (9 + h 0 0) (nI v1)) 11 0 (nI (i + 1 + 1))) N (b := b) (i := i + 2) (no := 48) (lo := 0) (hi' := 9) (dst := 14 + h 0 0) hj hk (by omega) (by rw [F2 2 (by omega)]; exact s1) (fun x hx => by rw [F2 3 (by omega)]; exact s3 x hx) rfl (by omega) (by omega) (by omega) (by omega)
          have t2' : f_X6_takes (cset (cset M1 10 (9 + h 0 0) (nI v1)) 11 0 (nI (i + 1 + 1))) N (nI j) (nI (14 + h 0 0)) 48 0 9 = _ := t2
          rw [q2', ob1_s, if_neg (show ¬ nI v1 = -9 from fun q => by rw [i32_eq, nI_toInt (by omega), m9] at q; omega), t1', ob2_s, if_neg (show ¬ (1 : Int32) = 0 by decide)]
          have f2 := fig_both (b := b) (j := j) (k := k) (i := i + 2) (no := 48) (many := 10) (lo := 0) hj hk (by omega) hs (by omega) (by omega) (by omega)
          rcases f2 with ⟨v2, hv2, p1, p2, p3⟩ | ⟨p2, p3⟩
          · have p2' : f_X2_figure b (nI j) (nI (i + 2)) 48 10 = some (nI v2) := p2
            rw [p3, nI_toInt (by omega), if_pos (show i + 2 < k ∧ ((0 : Nat) : Int) ≤ (v2 : Nat) ∧ ((v2 : Nat) : Int) ≤ (9 : Nat) by omega)] at t2'
            unfold f_X0_addPerson
            rw [p2', ob1_s, if_neg (show ¬ nI v2 = -9 from fun q => by rw [i32_eq, nI_toInt (by omega), m9] at q; omega), hc.1, if_pos (show nI (h 0 0) < (5 : Int32) from nI_lt (b := 5) hP' (by omega)), ck_t _ (inb_nI hP' (by omega)), ck_t _ (inb_nI hP' (by omega)), ck_t _ (inb_nI hP' (by omega)), nI_clamp (by omega), nI_1, ob1_s, t2', ob2_s, if_neg (show ¬ (1 : Int32) = 0 by decide)]
            refine Or.inr ⟨hAddP h kd v1 v2, _, _, rfl, rfl, rfl, by omega, F2.trans (fun q hq => by rw [cset_ne _ _ _ _ _ (by omega), cset_ne _ _ _ _ _ (by omega)]), hAddP_v D hP' (by omega) (by omega) (by omega), ?_, ?_, fun y => by
              rw [cset_ne _ _ _ _ 10 (by omega), cset_at, cset_ne _ _ _ _ 10 (by omega), cset_at, ← hM1, cset_at, cset_at, cset_ne _ _ _ _ 10 (by omega), if_neg (by omega), if_neg (by omega), if_neg (by omega), if_neg (by omega)]⟩
            · obtain ⟨c0, c1, c2, c3, c4, c5, c6, c7⟩ := hc
              refine ⟨rfl, c1, c2, c3, c4, fun p hp => ?_, c6, c7⟩
              have hp' : p < h 0 0 + 1 := hp
              show (if p = h 0 0 then nI kd else c 5 p) = nI (if p = h 0 0 then kd else h 5 p) ∧ (if p = h 0 0 then nI v1 else c 6 p) = nI (if p = h 0 0 then v1 else h 6 p) ∧ (if p = h 0 0 then nI v2 else c 7 p) = nI (if p = h 0 0 then v2 else h 7 p)
              by_cases e : p = h 0 0
              · simp only [if_pos e, and_self]
              · simp only [if_neg e]; exact c5 p (by omega)
            · obtain ⟨a0, a1, a2, a3, a4, a5, a6⟩ := hm
              have rr : ∀ y, (cset (cset (cset (cset M1 10 (9 + h 0 0) (nI v1)) 11 0 (nI (i + 1 + 1))) 10 (14 + h 0 0) (nI v2)) 11 0 (nI (i + 2 + 1))) 10 y = if y = 14 + h 0 0 then nI v2 else if y = 9 + h 0 0 then nI v1 else if y = 0 then nI (h 0 0 + 1) else if y = 4 + h 0 0 then nI kd else M 10 y := fun y => by
                rw [cset_ne _ _ _ _ 10 (by omega), cset_at, cset_ne _ _ _ _ 10 (by omega), cset_at, ← hM1, cset_at, cset_at, cset_ne _ _ _ _ 10 (by omega)]
              refine ⟨?_, ?_, ?_, ?_, fun p hp => ?_, fun x hx => ?_, fun x hx => ?_⟩
              · rw [rr, if_neg (by omega), if_neg (by omega), if_pos rfl]; rfl
              · rw [rr, if_neg (by omega), if_neg (by omega), if_neg (by omega), if_neg (by omega)]; exact a1
              · rw [rr, if_neg (by omega), if_neg (by omega), if_neg (by omega), if_neg (by omega)]; exact a2
              · rw [rr, if_neg (by omega), if_neg (by omega), if_neg (by omega), if_neg (by omega)]; exact a3
              · have hp' : p < h 0 0 + 1 := hp
                rw [rr (4 + p), rr (9 + p), rr (14 + p)]
                show _ = nI (if p = h 0 0 then kd else h 5 p) ∧ _ = nI (if p = h 0 0 then v1 else h 6 p) ∧ _ = nI (if p = h 0 0 then v2 else h 7 p)
                by_cases e : p = h 0 0
                · rw [if_pos e, if_pos e, if_pos e]
                  refine ⟨?_, ?_, ?_⟩
                  · rw [if_neg (by omega), if_neg (by omega), if_neg (by omega), if_pos (by omega)]
                  · rw [if_neg (by omega), if_pos (by omega)]
                  · rw [if_pos (by omega)]
                · rw [if_neg e, if_neg e, if_neg e]
                  have := a4 p (by omega)
                  refine ⟨?_, ?_, ?_⟩
                  · rw [if_neg (by omega), if_neg (by omega), if_neg (by omega), if_neg (by omega)]; exact this.1
                  · rw [if_neg (by omega), if_neg (by omega), if_neg (by omega), if_neg (by omega)]; exact this.2.1
                  · rw [if_neg (by omega), if_neg (by omega), if_neg (by omega), if_neg (by omega)]; exact this.2.2
              · have hx' : x < h 1 0 := hx
                omega
              · have hx' : x < h 4 0 := hx
                have := D.2.2.2.1
                omega
          · have p2' : f_X2_figure b (nI j) (nI (i + 2)) 48 10 = some (-9) := p2
            rw [if_neg (fun z => p3 ⟨z.1, z.2.1, by have := z.2.2; omega⟩)] at t2'
            rw [p2', ob1_s, if_pos rfl, t2', ob2_s, if_pos rfl]
            exact Or.inl ⟨i + 2, c, _, by omega, rfl, rfl, rfl, F2⟩
        · have q2' : f_X2_figure b (nI j) (nI (i + 1)) 48 10 = some (-9) := q2
          rw [if_neg (fun z => q3 ⟨z.1, z.2.1, by have := z.2.2; omega⟩)] at t1'
          rw [q2', ob1_s, if_pos rfl, t1', ob2_s, if_pos rfl]
          exact Or.inl ⟨i + 1, c, M1, by omega, rfl, rfl, m1a, F1⟩
  · rw [e1, e2, ob1_s, ob1_s, if_pos rfl, if_pos (show (-1 : Int32) < 0 by decide)]
    exact Or.inl ⟨i, c, M, by omega, rfl, rfl, h11, FrM.rfl' M⟩
