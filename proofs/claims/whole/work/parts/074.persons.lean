/-! stride -/
def hStr (h : Nat → Nat → Nat) (p v : Nat) : Nat → Nat → Nat := fun k i => if k = 7 then (if i = p then v else h 7 i) else h k i
theorem o_stride : Op_stride := by
  intro I J M N y1 y2 R
  obtain ⟨h, hv, hc, ha⟩ := R.2.2.2.1
  have v0 : h 0 0 ≤ 5 := hv.1
  have v4 : h 4 0 ≤ 40 := hv.2.2.2.2.1
  have e0 : (0 : Int32).toInt = 0 := by decide
  have e10 : (10 : Int32).toInt = 10 := by decide
  unfold f_X5_stride f_X6_stride f_X5_stride_21 f_X6_stride_15
  rw [p_isPerson0 hv hc, p_isPerson6 hv ha, ob1_s, ob1_s, if_bI, if_bI, p_isDeed6, ob1_s, if_bI, hc.2.2.2.2.1, ha.2.2.2.1]
  by_cases h1 : 0 ≤ y1.toInt ∧ y1.toInt < (h 0 0 : Nat)
  · rw [if_pos h1, if_pos h1]
    obtain ⟨p, hp, rfl⟩ := ix_of h1.1 h1.2 (by omega)
    by_cases h2 : 0 ≤ y2.toInt ∧ y2.toInt < 10
    · obtain ⟨v, hvv, rfl⟩ := ix_of (x := y2) (n := 10) h2.1 h2.2 (by omega)
      rw [if_pos h2, if_neg (nI_pos (by omega)), if_pos (show nI v < (10 : Int32) from nI_lt (b := 10) hvv (by omega))]
      by_cases hT : h 4 0 = 0
      · rw [if_pos (show nI (h 4 0) ≤ 0 by rw [hT]; decide), if_pos (show nI (h 4 0) ≤ 0 by rw [hT]; decide), ck_t _ (inb_nI (show p < 5 by omega) (by omega)), ck_t _ (inb_nI (show p < 5 by omega) (by omega)), show (14 : Int32) = nI 14 from rfl, nI_add, ck_t _ (inb_nI (show 14 + p < 119 by omega) (by omega)), ck_t _ (inb_nI (show 14 + p < 119 by omega) (by omega)), nI_clamp (by omega), nI_clamp (by omega)]
        obtain ⟨w0, w1, w2, w3, w4, w5, w6, w7⟩ := hv
        obtain ⟨c0, c1, c2, c3, c4, c5, c6, c7⟩ := hc
        obtain ⟨a0, a1, a2, a3, a4, a5, a6⟩ := ha
        have far : ∀ j, j ≠ 14 + p → (cset M 4 (14 + p) (nI v)) 4 j = M 4 j := fun j hj => by rw [cset_at, if_neg hj]
        refine ⟨_, _, _, rfl, by rw [(c5 p hp).2.2, (a4 p hp).2.2], R.chain (fun q h1 _ => gset_ne _ _ _ _ (by omega)) (fun q _ hq => cset_ne _ _ _ _ _ hq) ⟨hStr h p v, ⟨w0, w1, w2, w3, w4, fun q hq => ?_, w6, w7⟩, ⟨c0, c1, c2, c3, c4, fun q hq => ?_, c6, c7⟩, ⟨?_, ?_, ?_, ?_, fun q hq => ?_, fun i hi => ?_, fun k hk => ?_⟩⟩⟩
        · have hq' : q < h 0 0 := hq
          show h 5 q ≤ 5 ∧ h 6 q ≤ 9 ∧ (if q = p then v else h 7 q) ≤ 9
          refine ⟨(w5 q hq').1, (w5 q hq').2.1, ?_⟩
          have := (w5 q hq').2.2
          split <;> omega
        · have hq' : q < h 0 0 := hq
          show I 0 5 q = nI (h 5 q) ∧ I 0 6 q = nI (h 6 q) ∧ (if q = p then nI v else I 0 7 q) = nI (if q = p then v else h 7 q)
          refine ⟨(c5 q hq').1, (c5 q hq').2.1, ?_⟩
          by_cases e : q = p
          · rw [if_pos e, if_pos e]
          · rw [if_neg e, if_neg e]; exact (c5 q hq').2.2
        · rw [far 0 (by omega)]; exact a0
        · rw [far 1 (by omega)]; exact a1
        · rw [far 2 (by omega)]; exact a2
        · rw [far 3 (by omega)]; exact a3
        · have hq' : q < h 0 0 := hq
          rw [far (4 + q) (by omega), far (9 + q) (by omega)]
          refine ⟨(a4 q hq').1, (a4 q hq').2.1, ?_⟩
          rw [cset_at]
          show _ = nI (if q = p then v else h 7 q)
          by_cases e : q = p
          · rw [if_pos (by omega), if_pos e]
          · rw [if_neg (by omega), if_neg e]; exact (a4 q hq').2.2
        · have hi' : i < h 1 0 := hi
          rw [far (19 + i) (by omega), far (31 + i) (by omega), far (43 + i) (by omega), far (55 + i) (by omega), far (67 + i) (by omega)]
          exact a5 i hi'
        · have hk' : k < h 4 0 := hk
          rw [far (79 + k) (by omega)]
          exact a6 k hk'
      · rw [if_neg (nI_nle (by omega) (by omega)), if_neg (nI_nle (by omega) (by omega))]; exact ⟨_, _, _, rfl, rfl, R⟩
    · rw [if_neg h2]
      by_cases q1 : y2 < 0
      · rw [if_pos q1]; exact ⟨_, _, _, rfl, rfl, R⟩
      · rw [if_neg q1, if_neg (fun q : y2 < 10 => h2 (by rw [i32_lt, e0] at q1; rw [i32_lt, e10] at q; omega))]; exact ⟨_, _, _, rfl, rfl, R⟩
  · rw [if_neg h1, if_neg h1]; exact ⟨_, _, _, rfl, rfl, R⟩
/-! person -/
def ptr (h : Nat → Nat → Nat) (p w : Nat) : Int32 := if w = 0 then nI (h 5 p) else if w = 1 then nI (h 6 p) else if w = 2 then nI (h 7 p) else if w = 3 then dnI h p (lv h) 0 (h 3 0) else dnI h p (lv h) 4 (h 3 0)
theorem personTrait0 {c : CS} {h : Nat → Nat → Nat} (hv : ChV h) (hc : ChC c h) {p w : Nat} (hp : p < h 0 0) (hw : w < 5) :
    ∃ c', f_X0_personTrait c (nI p) (nI w) = some (ptr h p w, c') ∧ ∀ q, q ≠ 13 → c' q = c q := by
  have v0 : h 0 0 ≤ 5 := hv.1
  have v3 : h 3 0 ≤ 19 := hv.2.2.2.1
  obtain ⟨b5, b6, b7⟩ := hc.2.2.2.2.2.1 p hp
  obtain ⟨c1, e1, g1⟩ := done0 hv hc (show 0 < 5 by omega) (show h 3 0 < 20 by omega) hp
  obtain ⟨c2, e2, g2⟩ := done0 hv hc (show 4 < 5 by omega) (show h 3 0 < 20 by omega) hp
  have e1' : f_X0_done c 0 (nI (h 3 0)) (nI p) = _ := e1
  have e2' : f_X0_done c 4 (nI (h 3 0)) (nI p) = _ := e2
  unfold f_X0_personTrait ptr
  rw [p_isPerson0 hv hc, ob1_s, if_bI, nI_toInt (by omega), if_pos (by omega), hc.2.2.2.1, e1', e2', ob2_s, ob2_s, ck_t _ (inb_nI (show p < 5 by omega) (by omega)), ck_t _ (inb_nI (show p < 5 by omega) (by omega)), ck_t _ (inb_nI (show p < 5 by omega) (by omega)), nI_clamp (by omega), b5, b6, b7]
  rcases (show w = 0 ∨ w = 1 ∨ w = 2 ∨ w = 3 ∨ w = 4 by omega) with rfl | rfl | rfl | rfl | rfl
  · exact ⟨c, rfl, fun _ _ => rfl⟩
  · exact ⟨c, rfl, fun _ _ => rfl⟩
  · exact ⟨c, rfl, fun _ _ => rfl⟩
  · exact ⟨c1, rfl, g1⟩
  · exact ⟨c2, rfl, g2⟩
theorem told6 {M : CS} {h : Nat → Nat → Nat} (N : JS) (hv : ChV h) (ha : ChM (M 4) h) {p w : Nat} (hp : p < h 0 0) (hw : w < 5) :
    ∃ M', f_X6_told M N (nI p) (nI w) = some (ptr h p w, M') ∧ FrM M M' := by
  have v0 : h 0 0 ≤ 5 := hv.1
  have v3 : h 3 0 ≤ 19 := hv.2.2.2.1
  obtain ⟨b5, b6, b7⟩ := ha.2.2.2.2.1 p hp
  obtain ⟨M1, e1, g1⟩ := doing6 N hv ha hp (show 0 < 5 by omega) (show h 3 0 < 20 by omega)
  obtain ⟨M2, e2, g2⟩ := doing6 N hv ha hp (show 4 < 5 by omega) (show h 3 0 < 20 by omega)
  have e1' : f_X6_doing M N (nI p) 0 (nI (h 3 0)) = _ := e1
  have e2' : f_X6_doing M N (nI p) 4 (nI (h 3 0)) = _ := e2
  unfold f_X6_told f_X6_told_32 f_X6_told_41 ptr
  rw [ha.2.2.1, e1', e2', ob2_s, ob2_s, show ((4 : Int32) + (5 : Int32) * nI w) + nI p = nI (4 + 5 * w + p) by rw [show (5 : Int32) = nI 5 from rfl, show (4 : Int32) = nI 4 from rfl, pk_mul, nI_add, nI_add], nI_clamp (by omega)]
  rcases (show w = 0 ∨ w = 1 ∨ w = 2 ∨ w = 3 ∨ w = 4 by omega) with rfl | rfl | rfl | rfl | rfl
  · rw [if_neg (by decide), ck_t _ (inb_nI (show 4 + 5 * 0 + p < 119 by omega) (by omega)), show 4 + 5 * 0 + p = 4 + p by omega, b5]
    exact ⟨M, rfl, FrM.rfl' M⟩
  · rw [if_neg (by decide), ck_t _ (inb_nI (show 4 + 5 * 1 + p < 119 by omega) (by omega)), show 4 + 5 * 1 + p = 9 + p by omega, b6]
    exact ⟨M, rfl, FrM.rfl' M⟩
  · rw [if_neg (by decide), ck_t _ (inb_nI (show 4 + 5 * 2 + p < 119 by omega) (by omega)), show 4 + 5 * 2 + p = 14 + p by omega, b7]
    exact ⟨M, rfl, FrM.rfl' M⟩
  · rw [if_pos (by decide), if_pos (by decide)]
    exact ⟨M1, rfl, FrM.lay g1⟩
  · rw [if_pos (by decide), if_neg (by decide)]
    exact ⟨M2, rfl, FrM.lay g2⟩
theorem o_person : Op_person := by
  intro I J M N y1 y2 R
  obtain ⟨h, hv, hc, ha⟩ := R.2.2.2.1
  have v0 : h 0 0 ≤ 5 := hv.1
  have e0 : (0 : Int32).toInt = 0 := by decide
  have e5 : (5 : Int32).toInt = 5 := by decide
  unfold f_X5_person f_X6_person f_X5_person_20 f_X6_person_33 f_X6_person_34 f_X6_tell
  rw [p_isPerson0 hv hc, p_isPerson6 hv ha, ob1_s, ob1_s, if_bI, if_bI, p_in6i, ob1_s, if_bI, show (0 : Int64).toInt = 0 by decide, show (4 : Int64).toInt = 4 by decide]
  by_cases h1 : 0 ≤ y1.toInt ∧ y1.toInt < (h 0 0 : Nat)
  · rw [if_pos h1, if_pos h1]
    obtain ⟨p, hp, rfl⟩ := ix_of h1.1 h1.2 (by omega)
    by_cases h2 : 0 ≤ y2.toInt ∧ y2.toInt ≤ 4
    · obtain ⟨w, hw, rfl⟩ := ix_of (x := y2) (n := 5) h2.1 (by omega) (by omega)
      obtain ⟨c', e, g⟩ := personTrait0 hv hc hp hw
      obtain ⟨M', e', g'⟩ := told6 N hv ha hp hw
      rw [if_pos h2, if_neg (nI_pos (by omega)), if_pos (show nI w < (5 : Int32) from nI_lt (b := 5) hw (by omega)), e, e', ob2_s, ob2_s, ob2_s]
      exact ⟨_, _, _, rfl, rfl, (R.fr (FrI.c g) g' (J' := J) rfl).ask _⟩
    · rw [if_neg h2]
      by_cases q1 : y2 < 0
      · rw [if_pos q1]; exact ⟨_, _, _, rfl, rfl, R⟩
      · rw [if_neg q1, if_neg (fun q : y2 < 5 => h2 (by rw [i32_lt, e0] at q1; rw [i32_lt, e5] at q; omega))]; exact ⟨_, _, _, rfl, rfl, R⟩
  · rw [if_neg h1, if_neg h1]; exact ⟨_, _, _, rfl, rfl, R⟩
/-! error -/
def etr (h : Nat → Nat → Nat) (i w : Nat) : Int32 := if w = 0 then nI (h 8 i) else if w = 1 then nI (h 9 i) else if w = 2 then nI (h 10 i) else if w = 3 then nI (h 11 i) else nI (mbit (h 2 0) i)
theorem errorTrait0 {c : CS} {h : Nat → Nat → Nat} (hv : ChV h) (hc : ChC c h) {i w : Nat} (hi : i < h 1 0) (hw : w < 5) : f_X0_errorTrait c (nI i) (nI w) = some (etr h i w) := by
  have v1 : h 1 0 ≤ 12 := hv.2.1
  obtain ⟨b1, b2, b3, b4⟩ := hc.2.2.2.2.2.2.1 i hi
  unfold f_X0_errorTrait f_X0_errorTrait_85 etr
  rw [p_isError0 hv hc, ob1_s, if_bI, nI_toInt (by omega), if_pos (by omega), isMended0 hv hc (by omega), ob1_s, ck_t _ (inb_nI (show i < 12 by omega) (by omega)), ck_t _ (inb_nI (show i < 12 by omega) (by omega)), ck_t _ (inb_nI (show i < 12 by omega) (by omega)), ck_t _ (inb_nI (show i < 12 by omega) (by omega)), nI_clamp (by omega), b1, b2, b3, b4]
  rcases (show w = 0 ∨ w = 1 ∨ w = 2 ∨ w = 3 ∨ w = 4 by omega) with rfl | rfl | rfl | rfl | rfl
  · rfl
  · rfl
  · rfl
  · rfl
  · show (if nI (mbit (h 2 0) i) = 0 then some (0 : Int32) else some 1) = some (nI (mbit (h 2 0) i))
    unfold mbit
    split
    · rfl
    · rfl
theorem error6 {M : CS} {h : Nat → Nat → Nat} (hv : ChV h) (ha : ChM (M 4) h) {i w : Nat} (hi : i < h 1 0) (hw : w < 5) : M 4 (19 + 12 * w + i) = etr h i w := by
  obtain ⟨b1, b2, b3, b4, b5⟩ := ha.2.2.2.2.2.1 i hi
  unfold etr
  rcases (show w = 0 ∨ w = 1 ∨ w = 2 ∨ w = 3 ∨ w = 4 by omega) with rfl | rfl | rfl | rfl | rfl
  · exact b1
  · exact b2
  · exact b3
  · exact b4
  · exact b5
theorem ix_err (w i : Nat) : ((19 : Int32) + (12 : Int32) * nI w) + nI i = nI (19 + 12 * w + i) := by
  rw [show (12 : Int32) = nI 12 from rfl, show (19 : Int32) = nI 19 from rfl, pk_mul, nI_add, nI_add]
theorem o_error : Op_error := by
  intro I J M N y1 y2 R
  obtain ⟨h, hv, hc, ha⟩ := R.2.2.2.1
  have v1 : h 1 0 ≤ 12 := hv.2.1
  have e0 : (0 : Int32).toInt = 0 := by decide
  have e5 : (5 : Int32).toInt = 5 := by decide
  unfold f_X5_error f_X6_error f_X5_error_20 f_X6_error_41 f_X6_error_42 f_X6_tell
  rw [p_isError0 hv hc, p_isError6 hv ha, ob1_s, ob1_s, if_bI, if_bI, p_in6i, ob1_s, if_bI, show (0 : Int64).toInt = 0 by decide, show (4 : Int64).toInt = 4 by decide]
  by_cases h1 : 0 ≤ y1.toInt ∧ y1.toInt < (h 1 0 : Nat)
  · rw [if_pos h1, if_pos h1]
    obtain ⟨p, hp, rfl⟩ := ix_of h1.1 h1.2 (by omega)
    by_cases h2 : 0 ≤ y2.toInt ∧ y2.toInt ≤ 4
    · obtain ⟨w, hw, rfl⟩ := ix_of (x := y2) (n := 5) h2.1 (by omega) (by omega)
      rw [if_pos h2, if_neg (nI_pos (by omega)), if_pos (show nI w < (5 : Int32) from nI_lt (b := 5) hw (by omega)), errorTrait0 hv hc hp hw, ob1_s, ix_err, ck_t _ (inb_nI (show 19 + 12 * w + p < 119 by omega) (by omega)), nI_clamp (by omega), error6 hv ha hp hw, ob2_s]
      exact ⟨_, _, _, rfl, rfl, R.ask _⟩
    · rw [if_neg h2]
      by_cases q1 : y2 < 0
      · rw [if_pos q1]; exact ⟨_, _, _, rfl, rfl, R⟩
      · rw [if_neg q1, if_neg (fun q : y2 < 5 => h2 (by rw [i32_lt, e0] at q1; rw [i32_lt, e5] at q; omega))]; exact ⟨_, _, _, rfl, rfl, R⟩
  · rw [if_neg h1, if_neg h1]; exact ⟨_, _, _, rfl, rfl, R⟩
