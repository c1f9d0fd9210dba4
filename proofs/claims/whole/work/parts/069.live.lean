/-! ===== which errors live; views of both states ===== -/
theorem bv_nI (a : Nat) : (nI a).toBitVec = BitVec.ofNat 32 a := rfl
theorem nI_and (a b : Nat) : nI a &&& nI b = nI (a &&& b) := by
  rw [← Int32.toBitVec_inj, Int32.toBitVec_and, bv_nI, bv_nI, bv_nI, BitVec.ofNat_and]
theorem nI_or (a b : Nat) : nI a ||| nI b = nI (a ||| b) := by
  rw [← Int32.toBitVec_inj, Int32.toBitVec_or, bv_nI, bv_nI, bv_nI, BitVec.ofNat_or]
theorem nI_xor (a b : Nat) : nI a ^^^ nI b = nI (a ^^^ b) := by
  rw [← Int32.toBitVec_inj, Int32.toBitVec_xor, bv_nI, bv_nI, bv_nI, BitVec.ofNat_xor]
theorem bv_andn (x y : BitVec 32) : x &&& (y ^^^ BitVec.allOnes 32) = x &&& (x ^^^ y) := by
  refine BitVec.eq_of_getLsbD_eq fun i hi => ?_
  rw [BitVec.getLsbD_and, BitVec.getLsbD_and, BitVec.getLsbD_xor, BitVec.getLsbD_xor, BitVec.getLsbD_allOnes, decide_eq_true hi]
  cases x.getLsbD i <;> cases y.getLsbD i <;> rfl
/-- the one without the other -/
def adf (a b : Nat) : Nat := a &&& (a ^^^ b)
theorem adf_bit (a b i : Nat) : (adf a b).testBit i = (a.testBit i && !b.testBit i) := by
  unfold adf
  rw [Nat.testBit_and, Nat.testBit_xor]
  cases a.testBit i <;> cases b.testBit i <;> rfl
theorem adf_le (a b : Nat) : adf a b ≤ a := Nat.and_le_left
theorem nI_andn (a b : Nat) : nI a &&& (nI b ^^^ (-1 : Int32)) = nI (adf a b) := by
  unfold adf
  rw [← nI_and, ← nI_xor, ← Int32.toBitVec_inj, Int32.toBitVec_and, Int32.toBitVec_and, Int32.toBitVec_xor, Int32.toBitVec_xor]
  exact bv_andn _ _
theorem one_shl {i : Nat} (hi : i < 31) : (1 : Int32) <<< (nI i &&& 31) = nI (2 ^ i) := by
  have : 2 ^ i < 2 ^ 31 := Nat.pow_lt_pow_right (by omega) hi
  rw [show (1 : Int32) = nI 1 from rfl, pk_shlN _ i (s_l i (by omega)) (by omega), Nat.one_mul]
/-- the errors that are not mended -/
def lv (h : Nat → Nat → Nat) : Nat := adf (2 ^ h 1 0 - 1) (h 2 0)
theorem lv_bit (h : Nat → Nat → Nat) (i : Nat) : (lv h).testBit i = (decide (i < h 1 0) && !(h 2 0).testBit i) := by
  unfold lv
  rw [adf_bit, Nat.testBit_two_pow_sub_one]
theorem pow12 {e : Nat} (h : e ≤ 12) : 2 ^ e ≤ 4096 := Nat.pow_le_pow_right (n := 2) (by omega) h
theorem lvh_lt {h : Nat → Nat → Nat} (hv : ChV h) : lv h < 4096 := by
  have h1 := pow12 hv.2.1
  have h2 : lv h ≤ 2 ^ h 1 0 - 1 := adf_le _ _
  have h3 : 0 < 2 ^ h 1 0 := Nat.pow_pos (by omega)
  omega
theorem lvh_lt' {h : Nat → Nat → Nat} (hv : ChV h) : lv h < 2 ^ 31 := Nat.lt_trans (lvh_lt hv) (by omega)
theorem unmended0 {c : CS} {h : Nat → Nat → Nat} (hv : ChV h) (hc : ChC c h) : f_X0_unmended c = some (nI (lv h)) := by
  have h1 : h 1 0 ≤ 12 := hv.2.1
  unfold f_X0_unmended
  rw [hc.2.1, hc.2.2.1, one_shl (by omega), show nI (2 ^ h 1 0) - (1 : Int32) = nI (2 ^ h 1 0 - 1) from pk_sub (b := 1) (Nat.pow_pos (by omega)), nI_andn]
  rfl
theorem live_4 {h : Nat → Nat → Nat} (hv : ChV h) {M : CS} (ha : ChM (M 4) h) (N : JS) :
    ∀ (n i a : Nat), i ≤ h 1 0 → h 1 0 - i < n → (∀ j, a.testBit j = (decide (j < i) && !(h 2 0).testBit j)) → f_X6_live_4 n (nI a) (nI i) M N = some (nI (lv h)) := by
  have h1 : h 1 0 ≤ 12 := hv.2.1
  intro n
  induction n with
  | zero => intro i a h1 h2; exact absurd h2 (by omega)
  | succ n ih =>
    intro i a h1 h2 hm
    rw [f_X6_live_4, ha.2.1]
    by_cases hi : h 1 0 ≤ i
    · have e : i = h 1 0 := by omega
      rw [if_pos (nI_le hi (by omega)), show a = lv h from Nat.eq_of_testBit_eq fun j => by rw [hm, lv_bit, e]]
    · have hi' : i < h 1 0 := Nat.not_le.mp hi
      rw [if_neg (nI_ge hi' (by omega)), show (67 : Int32) = nI 67 from rfl, nI_add, ck_t _ (inb_nI (show 67 + i < 119 by omega) (by omega)), nI_clamp (by omega), (ha.2.2.2.2.2.1 i hi').2.2.2.2]
      unfold mbit f_X6_live_34
      by_cases hb : (h 2 0).testBit i = true
      · rw [if_pos hb, if_neg (by decide), show (0 : Int32) = nI 0 from rfl, nI_or, nI_1, Nat.or_zero]
        refine ih (i + 1) a (by omega) (by omega) (fun j => ?_)
        rw [hm j]
        by_cases hj : j = i
        · subst hj; rw [hb]; simp
        · rw [show (decide (j < i + 1)) = decide (j < i) from decide_eq_decide.mpr (by omega)]
      · rw [if_neg hb, if_pos nI_0, one_shl (by omega), nI_or, nI_1]
        refine ih (i + 1) _ (by omega) (by omega) (fun j => ?_)
        rw [Nat.testBit_or, Nat.testBit_two_pow, hm j]
        by_cases hj : j = i
        · subst hj; simp [(Bool.not_eq_true _).mp hb]
        · rw [show (decide (j < i + 1)) = decide (j < i) from decide_eq_decide.mpr (by omega), show decide (i = j) = false from decide_eq_false (fun q => hj q.symm), Bool.or_false]
theorem live6 {h : Nat → Nat → Nat} (hv : ChV h) {M : CS} (ha : ChM (M 4) h) (N : JS) : f_X6_live M N = some (nI (lv h)) := by
  have h1 : h 1 0 ≤ 12 := hv.2.1
  unfold f_X6_live
  exact live_4 hv ha N FU 0 0 (by omega) (FU_ge (by omega)) (fun j => by simp)
theorem done0 {c : CS} {h : Nat → Nat → Nat} (hv : ChV h) (hc : ChC c h) {t d p : Nat} (ht : t < 5) (hd : d < 20) (hp : p < h 0 0) :
    ∃ c', f_X0_done c (nI t) (nI d) (nI p) = some (dnI h p (lv h) t d, c') ∧ ∀ q, q ≠ 13 → c' q = c q := by
  obtain ⟨c', e, g⟩ := doneIf0 hv hc ht hd hp (lvh_lt' hv)
  unfold f_X0_done
  rw [unmended0 hv hc, ob1_s, e, ob2_s]
  exact ⟨c', rfl, g⟩
theorem laysn6 {h : Nat → Nat → Nat} {M : CS} (N : JS) (hv : ChV h) (ha : ChM (M 4) h) {p real : Nat} (hp : p < h 0 0) (hr : real < 2 ^ 31) :
    ∃ M', f_X6_lays M N (nI p) (nI real) (-1) = some M' ∧ (∀ q, q ≠ 12 → q ≠ 13 → M' q = M q) ∧ ∀ t d, t < 5 → d < 20 → M' 13 (20 * t + d) = dnI h p real t d :=
  lays6 N hv ha hp hr (fun _ => 0) (fun _ _ => by omega) (-1) (fun x hx => by rw [if_neg (nI_m1 x (by omega))]; rfl)
theorem layNow6 {h : Nat → Nat → Nat} {M : CS} (N : JS) (hv : ChV h) (ha : ChM (M 4) h) {p : Nat} (hp : p < h 0 0) :
    ∃ M', f_X6_layNow M N (nI p) = some M' ∧ (∀ q, q ≠ 12 → q ≠ 13 → M' q = M q) ∧ ∀ t d, t < 5 → d < 20 → M' 13 (20 * t + d) = dnI h p (lv h) t d := by
  obtain ⟨M', e, g1, g2⟩ := laysn6 N hv ha hp (lvh_lt' hv)
  unfold f_X6_layNow
  rw [live6 hv ha N, ob1_s, e, ob1_s]
  exact ⟨M', rfl, g1, g2⟩
theorem doing6 {h : Nat → Nat → Nat} {M : CS} (N : JS) (hv : ChV h) (ha : ChM (M 4) h) {p t d : Nat} (hp : p < h 0 0) (ht : t < 5) (hd : d < 20) :
    ∃ M', f_X6_doing M N (nI p) (nI t) (nI d) = some (dnI h p (lv h) t d, M') ∧ ∀ q, q ≠ 12 → q ≠ 13 → M' q = M q := by
  obtain ⟨M', e, g1, g2⟩ := layNow6 N hv ha hp
  unfold f_X6_doing
  rw [e, ob1_s, ix_20, ck_t _ (inb_nI (show 20 * t + d < 100 by omega) (by omega)), nI_clamp (by omega), g2 t d ht hd]
  exact ⟨M', rfl, g1⟩
/-- frames -/
def FrI (I I' : Nat → CS) : Prop := (∀ g, 2 ≤ g → g ≤ 7 → I' g = I g) ∧ ∀ q, q ≠ 13 → I' 0 q = I 0 q
def FrM (M M' : CS) : Prop := ∀ q, q < 10 → M' q = M q
theorem FrI.rfl' (I : Nat → CS) : FrI I I := ⟨fun _ _ _ => rfl, fun _ _ => rfl⟩
theorem FrI.trans {I I' I'' : Nat → CS} (a : FrI I I') (b : FrI I' I'') : FrI I I'' := ⟨fun g h1 h2 => (b.1 g h1 h2).trans (a.1 g h1 h2), fun q h => (b.2 q h).trans (a.2 q h)⟩
theorem FrI.c {I : Nat → CS} {c : CS} (h : ∀ q, q ≠ 13 → c q = I 0 q) : FrI I (gset I 0 c) := ⟨fun g h1 _ => gset_ne _ _ _ _ (by omega), h⟩
theorem FrI.c2 {I I' : Nat → CS} {c : CS} (a : FrI I I') (h : ∀ q, q ≠ 13 → c q = I' 0 q) : FrI I (gset I' 0 c) := a.trans (FrI.c h)
theorem FrM.trans {M M' M'' : CS} (a : FrM M M') (b : FrM M' M'') : FrM M M'' := fun q h => (b q h).trans (a q h)
theorem FrM.lay {M M' : CS} (h : ∀ q, q ≠ 12 → q ≠ 13 → M' q = M q) : FrM M M' := fun q hq => h q (by omega) (by omega)
theorem Rel.fr {I I' : Nat → CS} {J J' : Nat → JS} {M M' : CS} {N : JS} (R : Rel I J M N) (a : FrI I I') (b : FrM M M') (hj : J' 0 = J 0) : Rel I' J' M' N := by
  obtain ⟨r1, r2, r3, ⟨h, r4a, r4b, r4c⟩, r5⟩ := R
  unfold Rel
  rw [a.1 5 (by omega) (by omega), a.1 6 (by omega) (by omega), a.1 7 (by omega) (by omega), b 0 (by omega), b 1 (by omega), b 2 (by omega), b 3 (by omega), b 4 (by omega), b 5 (by omega), b 6 (by omega), hj]
  refine ⟨r1, r2, ?_, ⟨h, r4a, r4b.fr a.2, r4c⟩, r5.fr (fun k hk => a.1 (2 + k) (by omega) (by omega))⟩
  unfold ToldR
  rw [b 7 (by omega), b 8 (by omega), b 9 (by omega)]
  exact r3
theorem p_isPerson6 {M : CS} {h : Nat → Nat → Nat} (hv : ChV h) (ha : ChM (M 4) h) (N : JS) (x : Int32) : f_X6_isPerson M N x = some (bI (0 ≤ x.toInt ∧ x.toInt < (h 0 0 : Nat))) := by
  have h0 : h 0 0 ≤ 5 := hv.1
  refine p_in6z x 0 _ 0 _ (by decide) ?_
  rw [i32_w, ha.1]
  show (nI (h 0 0) - nI 1).toInt + 1 = _
  rw [pk_sub_toInt (by omega) (by omega)]
  omega
theorem p_isPerson0 {c : CS} {h : Nat → Nat → Nat} (hv : ChV h) (hc : ChC c h) (x : Int32) : f_X0_isPerson c x = some (bI (0 ≤ x.toInt ∧ x.toInt < (h 0 0 : Nat))) := by
  have h0 : h 0 0 ≤ 5 := hv.1
  rw [p_isPerson, hc.1, nI_toInt (by omega)]
/-! ===== does ===== -/
theorem o_does : Op_does := by
  intro I J M N y1 y2 y3 R
  obtain ⟨h, hv, hc, ha⟩ := R.2.2.2.1
  have v0 : h 0 0 ≤ 5 := hv.1
  unfold f_X5_does f_X6_does f_X5_does_25 f_X6_does_32 f_X6_does_33
  rw [p_isTown5, p_isTown6, ob1_s, ob1_s, if_bI, if_bI, p_isDay5, p_isDay6, ob1_s, ob1_s, if_bI, if_bI, p_isPerson0 hv hc, p_isPerson6 hv ha, ob1_s, ob1_s, if_bI, if_bI]
  by_cases h1 : 0 ≤ y1.toInt ∧ y1.toInt < 5
  · rw [if_pos h1, if_pos h1]
    by_cases h2 : 0 ≤ y2.toInt ∧ y2.toInt < 20
    · rw [if_pos h2, if_pos h2]
      by_cases h3 : 0 ≤ y3.toInt ∧ y3.toInt < (h 0 0 : Nat)
      · rw [if_pos h3, if_pos h3]
        obtain ⟨t, ht, rfl⟩ := ix_of (n := 5) h1.1 h1.2 (by omega)
        obtain ⟨d, hd, rfl⟩ := ix_of (n := 20) h2.1 h2.2 (by omega)
        obtain ⟨p, hp, rfl⟩ := ix_of h3.1 h3.2 (by omega)
        obtain ⟨c', e, g⟩ := done0 hv hc ht hd hp
        obtain ⟨M', e', g'⟩ := doing6 N hv ha hp ht hd
        rw [e, e', ob2_s, ob2_s]
        exact ⟨_, _, _, rfl, rfl, R.fr (FrI.c g) (FrM.lay g') rfl⟩
      · rw [if_neg h3, if_neg h3]; exact ⟨_, _, _, rfl, rfl, R⟩
    · rw [if_neg h2, if_neg h2]; exact ⟨_, _, _, rfl, rfl, R⟩
  · rw [if_neg h1, if_neg h1]; exact ⟨_, _, _, rfl, rfl, R⟩
