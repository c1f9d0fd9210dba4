/-! ===== numbers ===== -/
theorem i32_lt (a b : Int32) : a < b ↔ a.toInt < b.toInt := Int32.lt_iff_toInt_lt
theorem i32_le (a b : Int32) : a ≤ b ↔ a.toInt ≤ b.toInt := Int32.le_iff_toInt_le
theorem i32_eq (a b : Int32) : a = b ↔ a.toInt = b.toInt := Int32.toInt_inj.symm
theorem i64_lt (a b : Int64) : a < b ↔ a.toInt < b.toInt := Int64.lt_iff_toInt_lt
theorem i64_le (a b : Int64) : a ≤ b ↔ a.toInt ≤ b.toInt := Int64.le_iff_toInt_le
theorem i64_eq (a b : Int64) : a = b ↔ a.toInt = b.toInt := Int64.toInt_inj.symm
theorem i32_w (a : Int32) : a.toInt64.toInt = a.toInt := Int32.toInt_toInt64 a
theorem inb_iff {i : Int32} {n : Nat} : inb i n = true ↔ 0 ≤ i.toInt ∧ i.toInt < n := by
  unfold inb
  rw [Bool.and_eq_true, decide_eq_true_eq, decide_eq_true_eq]
theorem inb_nI {k n : Nat} (h : k < n) (hn : n ≤ 2 ^ 31) : inb (nI k) n = true := by
  rw [inb_iff, nI_toInt (by omega)]; omega
theorem ix_of {x : Int32} {n : Nat} (h0 : 0 ≤ x.toInt) (h1 : x.toInt < n) (hn : n ≤ 2 ^ 31) : ∃ j : Nat, j < n ∧ x = nI j := by
  refine ⟨x.toInt.toNat, by omega, ?_⟩
  rw [i32_eq, nI_toInt (by omega)]; omega
def bI (p : Prop) [Decidable p] : Int32 := if p then 1 else 0
theorem bI_t {p : Prop} [Decidable p] (h : p) : bI p = 1 := if_pos h
theorem bI_f {p : Prop} [Decidable p] (h : ¬ p) : bI p = 0 := if_neg h
theorem bI_isb (p : Prop) [Decidable p] : isb (bI p) = true := by
  by_cases h : p
  · rw [bI_t h]; rfl
  · rw [bI_f h]; rfl
theorem bI_congr {p q : Prop} [Decidable p] [Decidable q] (h : p ↔ q) : bI p = bI q := by
  by_cases hp : p
  · rw [bI_t hp, bI_t (h.mp hp)]
  · rw [bI_f hp, bI_f (fun hq => hp (h.mpr hq))]
theorem if_bI {α : Type} (p : Prop) [Decidable p] (a b : α) : (if bI p = 0 then a else b) = if p then b else a := by
  by_cases h : p
  · rw [bI_t h, if_pos h, if_neg (by decide)]
  · rw [bI_f h, if_neg h, if_pos rfl]
theorem ob1_s {α γ : Type} (a : α) (k : α → Option γ) : ob1 (some a) k = k a := rfl
theorem ob2_s {α β γ : Type} (a : α) (b : β) (k : α → β → Option γ) : ob2 (some (a, b)) k = k a b := rfl
theorem ob3_s {α β γ δ : Type} (a : α) (b : β) (c : γ) (k : α → β → γ → Option δ) : ob3 (some (a, b, c)) k = k a b c := rfl
theorem ob4_s {α β γ δ ε : Type} (a : α) (b : β) (c : γ) (d : δ) (k : α → β → γ → δ → Option ε) : ob4 (some (a, b, c, d)) k = k a b c d := rfl
theorem ck_true {α : Type} (x : Option α) : ck true x = x := rfl
theorem rngB (x h : Int32) : (if x < 0 then some (0 : Int32) else if h ≤ x then some 0 else some 1) = some (bI (0 ≤ x.toInt ∧ x.toInt < h.toInt)) := by
  by_cases h1 : x < 0
  · rw [if_pos h1, bI_f (fun q => ?_)]
    rw [i32_lt] at h1
    exact absurd q.1 (Int.not_le.mpr h1)
  · rw [if_neg h1]
    rw [i32_lt] at h1
    have h1' : 0 ≤ x.toInt := Int.not_lt.mp h1
    by_cases h2 : h ≤ x
    · rw [if_pos h2, bI_f (fun q => ?_)]
      rw [i32_le] at h2
      exact absurd q.2 (Int.not_lt.mpr h2)
    · rw [if_neg h2, bI_t]
      rw [i32_le] at h2
      exact ⟨h1', Int.not_le.mp h2⟩
theorem p_isTown5 (x : Int32) : f_X5_isTown x = some (bI (0 ≤ x.toInt ∧ x.toInt < 5)) := rngB x 5
theorem p_isDay5 (x : Int32) : f_X5_isDay x = some (bI (0 ≤ x.toInt ∧ x.toInt < 20)) := rngB x 20
theorem p_isDeed5 (x : Int32) : f_X5_isDeed x = some (bI (0 ≤ x.toInt ∧ x.toInt < 10)) := rngB x 10
theorem p_isPlace5 (x : Int32) : f_X5_isPlace x = some (bI (0 ≤ x.toInt ∧ x.toInt < 3)) := rngB x 3
theorem p_isNumber_r (b : CS) (x : Int32) : f_X3_isNumber_r b x = some (bI (0 ≤ x.toInt ∧ x.toInt < 6)) := rngB x 6
theorem p_isNumber_t (b : CS) (x : Int32) : f_X3_isNumber_t b x = some (bI (0 ≤ x.toInt ∧ x.toInt < 4)) := rngB x 4
theorem p_isPerson (c : CS) (x : Int32) : f_X0_isPerson c x = some (bI (0 ≤ x.toInt ∧ x.toInt < (c 0 0).toInt)) := rngB x (c 0 0)
theorem p_isError (c : CS) (x : Int32) : f_X0_isError c x = some (bI (0 ≤ x.toInt ∧ x.toInt < (c 1 0).toInt)) := rngB x (c 1 0)
theorem cmp_lt (x y : Int64) : lg_cmp x y < 0 ↔ x.toInt < y.toInt := by
  unfold lg_cmp
  by_cases h1 : x > y
  · have h1' := (i64_lt y x).mp h1
    rw [if_pos h1]
    exact ⟨fun h => absurd h (by decide), fun h => absurd h (by omega)⟩
  · rw [if_neg h1]
    have h1' : ¬ y.toInt < x.toInt := fun h => h1 ((i64_lt y x).mpr h)
    by_cases h2 : x = y
    · rw [if_pos h2]; subst h2; exact ⟨fun h => absurd h (by decide), fun h => absurd h (by omega)⟩
    · rw [if_neg h2]
      have h2' : x.toInt ≠ y.toInt := fun h => h2 ((i64_eq x y).mpr h)
      exact ⟨fun _ => by omega, fun _ => by decide⟩
theorem cmp_gt (x y : Int64) : 0 < lg_cmp x y ↔ y.toInt < x.toInt := by
  unfold lg_cmp
  by_cases h1 : x > y
  · have h1' := (i64_lt y x).mp h1
    rw [if_pos h1]
    exact ⟨fun _ => h1', fun _ => by decide⟩
  · rw [if_neg h1]
    have h1' : ¬ y.toInt < x.toInt := fun h => h1 ((i64_lt y x).mpr h)
    by_cases h2 : x = y
    · rw [if_pos h2]; subst h2; exact ⟨fun h => absurd h (by decide), fun h => absurd h h1'⟩
    · rw [if_neg h2]
      exact ⟨fun h => absurd h (by decide), fun h => absurd h h1'⟩
theorem cmp_eq (x y : Int64) : lg_cmp x y = 0 ↔ x = y := by
  unfold lg_cmp
  by_cases h1 : x > y
  · rw [if_pos h1]
    have h1' := (i64_lt y x).mp h1
    exact ⟨fun h => absurd h (by decide), fun h => by subst h; omega⟩
  · rw [if_neg h1]
    by_cases h2 : x = y
    · rw [if_pos h2]; exact ⟨fun _ => h2, fun _ => rfl⟩
    · rw [if_neg h2]; exact ⟨fun h => absurd h (by decide), fun h => absurd h h2⟩
theorem cmp_le (x y : Int64) : lg_cmp x y ≤ 0 ↔ x.toInt ≤ y.toInt := by
  have h := cmp_gt x y
  rw [← Int.not_lt, ← h, i32_lt, i32_le]
  exact Int.not_lt.symm
theorem p_in6 (x lo hi : Int64) : f_X6_in x lo hi = some (bI (lo.toInt ≤ x.toInt ∧ x.toInt ≤ hi.toInt)) := by
  show (if lg_cmp x lo < 0 then some (0 : Int32) else if 0 < lg_cmp x hi then some 0 else some 1) = _
  by_cases h1 : lg_cmp x lo < 0
  · rw [if_pos h1, bI_f (fun q => ?_)]
    rw [cmp_lt] at h1; omega
  · rw [if_neg h1]
    rw [cmp_lt] at h1
    by_cases h2 : 0 < lg_cmp x hi
    · rw [if_pos h2, bI_f (fun q => ?_)]
      rw [cmp_gt] at h2; omega
    · rw [if_neg h2, bI_t]
      rw [cmp_gt] at h2; omega
theorem p_in6i (x : Int32) (lo hi : Int64) : f_X6_in x.toInt64 lo hi = some (bI (lo.toInt ≤ x.toInt ∧ x.toInt ≤ hi.toInt)) := by
  rw [p_in6, i32_w]
theorem p_in6z (x : Int32) (lo hi : Int64) (a b : Int) (ha : lo.toInt = a) (hb : hi.toInt + 1 = b) : ob1 (f_X6_in x.toInt64 lo hi) (fun r1 => ck (isb r1) (some r1)) = some (bI (a ≤ x.toInt ∧ x.toInt < b)) := by
  rw [p_in6i, ob1_s, bI_isb, ck_true]
  exact congrArg some (bI_congr (by omega))
theorem p_isRow6 (x : Int32) : f_X6_isRow x = some (bI (0 ≤ x.toInt ∧ x.toInt < 6)) := p_in6z x 0 5 0 6 (by decide) (by decide)
theorem p_isText6 (x : Int32) : f_X6_isText x = some (bI (0 ≤ x.toInt ∧ x.toInt < 4)) := p_in6z x 0 3 0 4 (by decide) (by decide)
theorem p_isTown6 (x : Int32) : f_X6_isTown x = some (bI (0 ≤ x.toInt ∧ x.toInt < 5)) := p_in6z x 0 4 0 5 (by decide) (by decide)
theorem p_isDay6 (x : Int32) : f_X6_isDay x = some (bI (0 ≤ x.toInt ∧ x.toInt < 20)) := p_in6z x 0 19 0 20 (by decide) (by decide)
theorem p_isDeed6 (x : Int32) : f_X6_isDeed x = some (bI (0 ≤ x.toInt ∧ x.toInt < 10)) := p_in6z x 0 9 0 10 (by decide) (by decide)
/-- found: the same on both sides -/
theorem found4 (o : CS) (j : JS) (f : Nat) (hf : f < 6) : f_X4_found o j (nI f) = some ((-3 : Int32), cset (cset o 1 0 (nI f)) 2 f (o 2 f + 1)) := by
  unfold f_X4_found f_X4_found_28
  rw [if_neg (nI_pos (by omega)), if_neg (fun h => ?_), ck_t _ (inb_nI hf (by omega)), ck_t _ (inb_nI hf (by omega)), nI_clamp (by omega)]
  exact absurd h (nI_ge (b := 6) (by omega) (by omega))
theorem found6 (M : CS) (N : JS) (f : Nat) (hf : f < 6) : f_X6_found M N (nI f) = some ((-3 : Int32), cset (cset M 8 0 (nI f)) 9 f (M 9 f + 1)) := by
  unfold f_X6_found
  rw [ck_t _ (inb_nI hf (by omega)), ck_t _ (inb_nI hf (by omega)), nI_clamp (by omega)]
/-- states, read behind a setting -/
theorem beqf {a b : Nat} (h : a ≠ b) : Nat.beq a b = false := by
  cases e : Nat.beq a b with
  | false => rfl
  | true => exact absurd (Nat.eq_of_beq_eq_true e) h
theorem cset_at (c : CS) (k i : Nat) (v : Int32) (j : Nat) : cset c k i v k j = if j = i then v else c k j := by
  show (bif Nat.beq k k then upd (c k) i v else c k) j = _
  rw [Nat.beq_refl]; rfl
theorem cset_ne (c : CS) (k i : Nat) (v : Int32) (k' : Nat) (h : k' ≠ k) : cset c k i v k' = c k' := by
  show (bif Nat.beq k' k then upd (c k) i v else c k') = _
  rw [beqf h]; rfl
theorem csetA_at (c : CS) (k : Nat) (f : Nat → Int32) : csetA c k f k = f := by
  show (bif Nat.beq k k then f else c k) = _
  rw [Nat.beq_refl]; rfl
theorem csetA_ne (c : CS) (k : Nat) (f : Nat → Int32) (k' : Nat) (h : k' ≠ k) : csetA c k f k' = c k' := by
  show (bif Nat.beq k' k then f else c k') = _
  rw [beqf h]; rfl
theorem gset_at (I : Nat → CS) (g : Nat) (c : CS) : gset I g c g = c := by
  show (bif Nat.beq g g then c else I g) = _
  rw [Nat.beq_refl]; rfl
theorem gset_ne (I : Nat → CS) (g : Nat) (c : CS) (g' : Nat) (h : g' ≠ g) : gset I g c g' = I g' := by
  show (bif Nat.beq g' g then c else I g') = _
  rw [beqf h]; rfl
