/-! ===== what the two states share ===== -/
def RowsR (n w : Nat) (b : CS) (sz rows : Nat → Int32) : Prop := ∀ r, r < n → sz r = b 6 r ∧ (b 6 r = -1 ∨ ∃ k, k ≤ w ∧ b 6 r = nI k ∧ ∀ i, i < k → rows (w * r + i) = b r i)
def ToldR (o : CS) (j : JS) (M : CS) (N : JS) : Prop := M 7 0 = o 0 0 ∧ M 8 0 = o 1 0 ∧ (∀ f, f < 6 → M 9 f = o 2 f) ∧ N 0 = j 0 ∧ N 1 = j 1
def turnC : Nat → Int32
  | 0 => -2
  | 1 => -1
  | n + 2 => nI n
/-- whether an error is mended: its bit -/
def mbit (m i : Nat) : Nat := if m.testBit i then 1 else 0
/-- a chain: 0 persons, 1 errors, 2 the mended (bits), 3 today, 4 turns; 5 kinds, 6 deeds, 7 strides; 8 towns, 9 days, 10 persons, 11 by how much of errors; 12 turns (0 an error came, 1 a day went by, 2 and the error's number) -/
def Hist (h : Nat → Nat → Nat) : Prop := ∃ E Mm Td : Nat → Nat, E (h 4 0) = h 1 0 ∧ Mm (h 4 0) = h 2 0 ∧ Td (h 4 0) = h 3 0 ∧
  ∀ k, k < h 4 0 → Mm k < 2 ^ E k ∧ ((h 12 k = 0 ∧ E (k + 1) = E k + 1 ∧ Mm (k + 1) = Mm k ∧ Td (k + 1) = Td k) ∨ (h 12 k = 1 ∧ E (k + 1) = E k ∧ Mm (k + 1) = Mm k ∧ Td (k + 1) = Td k + 1) ∨ ∃ i, i < E k ∧ h 12 k = i + 2 ∧ E (k + 1) = E k ∧ Mm (k + 1) = Mm k ^^^ 2 ^ i ∧ Td (k + 1) = Td k)
def ChV (h : Nat → Nat → Nat) : Prop := h 0 0 ≤ 5 ∧ h 1 0 ≤ 12 ∧ h 2 0 < 2 ^ h 1 0 ∧ h 3 0 ≤ 19 ∧ h 4 0 ≤ 40 ∧ (∀ p, p < h 0 0 → h 5 p ≤ 5 ∧ h 6 p ≤ 9 ∧ h 7 p ≤ 9) ∧
  (∀ i, i < h 1 0 → h 8 i ≤ 4 ∧ h 9 i ≤ 19 ∧ h 10 i < h 0 0 ∧ 1 ≤ h 11 i ∧ h 11 i ≤ 9) ∧ Hist h
def ChC (c : CS) (h : Nat → Nat → Nat) : Prop := c 0 0 = nI (h 0 0) ∧ c 1 0 = nI (h 1 0) ∧ c 2 0 = nI (h 2 0) ∧ c 3 0 = nI (h 3 0) ∧ c 4 0 = nI (h 4 0) ∧
  (∀ p, p < h 0 0 → c 5 p = nI (h 5 p) ∧ c 6 p = nI (h 6 p) ∧ c 7 p = nI (h 7 p)) ∧ (∀ i, i < h 1 0 → c 8 i = nI (h 8 i) ∧ c 9 i = nI (h 9 i) ∧ c 10 i = nI (h 10 i) ∧ c 11 i = nI (h 11 i)) ∧ ∀ k, k < h 4 0 → c 12 k = turnC (h 12 k)
def ChM (a : Nat → Int32) (h : Nat → Nat → Nat) : Prop := a 0 = nI (h 0 0) ∧ a 1 = nI (h 1 0) ∧ a 2 = nI (h 3 0) ∧ a 3 = nI (h 4 0) ∧
  (∀ p, p < h 0 0 → a (4 + p) = nI (h 5 p) ∧ a (9 + p) = nI (h 6 p) ∧ a (14 + p) = nI (h 7 p)) ∧
  (∀ i, i < h 1 0 → a (19 + i) = nI (h 8 i) ∧ a (31 + i) = nI (h 9 i) ∧ a (43 + i) = nI (h 10 i) ∧ a (55 + i) = nI (h 11 i) ∧ a (67 + i) = nI (mbit (h 2 0) i)) ∧ ∀ k, k < h 4 0 → a (79 + k) = nI (h 12 k)
def ChR (c : CS) (a : Nat → Int32) : Prop := ∃ h : Nat → Nat → Nat, ChV h ∧ ChC c h ∧ ChM a h
def KeptR (I : Nat → CS) (ke kp : Nat → Int32) : Prop := ∀ k, k < 3 → (kp k = 0 ∧ I (2 + k) 0 0 = 0) ∨ (kp k = 1 ∧ ∃ h : Nat → Nat → Nat, 0 < h 0 0 ∧ ChV h ∧ ChC (I (2 + k)) h ∧ ChM (fun i => ke (119 * k + i)) h)
def Rel (I : Nat → CS) (J : Nat → JS) (M : CS) (N : JS) : Prop := RowsR 6 40 (I 5) (M 0) (M 1) ∧ RowsR 4 60 (I 6) (M 2) (M 3) ∧ ToldR (I 7) (J 0) M N ∧ ChR (I 0) (M 4) ∧ KeptR I (M 5) (M 6)
theorem KeptR.fr {I I' : Nat → CS} {ke kp : Nat → Int32} (h : KeptR I ke kp) (e : ∀ k, k < 3 → I' (2 + k) = I (2 + k)) : KeptR I' ke kp := by
  intro k hk
  rw [e k hk]
  exact h k hk
theorem KeptR.set {I : Nat → CS} {ke kp : Nat → Int32} (h : KeptR I ke kp) (g : Nat) (c : CS) (hg : g < 2 ∨ 4 < g) : KeptR (gset I g c) ke kp :=
  h.fr (fun k hk => gset_ne I g c (2 + k) (by omega))
theorem ToldR.ask {o : CS} {j : JS} {M : CS} {N : JS} (h : ToldR o j M N) (v : Int32) : ToldR (cset o 0 0 v) j (cset M 7 0 v) N := ⟨rfl, h.2.1, h.2.2.1, h.2.2.2⟩
theorem ToldR.found {o : CS} {j : JS} {M : CS} {N : JS} (h : ToldR o j M N) (f : Nat) : ToldR (cset (cset o 1 0 (nI f)) 2 f (o 2 f + 1)) j (cset (cset M 8 0 (nI f)) 9 f (M 9 f + 1)) N := by
  refine ⟨h.1, rfl, fun q hq => ?_, h.2.2.2⟩
  rw [cset_at, cset_at]
  show (if q = f then M 9 f + 1 else M 9 q) = if q = f then o 2 f + 1 else o 2 q
  by_cases e : q = f
  · subst e; rw [if_pos rfl, if_pos rfl, h.2.2.1 q hq]
  · rw [if_neg e, if_neg e, h.2.2.1 q hq]
theorem Rel.found {I : Nat → CS} {J : Nat → JS} {M : CS} {N : JS} (R : Rel I J M N) (f : Nat) : Rel (gset I 7 (cset (cset (I 7) 1 0 (nI f)) 2 f (I 7 2 f + 1))) J (cset (cset M 8 0 (nI f)) 9 f (M 9 f + 1)) N :=
  ⟨R.1, R.2.1, R.2.2.1.found f, R.2.2.2.1, R.2.2.2.2.set 7 _ (by omega)⟩
theorem Rel.ask {I : Nat → CS} {J : Nat → JS} {M : CS} {N : JS} (R : Rel I J M N) (v : Int32) : Rel (gset I 7 (cset (I 7) 0 0 v)) J (cset M 7 0 v) N :=
  ⟨R.1, R.2.1, R.2.2.1.ask v, R.2.2.2.1, R.2.2.2.2.set 7 _ (by omega)⟩
theorem FU_ge {n : Nat} (h : n < 5000) : n < FU := h
