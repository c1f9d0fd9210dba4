/-! ===== the model's table of what is done ===== -/
theorem s_l : ∀ n, n < 32 → ((nI n &&& 31).toBitVec.smod 32).toNat = n := by decide +kernel
theorem tb_iff (a i : Nat) : a.testBit i = true ↔ a / 2 ^ i % 2 = 1 := by
  rw [Nat.testBit_eq_decide_div_mod_eq, decide_eq_true_eq]
theorem bit_at {a i : Nat} (ha : a < 2 ^ 31) (hi : i < 32) : ((nI a >>> (nI i &&& 31)) &&& 1) = nI (a / 2 ^ i % 2) := by
  rw [pk_shrN ha _ i (s_l i hi), pk_andN (n := a / 2 ^ i) (Nat.lt_of_le_of_lt (Nat.div_le_self _ _) (by omega)) 1 (by decide)]
theorem has6 {a i : Nat} (ha : a < 2 ^ 31) (hi : i < 32) : f_X6_has (nI a) (nI i) = some (bI (a.testBit i = true)) := by
  unfold f_X6_has f_X6_has_14
  rw [bit_at ha hi]
  by_cases h : a / 2 ^ i % 2 = 1
  · rw [h, if_pos (by decide), bI_t ((tb_iff a i).mpr h)]; rfl
  · rw [show a / 2 ^ i % 2 = 0 by omega, if_neg (by decide), bI_f (fun q => h ((tb_iff a i).mp q))]; rfl
theorem isOf6_lazy {k : Nat} (hk : k ≤ 5) : f_X6_isOf (nI k) 2 = some (bI (lazyB k = true)) := by
  rcases (show k = 0 ∨ k = 1 ∨ k = 2 ∨ k = 3 ∨ k = 4 ∨ k = 5 by omega) with rfl | rfl | rfl | rfl | rfl | rfl <;> rfl
theorem lay_e {kd t : Nat} (hk : kd ≤ 5) (ht : 1 ≤ t) (ht4 : t ≤ 4) (N : JS) (K : Int32 → Int32 → CS → JS → Option CS) (mo v : Nat → Nat) (hmo : ∀ d, d < 20 → mo d ≤ 1000) (hv : ∀ d, v d < 10) :
    ∀ (n d : Nat) (M : CS), d ≤ 20 → 20 - d < n → (∀ x, x < 20 → M 12 (20 * t + x) = nI (mo x)) → (∀ x, x < 20 → t - 1 ≤ x → M 13 (20 * (t - 1) + x) = nI (v x)) →
      ∃ M', f_X6_lays_256 K n (nI kd) (nI t) (nI d) M N = K (nI kd) (nI (t + 1)) M' N ∧ (∀ q, q ≠ 13 → M' q = M q) ∧ (∀ x, ¬ (20 * t + d ≤ x ∧ x < 20 * t + 20) → M' 13 x = M 13 x) ∧ ∀ x, d ≤ x → x < 20 → M' 13 (20 * t + x) = if x < t then -9 else nI ((bey kd x (v (x - 1)) + mo x) % 10) := by
  intro n
  induction n with
  | zero => intro d M h1 h2; exact absurd h2 (by omega)
  | succ n ih =>
    intro d M h1 h2 hm hp
    rw [f_X6_lays_256]
    by_cases h : 20 ≤ d
    · rw [if_pos (show (20 : Int32) ≤ nI d from nI_le (a := 20) h (by omega)), nI_1]
      exact ⟨M, rfl, fun _ _ => rfl, fun _ _ => rfl, fun x h3 h4 => absurd h4 (by omega)⟩
    · rw [if_neg (show ¬ (20 : Int32) ≤ nI d from nI_ge (b := 20) (Nat.not_le.mp h) (by omega)), ix_20]
      -- what is laid at this place, and how it goes on
      have go : ∀ w : Int32, w = (if d < t then -9 else nI ((bey kd d (v (d - 1)) + mo d) % 10)) → ∃ M', f_X6_lays_319 K (f_X6_lays_256 K n) (nI kd) (nI t) (nI d) (nI (20 * t + d)) w M N = K (nI kd) (nI (t + 1)) M' N ∧ (∀ q, q ≠ 13 → M' q = M q) ∧ (∀ x, ¬ (20 * t + d ≤ x ∧ x < 20 * t + 20) → M' 13 x = M 13 x) ∧ ∀ x, d ≤ x → x < 20 → M' 13 (20 * t + x) = if x < t then -9 else nI ((bey kd x (v (x - 1)) + mo x) % 10) := by
        intro w hw
        unfold f_X6_lays_319
        rw [ck_t _ (inb_nI (show 20 * t + d < 100 by omega) (by omega)), nI_clamp (by omega), nI_1]
        obtain ⟨M', e, g1, g2, g3⟩ := ih (d + 1) (cset M 13 (20 * t + d) w) (by omega) (by omega) hm (fun x hx hx2 => by rw [cset_at, if_neg (by omega)]; exact hp x hx hx2)
        refine ⟨M', e, fun q hq => by rw [g1 q hq, cset_ne _ _ _ _ _ hq], fun x hx => ?_, fun x hx hx2 => ?_⟩
        · rw [g2 x (by omega), cset_at, if_neg (by omega)]
        · by_cases hxd : x = d
          · subst hxd
            rw [g2 _ (by omega), cset_at, if_pos rfl, hw]
          · exact g3 x (by omega) hx2
      by_cases hd : t ≤ d
      · rw [if_pos (nI_le hd (by omega)), show (21 : Int32) = nI 21 from rfl, pk_sub (by omega), ck_t _ (inb_nI (show 20 * t + d - 21 < 100 by omega) (by omega)), nI_clamp (by omega), show 20 * t + d - 21 = 20 * (t - 1) + (d - 1) by omega, hp (d - 1) (by omega) (by omega), beyond6 hk (hv _) (by omega), ob1_s, ck_t _ (inb_nI (show 20 * t + d < 100 by omega) (by omega)), nI_clamp (by omega), hm d (by omega), nI_add, jrem_10 (by have := bey_le (k := kd) (d := d) (hv (d - 1)); have := hmo d (by omega); omega)]
        exact go _ (by rw [if_neg (by omega)])
      · rw [if_neg (nI_ge (Nat.not_le.mp hd) (by omega))]
        exact go _ (by rw [if_pos (by omega)])
theorem lay_t {kd e st : Nat} (hk : kd ≤ 5) (N : JS) (mo : Nat → Nat) (hmo : ∀ x, x < 100 → mo x ≤ 1000) :
    ∀ (n t : Nat) (M : CS), 1 ≤ t → t ≤ 5 → 5 - t < n → (∀ x, x < 100 → M 12 x = nI (mo x)) → (∀ t' x, t' < t → x < 20 → M 13 (20 * t' + x) = if x < t' then -9 else nI (Dm kd e st (fun t d => mo (20 * t + d)) t' x)) →
      ∃ M', f_X6_lays_247 n (nI kd) (nI t) M N = some M' ∧ (∀ q, q ≠ 13 → M' q = M q) ∧ ∀ t' x, t' < 5 → x < 20 → M' 13 (20 * t' + x) = if x < t' then -9 else nI (Dm kd e st (fun t d => mo (20 * t + d)) t' x) := by
  intro n
  induction n with
  | zero => intro t M h0 h1 h2; exact absurd h2 (by omega)
  | succ n ih =>
    intro t M h0 h1 h2 hm hp
    rw [f_X6_lays_247]
    by_cases h : 5 ≤ t
    · rw [if_pos (show (5 : Int32) ≤ nI t from nI_le (a := 5) h (by omega))]
      exact ⟨M, rfl, fun _ _ => rfl, fun t' x h3 h4 => hp t' x (by omega) h4⟩
    · rw [if_neg (show ¬ (5 : Int32) ≤ nI t from nI_ge (b := 5) (Nat.not_le.mp h) (by omega))]
      obtain ⟨M1, e1, g1, g2, g3⟩ := lay_e hk h0 (show t ≤ 4 by omega) N (f_X6_lays_247 n) (fun d => mo (20 * t + d)) (Dm kd e st (fun t d => mo (20 * t + d)) (t - 1)) (fun d hd => hmo _ (by omega)) (fun d => Dm_lt _ _ _ _ _ _) FU 0 M (by omega) (FU_ge (by omega)) (fun x hx => hm _ (by omega)) (fun x hx hx2 => by rw [hp (t - 1) x (by omega) hx, if_neg (by omega)])
      have e1' : f_X6_lays_256 (f_X6_lays_247 n) FU (nI kd) (nI t) 0 M N = f_X6_lays_247 n (nI kd) (nI (t + 1)) M1 N := e1
      rw [e1']
      have hq : ∀ t' x, t' < t + 1 → x < 20 → M1 13 (20 * t' + x) = if x < t' then -9 else nI (Dm kd e st (fun t d => mo (20 * t + d)) t' x) := by
        intro t' x ht' hx
        by_cases e5 : t' = t
        · subst e5
          rw [g3 x (by omega) hx]
          obtain ⟨u, rfl⟩ : ∃ u, t' = u + 1 := ⟨t' - 1, by omega⟩
          rfl
        · rw [g2 _ (by omega)]
          exact hp t' x (by omega) hx
      obtain ⟨M', e2, k1, k2⟩ := ih (t + 1) M1 (by omega) (by omega) (by omega) (fun x hx => by rw [g1 12 (by omega)]; exact hm x hx) hq
      exact ⟨M', e2, fun q hq => (k1 q hq).trans (g1 q hq), k2⟩
/-- town 0 -/
theorem lay_0 {kd e st p : Nat} {a : Nat → Int32} (hk : kd ≤ 5) (he : e ≤ 9) (hst : st ≤ 9) (hp5 : p < 5) (N : JS) (mo : Nat → Nat) (hmo : ∀ x, x < 100 → mo x ≤ 1000) (h9 : a (9 + p) = nI e) (h14 : a (14 + p) = nI st) :
    ∀ (n d : Nat) (M : CS), d ≤ 20 → 20 - d < n → M 4 = a → (∀ x, x < 100 → M 12 x = nI (mo x)) → (∀ x, x < d → M 13 x = nI (D0 kd e st mo x)) →
      ∃ M', f_X6_lays_136 n (nI p) (nI kd) (nI d) M N = f_X6_lays_247 FU (nI kd) 1 M' N ∧ (∀ q, q ≠ 13 → M' q = M q) ∧ ∀ x, x < 20 → M' 13 x = nI (D0 kd e st mo x) := by
  intro n
  induction n with
  | zero => intro d M h1 h2; exact absurd h2 (by omega)
  | succ n ih =>
    intro d M h1 h2 h4 hm hd
    rw [f_X6_lays_136]
    by_cases h : 20 ≤ d
    · rw [if_pos (show (20 : Int32) ≤ nI d from nI_le (a := 20) h (by omega))]
      exact ⟨M, rfl, fun _ _ => rfl, fun x hx => hd x (by omega)⟩
    · rw [if_neg (show ¬ (20 : Int32) ≤ nI d from nI_ge (b := 20) (Nat.not_le.mp h) (by omega))]
      have go : ∀ w : Nat, w ≤ 1000 → (w + mo d) % 10 = D0 kd e st mo d → ∃ M', f_X6_lays_216 (f_X6_lays_136 n) (nI p) (nI kd) (nI d) (nI w) M N = f_X6_lays_247 FU (nI kd) 1 M' N ∧ (∀ q, q ≠ 13 → M' q = M q) ∧ ∀ x, x < 20 → M' 13 x = nI (D0 kd e st mo x) := by
        intro w hw hw2
        unfold f_X6_lays_216
        rw [ck_t _ (inb_nI (show d < 100 by omega) (by omega)), ck_t _ (inb_nI (show d < 100 by omega) (by omega)), nI_clamp (by omega), hm d (by omega), nI_add, jrem_10 (by have := hmo d (by omega); omega), hw2, nI_1]
        obtain ⟨M', e, g1, g2⟩ := ih (d + 1) (cset M 13 d (nI (D0 kd e st mo d))) (by omega) (by omega) h4 hm (fun x hx => by
          rw [cset_at]
          by_cases hxd : x = d
          · rw [if_pos hxd, hxd]
          · rw [if_neg hxd]; exact hd x (by omega))
        exact ⟨M', e, fun q hq => by rw [g1 q hq, cset_ne _ _ _ _ _ hq], g2⟩
      by_cases h0 : d = 0
      · subst h0
        rw [if_pos (show nI 0 ≤ 0 by decide)]
        unfold f_X6_lays_168 f_X6_lays_169
        rw [if_pos nI_0, show (9 : Int32) = nI 9 from rfl, nI_add, ck_t _ (inb_nI (show 9 + p < 119 by omega) (by omega)), nI_clamp (by omega), h4, h9]
        exact go e (by omega) rfl
      · rw [if_neg (nI_nle (by omega) (by omega)), isOf6_lazy hk, ob1_s, if_bI]
        obtain ⟨u, rfl⟩ : ∃ u, d = u + 1 := ⟨d - 1, by omega⟩
        have hD := D0_lt kd e st mo u
        have i1 : nI (u + 1) - 1 = nI u := nI_pred u
        have g164 : ¬ (lazyB kd = true ∧ (u + 1) % 2 = 1) → ∃ M', f_X6_lays_164 (f_X6_lays_136 n) (nI p) (nI kd) (nI (u + 1)) M N = f_X6_lays_247 FU (nI kd) 1 M' N ∧ (∀ q, q ≠ 13 → M' q = M q) ∧ ∀ x, x < 20 → M' 13 x = nI (D0 kd e st mo x) := by
          intro hn
          unfold f_X6_lays_164 f_X6_lays_169 f_X6_lays_215
          rw [if_neg (nI_ne0 (by omega) (by omega)), i1, ck_t _ (inb_nI (show u < 100 by omega) (by omega)), if_neg (by decide), show (14 : Int32) = nI 14 from rfl, nI_add, ck_t _ (inb_nI (show 14 + p < 119 by omega) (by omega)), nI_clamp (by omega), nI_clamp (by omega), h4, h14, hd u (by omega), nI_add]
          exact go _ (by omega) (by rw [D0, if_neg hn])
        have g168 : (lazyB kd = true ∧ (u + 1) % 2 = 1) → ∃ M', f_X6_lays_168 (f_X6_lays_136 n) (nI p) (nI kd) (nI (u + 1)) M N = f_X6_lays_247 FU (nI kd) 1 M' N ∧ (∀ q, q ≠ 13 → M' q = M q) ∧ ∀ x, x < 20 → M' 13 x = nI (D0 kd e st mo x) := by
          intro hn
          unfold f_X6_lays_168 f_X6_lays_169 f_X6_lays_215
          rw [if_neg (nI_ne0 (by omega) (by omega)), i1, ck_t _ (inb_nI (show u < 100 by omega) (by omega)), if_pos rfl, nI_clamp (by omega), hd u (by omega), show nI (D0 kd e st mo u) + 0 = nI (D0 kd e st mo u + 0) from nI_add _ 0]
          exact go _ (by omega) (by rw [D0, if_pos hn])
        by_cases hl : lazyB kd = true
        · rw [if_pos hl, show (2 : Int32) = nI 2 from rfl, jrem_nI (by omega) (by omega) (by omega)]
          by_cases h2' : (u + 1) % 2 = 0
          · rw [h2', if_pos nI_0]; exact g164 (by omega)
          · rw [if_neg (nI_ne0 (by omega) (by omega))]; exact g168 ⟨hl, by omega⟩
        · rw [if_neg hl]; exact g164 (fun q => hl q.1)
theorem smf_succ (f : Nat → Nat) (n : Nat) : sm f (n + 1) = sm f n + f n := rfl
/-- errors -/
theorem lay_err {h : Nat → Nat → Nat} {a : Nat → Int32} (hv : ChV h) (ha : ChM a h) {p real : Nat} (hp : p < h 0 0) (hr : real < 2 ^ 31) (N : JS) (wb : Nat → Nat) (hwb : ∀ x, x < 100 → wb x ≤ 5) :
    ∀ (n i : Nat) (M : CS), i ≤ h 1 0 → h 1 0 - i < n → M 4 = a → (∀ x, x < 100 → M 12 x = nI (wb x + sm (fun i => if h 10 i = p ∧ real.testBit i = true ∧ 20 * h 8 i + h 9 i = x then h 11 i else 0) i)) →
      ∃ M', f_X6_lays_37 n (nI p) (nI real) (nI i) M N = f_X6_lays_136 FU (nI p) (nI (h 5 p)) 0 M' N ∧ (∀ q, q ≠ 12 → M' q = M q) ∧ ∀ x, x < 100 → M' 12 x = nI (wb x + erx h p real x) := by
  obtain ⟨v0, v1, v2, v3, v4, v5, v6, v7⟩ := hv
  obtain ⟨a0, a1, a2, a3, a4, a5, a6⟩ := ha
  intro n
  induction n with
  | zero => intro i M h1 h2; exact absurd h2 (by omega)
  | succ n ih =>
    intro i M h1 h2 h4 hm
    rw [f_X6_lays_37, h4, a1]
    by_cases hi : h 1 0 ≤ i
    · have hie : i = h 1 0 := by omega
      rw [if_pos (nI_le hi (by omega)), show (4 : Int32) = nI 4 from rfl, nI_add, ck_t _ (inb_nI (show 4 + p < 119 by omega) (by omega)), nI_clamp (by omega), (a4 p hp).1]
      exact ⟨M, rfl, fun _ _ => rfl, fun x hx => by rw [hm x hx, hie]; rfl⟩
    · have hi' : i < h 1 0 := Nat.not_le.mp hi
      obtain ⟨b1, b2, b3, b4, b5⟩ := a5 i hi'
      obtain ⟨w1, w2, w3, w4, w5⟩ := v6 i hi'
      rw [if_neg (nI_ge hi' (by omega)), show (19 : Int32) = nI 19 from rfl, show (31 : Int32) = nI 31 from rfl, show (43 : Int32) = nI 43 from rfl, show (55 : Int32) = nI 55 from rfl, nI_add, nI_add, nI_add, nI_add, ck_t _ (inb_nI (show 19 + i < 119 by omega) (by omega)), ck_t _ (inb_nI (show 31 + i < 119 by omega) (by omega)), nI_clamp (show 19 + i < 2 ^ 31 by omega), nI_clamp (show 31 + i < 2 ^ 31 by omega), b1, b2, ix_20, ck_t _ (inb_nI (show 20 * h 8 i + h 9 i < 100 by omega) (by omega)), ck_t _ (inb_nI (show 43 + i < 119 by omega) (by omega)), nI_clamp (show 43 + i < 2 ^ 31 by omega), b3, nI_clamp (show 20 * h 8 i + h 9 i < 2 ^ 31 by omega), hm _ (by omega)]
      have go : ∀ w : Nat, w = (if h 10 i = p ∧ real.testBit i = true then h 11 i else 0) → ∃ M', f_X6_lays_115 (f_X6_lays_37 n) (nI p) (nI real) (nI i) (nI (20 * h 8 i + h 9 i)) (nI (wb (20 * h 8 i + h 9 i) + sm (fun j => if h 10 j = p ∧ real.testBit j = true ∧ 20 * h 8 j + h 9 j = 20 * h 8 i + h 9 i then h 11 j else 0) i)) (nI w) M N = f_X6_lays_136 FU (nI p) (nI (h 5 p)) 0 M' N ∧ (∀ q, q ≠ 12 → M' q = M q) ∧ ∀ x, x < 100 → M' 12 x = nI (wb x + erx h p real x) := by
        intro w hw
        unfold f_X6_lays_115
        rw [ck_t _ (inb_nI (show 20 * h 8 i + h 9 i < 100 by omega) (by omega)), nI_clamp (by omega), nI_add, nI_1]
        obtain ⟨M', e, g1, g2⟩ := ih (i + 1) (cset M 12 (20 * h 8 i + h 9 i) (nI (wb (20 * h 8 i + h 9 i) + sm (fun j => if h 10 j = p ∧ real.testBit j = true ∧ 20 * h 8 j + h 9 j = 20 * h 8 i + h 9 i then h 11 j else 0) i + w))) (by omega) (by omega) h4 (fun x hx => by
          rw [cset_at, smf_succ]
          by_cases hxe : x = 20 * h 8 i + h 9 i
          · subst hxe
            rw [if_pos rfl, hw]
            refine congrArg nI ?_
            by_cases hc : h 10 i = p ∧ real.testBit i = true
            · rw [if_pos hc, if_pos ⟨hc.1, hc.2, rfl⟩]; omega
            · rw [if_neg hc, if_neg (fun q => hc ⟨q.1, q.2.1⟩)]; omega
          · rw [if_neg hxe, if_neg (fun q => hxe q.2.2.symm), hm x hx]; rfl)
        exact ⟨M', e, fun q hq => by rw [g1 q hq, cset_ne _ _ _ _ _ hq], g2⟩
      by_cases hw : h 10 i = p
      · rw [hw, if_pos rfl, has6 hr (by omega), ob1_s, if_bI]
        by_cases hb : real.testBit i = true
        · rw [if_pos hb, ck_t _ (inb_nI (show 55 + i < 119 by omega) (by omega)), nI_clamp (show 55 + i < 2 ^ 31 by omega), b4]
          exact go _ (by rw [if_pos ⟨hw, hb⟩])
        · rw [if_neg hb]
          exact go 0 (by rw [if_neg (fun q => hb q.2)])
      · rw [if_neg (fun q => hw ((nI_eq (by omega) (by omega)).mp q))]
        exact go 0 (by rw [if_neg (fun q => hw q.1)])
/-- the table begun -/
theorem lay_w (N : JS) (wb : Nat → Nat) (x3 : Int32) (hw : ∀ x, x < 100 → (if nI x = x3 then (5 : Int32) else 0) = nI (wb x)) (p real : Int32) :
    ∀ (n i : Nat) (M : CS), i ≤ 100 → 100 - i < n → (∀ x, x < i → M 12 x = nI (wb x)) → ∃ M', f_X6_lays_3 n p real x3 (nI i) M N = f_X6_lays_37 FU p real 0 M' N ∧ (∀ q, q ≠ 12 → M' q = M q) ∧ ∀ x, x < 100 → M' 12 x = nI (wb x) := by
  intro n
  induction n with
  | zero => intro i M h1 h2; exact absurd h2 (by omega)
  | succ n ih =>
    intro i M h1 h2 hm
    rw [f_X6_lays_3]
    by_cases h : 100 ≤ i
    · rw [if_pos (show (100 : Int32) ≤ nI i from nI_le (a := 100) h (by omega))]
      exact ⟨M, rfl, fun _ _ => rfl, fun x hx => hm x (by omega)⟩
    · rw [if_neg (show ¬ (100 : Int32) ≤ nI i from nI_ge (b := 100) (Nat.not_le.mp h) (by omega))]
      have go : ∀ w : Int32, w = nI (wb i) → ∃ M', f_X6_lays_27 (f_X6_lays_3 n) p real x3 (nI i) (nI i) w M N = f_X6_lays_37 FU p real 0 M' N ∧ (∀ q, q ≠ 12 → M' q = M q) ∧ ∀ x, x < 100 → M' 12 x = nI (wb x) := by
        intro w hw'
        unfold f_X6_lays_27
        rw [ck_t _ (inb_nI (show i < 100 by omega) (by omega)), nI_clamp (by omega), nI_1]
        obtain ⟨M', e, g1, g2⟩ := ih (i + 1) (cset M 12 i w) (by omega) (by omega) (fun x hx => by
          rw [cset_at]
          by_cases hxi : x = i
          · rw [if_pos hxi, hw', hxi]
          · rw [if_neg hxi]; exact hm x (by omega))
        exact ⟨M', e, fun q hq => by rw [g1 q hq, cset_ne _ _ _ _ _ hq], g2⟩
      have hwi := hw i (by omega)
      by_cases he : nI i = x3
      · rw [if_pos he] at hwi ⊢; exact go _ hwi
      · rw [if_neg he] at hwi ⊢; exact go _ hwi
/-- the table whole -/
theorem lays6 {h : Nat → Nat → Nat} {M : CS} (N : JS) (hv : ChV h) (ha : ChM (M 4) h) {p real : Nat} (hp : p < h 0 0) (hr : real < 2 ^ 31) (wb : Nat → Nat) (hwb : ∀ x, x < 100 → wb x ≤ 5) (x3 : Int32) (hw : ∀ x, x < 100 → (if nI x = x3 then (5 : Int32) else 0) = nI (wb x)) :
    ∃ M', f_X6_lays M N (nI p) (nI real) x3 = some M' ∧ (∀ q, q ≠ 12 → q ≠ 13 → M' q = M q) ∧ ∀ t d, t < 5 → d < 20 → M' 13 (20 * t + d) = if d < t then -9 else nI (dn h wb p real t d) := by
  obtain ⟨M1, e1, f1, f2⟩ := lay_w N wb x3 hw (nI p) (nI real) FU 0 M (by omega) (FU_ge (by omega)) (fun x hx => absurd hx (by omega))
  have hE : h 1 0 ≤ 12 := hv.2.1
  obtain ⟨M2, e2, g1, g2⟩ := lay_err hv ha hp hr N wb hwb FU 0 M1 (by omega) (FU_ge (by omega)) (f1 4 (by omega)) (fun x hx => by rw [f2 x hx]; rfl)
  have hmo : ∀ x, x < 100 → wb x + erx h p real x ≤ 1000 := fun x hx => by
    have := hwb x hx
    have := erx_le hv p real x
    omega
  obtain ⟨k5, k6, k7⟩ := hv.2.2.2.2.2.1 p hp
  obtain ⟨c5, c6, c7⟩ := ha.2.2.2.2.1 p hp
  have hP : h 0 0 ≤ 5 := hv.1
  obtain ⟨M3, e3, k1, k2⟩ := lay_0 k5 k6 k7 (show p < 5 by omega) N (fun x => wb x + erx h p real x) hmo c6 c7 FU 0 M2 (by omega) (FU_ge (by omega)) ((g1 4 (by omega)).trans (f1 4 (by omega))) g2 (fun x hx => absurd hx (by omega))
  obtain ⟨M4, e4, l1, l2⟩ := lay_t (e := h 6 p) (st := h 7 p) k5 N (fun x => wb x + erx h p real x) hmo FU 1 M3 (by omega) (by omega) (FU_ge (by omega)) (fun x hx => by rw [k1 12 (by omega)]; exact g2 x hx) (fun t' x ht' hx => by
    have : t' = 0 := by omega
    subst this
    rw [if_neg (by omega), Nat.mul_zero, Nat.zero_add, k2 x hx, Dm]
    refine congrArg nI (congrArg (fun f => D0 (h 5 p) (h 6 p) (h 7 p) f x) (funext fun d => ?_))
    simp)
  refine ⟨M4, ?_, fun q hq1 hq2 => ?_, l2⟩
  · unfold f_X6_lays
    exact e1.trans (e2.trans (e3.trans e4))
  · rw [l1 q hq2, k1 q hq2, g1 q hq1, f1 q hq1]
