/-! ===== fits, sure: the class's way ===== -/
def al (P : Nat → Bool) : Nat → Nat → Bool
  | _, 0 => true
  | a, k + 1 => P a && al P (a + 1) k
theorem al_iff (P : Nat → Bool) : ∀ (k a : Nat), al P a k = true ↔ ∀ x, a ≤ x → x < a + k → P x = true
  | 0, a => ⟨fun _ x h1 h2 => absurd h2 (by omega), fun _ => rfl⟩
  | k + 1, a => by
    rw [al, Bool.and_eq_true, al_iff P k (a + 1)]
    constructor
    · intro ⟨h1, h2⟩ x h3 h4
      by_cases e : x = a
      · subst e; exact h1
      · exact h2 x (by omega) (by omega)
    · intro h
      exact ⟨h a (by omega) (by omega), fun x h3 h4 => h x (by omega) (by omega)⟩
/-- whether all fours are as told, if just some errors happen -/
def fit (h : Nat → Nat → Nat) (b : Nat → Int32) (f x : Nat) : Bool := al (asT h x b) 0 f
theorem isAll_12 {h : Nat → Nat → Nat} (hv : ChV h) {b o : CS} (j' : JS) {j f real : Nat} (hj : j < 6) (hf : f ≤ 10) (hs : b 6 j = nI (4 * f)) (ok : ∀ g, g < f → okf (h 0 0) (b j) g) (hr : real < 2 ^ 31) :
    ∀ (k n g : Nat) (c : CS), g + k = f → k < n → ChC c h → ∃ c', f_X1_isAllAsTold_12 n (nI j) (nI real) (nI f) (nI g) o j' c b = some (bI (al (asT h real (b j)) g k = true), c') ∧ ∀ q, q ≠ 13 → c' q = c q := by
  intro k
  induction k with
  | zero =>
    intro n g c h1 hn hc
    obtain ⟨n, rfl⟩ : ∃ u, n = u + 1 := ⟨n - 1, by omega⟩
    rw [f_X1_isAllAsTold_12, if_pos (nI_le (by omega) (by omega)), bI_t (show al (asT h real (b j)) g 0 = true from rfl)]
    exact ⟨c, rfl, fun _ _ => rfl⟩
  | succ k ih =>
    intro n g c h1 hn hc
    obtain ⟨n, rfl⟩ : ∃ u, n = u + 1 := ⟨n - 1, by omega⟩
    obtain ⟨c1, e1, g1⟩ := isAsTold1 (o := o) hv j' hc hj hf hs (show g < f by omega) (ok g (by omega)) hr
    rw [f_X1_isAllAsTold_12, if_neg (nI_ge (by omega) (by omega)), e1, ob2_s, if_bI, nI_1]
    by_cases q : asT h real (b j) g = true
    · rw [if_pos q]
      obtain ⟨c', e, k1⟩ := ih n (g + 1) c1 (by omega) (by omega) (hc.fr g1)
      refine ⟨c', ?_, fun z hz => (k1 z hz).trans (g1 z hz)⟩
      rw [e]
      exact congrArg (fun v => some (v, c')) (bI_congr (by rw [al, q, Bool.true_and]))
    · rw [if_neg q]
      refine ⟨c1, ?_, g1⟩
      rw [bI_f (fun z => q ?_)]
      rw [al, Bool.and_eq_true] at z
      exact z.1
theorem div4 {f : Nat} (hf : f ≤ 10) : nI (4 * f) / (4 : Int32) = nI f := by
  rw [show (4 : Int32) = nI 4 from rfl, pk_div (by omega) (by omega) (by omega)]
  exact congrArg nI (by omega)
theorem isAll1 {h : Nat → Nat → Nat} (hv : ChV h) {b o c : CS} (j' : JS) {j f real : Nat} (hj : j < 6) (hf : f ≤ 10) (hs : b 6 j = nI (4 * f)) (ok : ∀ g, g < f → okf (h 0 0) (b j) g) (hr : real < 2 ^ 31) (hc : ChC c h) :
    ∃ c', f_X1_isAllAsTold o j' c b (nI j) (nI real) = some (bI (fit h (b j) f real = true), c') ∧ ∀ q, q ≠ 13 → c' q = c q := by
  unfold f_X1_isAllAsTold
  rw [sizeOf_r b hj, ob1_s, hs, div4 hf]
  exact isAll_12 hv j' hj hf hs ok hr f FU 0 c (by omega) (FU_ge (by omega)) hc
theorem onTheWayC {h : Nat → Nat → Nat} (hv : ChV h) {c : CS} (hc : ChC c h) {t d p : Nat} (ht : t < 5) (hd : d < 20) (hp : p < 5) : f_X0_onTheWay c (nI t) (nI d) (nI p) = some (nI (ow h t d p)) := by
  have v1 : h 1 0 ≤ 12 := hv.2.1
  unfold f_X0_onTheWay
  exact onTheWay0 hv hc ht hd hp FU 0 (by omega) (FU_ge (by omega))
def owg (h : Nat → Nat → Nat) (b : Nat → Int32) (g : Nat) : Nat := ow h (b (4 * g)).toNatClampNeg (b (4 * g + 1)).toNatClampNeg (b (4 * g + 2)).toNatClampNeg
def ows (h : Nat → Nat → Nat) (b : Nat → Int32) : Nat → Nat
  | 0 => 0
  | g + 1 => ows h b g ||| owg h b g
theorem ows_bit (h : Nat → Nat → Nat) (b : Nat → Int32) (i g : Nat) (hi : (owg h b g).testBit i = true) : ∀ n, g < n → (ows h b n).testBit i = true
  | 0, q => absurd q (by omega)
  | n + 1, q => by
    rw [ows, Nat.testBit_or, Bool.or_eq_true]
    by_cases e : g = n
    · subst e; exact Or.inr hi
    · exact Or.inl (ows_bit h b i g hi n (by omega))
theorem onTheWays_14 {h : Nat → Nat → Nat} (hv : ChV h) {c b : CS} (hc : ChC c h) {j f : Nat} (hj : j < 6) (hf : f ≤ 10) (hs : b 6 j = nI (4 * f)) (ok : ∀ g, g < f → okf (h 0 0) (b j) g) :
    ∀ (k n g : Nat), g + k = f → k < n → f_X1_onTheWays_14 n (nI j) (nI (ows h (b j) g)) (nI f) (nI g) c b = some (nI (ows h (b j) f &&& lv h)) := by
  have v0 : h 0 0 ≤ 5 := hv.1
  have hsz : (b 6 j).toInt = ((4 * f : Nat) : Int) := by rw [hs, nI_toInt (by omega)]
  intro k
  induction k with
  | zero =>
    intro n g h1 hn
    obtain ⟨n, rfl⟩ : ∃ u, n = u + 1 := ⟨n - 1, by omega⟩
    rw [f_X1_onTheWays_14, if_pos (nI_le (by omega) (by omega)), unmended0 hv hc, ob1_s, nI_and, show g = f by omega]
  | succ k ih =>
    intro n g h1 hn
    obtain ⟨n, rfl⟩ : ∃ u, n = u + 1 := ⟨n - 1, by omega⟩
    obtain ⟨t, d, p, w, ht, hd, hp, hw, e1, e2, e3, e4⟩ := four_r v0 (ok g (by omega))
    have i1 := ih n (g + 1) (by omega) (by omega)
    rw [ows, owg, e1, e2, e3, nI_clamp (by omega), nI_clamp (by omega), nI_clamp (by omega)] at i1
    rw [f_X1_onTheWays_14, if_neg (nI_ge (by omega) (by omega)), mul4, show nI (4 * g) + (1 : Int32) = nI (4 * g + 1) from nI_add _ 1, show nI (4 * g) + (2 : Int32) = nI (4 * g + 2) from nI_add _ 2, get_r b hj (show 4 * g < 40 by omega) (by omega), ob1_s, get_r b hj (show 4 * g + 1 < 40 by omega) (by omega), ob1_s, get_r b hj (show 4 * g + 2 < 40 by omega) (by omega), ob1_s, e1, e2, e3, onTheWayC hv hc ht hd (show p < 5 by omega), ob1_s, nI_or, nI_1]
    exact i1
theorem onTheWays1 {h : Nat → Nat → Nat} (hv : ChV h) {c b : CS} (hc : ChC c h) {j f : Nat} (hj : j < 6) (hf : f ≤ 10) (hs : b 6 j = nI (4 * f)) (ok : ∀ g, g < f → okf (h 0 0) (b j) g) : f_X1_onTheWays c b (nI j) = some (nI (ows h (b j) f &&& lv h)) := by
  unfold f_X1_onTheWays
  rw [sizeOf_r b hj, ob1_s, hs, div4 hf]
  exact onTheWays_14 hv hc hj hf hs ok f FU 0 (by omega) (FU_ge (by omega))
/-- what fits depends on errors on the ways -/
theorem fit_dep {h : Nat → Nat → Nat} (hv : ChV h) {b : Nat → Int32} {f x y : Nat} (ok : ∀ g, g < f → okf (h 0 0) b g) (e : ∀ i, (ows h b f).testBit i = true → x.testBit i = y.testBit i) : fit h b f x = fit h b f y := by
  have v0 : h 0 0 ≤ 5 := hv.1
  have one : ∀ g, g < f → asT h x b g = asT h y b g := by
    intro g hg
    obtain ⟨t, d, p, w, ht, hd, hp, hw, e1, e2, e3, e4⟩ := four_r v0 (ok g hg)
    unfold asT
    rw [dnI_dep hv (p := (b (4 * g + 2)).toNatClampNeg) (t := (b (4 * g)).toNatClampNeg) (d := (b (4 * g + 1)).toNatClampNeg) (a := x) (b := y) (show (b (4 * g + 1)).toNatClampNeg < 20 by rw [e2, nI_clamp (by omega)]; exact hd) (fun i hi ho => e i (ows_bit h b i g (by
      unfold owg ow
      rw [owf_bit]
      exact decide_eq_true ⟨hi, ho⟩) f hg))]
  unfold fit
  refine Bool.eq_iff_iff.mpr ?_
  rw [al_iff, al_iff]
  exact ⟨fun z g h1 h2 => by rw [← one g (by omega)]; exact z g h1 h2, fun z g h1 h2 => by rw [one g (by omega)]; exact z g h1 h2⟩
theorem fit_depL {h : Nat → Nat → Nat} (hv : ChV h) {b : Nat → Int32} {f : Nat} (ok : ∀ g, g < f → okf (h 0 0) b g) (x y : Nat) (hx : x &&& lv h = x) (hy : y &&& lv h = y) (e : x &&& (ows h b f &&& lv h) = y &&& (ows h b f &&& lv h)) : fit h b f x = fit h b f y := by
  refine fit_dep hv ok (fun i hi => ?_)
  have h1 : (x &&& (ows h b f &&& lv h)).testBit i = (y &&& (ows h b f &&& lv h)).testBit i := by rw [e]
  rw [Nat.testBit_and, Nat.testBit_and, Nat.testBit_and, Nat.testBit_and, hi, Bool.true_and] at h1
  cases hL : (lv h).testBit i
  · cases hxi : x.testBit i
    · cases hyi : y.testBit i
      · rfl
      · have := wi_bit.mp hy i hyi
        rw [hL] at this; exact absurd this (by decide)
    · have := wi_bit.mp hx i hxi
      rw [hL] at this; exact absurd this (by decide)
  · rw [hL, Bool.and_true, Bool.and_true] at h1
    exact h1
theorem jshl {m k : Nat} (hm : m ≤ 4096) (hk : k ≤ 12) : jshlL (lN m) (nI k) = lN (m * 2 ^ k) := by
  have h0 : ∀ k, k < 13 → ((nI k).toInt64 &&& 63) = lN k := by decide +kernel
  have h1 : ∀ k, k < 13 → (BitVec.ofNat 64 k).smod 64 = BitVec.ofNat 64 k := by decide +kernel
  unfold jshlL
  rw [h0 k (by omega), ← Int64.toBitVec_inj, Int64.toBitVec_shiftLeft]
  show BitVec.ofNat 64 m <<< (BitVec.ofNat 64 k).smod 64 = BitVec.ofNat 64 (m * 2 ^ k)
  rw [h1 k (by omega)]
  apply BitVec.eq_of_toNat_eq
  rw [BitVec.shiftLeft_eq', BitVec.toNat_shiftLeft, BitVec.toNat_ofNat, BitVec.toNat_ofNat, BitVec.toNat_ofNat, Nat.mod_eq_of_lt (show k < 2 ^ 64 by omega), Nat.shiftLeft_eq, Nat.mul_mod, Nat.mod_mod, ← Nat.mul_mod]
theorem lz {m : Nat} (hm : m ≤ 4096) : lg_cmp (lN m) 0 ≤ 0 ↔ m = 0 := by
  rw [cmp_le, pk_lT (by omega), show (0 : Int64).toInt = 0 from rfl]
  omega
theorem lz' {m : Nat} (hm : m ≤ 4096) : lg_cmp (lN m) 0 = 0 ↔ m = 0 := by
  rw [cmp_eq, show (0 : Int64) = lN 0 from rfl, pk_lEQ (by omega) (by omega)]
theorem add1 {o : CS} {j' : JS} {m e w s : Nat} {v : Int32} (hm : m ≤ 4096) (hv : v = -9 ↔ m = 0) (h0 : o 0 0 = v) (h1 : o 1 0 = nI e) (h2 : o 2 0 = nI w) (hj : j' 0 = lN m) :
    ∃ o1 j1, f_X1_add o j' (nI s) = some (o1, j1) ∧ o1 0 0 = (if v = -9 then nI s else v) ∧ o1 1 0 = nI (e &&& s) ∧ o1 2 0 = nI (w ||| s) ∧ j1 0 = lN (m + 1) := by
  unfold f_X1_add f_X1_add_18
  rw [hj, h0, h1, h2, nI_and, nI_or, lN_1]
  by_cases z : m = 0
  · rw [if_pos ((lz' hm).mpr z), if_pos (hv.mpr z)]
    exact ⟨_, _, rfl, rfl, rfl, rfl, rfl⟩
  · rw [if_neg (fun y => z ((lz' hm).mp y)), if_neg (fun y => z (hv.mp y))]
    exact ⟨_, _, rfl, rfl, rfl, rfl, rfl⟩
theorem find_38 {h : Nat → Nat → Nat} (hv : ChV h) {b : CS} {j f A : Nat} (hj : j < 6) (hf : f ≤ 10) (hs : b 6 j = nI (4 * f)) (ok : ∀ g, g < f → okf (h 0 0) (b j) g) (hA : A < 4096) :
    ∀ (n i m e w : Nat) (v : Int32) (o : CS) (j' : JS) (c : CS), i ≤ 2 ^ pc A → 2 ^ pc A - i < n → ChC c h → Ivt (fun k => fit h (b j) f (pdk 12 A k)) (pdk 12 A) (lv h) i m v e w → o 0 0 = v → o 1 0 = nI e → o 2 0 = nI w → j' 0 = lN m →
      ∃ (m' : Nat) (v' : Int32) (e' w' : Nat) (o' : CS) (j'' : JS) (c' : CS), f_X1_find_38 n (nI j) (nI A) (nI (pdk 12 A i)) (nI i) o j' c b = some (o', j'', c') ∧ (∀ q, q ≠ 13 → c' q = c q) ∧ Ivt (fun k => fit h (b j) f (pdk 12 A k)) (pdk 12 A) (lv h) (2 ^ pc A) m' v' e' w' ∧ o' 0 0 = v' ∧ o' 1 0 = nI e' ∧ (0 < m' → o' 2 0 = nI (w' ||| adf (lv h) A)) ∧ j'' 0 = lN (m' * 2 ^ pc (adf (lv h) A)) := by
  have hpA : 2 ^ pc A ≤ 4096 := pow12 (pc_le A)
  have hpl := pc_le A
  have hL := lvh_lt hv
  have hD : adf (lv h) A ≤ lv h := adf_le _ _
  have hsz : ∀ k, pdk 12 A k < 2 ^ 31 := fun k => by have := pdk_le 12 A k hA; omega
  intro n
  induction n with
  | zero => intro i m e w v o j' c h1 h2; exact absurd h2 (by omega)
  | succ n ih =>
    intro i m e w v o j' c h1 h2 hc H g0 g1 g2 g3
    have hm : m ≤ 4096 := Nat.le_trans H.m_le (by omega)
    have h9 := H.v9 (fun k _ => hsz k)
    rw [f_X1_find_38, bitCount0 A hA, ob1_s, one_shl (by omega)]
    by_cases hi : 2 ^ pc A ≤ i
    · have ei : i = 2 ^ pc A := by omega
      subst ei
      rw [if_pos (nI_le (Nat.le_refl _) (by omega)), unmended0 hv hc, ob1_s, nI_andn]
      unfold f_X1_addFree f_X1_addFree_32
      rw [g3]
      by_cases z : m = 0
      · rw [if_pos ((lz hm).mpr z), ob2_s]
        refine ⟨m, v, e, w, o, j', c, rfl, fun _ _ => rfl, H, g0, g1, fun y => absurd z (by omega), ?_⟩
        rw [g3, z, Nat.zero_mul]
      · rw [if_neg (fun y => z ((lz hm).mp y)), bitCount0 _ (show adf (lv h) A < 4096 by omega), ob1_s, ob2_s, jshl hm (pc_le _), g2, nI_or]
        exact ⟨m, v, e, w, _, _, c, rfl, fun _ _ => rfl, H, g0, g1, fun _ => rfl, rfl⟩
    · obtain ⟨c1, k1, k2⟩ := isAll1 (o := o) hv j' hj hf hs ok (hsz i) hc
      rw [if_neg (nI_ge (by omega) (by omega)), k1, ob2_s, if_bI]
      unfold f_X1_find_68
      by_cases z : fit h (b j) f (pdk 12 A i) = true
      · obtain ⟨o1, j1, a0, a1, a2, a3, a4⟩ := add1 (s := pdk 12 A i) hm h9 g0 g1 g2 g3
        rw [if_pos z, a0, ob2_s, nextSet0 hA, ob1_s, nI_1]
        obtain ⟨m', v', e', w', o', j'', c', r1, r2, r3⟩ := ih (i + 1) (m + 1) (e &&& pdk 12 A i) (w ||| pdk 12 A i) _ o1 j1 c1 (by omega) (by omega) (hc.fr k2) (H.yes z (fun k _ => hsz k)) a1 a2 a3 a4
        exact ⟨m', v', e', w', o', j'', c', r1, fun q hq => (r2 q hq).trans (k2 q hq), r3⟩
      · rw [if_neg z, nextSet0 hA, ob1_s, nI_1]
        obtain ⟨m', v', e', w', o', j'', c', r1, r2, r3⟩ := ih (i + 1) m e w v o j' c1 (by omega) (by omega) (hc.fr k2) (H.no ((Bool.not_eq_true _).mp z)) g0 g1 g2 g3
        exact ⟨m', v', e', w', o', j'', c', r1, fun q hq => (r2 q hq).trans (k2 q hq), r3⟩
theorem find1 {h : Nat → Nat → Nat} (hv : ChV h) {b o c : CS} (j' : JS) {j f : Nat} (hj : j < 6) (hf : f ≤ 10) (hs : b 6 j = nI (4 * f)) (ok : ∀ g, g < f → okf (h 0 0) (b j) g) (hc : ChC c h) {A : Nat} (eA : A = ows h (b j) f &&& lv h) :
    ∃ (m' : Nat) (v' : Int32) (e' w' : Nat) (o' : CS) (j'' : JS) (c' : CS), f_X1_find o j' c b (nI j) = some (o', j'', c') ∧ (∀ q, q ≠ 13 → c' q = c q) ∧ Ivt (fun k => fit h (b j) f (pdk 12 A k)) (pdk 12 A) (lv h) (2 ^ pc A) m' v' e' w' ∧ o' 0 0 = v' ∧ o' 1 0 = nI e' ∧ (0 < m' → o' 2 0 = nI (w' ||| adf (lv h) A)) ∧ j'' 0 = lN (m' * 2 ^ pc (adf (lv h) A)) := by
  have hL := lvh_lt hv
  have hA : A ≤ lv h := by rw [eA]; exact Nat.and_le_right
  have hpA : 2 ^ pc A ≤ 4096 := pow12 (pc_le A)
  unfold f_X1_find
  rw [unmended0 hv hc, ob1_s, onTheWays1 hv hc hj hf hs ok, ob1_s, ← eA]
  have := find_38 hv hj hf hs ok (show A < 4096 by omega) FU 0 0 (lv h) 0 (-9) (cset (cset (cset o 0 0 (-9 : Int32)) 1 0 (nI (lv h))) 2 0 (0 : Int32)) (jset j' 0 (0 : Int64)) c (Nat.zero_le _) (FU_ge (by omega)) hc (Ivt.start _ _ _) rfl rfl rfl rfl
  rw [pdk_0] at this
  exact this
