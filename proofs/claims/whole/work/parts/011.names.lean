def va_AOA (ty : FieldType) (U : State) : Prop := (Cond.arrayOver (.array ty)).before #[] U = true
theorem va_AOA.use {ty : FieldType} {A : Array Value} {U : State} (h : va_AOA ty U) : (Cond.arrayOver (.array ty)).before A U = true := h
/-! ===== BEGIN words of one list among another's, by their places ===== -/
theorem goodIn_r {big : List Cond} (ws : List Cond) (ps : List Nat) (hp : ws = ps.filterMap (fun i => big[i]?)) (h : ws.all goodWord = true) : GoodIn big ws := by
  intro w hw
  have h1 := List.all_eq_true.mp h w hw
  rw [hp] at hw
  obtain ⟨i, -, hi⟩ := List.mem_filterMap.mp hw
  have hm : w ∈ big := by first | exact List.mem_of_getElem? hi | exact List.getElem?_mem hi
  exact ⟨hm, good_of_word h1⟩
theorem goodIn_app {big a b : List Cond} (ha : GoodIn big a) (hb : GoodIn big b) : GoodIn big (a ++ b) := fun w h => (List.mem_append.mp h).elim (ha w) (hb w)
theorem goodIn_ca {big a b : List Cond} {c : Cond} (ha : GoodIn big (c :: a)) (hb : GoodIn big b) : GoodIn big (c :: (a ++ b)) := fun w h => (List.mem_cons.mp h).elim (fun e => ha w (List.mem_cons.mpr (Or.inl e))) (fun h => (List.mem_append.mp h).elim (fun h => ha w (List.mem_cons.mpr (Or.inr h))) (hb w))
theorem goodIn_sub {big ws : List Cond} (hm : ∀ w ∈ ws, w ∈ big) (h : ws.all goodWord = true) : GoodIn big ws := fun w hw => ⟨hm w hw, good_of_word (List.all_eq_true.mp h w hw)⟩
/-! ===== END ===== -/

/-! ===== BEGIN new T[n][m]: the outer array a place, the inner ones among the pooled ===== -/
/-- f, but v at every address of l -/
def vr_up {α : Type} (f : Nat → α) (l : List Nat) (v : α) : Nat → α := fun a => if a ∈ l then v else f a
theorem vr_up_in {α : Type} {f : Nat → α} {l : List Nat} {v : α} {a : Nat} (h : a ∈ l) : vr_up f l v a = v := if_pos h
theorem vr_up_ne {α : Type} {f : Nat → α} {l : List Nat} {v : α} {a : Nat} (h : a ∉ l) : vr_up f l v a = f a := if_neg h
theorem vr_rows {L l : List Nat} {f : Nat → va_E} {e : va_E} (h : ∀ a, a ∈ l → a ∉ L) : va_pl L f ++ l.map (fun a => (a, e)) = va_pl (L ++ l) (vr_up f l e) := by
  unfold va_pl
  rw [List.map_append]
  congr 1
  · apply List.map_congr_left
    intro a ha
    rw [vr_up_ne (fun q => h a q ha)]
  · apply List.map_congr_left
    intro a ha
    rw [vr_up_in ha]
theorem vr_lay {X rows : va_W} {x : Nat × va_E} {pl : va_W} {D : va_G} {cl : List vw_C} {H : Heap} (hP : va_P D cl (((X ++ pl) ++ [x]) ++ rows) H) : va_P D cl ((X ++ [x]) ++ (pl ++ rows)) H := by
  rw [List.append_assoc (X ++ pl)] at hP
  have h := va_P.swap hP
  rw [← List.append_assoc X] at h
  have h2 := va_P.swap h
  rw [List.append_assoc (X ++ [x])] at h2
  exact h2
theorem vr_layD {X rows : va_W} {x : Nat × va_E} {pl : va_W} {A : Nat → Prop} (hD : va_D A (((X ++ pl) ++ [x]) ++ rows)) : va_D A ((X ++ [x]) ++ (pl ++ rows)) := by
  rw [List.append_assoc (X ++ pl)] at hD
  have h := va_D.swap hD
  rw [← List.append_assoc X] at h
  have h2 := va_D.swap h
  rw [List.append_assoc (X ++ [x])] at h2
  exact h2
theorem vr_outer (c : ClassId) (N h0 : Nat) : ∀ i : Nat, Jvm.Free.Multi.outerC c N h0 i = arrV c N (fun j => va_rf (if j < i then some (h0 + 1 + j) else none))
  | 0 => by
    show ({ cls := c, slots := Array.replicate N .null, vm := .none } : Cell) = _
    rw [arrV_new]
    refine congrArg (arrV c N) (funext fun j => ?_)
    simp [va_rf]
  | i + 1 => by
    show (Jvm.Free.Multi.outerC c N h0 i).setSlot i (.ref (h0 + 1 + i)) = _
    rw [vr_outer c N h0 i, arrV_store]
    refine congrArg (arrV c N) (funext fun j => ?_)
    by_cases e : j = i
    · subst e
      simp [updV, va_rf]
    · by_cases h : j < i
      · simp [updV, e, h, Nat.lt_succ_of_lt h]
      · simp [updV, e, h, show ¬ j < i + 1 by omega]
section VGM
variable {p : Program} {l : Launch} {e : Env} {R : Room} {s : State} {m : MethodId} {args : Array Value} {below : List Frame} {meth : Method} {c : Code} {H : Heap} {locs : List Loc} {cells slots : Nat} {Q : State → Prop}
variable {cc : ByteArray} {pc : Nat} {ls : Array Slot} {rest : List Value} {D : va_G} {cl : List vw_C} {A : Nat → Prop} {a : Nat} {tys : List (ClassId × FieldType)} {ws : va_W} {H0 : Heap}
theorem va_mna {X : va_W} {L : List Nat} {f : Nat → va_E} {cc : ByteArray} (hexec : p.tables.exec = Jvm.exec) (hb : c.code = cc) {own : String} {index : Nat} {ty : FieldType} {cy : ClassId} (hown : s.vm.findClass own = some m.cls) (hclink : (Cond.classLink own index ("[" ++ (FieldType.array ty).toString)).before args s = true) (hover : va_AOA ty s) (harr : (Cond.arrayClass ty).before args s = true) (hcy : s.vm.findClass (FieldType.array ty).toString = some cy)
    (hK : va_K D cl tys s) (hP : va_P D cl (X ++ va_pl L f) H) (hD : va_D A (X ++ va_pl L f)) (hS : va_S A H0 H locs) (hA : ∀ q, H0.size ≤ q → A q) {n k : Int32} {N' K' : Nat} {z : vp_A} (hn : ¬ n < 0) (hk : ¬ k < 0) (hN : n.toNatClampNeg = N') (hM : k.toNatClampNeg = K')
    (hb1 : N' * 4 ≤ 536870912) (hb2 : K' * componentBytes ty ≤ 536870912) (hb3 : K' ≤ 536870912) (hdf : fits ty (defaultValue ty) = true) (hdd : (defaultValue ty).isDefault = true) (hcells : cells + (1 + N') ≤ R.cells) (hslots : slots + (N' + N' * K') ≤ R.slots) (hz : ∀ c : ClassId, Jvm.Free.Multi.innerC c K' (defaultValue ty) = vp_cell c z) (hdg : decode cc pc = .ok (.multianewarray index 2, 4))
    (kk : ∀ (q : Nat) (r : Nat → Nat) (cA : ClassId) (H1 : Heap), (∀ i j : Nat, i < N' → j < N' → r i = r j → i = j) → (∀ i : Nat, i < N' → r i ∉ L) → va_K D cl (tys ++ [(cA, .array ty)]) s →
      va_P D cl ((X ++ [(q, .inl (cA, N', .inr (.inr (.inr (.inr (fun i => if i < N' then some (r i) else none))))))]) ++ va_pl (L ++ (List.range N').map r) (vr_up f ((List.range N').map r) (.inl (cy, z)))) H1 → va_D A ((X ++ [(q, .inl (cA, N', .inr (.inr (.inr (.inr (fun i => if i < N' then some (r i) else none))))))]) ++ va_pl (L ++ (List.range N').map r) (vr_up f ((List.range N').map r) (.inl (cy, z)))) → va_S A H0 H1 locs →
      W p l e R s m args below meth c H1 locs (cells + 1 + N') (slots + N' + N' * K') Q (F0 m (pc + 4) ls (.ref q :: rest))) : W p l e R s m args below meth c H locs cells slots Q (F0 m pc ls (.int k :: .int n :: rest)) := by
  subst hN
  subst hM
  intro T hT Xs
  obtain ⟨vm₁, cA, comp, -, fA, fC, hO, -, X', step⟩ := Xs.multianewarray2F hexec hown hclink (va_AOA.use hover) harr (g := F0 m pc ls (.int k :: .int n :: rest)) rfl (by rw [hb]; exact hdg) rfl hn hk hb1 hb2 hb3 hdf hdd hcells hslots
  have ec : some cy = some comp := hcy.symm.trans fC
  cases ec
  generalize hF : Jvm.Free.Multi.fill (T.setVm vm₁) cA cy n.toNatClampNeg k.toNatClampNeg (defaultValue ty) n.toNatClampNeg = F at X' step
  have hTh : (T.setVm vm₁).heap = H := hT
  obtain ⟨f1, f2, -, -⟩ := Jvm.Free.Multi.fill_facts (T.setVm vm₁) cA cy n.toNatClampNeg k.toNatClampNeg (defaultValue ty) n.toNatClampNeg
  rw [hF, hTh] at f1 f2
  have hold : ∀ x : Nat, x < H.size → F.heap[x]? = H[x]? := fun x hx => by
    have := Jvm.Free.Multi.fill_old (T.setVm vm₁) cA cy n.toNatClampNeg k.toNatClampNeg (defaultValue ty) (a := x) (by rw [hTh]; exact hx) n.toNatClampNeg
    rw [hF, hTh] at this
    exact this
  have hrow : ∀ j : Nat, j < n.toNatClampNeg → F.heap[H.size + 1 + j]? = some (vp_cell cy z) := fun j hj => by
    have := Jvm.Free.Multi.fill_inner (T.setVm vm₁) cA cy n.toNatClampNeg k.toNatClampNeg (defaultValue ty) n.toNatClampNeg j hj
    rw [hF, hTh, hz] at this
    exact this
  have hout : Jvm.Free.Multi.outerC cA n.toNatClampNeg H.size n.toNatClampNeg = vp_cell cA (n.toNatClampNeg, .inr (.inr (.inr (.inr (fun i => if i < n.toNatClampNeg then some (H.size + 1 + i) else none))))) := by
    rw [vp_cell_q]
    exact vr_outer cA n.toNatClampNeg H.size n.toNatClampNeg
  rw [hout] at f2
  have hlt : ∀ a, a ∈ L → a < H.size := fun a ha => by
    obtain ⟨k9, hk9⟩ := va_pl_get (X := X) (f := f) ha
    exact (hP k9 _ hk9).lt
  have hnl : ∀ i : Nat, i < n.toNatClampNeg → H.size + 1 + i ∉ L := fun i _ h => by
    have := hlt _ h
    omega
  have hnm : ∀ a, a ∈ (List.range n.toNatClampNeg).map (fun i => H.size + 1 + i) → a ∉ L := fun a ha h => by
    obtain ⟨i, -, rfl⟩ := List.mem_map.mp ha
    have := hlt _ h
    omega
  have hP0 : va_P D cl (X ++ va_pl L f) F.heap := hP.kept (fun k9 x hx => hold x.1 ((hP k9 x hx).lt))
  have hP1 : va_P D cl ((X ++ va_pl L f) ++ [(H.size, .inl (cA, n.toNatClampNeg, .inr (.inr (.inr (.inr (fun i => if i < n.toNatClampNeg then some (H.size + 1 + i) else none))))))]) F.heap := hP0.app (fun k9 x hx => by
    have h0 : k9 < 1 := (List.getElem?_eq_some_iff.mp hx).1
    rw [show k9 = 0 by omega] at hx
    cases hx
    exact f2)
  have hP2 : va_P D cl (((X ++ va_pl L f) ++ [(H.size, .inl (cA, n.toNatClampNeg, .inr (.inr (.inr (.inr (fun i => if i < n.toNatClampNeg then some (H.size + 1 + i) else none))))))]) ++ ((List.range n.toNatClampNeg).map (fun i => H.size + 1 + i)).map (fun a => (a, .inl (cy, z)))) F.heap := hP1.app (fun k9 x hx => by
    obtain ⟨a, ha, rfl⟩ := List.mem_map.mp (List.mem_of_getElem? hx)
    obtain ⟨i, hi, rfl⟩ := List.mem_map.mp ha
    exact hrow i (List.mem_range.mp hi))
  have hD2 : va_D A (((X ++ va_pl L f) ++ [(H.size, .inl (cA, n.toNatClampNeg, .inr (.inr (.inr (.inr (fun i => if i < n.toNatClampNeg then some (H.size + 1 + i) else none))))))]) ++ ((List.range n.toNatClampNeg).map (fun i => H.size + 1 + i)).map (fun a => (a, .inl (cy, z)))) := by
    have hD1 := hD.push (e := .inl (cA, n.toNatClampNeg, .inr (.inr (.inr (.inr (fun i => if i < n.toNatClampNeg then some (H.size + 1 + i) else none)))))) hP rfl (hA _ hS.1)
    generalize hW1 : (X ++ va_pl L f) ++ [(H.size, .inl (cA, n.toNatClampNeg, .inr (.inr (.inr (.inr (fun i => if i < n.toNatClampNeg then some (H.size + 1 + i) else none))))))] = W1 at hD1 hP1 ⊢
    have hle : ∀ (k9 : Nat) (x : Nat × va_E), W1[k9]? = some x → x.1 ≤ H.size := fun k9 x hx => by
      rw [← hW1] at hx
      by_cases hl : k9 < (X ++ va_pl L f).length
      · rw [List.getElem?_append_left hl] at hx
        exact Nat.le_of_lt ((hP k9 x hx).lt)
      · rw [List.getElem?_append_right (by omega)] at hx
        have h0 : k9 - (X ++ va_pl L f).length < 1 := (List.getElem?_eq_some_iff.mp hx).1
        rw [show k9 - (X ++ va_pl L f).length = 0 by omega] at hx
        cases hx
        exact Nat.le_refl _
    have hr : ∀ (k9 : Nat) (x : Nat × va_E), (((List.range n.toNatClampNeg).map (fun i => H.size + 1 + i)).map (fun a => ((a, .inl (cy, z)) : Nat × va_E)))[k9]? = some x → x.1 = H.size + 1 + k9 := fun k9 x hx => by
      rw [List.getElem?_map, List.getElem?_map] at hx
      by_cases h9 : k9 < n.toNatClampNeg
      · rw [List.getElem?_range h9] at hx
        cases hx
        rfl
      · have hn0 : (List.range n.toNatClampNeg)[k9]? = none := List.getElem?_eq_none (by rw [List.length_range]; omega)
        rw [hn0] at hx
        cases hx
    refine ⟨fun i j x y hi hj hxy => ?_, fun k9 x hx => ?_⟩
    · by_cases h1 : i < W1.length <;> by_cases h2 : j < W1.length
      · rw [List.getElem?_append_left h1] at hi
        rw [List.getElem?_append_left h2] at hj
        exact hD1.1 i j x y hi hj hxy
      · rw [List.getElem?_append_left h1] at hi
        rw [List.getElem?_append_right (by omega)] at hj
        have := hle _ _ hi
        have := hr _ _ hj
        omega
      · rw [List.getElem?_append_right (by omega)] at hi
        rw [List.getElem?_append_left h2] at hj
        have := hle _ _ hj
        have := hr _ _ hi
        omega
      · rw [List.getElem?_append_right (by omega)] at hi hj
        have := hr _ _ hi
        have := hr _ _ hj
        omega
    · by_cases h1 : k9 < W1.length
      · rw [List.getElem?_append_left h1] at hx
        exact hD1.2 k9 x hx
      · rw [List.getElem?_append_right (by omega)] at hx
        have := hr _ _ hx
        exact hA _ (by have := hS.1; omega)
  have hAr : ArrOfT s cA (.array ty) := fun N9 z9 => by
    obtain ⟨-, k9, hk9, cm9, hkk9⟩ := (hO 0 0 0).1
    exact ⟨(fun q hq => by cases hq), k9, hk9, cm9, hkk9⟩
  have hK2 : va_K D cl (tys ++ [(cA, .array ty)]) s := ⟨hK.1, fun k9 x hx => by
    by_cases hl : k9 < tys.length
    · rw [List.getElem?_append_left hl] at hx
      exact hK.2 k9 x hx
    · rw [List.getElem?_append_right (by omega)] at hx
      have h0 : k9 - tys.length < 1 := (List.getElem?_eq_some_iff.mp hx).1
      rw [show k9 - tys.length = 0 by omega] at hx
      cases hx
      exact ⟨hAr, fA⟩⟩
  obtain ⟨t, a1, b1⟩ := kk H.size (fun i => H.size + 1 + i) cA F.heap (fun i j _ _ h => by have h9 : H.size + 1 + i = H.size + 1 + j := h; omega) hnl hK2 (by rw [← vr_rows hnm]; exact vr_lay hP2) (by rw [← vr_rows hnm]; exact vr_layD hD2) ⟨by rw [f1]; have := hS.1; omega, fun x h1 h2 => (hold x (Nat.lt_of_lt_of_le h1 hS.1)).trans (hS.2.1 x h1 h2), hS.2.2⟩ F rfl X'
  refine ⟨t, step t ?_, b1⟩
  have e : T.heap.size = H.size := by rw [hT]
  rw [e]
  exact a1
end VGM
/-! ===== END ===== -/

/-! ===== BEGIN printed: names, fields, word lists, decode rows ===== -/
def RX0 : String := "TownRepeated$Chain"
def TX0 : u_T := fun k => match k with
  | 0 => ("TownRepeated$Chain", "persons", "I", false)
  | 1 => ("TownRepeated$Chain", "errors", "I", false)
  | 2 => ("TownRepeated$Chain", "mended", "I", false)
  | 3 => ("TownRepeated$Chain", "today", "I", false)
  | 4 => ("TownRepeated$Chain", "turns", "I", false)
  | 5 => ("TownRepeated$Chain", "kind", "[I", true)
  | 6 => ("TownRepeated$Chain", "firstDeed", "[I", true)
  | 7 => ("TownRepeated$Chain", "stride", "[I", true)
  | 8 => ("TownRepeated$Chain", "errorTown", "[I", true)
  | 9 => ("TownRepeated$Chain", "errorDay", "[I", true)
  | 10 => ("TownRepeated$Chain", "errorPerson", "[I", true)
  | 11 => ("TownRepeated$Chain", "errorBy", "[I", true)
  | 12 => ("TownRepeated$Chain", "turn", "[I", true)
  | _ => ("TownRepeated$Chain", "more", "[I", true)
def tyX0 : Nat → FieldType := fun k => match k with
  | 0 => .int
  | 1 => .int
  | 2 => .int
  | 3 => .int
  | 4 => .int
  | 5 => .array .int
  | 6 => .array .int
  | 7 => .array .int
  | 8 => .array .int
  | 9 => .array .int
  | 10 => .array .int
  | 11 => .array .int
  | 12 => .array .int
  | _ => .array .int
abbrev wsX00 : List Cond := u_ws RX0 TX0 14
theorem nmX0 : ∀ a, a < 14 → ∀ b, b < 14 → a ≠ b → (TX0 a).2.1 ≠ (TX0 b).2.1 := by decide +kernel
theorem tyX0_ok : ∀ k, k < 14 → parseFieldDescriptor (TX0 k).2.2.1 = some (tyX0 k) := by decide +kernel
abbrev cX0_init : ByteArray := prog_2_method_1_code
def yX0_init : MethodName := ⟨RX0, "<init>", "()V"⟩
abbrev cX0_clear : ByteArray := prog_2_method_2_code
def yX0_clear : MethodName := ⟨RX0, "clear", "()V"⟩
abbrev cX0_takeFrom : ByteArray := prog_2_method_3_code
def yX0_takeFrom : MethodName := ⟨RX0, "takeFrom", "(LTownRepeated$Chain;)V"⟩
abbrev cX0_isPerson : ByteArray := prog_2_method_4_code
def yX0_isPerson : MethodName := ⟨RX0, "isPerson", "(I)Z"⟩
abbrev cX0_isError : ByteArray := prog_2_method_5_code
def yX0_isError : MethodName := ⟨RX0, "isError", "(I)Z"⟩
abbrev cX0_isMended : ByteArray := prog_2_method_6_code
def yX0_isMended : MethodName := ⟨RX0, "isMended", "(I)Z"⟩
abbrev cX0_isOfKind : ByteArray := prog_2_method_7_code
def yX0_isOfKind : MethodName := ⟨RX0, "isOfKind", "(II)Z"⟩
abbrev cX0_isAlso : ByteArray := prog_2_method_8_code
def yX0_isAlso : MethodName := ⟨RX0, "isAlso", "(II)Z"⟩
abbrev cX0_hasErrorsLeft : ByteArray := prog_2_method_9_code
def yX0_hasErrorsLeft : MethodName := ⟨RX0, "hasErrorsLeft", "(I)Z"⟩
abbrev cX0_hasTurnsLeft : ByteArray := prog_2_method_10_code
def yX0_hasTurnsLeft : MethodName := ⟨RX0, "hasTurnsLeft", "(I)Z"⟩
abbrev cX0_unmended : ByteArray := prog_2_method_11_code
def yX0_unmended : MethodName := ⟨RX0, "unmended", "()I"⟩
abbrev cX0_drifters : ByteArray := prog_2_method_12_code
def yX0_drifters : MethodName := ⟨RX0, "drifters", "()I"⟩
abbrev cX0_personTrait : ByteArray := prog_2_method_13_code
def yX0_personTrait : MethodName := ⟨RX0, "personTrait", "(II)I"⟩
abbrev cX0_errorTrait : ByteArray := prog_2_method_14_code
def yX0_errorTrait : MethodName := ⟨RX0, "errorTrait", "(II)I"⟩
abbrev cX0_digestOn : ByteArray := prog_2_method_15_code
def yX0_digestOn : MethodName := ⟨RX0, "digestOn", "(J)J"⟩
abbrev cX0_addPerson : ByteArray := prog_2_method_16_code
def yX0_addPerson : MethodName := ⟨RX0, "addPerson", "(III)V"⟩
abbrev cX0_addError : ByteArray := prog_2_method_17_code
def yX0_addError : MethodName := ⟨RX0, "addError", "(IIII)V"⟩
abbrev cX0_turnMended : ByteArray := prog_2_method_18_code
def yX0_turnMended : MethodName := ⟨RX0, "turnMended", "(I)V"⟩
abbrev cX0_turnErred : ByteArray := prog_2_method_19_code
def yX0_turnErred : MethodName := ⟨RX0, "turnErred", "(IIII)V"⟩
abbrev cX0_turnDay : ByteArray := prog_2_method_20_code
def yX0_turnDay : MethodName := ⟨RX0, "turnDay", "()V"⟩
abbrev cX0_addTurn : ByteArray := prog_2_method_21_code
def yX0_addTurn : MethodName := ⟨RX0, "addTurn", "(I)V"⟩
abbrev cX0_turnBack : ByteArray := prog_2_method_22_code
def yX0_turnBack : MethodName := ⟨RX0, "turnBack", "()V"⟩
abbrev cX0_done : ByteArray := prog_2_method_23_code
def yX0_done : MethodName := ⟨RX0, "done", "(III)I"⟩
abbrev cX0_doneIf : ByteArray := prog_2_method_24_code
def yX0_doneIf : MethodName := ⟨RX0, "doneIf", "(IIII)I"⟩
abbrev cX0_doneIfWarned : ByteArray := prog_2_method_25_code
def yX0_doneIfWarned : MethodName := ⟨RX0, "doneIfWarned", "(IIII)I"⟩
abbrev cX0_isReached : ByteArray := prog_2_method_26_code
def yX0_isReached : MethodName := ⟨RX0, "isReached", "(III)Z"⟩
abbrev cX0_gather : ByteArray := prog_2_method_27_code
def yX0_gather : MethodName := ⟨RX0, "gather", "(IIII)V"⟩
abbrev cX0_meets : ByteArray := prog_2_method_28_code
def yX0_meets : MethodName := ⟨RX0, "meets", "(IIII)I"⟩
abbrev cX0_onTheWay : ByteArray := prog_2_method_29_code
def yX0_onTheWay : MethodName := ⟨RX0, "onTheWay", "(III)I"⟩
abbrev cX0_arrive : ByteArray := prog_2_method_30_code
def yX0_arrive : MethodName := ⟨RX0, "arrive", "(III)I"⟩
abbrev cX0_repeated : ByteArray := prog_2_method_31_code
def yX0_repeated : MethodName := ⟨RX0, "repeated", "(III)I"⟩
abbrev cX0_differs : ByteArray := prog_2_method_32_code
def yX0_differs : MethodName := ⟨RX0, "differs", "(IIIII)Z"⟩
abbrev cX0_differing : ByteArray := prog_2_method_33_code
def yX0_differing : MethodName := ⟨RX0, "differing", "(III)I"⟩
abbrev cX0_fewestMended : ByteArray := prog_2_method_34_code
def yX0_fewestMended : MethodName := ⟨RX0, "fewestMended", "(IIII)I"⟩
abbrev cX0_drifted : ByteArray := prog_2_method_35_code
def yX0_drifted : MethodName := ⟨RX0, "drifted", "(I)I"⟩
abbrev cX0_idleDays : ByteArray := prog_2_method_36_code
def yX0_idleDays : MethodName := ⟨RX0, "idleDays", "(I)I"⟩
abbrev cX0_likeTowns : ByteArray := prog_2_method_37_code
def yX0_likeTowns : MethodName := ⟨RX0, "likeTowns", "(I)I"⟩
abbrev cX0_othersAlike : ByteArray := prog_2_method_38_code
def yX0_othersAlike : MethodName := ⟨RX0, "othersAlike", "(I)I"⟩
abbrev cX0_noughtDays : ByteArray := prog_2_method_39_code
def yX0_noughtDays : MethodName := ⟨RX0, "noughtDays", "(I)I"⟩
def RX1 : String := "TownRepeated$Fitting"
def TX1 : u_T := fun k => match k with
  | 0 => ("TownRepeated$Fitting", "many", "J", false)
  | 1 => ("TownRepeated$Fitting", "first", "I", false)
  | 2 => ("TownRepeated$Fitting", "inEach", "I", false)
  | _ => ("TownRepeated$Fitting", "inSome", "I", false)
def tyX1 : Nat → FieldType := fun k => match k with
  | 0 => .long
  | 1 => .int
  | 2 => .int
  | _ => .int
abbrev wsX10 : List Cond := u_ws RX1 TX1 4
theorem nmX1 : ∀ a, a < 4 → ∀ b, b < 4 → a ≠ b → (TX1 a).2.1 ≠ (TX1 b).2.1 := by decide +kernel
theorem tyX1_ok : ∀ k, k < 4 → parseFieldDescriptor (TX1 k).2.2.1 = some (tyX1 k) := by decide +kernel
abbrev cX1_init : ByteArray := prog_3_method_1_code
def yX1_init : MethodName := ⟨RX1, "<init>", "()V"⟩
abbrev cX1_find : ByteArray := prog_3_method_2_code
def yX1_find : MethodName := ⟨RX1, "find", "(LTownRepeated$Chain;LTownRepeated$Shelf;I)V"⟩
abbrev cX1_add : ByteArray := prog_3_method_3_code
def yX1_add : MethodName := ⟨RX1, "add", "(I)V"⟩
abbrev cX1_addFree : ByteArray := prog_3_method_4_code
def yX1_addFree : MethodName := ⟨RX1, "addFree", "(I)V"⟩
abbrev cX1_onTheWays : ByteArray := prog_3_method_5_code
def yX1_onTheWays : MethodName := ⟨RX1, "onTheWays", "(LTownRepeated$Chain;LTownRepeated$Shelf;I)I"⟩
abbrev cX1_isAllAsTold : ByteArray := prog_3_method_6_code
def yX1_isAllAsTold : MethodName := ⟨RX1, "isAllAsTold", "(LTownRepeated$Chain;LTownRepeated$Shelf;II)Z"⟩
abbrev cX1_isAsTold : ByteArray := prog_3_method_7_code
def yX1_isAsTold : MethodName := ⟨RX1, "isAsTold", "(LTownRepeated$Chain;LTownRepeated$Shelf;III)Z"⟩
def RX2 : String := "TownRepeated$Reader"
def TX2 : u_T := fun k => match k with
  | _ => ("TownRepeated$Reader", "draft", "LTownRepeated$Chain;", true)
def tyX2 : Nat → FieldType := fun k => match k with
  | _ => .object "TownRepeated$Chain"
abbrev wsX20 : List Cond := u_ws RX2 TX2 1
theorem nmX2 : ∀ a, a < 1 → ∀ b, b < 1 → a ≠ b → (TX2 a).2.1 ≠ (TX2 b).2.1 := by decide +kernel
theorem tyX2_ok : ∀ k, k < 1 → parseFieldDescriptor (TX2 k).2.2.1 = some (tyX2 k) := by decide +kernel
abbrev cX2_init : ByteArray := prog_4_method_1_code
def yX2_init : MethodName := ⟨RX2, "<init>", "()V"⟩
abbrev cX2_read : ByteArray := prog_4_method_2_code
def yX2_read : MethodName := ⟨RX2, "read", "(LTownRepeated$Shelf;I)I"⟩
abbrev cX2_readPerson : ByteArray := prog_4_method_3_code
def yX2_readPerson : MethodName := ⟨RX2, "readPerson", "(LTownRepeated$Shelf;II)I"⟩
abbrev cX2_readError : ByteArray := prog_4_method_4_code
def yX2_readError : MethodName := ⟨RX2, "readError", "(LTownRepeated$Shelf;II)I"⟩
abbrev cX2_kindOf : ByteArray := prog_4_method_5_code
def yX2_kindOf : MethodName := ⟨RX2, "kindOf", "(I)I"⟩
abbrev cX2_figure : ByteArray := prog_4_method_6_code
def yX2_figure : MethodName := ⟨RX2, "figure", "(LTownRepeated$Shelf;IIII)I"⟩
def RX3 : String := "TownRepeated$Shelf"
def TX3 : u_T := fun k => match k with
  | 0 => ("TownRepeated$Shelf", "places", "[[I", true)
  | 1 => ("TownRepeated$Shelf", "sizes", "[I", true)
  | _ => ("TownRepeated$Shelf", "most", "I", true)
def tyX3 : Nat → FieldType := fun k => match k with
  | 0 => .array (.array .int)
  | 1 => .array .int
  | _ => .int
abbrev wsX30 : List Cond := u_ws RX3 TX3 3
theorem nmX3 : ∀ a, a < 3 → ∀ b, b < 3 → a ≠ b → (TX3 a).2.1 ≠ (TX3 b).2.1 := by decide +kernel
theorem tyX3_ok : ∀ k, k < 3 → parseFieldDescriptor (TX3 k).2.2.1 = some (tyX3 k) := by decide +kernel
abbrev cX3_init : ByteArray := prog_5_method_1_code
def yX3_init : MethodName := ⟨RX3, "<init>", "(II)V"⟩
abbrev cX3_isNumber : ByteArray := prog_5_method_2_code
def yX3_isNumber : MethodName := ⟨RX3, "isNumber", "(I)Z"⟩
abbrev cX3_isThere : ByteArray := prog_5_method_3_code
def yX3_isThere : MethodName := ⟨RX3, "isThere", "(I)Z"⟩
abbrev cX3_sizeOf : ByteArray := prog_5_method_4_code
def yX3_sizeOf : MethodName := ⟨RX3, "sizeOf", "(I)I"⟩
abbrev cX3_holds : ByteArray := prog_5_method_5_code
def yX3_holds : MethodName := ⟨RX3, "holds", "(II)Z"⟩
abbrev cX3_holdsRun : ByteArray := prog_5_method_6_code
def yX3_holdsRun : MethodName := ⟨RX3, "holdsRun", "(III)Z"⟩
abbrev cX3_get : ByteArray := prog_5_method_7_code
def yX3_get : MethodName := ⟨RX3, "get", "(II)I"⟩
abbrev cX3_set : ByteArray := prog_5_method_8_code
def yX3_set : MethodName := ⟨RX3, "set", "(III)V"⟩
abbrev cX3_make : ByteArray := prog_5_method_9_code
def yX3_make : MethodName := ⟨RX3, "make", "(III)V"⟩
abbrev cX3_remove : ByteArray := prog_5_method_10_code
def yX3_remove : MethodName := ⟨RX3, "remove", "(I)V"⟩
abbrev cX3_copyRun : ByteArray := prog_5_method_11_code
def yX3_copyRun : MethodName := ⟨RX3, "copyRun", "(IIIII)V"⟩
abbrev cX3_howManyThere : ByteArray := prog_5_method_12_code
def yX3_howManyThere : MethodName := ⟨RX3, "howManyThere", "()I"⟩
abbrev cX3_digestOn : ByteArray := prog_5_method_13_code
def yX3_digestOn : MethodName := ⟨RX3, "digestOn", "(J)J"⟩
def RX4 : String := "TownRepeated$Told"
def TX4 : u_T := fun k => match k with
  | 0 => ("TownRepeated$Told", "asked", "I", false)
  | 1 => ("TownRepeated$Told", "upper", "J", false)
  | 2 => ("TownRepeated$Told", "lower", "J", false)
  | 3 => ("TownRepeated$Told", "latest", "I", false)
  | _ => ("TownRepeated$Told", "often", "[I", true)
def tyX4 : Nat → FieldType := fun k => match k with
  | 0 => .int
  | 1 => .long
  | 2 => .long
  | 3 => .int
  | _ => .array .int
abbrev wsX40 : List Cond := u_ws RX4 TX4 5
theorem nmX4 : ∀ a, a < 5 → ∀ b, b < 5 → a ≠ b → (TX4 a).2.1 ≠ (TX4 b).2.1 := by decide +kernel
theorem tyX4_ok : ∀ k, k < 5 → parseFieldDescriptor (TX4 k).2.2.1 = some (tyX4 k) := by decide +kernel
abbrev cX4_init : ByteArray := prog_6_method_1_code
def yX4_init : MethodName := ⟨RX4, "<init>", "()V"⟩
abbrev cX4_found : ByteArray := prog_6_method_2_code
def yX4_found : MethodName := ⟨RX4, "found", "(I)I"⟩
abbrev cX4_tell : ByteArray := prog_6_method_3_code
def yX4_tell : MethodName := ⟨RX4, "tell", "(JJ)V"⟩
abbrev cX4_greatestShared : ByteArray := prog_6_method_4_code
def yX4_greatestShared : MethodName := ⟨RX4, "greatestShared", "(JJ)J"⟩
def RX5 : String := "TownRepeated"
def TX5 : u_T := fun k => match k with
  | 0 => ("TownRepeated", "rows", "LTownRepeated$Shelf;", true)
  | 1 => ("TownRepeated", "texts", "LTownRepeated$Shelf;", true)
  | 2 => ("TownRepeated", "told", "LTownRepeated$Told;", true)
  | 3 => ("TownRepeated", "reader", "LTownRepeated$Reader;", true)
  | 4 => ("TownRepeated", "fitting", "LTownRepeated$Fitting;", true)
  | 5 => ("TownRepeated", "now", "LTownRepeated$Chain;", true)
  | 6 => ("TownRepeated", "kept", "[LTownRepeated$Chain;", true)
  | _ => ("TownRepeated", "sentAt", "[I", true)
def tyX5 : Nat → FieldType := fun k => match k with
  | 0 => .object "TownRepeated$Shelf"
  | 1 => .object "TownRepeated$Shelf"
  | 2 => .object "TownRepeated$Told"
  | 3 => .object "TownRepeated$Reader"
  | 4 => .object "TownRepeated$Fitting"
  | 5 => .object "TownRepeated$Chain"
  | 6 => .array (.object "TownRepeated$Chain")
  | _ => .array .int
abbrev wsX50 : List Cond := u_ws RX5 TX5 8
theorem nmX5 : ∀ a, a < 8 → ∀ b, b < 8 → a ≠ b → (TX5 a).2.1 ≠ (TX5 b).2.1 := by decide +kernel
theorem tyX5_ok : ∀ k, k < 8 → parseFieldDescriptor (TX5 k).2.2.1 = some (tyX5 k) := by decide +kernel
abbrev cX5_init : ByteArray := prog_1_method_1_code
def yX5_init : MethodName := ⟨RX5, "<init>", "()V"⟩
abbrev cX5_row : ByteArray := prog_1_method_2_code
def yX5_row : MethodName := ⟨RX5, "row", "(II)I"⟩
abbrev cX5_lay : ByteArray := prog_1_method_3_code
def yX5_lay : MethodName := ⟨RX5, "lay", "(III)I"⟩
abbrev cX5_at : ByteArray := prog_1_method_4_code
def yX5_at : MethodName := ⟨RX5, "at", "(II)I"⟩
abbrev cX5_tear : ByteArray := prog_1_method_5_code
def yX5_tear : MethodName := ⟨RX5, "tear", "(I)I"⟩
abbrev cX5_copy : ByteArray := prog_1_method_6_code
def yX5_copy : MethodName := ⟨RX5, "copy", "(IIIII)I"⟩
abbrev cX5_mean : ByteArray := prog_1_method_7_code
def yX5_mean : MethodName := ⟨RX5, "mean", "(I)I"⟩
abbrev cX5_text : ByteArray := prog_1_method_8_code
def yX5_text : MethodName := ⟨RX5, "text", "(II)I"⟩
abbrev cX5_put : ByteArray := prog_1_method_9_code
def yX5_put : MethodName := ⟨RX5, "put", "(III)I"⟩
abbrev cX5_fault : ByteArray := prog_1_method_10_code
def yX5_fault : MethodName := ⟨RX5, "fault", "(I)I"⟩
abbrev cX5_chain : ByteArray := prog_1_method_11_code
def yX5_chain : MethodName := ⟨RX5, "chain", "(I)I"⟩
abbrev cX5_person : ByteArray := prog_1_method_12_code
def yX5_person : MethodName := ⟨RX5, "person", "(II)I"⟩
abbrev cX5_error : ByteArray := prog_1_method_13_code
def yX5_error : MethodName := ⟨RX5, "error", "(II)I"⟩
abbrev cX5_mark : ByteArray := prog_1_method_14_code
def yX5_mark : MethodName := ⟨RX5, "mark", "(II)I"⟩
abbrev cX5_stride : ByteArray := prog_1_method_15_code
def yX5_stride : MethodName := ⟨RX5, "stride", "(II)I"⟩
abbrev cX5_mend : ByteArray := prog_1_method_16_code
def yX5_mend : MethodName := ⟨RX5, "mend", "(II)I"⟩
abbrev cX5_err : ByteArray := prog_1_method_17_code
def yX5_err : MethodName := ⟨RX5, "err", "(II)I"⟩
abbrev cX5_day : ByteArray := prog_1_method_18_code
def yX5_day : MethodName := ⟨RX5, "day", "()I"⟩
abbrev cX5_undo : ByteArray := prog_1_method_19_code
def yX5_undo : MethodName := ⟨RX5, "undo", "(I)I"⟩
abbrev cX5_keep : ByteArray := prog_1_method_20_code
def yX5_keep : MethodName := ⟨RX5, "keep", "(I)I"⟩
abbrev cX5_on : ByteArray := prog_1_method_21_code
def yX5_on : MethodName := ⟨RX5, "on", "(I)I"⟩
abbrev cX5_does : ByteArray := prog_1_method_22_code
def yX5_does : MethodName := ⟨RX5, "does", "(III)I"⟩
abbrev cX5_differ : ByteArray := prog_1_method_23_code
def yX5_differ : MethodName := ⟨RX5, "differ", "(III)I"⟩
abbrev cX5_since : ByteArray := prog_1_method_24_code
def yX5_since : MethodName := ⟨RX5, "since", "(III)I"⟩
abbrev cX5_worst : ByteArray := prog_1_method_25_code
def yX5_worst : MethodName := ⟨RX5, "worst", "(I)I"⟩
abbrev cX5_source : ByteArray := prog_1_method_26_code
def yX5_source : MethodName := ⟨RX5, "source", "(III)I"⟩
abbrev cX5_together : ByteArray := prog_1_method_27_code
def yX5_together : MethodName := ⟨RX5, "together", "(III)I"⟩
abbrev cX5_warn : ByteArray := prog_1_method_28_code
def yX5_warn : MethodName := ⟨RX5, "warn", "(IIII)I"⟩
abbrev cX5_agree : ByteArray := prog_1_method_29_code
def yX5_agree : MethodName := ⟨RX5, "agree", "(III)I"⟩
abbrev cX5_next : ByteArray := prog_1_method_30_code
def yX5_next : MethodName := ⟨RX5, "next", "(IIII)I"⟩
abbrev cX5_letter : ByteArray := prog_1_method_31_code
def yX5_letter : MethodName := ⟨RX5, "letter", "(III)I"⟩
abbrev cX5_fits : ByteArray := prog_1_method_32_code
def yX5_fits : MethodName := ⟨RX5, "fits", "(I)I"⟩
abbrev cX5_sure : ByteArray := prog_1_method_33_code
def yX5_sure : MethodName := ⟨RX5, "sure", "(I)I"⟩
abbrev cX5_lies : ByteArray := prog_1_method_34_code
def yX5_lies : MethodName := ⟨RX5, "lies", "(I)I"⟩
abbrev cX5_odds : ByteArray := prog_1_method_35_code
def yX5_odds : MethodName := ⟨RX5, "odds", "(IIIII)I"⟩
abbrev cX5_lots : ByteArray := prog_1_method_36_code
def yX5_lots : MethodName := ⟨RX5, "lots", "(II)I"⟩
abbrev cX5_asked : ByteArray := prog_1_method_37_code
def yX5_asked : MethodName := ⟨RX5, "asked", "()I"⟩
abbrev cX5_upper : ByteArray := prog_1_method_38_code
def yX5_upper : MethodName := ⟨RX5, "upper", "()J"⟩
abbrev cX5_lower : ByteArray := prog_1_method_39_code
def yX5_lower : MethodName := ⟨RX5, "lower", "()J"⟩
abbrev cX5_count : ByteArray := prog_1_method_40_code
def yX5_count : MethodName := ⟨RX5, "count", "(I)I"⟩
abbrev cX5_finding : ByteArray := prog_1_method_41_code
def yX5_finding : MethodName := ⟨RX5, "finding", "()I"⟩
abbrev cX5_findings : ByteArray := prog_1_method_42_code
def yX5_findings : MethodName := ⟨RX5, "findings", "(I)I"⟩
abbrev cX5_digest : ByteArray := prog_1_method_43_code
def yX5_digest : MethodName := ⟨RX5, "digest", "()J"⟩
abbrev cX5_howMany : ByteArray := prog_1_method_44_code
def yX5_howMany : MethodName := ⟨RX5, "howMany", "(I)I"⟩
abbrev cX5_keptChains : ByteArray := prog_1_method_45_code
def yX5_keptChains : MethodName := ⟨RX5, "keptChains", "()I"⟩
abbrev cX5_missingRefused : ByteArray := prog_1_method_46_code
def yX5_missingRefused : MethodName := ⟨RX5, "missingRefused", "(LTownRepeated$Shelf;I)I"⟩
abbrev cX5_placeRefused : ByteArray := prog_1_method_47_code
def yX5_placeRefused : MethodName := ⟨RX5, "placeRefused", "(LTownRepeated$Shelf;II)I"⟩
abbrev cX5_foursRefused : ByteArray := prog_1_method_48_code
def yX5_foursRefused : MethodName := ⟨RX5, "foursRefused", "(I)I"⟩
abbrev cX5_areFours : ByteArray := prog_1_method_49_code
def yX5_areFours : MethodName := ⟨RX5, "areFours", "(I)Z"⟩
abbrev cX5_isKept : ByteArray := prog_1_method_50_code
def yX5_isKept : MethodName := ⟨RX5, "isKept", "(I)Z"⟩
abbrev cX5_isPlace : ByteArray := prog_1_method_51_code
def yX5_isPlace : MethodName := ⟨RX5, "isPlace", "(I)Z"⟩
abbrev cX5_isTown : ByteArray := prog_1_method_52_code
def yX5_isTown : MethodName := ⟨RX5, "isTown", "(I)Z"⟩
abbrev cX5_isDay : ByteArray := prog_1_method_53_code
def yX5_isDay : MethodName := ⟨RX5, "isDay", "(I)Z"⟩
abbrev cX5_isDeed : ByteArray := prog_1_method_54_code
def yX5_isDeed : MethodName := ⟨RX5, "isDeed", "(I)Z"⟩
abbrev cX5_arePair : ByteArray := prog_1_method_55_code
def yX5_arePair : MethodName := ⟨RX5, "arePair", "(II)Z"⟩
abbrev cX5_nextSet : ByteArray := prog_1_method_56_code
def yX5_nextSet : MethodName := ⟨RX5, "nextSet", "(II)I"⟩
abbrev cX5_power : ByteArray := prog_1_method_57_code
def yX5_power : MethodName := ⟨RX5, "power", "(II)J"⟩
def RX6 : String := "TownRepeatedModel"
def TX6 : u_T := fun k => match k with
  | 0 => ("TownRepeatedModel", "rowSizes", "[I", true)
  | 1 => ("TownRepeatedModel", "rows", "[I", true)
  | 2 => ("TownRepeatedModel", "textSizes", "[I", true)
  | 3 => ("TownRepeatedModel", "texts", "[I", true)
  | 4 => ("TownRepeatedModel", "now", "[I", true)
  | 5 => ("TownRepeatedModel", "keeps", "[I", true)
  | 6 => ("TownRepeatedModel", "kept", "[Z", true)
  | 7 => ("TownRepeatedModel", "asked", "I", false)
  | 8 => ("TownRepeatedModel", "upper", "J", false)
  | 9 => ("TownRepeatedModel", "lower", "J", false)
  | 10 => ("TownRepeatedModel", "finding", "I", false)
  | 11 => ("TownRepeatedModel", "findings", "[I", true)
  | 12 => ("TownRepeatedModel", "read", "[I", true)
  | 13 => ("TownRepeatedModel", "at", "I", false)
  | 14 => ("TownRepeatedModel", "more", "[I", true)
  | 15 => ("TownRepeatedModel", "done", "[I", true)
  | 16 => ("TownRepeatedModel", "others", "[I", true)
  | _ => ("TownRepeatedModel", "came", "[I", true)
def tyX6 : Nat → FieldType := fun k => match k with
  | 0 => .array .int
  | 1 => .array .int
  | 2 => .array .int
  | 3 => .array .int
  | 4 => .array .int
  | 5 => .array .int
  | 6 => .array .boolean
  | 7 => .int
  | 8 => .long
  | 9 => .long
  | 10 => .int
  | 11 => .array .int
  | 12 => .array .int
  | 13 => .int
  | 14 => .array .int
  | 15 => .array .int
  | 16 => .array .int
  | _ => .array .int
abbrev wsX60 : List Cond := u_ws RX6 TX6 18
theorem nmX6 : ∀ a, a < 18 → ∀ b, b < 18 → a ≠ b → (TX6 a).2.1 ≠ (TX6 b).2.1 := by decide +kernel
theorem tyX6_ok : ∀ k, k < 18 → parseFieldDescriptor (TX6 k).2.2.1 = some (tyX6 k) := by decide +kernel
abbrev cX6_init : ByteArray := prog_8_method_1_code
def yX6_init : MethodName := ⟨RX6, "<init>", "()V"⟩
abbrev cX6_in : ByteArray := prog_8_method_3_code
def yX6_in : MethodName := ⟨RX6, "in", "(JJJ)Z"⟩
abbrev cX6_found : ByteArray := prog_8_method_4_code
def yX6_found : MethodName := ⟨RX6, "found", "(I)I"⟩
abbrev cX6_tell : ByteArray := prog_8_method_5_code
def yX6_tell : MethodName := ⟨RX6, "tell", "(I)I"⟩
abbrev cX6_answer : ByteArray := prog_8_method_6_code
def yX6_answer : MethodName := ⟨RX6, "answer", "(II)I"⟩
abbrev cX6_isRow : ByteArray := prog_8_method_7_code
def yX6_isRow : MethodName := ⟨RX6, "isRow", "(I)Z"⟩
abbrev cX6_isText : ByteArray := prog_8_method_8_code
def yX6_isText : MethodName := ⟨RX6, "isText", "(I)Z"⟩
abbrev cX6_row : ByteArray := prog_8_method_9_code
def yX6_row : MethodName := ⟨RX6, "row", "(II)I"⟩
abbrev cX6_lay : ByteArray := prog_8_method_10_code
def yX6_lay : MethodName := ⟨RX6, "lay", "(III)I"⟩
abbrev cX6_at : ByteArray := prog_8_method_11_code
def yX6_at : MethodName := ⟨RX6, "at", "(II)I"⟩
abbrev cX6_tear : ByteArray := prog_8_method_12_code
def yX6_tear : MethodName := ⟨RX6, "tear", "(I)I"⟩
abbrev cX6_copy : ByteArray := prog_8_method_13_code
def yX6_copy : MethodName := ⟨RX6, "copy", "(IIIII)I"⟩
abbrev cX6_mean : ByteArray := prog_8_method_14_code
def yX6_mean : MethodName := ⟨RX6, "mean", "(I)I"⟩
abbrev cX6_text : ByteArray := prog_8_method_15_code
def yX6_text : MethodName := ⟨RX6, "text", "(II)I"⟩
abbrev cX6_put : ByteArray := prog_8_method_16_code
def yX6_put : MethodName := ⟨RX6, "put", "(III)I"⟩
abbrev cX6_byteAt : ByteArray := prog_8_method_17_code
def yX6_byteAt : MethodName := ⟨RX6, "byteAt", "(I)I"⟩
abbrev cX6_takes : ByteArray := prog_8_method_18_code
def yX6_takes : MethodName := ⟨RX6, "takes", "(IIIII)Z"⟩
abbrev cX6_kindOf : ByteArray := prog_8_method_19_code
def yX6_kindOf : MethodName := ⟨RX6, "kindOf", "(I)I"⟩
abbrev cX6_takesPerson : ByteArray := prog_8_method_20_code
def yX6_takesPerson : MethodName := ⟨RX6, "takesPerson", "(I)Z"⟩
abbrev cX6_takesError : ByteArray := prog_8_method_21_code
def yX6_takesError : MethodName := ⟨RX6, "takesError", "(I)Z"⟩
abbrev cX6_reads : ByteArray := prog_8_method_22_code
def yX6_reads : MethodName := ⟨RX6, "reads", "(I)I"⟩
abbrev cX6_fault : ByteArray := prog_8_method_23_code
def yX6_fault : MethodName := ⟨RX6, "fault", "(I)I"⟩
abbrev cX6_copies : ByteArray := prog_8_method_24_code
def yX6_copies : MethodName := ⟨RX6, "copies", "([II[II)V"⟩
abbrev cX6_chain : ByteArray := prog_8_method_25_code
def yX6_chain : MethodName := ⟨RX6, "chain", "(I)I"⟩
abbrev cX6_isTown : ByteArray := prog_8_method_26_code
def yX6_isTown : MethodName := ⟨RX6, "isTown", "(I)Z"⟩
abbrev cX6_isDay : ByteArray := prog_8_method_27_code
def yX6_isDay : MethodName := ⟨RX6, "isDay", "(I)Z"⟩
abbrev cX6_isDeed : ByteArray := prog_8_method_28_code
def yX6_isDeed : MethodName := ⟨RX6, "isDeed", "(I)Z"⟩
abbrev cX6_isPerson : ByteArray := prog_8_method_29_code
def yX6_isPerson : MethodName := ⟨RX6, "isPerson", "(I)Z"⟩
abbrev cX6_isError : ByteArray := prog_8_method_30_code
def yX6_isError : MethodName := ⟨RX6, "isError", "(I)Z"⟩
abbrev cX6_has : ByteArray := prog_8_method_31_code
def yX6_has : MethodName := ⟨RX6, "has", "(II)Z"⟩
abbrev cX6_bits : ByteArray := prog_8_method_32_code
def yX6_bits : MethodName := ⟨RX6, "bits", "(I)I"⟩
abbrev cX6_isOf : ByteArray := prog_8_method_33_code
def yX6_isOf : MethodName := ⟨RX6, "isOf", "(II)Z"⟩
abbrev cX6_lays : ByteArray := prog_8_method_34_code
def yX6_lays : MethodName := ⟨RX6, "lays", "(III)V"⟩
abbrev cX6_beyond : ByteArray := prog_8_method_35_code
def yX6_beyond : MethodName := ⟨RX6, "beyond", "(III)I"⟩
abbrev cX6_live : ByteArray := prog_8_method_36_code
def yX6_live : MethodName := ⟨RX6, "live", "()I"⟩
abbrev cX6_layNow : ByteArray := prog_8_method_37_code
def yX6_layNow : MethodName := ⟨RX6, "layNow", "(I)V"⟩
abbrev cX6_doing : ByteArray := prog_8_method_38_code
def yX6_doing : MethodName := ⟨RX6, "doing", "(III)I"⟩
abbrev cX6_told : ByteArray := prog_8_method_39_code
def yX6_told : MethodName := ⟨RX6, "told", "(II)I"⟩
abbrev cX6_person : ByteArray := prog_8_method_40_code
def yX6_person : MethodName := ⟨RX6, "person", "(II)I"⟩
abbrev cX6_error : ByteArray := prog_8_method_41_code
def yX6_error : MethodName := ⟨RX6, "error", "(II)I"⟩
abbrev cX6_mark : ByteArray := prog_8_method_42_code
def yX6_mark : MethodName := ⟨RX6, "mark", "(II)I"⟩
abbrev cX6_stride : ByteArray := prog_8_method_43_code
def yX6_stride : MethodName := ⟨RX6, "stride", "(II)I"⟩
abbrev cX6_turns : ByteArray := prog_8_method_44_code
def yX6_turns : MethodName := ⟨RX6, "turns", "(I)V"⟩
abbrev cX6_mended : ByteArray := prog_8_method_45_code
def yX6_mended : MethodName := ⟨RX6, "mended", "()I"⟩
abbrev cX6_mend : ByteArray := prog_8_method_46_code
def yX6_mend : MethodName := ⟨RX6, "mend", "(II)I"⟩
abbrev cX6_comes : ByteArray := prog_8_method_47_code
def yX6_comes : MethodName := ⟨RX6, "comes", "(IIII)I"⟩
abbrev cX6_err : ByteArray := prog_8_method_48_code
def yX6_err : MethodName := ⟨RX6, "err", "(II)I"⟩
abbrev cX6_day : ByteArray := prog_8_method_49_code
def yX6_day : MethodName := ⟨RX6, "day", "()I"⟩
abbrev cX6_undo : ByteArray := prog_8_method_50_code
def yX6_undo : MethodName := ⟨RX6, "undo", "(I)I"⟩
abbrev cX6_keep : ByteArray := prog_8_method_51_code
def yX6_keep : MethodName := ⟨RX6, "keep", "(I)I"⟩
abbrev cX6_on : ByteArray := prog_8_method_52_code
def yX6_on : MethodName := ⟨RX6, "on", "(I)I"⟩
abbrev cX6_does : ByteArray := prog_8_method_53_code
def yX6_does : MethodName := ⟨RX6, "does", "(III)I"⟩
abbrev cX6_areTowns : ByteArray := prog_8_method_54_code
def yX6_areTowns : MethodName := ⟨RX6, "areTowns", "(II)Z"⟩
abbrev cX6_differs : ByteArray := prog_8_method_55_code
def yX6_differs : MethodName := ⟨RX6, "differs", "(III)Z"⟩
abbrev cX6_differing : ByteArray := prog_8_method_56_code
def yX6_differing : MethodName := ⟨RX6, "differing", "(IIII)I"⟩
abbrev cX6_differ : ByteArray := prog_8_method_57_code
def yX6_differ : MethodName := ⟨RX6, "differ", "(III)I"⟩
abbrev cX6_since : ByteArray := prog_8_method_58_code
def yX6_since : MethodName := ⟨RX6, "since", "(III)I"⟩
abbrev cX6_worst : ByteArray := prog_8_method_59_code
def yX6_worst : MethodName := ⟨RX6, "worst", "(I)I"⟩
abbrev cX6_source : ByteArray := prog_8_method_60_code
def yX6_source : MethodName := ⟨RX6, "source", "(III)I"⟩
abbrev cX6_together : ByteArray := prog_8_method_61_code
def yX6_together : MethodName := ⟨RX6, "together", "(III)I"⟩
abbrev cX6_warn : ByteArray := prog_8_method_62_code
def yX6_warn : MethodName := ⟨RX6, "warn", "(IIII)I"⟩
abbrev cX6_agree : ByteArray := prog_8_method_63_code
def yX6_agree : MethodName := ⟨RX6, "agree", "(III)I"⟩
abbrev cX6_next : ByteArray := prog_8_method_64_code
def yX6_next : MethodName := ⟨RX6, "next", "(IIII)I"⟩
abbrev cX6_letter : ByteArray := prog_8_method_65_code
def yX6_letter : MethodName := ⟨RX6, "letter", "(III)I"⟩
abbrev cX6_fours : ByteArray := prog_8_method_66_code
def yX6_fours : MethodName := ⟨RX6, "fours", "(I)I"⟩
abbrev cX6_fitsBy : ByteArray := prog_8_method_67_code
def yX6_fitsBy : MethodName := ⟨RX6, "fitsBy", "(II)Z"⟩
abbrev cX6_fits : ByteArray := prog_8_method_68_code
def yX6_fits : MethodName := ⟨RX6, "fits", "(I)I"⟩
abbrev cX6_sure : ByteArray := prog_8_method_69_code
def yX6_sure : MethodName := ⟨RX6, "sure", "(I)I"⟩
abbrev cX6_lies : ByteArray := prog_8_method_70_code
def yX6_lies : MethodName := ⟨RX6, "lies", "(I)I"⟩
abbrev cX6_fraction : ByteArray := prog_8_method_71_code
def yX6_fraction : MethodName := ⟨RX6, "fraction", "(JJ)I"⟩
abbrev cX6_odds : ByteArray := prog_8_method_72_code
def yX6_odds : MethodName := ⟨RX6, "odds", "(IIIII)I"⟩
abbrev cX6_lots : ByteArray := prog_8_method_73_code
def yX6_lots : MethodName := ⟨RX6, "lots", "(II)I"⟩
abbrev cX6_asked : ByteArray := prog_8_method_74_code
def yX6_asked : MethodName := ⟨RX6, "asked", "()I"⟩
abbrev cX6_upper : ByteArray := prog_8_method_75_code
def yX6_upper : MethodName := ⟨RX6, "upper", "()J"⟩
abbrev cX6_lower : ByteArray := prog_8_method_76_code
def yX6_lower : MethodName := ⟨RX6, "lower", "()J"⟩
abbrev cX6_counted : ByteArray := prog_8_method_77_code
def yX6_counted : MethodName := ⟨RX6, "counted", "(I)I"⟩
abbrev cX6_count : ByteArray := prog_8_method_78_code
def yX6_count : MethodName := ⟨RX6, "count", "(I)I"⟩
abbrev cX6_finding : ByteArray := prog_8_method_79_code
def yX6_finding : MethodName := ⟨RX6, "finding", "()I"⟩
abbrev cX6_findings : ByteArray := prog_8_method_80_code
def yX6_findings : MethodName := ⟨RX6, "findings", "(I)I"⟩
abbrev cX6_digest : ByteArray := prog_8_method_81_code
def yX6_digest : MethodName := ⟨RX6, "digest", "()J"⟩
def RJ6 : String := "java/lang/Integer"
def TJ6 : u_T := fun k => match k with
  | _ => ("", "", "", false)
def tyJ6 : Nat → FieldType := fun k => match k with
  | _ => .int
abbrev wsJ60 : List Cond := u_ws RJ6 TJ6 0
theorem nmJ6 : ∀ a, a < 0 → ∀ b, b < 0 → a ≠ b → (TJ6 a).2.1 ≠ (TJ6 b).2.1 := by decide +kernel
theorem tyJ6_ok : ∀ k, k < 0 → parseFieldDescriptor (TJ6 k).2.2.1 = some (tyJ6 k) := by decide +kernel
abbrev cJ6_bitCount_0f7a4 : ByteArray := prog_9_method_49_code
def yJ6_bitCount_0f7a4 : MethodName := ⟨RJ6, "bitCount", "(I)I"⟩
def RJ9 : String := "java/lang/Math"
def TJ9 : u_T := fun k => match k with
  | _ => ("", "", "", false)
def tyJ9 : Nat → FieldType := fun k => match k with
  | _ => .int
abbrev wsJ90 : List Cond := u_ws RJ9 TJ9 0
theorem nmJ9 : ∀ a, a < 0 → ∀ b, b < 0 → a ≠ b → (TJ9 a).2.1 ≠ (TJ9 b).2.1 := by decide +kernel
theorem tyJ9_ok : ∀ k, k < 0 → parseFieldDescriptor (TJ9 k).2.2.1 = some (tyJ9 k) := by decide +kernel
abbrev cJ9_floorMod_7cf53 : ByteArray := prog_10_method_50_code
def yJ9_floorMod_7cf53 : MethodName := ⟨RJ9, "floorMod", "(II)I"⟩
abbrev cJ9_max_7cf53 : ByteArray := prog_10_method_65_code
def yJ9_max_7cf53 : MethodName := ⟨RJ9, "max", "(II)I"⟩
def RJ10 : String := "java/lang/System"
def TJ10 : u_T := fun k => match k with
  | _ => ("", "", "", false)
def tyJ10 : Nat → FieldType := fun k => match k with
  | _ => .int
abbrev wsJ100 : List Cond := u_ws RJ10 TJ10 0
theorem nmJ10 : ∀ a, a < 0 → ∀ b, b < 0 → a ≠ b → (TJ10 a).2.1 ≠ (TJ10 b).2.1 := by decide +kernel
theorem tyJ10_ok : ∀ k, k < 0 → parseFieldDescriptor (TJ10 k).2.2.1 = some (tyJ10 k) := by decide +kernel
def RL : String := "TownRepeatedLaw"
abbrev cL_law : ByteArray := code
def yL_law : MethodName := ⟨RL, "law", "([I)Z"⟩
