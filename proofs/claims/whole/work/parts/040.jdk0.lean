section OFF
variable {l : Launch} {y : MethodName} {ws ws' : List Cond} {rm : Room} {vs : List Value} {G : GT} {w w' : va_W} {sz : Nat} {cc : ByteArray} {maxL : Nat}
theorem MTi.ofF {r : Int32} (hy : plainFor y = true) (hw : ws = Cond.code y cc maxL (some .int) :: ws') (hlen : (lg_sl vs).length ≤ maxL)
    (body : ∀ (p : Program) (e : Env) (s : State) (m : MethodId) (av : Array Value) (below : List Frame) (meth : Method) (c : Code) (Q : State → Prop) (B : Nat → Prop) (H0 : Heap) (locs0 : List Loc) (ls : Array Slot), CX G p s m meth c cc maxL ws av y.cls B →
      (∀ (H : Heap) (locs : List Loc) (pc : Nat) (ls : Array Slot), decode cc pc = .ok (.ireturn, 1) → va_P G.1 vwCl w' H → va_D B w' → va_S B s.heap H locs → W p l e rm s m av below meth c H locs 0 0 Q (F0 m pc ls [.int r])) →
      lv_has ls maxL (lv_args 0 vs) → va_P G.1 vwCl w H0 → va_D B w → va_S B s.heap H0 locs0 → W p l e rm s m av below meth c H0 locs0 0 0 Q (F0 m 0 ls [])) : MTi l y ws rm vs G w w' sz r := by
  refine va_MetF (cc := cc) (maxL := maxL) (ret := some .int) hy hw ?_
  intro p e s m args below meth c s₁ B hml hv
  obtain ⟨rfl, hsz, hP, hK, hD0, hN, hT⟩ := hv
  subst hsz
  have hlocks := B.notSynchronized
  rw [lg_entry_eq]
  refine body p e s m _ below meth c _ (va_A w s.heap.size) s.heap [] _ ⟨⟨B.exec, B.bytes, hml, findClass_of_methodNamed B.named, atoms_spec (ws := ws) B.pre⟩, hK, hN, hT, fun q h => Or.inr h⟩ ?_ (lv_entry vs hlen) hP hD0.self va_S.rf
  intro H locs pc ls hdg h1 h2 h3
  exact W.iret B.exec B.bytes B.returns (fun t ht hW => ⟨⟨r, (), rfl, rfl, by rw [ht]; exact h1, h2⟩, h3.F ht⟩) h3.2.2 hdg
end OFF
def r_J6_bitCount_0f7a4 : Room := { frames := 0, cells := 0, slots := 0, locals := 0 }
set_option maxHeartbeats 4000000 in
set_option maxRecDepth 100000 in
theorem c_J6_bitCount_0f7a4 (G : GT) (l : Launch) (sz : Nat) (x0 : Int32) (r : Int32) (hf : f_J6_bitCount_0f7a4 x0 = some r) : MTi l yJ6_bitCount_0f7a4 wsJ6_bitCount_0f7a4 r_J6_bitCount_0f7a4 [.int x0] G [] [] sz r := by
  refine MTi.of (cc := cJ6_bitCount_0f7a4) (maxL := 1) (by decide +kernel) rfl (Nat.le_of_ble_eq_true rfl) (fun p e s m av below meth cd Q B H locs ls X hret hl hP hD hS => ?_)
  have hx := X.1.1
  have hb := X.1.2.1
  have hl : lv_has ls 1 [(0, .int x0)] := hl
  have b_48 : ∀ (x0 : Int32) (H : Heap) (locs : List Loc) (ls : Array Slot), f_J6_bitCount_0f7a4_48 x0 = some r → va_P G.1 vwCl [] H → va_D B [] → va_S B s.heap H locs → lv_has ls 1 [(0, .int x0)] → W p l e r_J6_bitCount_0f7a4 s m av below meth cd H locs 0 0 Q (F0 m 48 ls []) := by
    intro x0 H locs ls hf hP hD hS hl
    unfold f_J6_bitCount_0f7a4_48 at hf
    refine lv_iload_n (pc := 48) hx hb dJ6_bitCount_0f7a4_48 rfl (lv_at hl 0 rfl) ?_
    refine lv_bipush (pc := 49) (v := (63 : Int32)) hx hb dJ6_bitCount_0f7a4_49 (by decide) ?_
    refine lv_iand (pc := 51) hx hb dJ6_bitCount_0f7a4_51 ?_
    cases hf
    exact hret _ _ _ _ dJ6_bitCount_0f7a4_52 hP hD hS
  have b_41 : ∀ (x0 : Int32) (H : Heap) (locs : List Loc) (ls : Array Slot), f_J6_bitCount_0f7a4_41 x0 = some r → va_P G.1 vwCl [] H → va_D B [] → va_S B s.heap H locs → lv_has ls 1 [(0, .int x0)] → W p l e r_J6_bitCount_0f7a4 s m av below meth cd H locs 0 0 Q (F0 m 41 ls []) := by
    intro x0 H locs ls hf hP hD hS hl
    unfold f_J6_bitCount_0f7a4_41 at hf
    refine lv_iload_n (pc := 41) hx hb dJ6_bitCount_0f7a4_41 rfl (lv_at hl 0 rfl) ?_
    refine lv_iload_n (pc := 42) hx hb dJ6_bitCount_0f7a4_42 rfl (lv_at hl 0 rfl) ?_
    refine lv_bipush (pc := 43) (v := (16 : Int32)) hx hb dJ6_bitCount_0f7a4_43 (by decide) ?_
    refine lv_iushr (pc := 45) (v := (jushr x0 (16 : Int32))) hx hb dJ6_bitCount_0f7a4_45 rfl ?_
    refine lv_iadd (pc := 46) hx hb dJ6_bitCount_0f7a4_46 ?_
    refine lv_istore_n (pc := 47) (lv' := [(0, .int (x0 + (jushr x0 (16 : Int32))))]) hx hb dJ6_bitCount_0f7a4_47 rfl hl (by decide) rfl (fun ls hl => ?_)
    exact b_48 _ H locs ls hf hP hD hS (lv_sub hl [0] rfl)
  have b_34 : ∀ (x0 : Int32) (H : Heap) (locs : List Loc) (ls : Array Slot), f_J6_bitCount_0f7a4_34 x0 = some r → va_P G.1 vwCl [] H → va_D B [] → va_S B s.heap H locs → lv_has ls 1 [(0, .int x0)] → W p l e r_J6_bitCount_0f7a4 s m av below meth cd H locs 0 0 Q (F0 m 34 ls []) := by
    intro x0 H locs ls hf hP hD hS hl
    unfold f_J6_bitCount_0f7a4_34 at hf
    refine lv_iload_n (pc := 34) hx hb dJ6_bitCount_0f7a4_34 rfl (lv_at hl 0 rfl) ?_
    refine lv_iload_n (pc := 35) hx hb dJ6_bitCount_0f7a4_35 rfl (lv_at hl 0 rfl) ?_
    refine lv_bipush (pc := 36) (v := (8 : Int32)) hx hb dJ6_bitCount_0f7a4_36 (by decide) ?_
    refine lv_iushr (pc := 38) (v := (jushr x0 (8 : Int32))) hx hb dJ6_bitCount_0f7a4_38 rfl ?_
    refine lv_iadd (pc := 39) hx hb dJ6_bitCount_0f7a4_39 ?_
    refine lv_istore_n (pc := 40) (lv' := [(0, .int (x0 + (jushr x0 (8 : Int32))))]) hx hb dJ6_bitCount_0f7a4_40 rfl hl (by decide) rfl (fun ls hl => ?_)
    exact b_41 _ H locs ls hf hP hD hS (lv_sub hl [0] rfl)
  have b_24 : ∀ (x0 : Int32) (H : Heap) (locs : List Loc) (ls : Array Slot), f_J6_bitCount_0f7a4_24 x0 = some r → va_P G.1 vwCl [] H → va_D B [] → va_S B s.heap H locs → lv_has ls 1 [(0, .int x0)] → W p l e r_J6_bitCount_0f7a4 s m av below meth cd H locs 0 0 Q (F0 m 24 ls []) := by
    intro x0 H locs ls hf hP hD hS hl
    unfold f_J6_bitCount_0f7a4_24 at hf
    refine lv_iload_n (pc := 24) hx hb dJ6_bitCount_0f7a4_24 rfl (lv_at hl 0 rfl) ?_
    refine lv_iload_n (pc := 25) hx hb dJ6_bitCount_0f7a4_25 rfl (lv_at hl 0 rfl) ?_
    refine lv_iconst (pc := 26) (v := (4 : Int32)) hx hb dJ6_bitCount_0f7a4_26 (by decide) ?_
    refine lv_iushr (pc := 27) (v := (jushr x0 (4 : Int32))) hx hb dJ6_bitCount_0f7a4_27 rfl ?_
    refine lv_iadd (pc := 28) hx hb dJ6_bitCount_0f7a4_28 ?_
    refine lv_ldcw (pc := 29) (v := 252645135) hx hb X.1.2.2.2.1 (X.1.2.2.2.2 _ (List.mem_cons_of_mem _ (List.mem_of_getElem? (i := 2) rfl))) dJ6_bitCount_0f7a4_29 ?_
    refine lv_iand (pc := 32) hx hb dJ6_bitCount_0f7a4_32 ?_
    refine lv_istore_n (pc := 33) (lv' := [(0, .int ((x0 + (jushr x0 (4 : Int32))) &&& (252645135 : Int32)))]) hx hb dJ6_bitCount_0f7a4_33 rfl hl (by decide) rfl (fun ls hl => ?_)
    exact b_34 _ H locs ls hf hP hD hS (lv_sub hl [0] rfl)
  have b_10 : ∀ (x0 : Int32) (H : Heap) (locs : List Loc) (ls : Array Slot), f_J6_bitCount_0f7a4_10 x0 = some r → va_P G.1 vwCl [] H → va_D B [] → va_S B s.heap H locs → lv_has ls 1 [(0, .int x0)] → W p l e r_J6_bitCount_0f7a4 s m av below meth cd H locs 0 0 Q (F0 m 10 ls []) := by
    intro x0 H locs ls hf hP hD hS hl
    unfold f_J6_bitCount_0f7a4_10 at hf
    refine lv_iload_n (pc := 10) hx hb dJ6_bitCount_0f7a4_10 rfl (lv_at hl 0 rfl) ?_
    refine lv_ldcw (pc := 11) (v := 858993459) hx hb X.1.2.2.2.1 (X.1.2.2.2.2 _ (List.mem_cons_of_mem _ (List.mem_of_getElem? (i := 1) rfl))) dJ6_bitCount_0f7a4_11 ?_
    refine lv_iand (pc := 14) hx hb dJ6_bitCount_0f7a4_14 ?_
    refine lv_iload_n (pc := 15) hx hb dJ6_bitCount_0f7a4_15 rfl (lv_at hl 0 rfl) ?_
    refine lv_iconst (pc := 16) (v := (2 : Int32)) hx hb dJ6_bitCount_0f7a4_16 (by decide) ?_
    refine lv_iushr (pc := 17) (v := (jushr x0 (2 : Int32))) hx hb dJ6_bitCount_0f7a4_17 rfl ?_
    refine lv_ldcw (pc := 18) (v := 858993459) hx hb X.1.2.2.2.1 (X.1.2.2.2.2 _ (List.mem_cons_of_mem _ (List.mem_of_getElem? (i := 1) rfl))) dJ6_bitCount_0f7a4_18 ?_
    refine lv_iand (pc := 21) hx hb dJ6_bitCount_0f7a4_21 ?_
    refine lv_iadd (pc := 22) hx hb dJ6_bitCount_0f7a4_22 ?_
    refine lv_istore_n (pc := 23) (lv' := [(0, .int ((x0 &&& (858993459 : Int32)) + ((jushr x0 (2 : Int32)) &&& (858993459 : Int32))))]) hx hb dJ6_bitCount_0f7a4_23 rfl hl (by decide) rfl (fun ls hl => ?_)
    exact b_24 _ H locs ls hf hP hD hS (lv_sub hl [0] rfl)
  unfold f_J6_bitCount_0f7a4 at hf
  refine lv_iload_n (pc := 0) hx hb dJ6_bitCount_0f7a4_0 rfl (lv_at hl 0 rfl) ?_
  refine lv_iload_n (pc := 1) hx hb dJ6_bitCount_0f7a4_1 rfl (lv_at hl 0 rfl) ?_
  refine lv_iconst (pc := 2) (v := (1 : Int32)) hx hb dJ6_bitCount_0f7a4_2 (by decide) ?_
  refine lv_iushr (pc := 3) (v := (jushr x0 (1 : Int32))) hx hb dJ6_bitCount_0f7a4_3 rfl ?_
  refine lv_ldcw (pc := 4) (v := 1431655765) hx hb X.1.2.2.2.1 (X.1.2.2.2.2 _ (List.mem_cons_of_mem _ (List.mem_of_getElem? (i := 0) rfl))) dJ6_bitCount_0f7a4_4 ?_
  refine lv_iand (pc := 7) hx hb dJ6_bitCount_0f7a4_7 ?_
  refine lv_isub (pc := 8) hx hb dJ6_bitCount_0f7a4_8 ?_
  refine lv_istore_n (pc := 9) (lv' := [(0, .int (x0 - ((jushr x0 (1 : Int32)) &&& (1431655765 : Int32))))]) hx hb dJ6_bitCount_0f7a4_9 rfl hl (by decide) rfl (fun ls hl => ?_)
  exact b_10 _ H locs ls hf hP hD hS (lv_sub hl [0] rfl)
def r_J9_floorMod_7cf53 : Room := { frames := 0, cells := 0, slots := 0, locals := 0 }
set_option maxHeartbeats 4000000 in
set_option maxRecDepth 100000 in
theorem c_J9_floorMod_7cf53 (G : GT) (l : Launch) (sz : Nat) (x0 : Int32) (x1 : Int32) (r : Int32) (hf : f_J9_floorMod_7cf53 x0 x1 = some r) : MTi l yJ9_floorMod_7cf53 wsJ9_floorMod_7cf53 r_J9_floorMod_7cf53 [.int x0, .int x1] G [] [] sz r := by
  refine MTi.ofF (cc := cJ9_floorMod_7cf53) (maxL := 3) (by decide +kernel) rfl (Nat.le_of_ble_eq_true rfl) (fun p e s m av below meth cd Q B H locs ls X hret hl hP hD hS => ?_)
  have hx := X.1.1
  have hb := X.1.2.1
  have hl : lv_has ls 3 [(0, .int x0), (1, .int x1)] := hl
  have b_18 : ∀ (x2 : Int32) (H : Heap) (locs : List Loc) (ls : Array Slot), f_J9_floorMod_7cf53_18 x2 = some r → va_P G.1 vwCl [] H → va_D B [] → va_S B s.heap H locs → lv_has ls 3 [(2, .int x2)] → W p l e r_J9_floorMod_7cf53 s m av below meth cd H locs 0 0 Q (F0 m 18 ls []) := by
    intro x2 H locs ls hf hP hD hS hl
    unfold f_J9_floorMod_7cf53_18 at hf
    refine lv_iload_n (pc := 18) hx hb dJ9_floorMod_7cf53_18 rfl (lv_at hl 0 rfl) ?_
    cases hf
    exact hret _ _ _ _ dJ9_floorMod_7cf53_19 hP hD hS
  unfold f_J9_floorMod_7cf53 at hf
  refine lv_iload_n (pc := 0) hx hb dJ9_floorMod_7cf53_0 rfl (lv_at hl 0 rfl) ?_
  refine lv_iload_n (pc := 1) hx hb dJ9_floorMod_7cf53_1 rfl (lv_at hl 1 rfl) ?_
  obtain ⟨hz, hf⟩ := ck_some hf
  refine wirem (pc := 2) hx hb dJ9_floorMod_7cf53_2 (nz_ne hz) ?_
  refine lv_istore_n (pc := 3) (lv' := [(2, .int (jrem x0 x1)), (0, .int x0), (1, .int x1)]) hx hb dJ9_floorMod_7cf53_3 rfl hl (by decide) rfl (fun ls hl => ?_)
  refine lv_iload_n (pc := 4) hx hb dJ9_floorMod_7cf53_4 rfl (lv_at hl 1 rfl) ?_
  refine lv_iload_n (pc := 5) hx hb dJ9_floorMod_7cf53_5 rfl (lv_at hl 2 rfl) ?_
  refine lv_ixor (pc := 6) hx hb dJ9_floorMod_7cf53_6 ?_
  refine lv_if_ge (pc := 7) (tgt := 18) hx hb dJ9_floorMod_7cf53_7 (by decide) (fun h2 => ?_) (fun h2 => ?_)
  · have hf := br_y h2 hf
    exact b_18 _ H locs ls hf hP hD hS (lv_sub hl [0] rfl)
  · have hf := br_n h2 hf
    refine lv_iload_n (pc := 10) hx hb dJ9_floorMod_7cf53_10 rfl (lv_at hl 0 rfl) ?_
    refine lv_if_eq (pc := 11) (tgt := 18) hx hb dJ9_floorMod_7cf53_11 (by decide) (fun h1 => ?_) (fun h1 => ?_)
    · have hf := br_y h1 hf
      exact b_18 _ H locs ls hf hP hD hS (lv_sub hl [0] rfl)
    · have hf := br_n h1 hf
      refine lv_iload_n (pc := 14) hx hb dJ9_floorMod_7cf53_14 rfl (lv_at hl 0 rfl) ?_
      refine lv_iload_n (pc := 15) hx hb dJ9_floorMod_7cf53_15 rfl (lv_at hl 2 rfl) ?_
      refine lv_iadd (pc := 16) hx hb dJ9_floorMod_7cf53_16 ?_
      cases hf
      exact hret _ _ _ _ dJ9_floorMod_7cf53_17 hP hD hS
