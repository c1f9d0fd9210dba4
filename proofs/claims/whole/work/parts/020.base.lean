/-! ===== the common ground of all contracts: one start and one end for every method ===== -/
abbrev GT : Type := va_G × (Nat → Nat)
abbrev CS : Type := Nat → Nat → Int32
abbrev JS : Type := Nat → Int64
/-- the array classes: int[], boolean[], Chain[], int[][] -/
abbrev tys (G : GT) : List (ClassId × FieldType) := [(G.2 0, .int), (G.2 1, .boolean), (G.2 2, .object "TownRepeated$Chain"), (G.2 3, .array .int)]
def lettersI : Nat → Int32 := fun j => [112, 100, 122, 108, 115, 102].getD j 0
def alsoI : Nat → Int32 := fun j => [-1, 0, 0, 0, 1, 2].getD j 0
/-- the static arrays, which no method's world holds -/
def ST (G : GT) (A : Nat → Prop) (U : State) (H : Heap) : Prop :=
  va_Z "TownRepeated" "LETTERS" "[I" (.ref (G.2 4)) A U H ∧ va_T .int (G.2 4) 6 (fun j => .int (lettersI j)) A U H ∧
  va_Z "TownRepeated" "IS_ALSO" "[I" (.ref (G.2 5)) A U H ∧ va_T .int (G.2 5) 6 (fun j => .int (alsoI j)) A U H
theorem ST.moved {G : GT} {A : Nat → Prop} {u U : State} {H : Heap} (hvm : u.vm.Alike U.vm) (h : ST G A u H) : ST G A U H :=
  ⟨h.1.moved hvm, h.2.1.moved hvm, h.2.2.1.moved hvm, h.2.2.2.moved hvm⟩
theorem ST.call {G : GT} {A B : Nat → Prop} {s U : State} {H : Heap} {locs : List Loc} (h : ST G A s s.heap) (hS : va_S A s.heap H locs) (hAB : ∀ q, B q → A q) (hU : U.heap = H) (hvm : s.vm.Alike U.vm) : ST G B U U.heap := by
  rw [hU]
  have hq : ∀ a : Nat, a < s.heap.size → ¬ A a → H[a]? = s.heap[a]? := fun a h1 h2 => hS.2.1 a h1 h2
  exact ⟨((h.1.kept hq).narrow hAB).moved hvm, ((h.2.1.kept hq).narrow hAB).moved hvm, ((h.2.2.1.kept hq).narrow hAB).moved hvm, ((h.2.2.2.kept hq).narrow hAB).moved hvm⟩
/-- links to private members of nest mates -/
def nwF : List (String × Nat × String × String × String) := [("TownRepeated", 77, "TownRepeated$Told", "asked", "I"), ("TownRepeated", 293, "TownRepeated$Told", "upper", "J"), ("TownRepeated", 296, "TownRepeated$Told", "lower", "J"), ("TownRepeated", 302, "TownRepeated$Told", "latest", "I"), ("TownRepeated", 305, "TownRepeated$Told", "often", "[I"), ("TownRepeated$Reader", 38, "TownRepeated$Chain", "persons", "I"), ("TownRepeated", 119, "TownRepeated$Chain", "persons", "I"), ("TownRepeated$Reader", 45, "TownRepeated$Chain", "errors", "I"), ("TownRepeated", 189, "TownRepeated$Chain", "errors", "I"), ("TownRepeated", 168, "TownRepeated$Chain", "mended", "I"), ("TownRepeated", 192, "TownRepeated$Chain", "today", "I"), ("TownRepeated", 153, "TownRepeated$Chain", "turns", "I"), ("TownRepeated", 156, "TownRepeated$Chain", "stride", "[I"), ("TownRepeated", 109, "TownRepeated$Reader", "draft", "LTownRepeated$Chain;"), ("TownRepeated", 248, "TownRepeated$Fitting", "many", "J"), ("TownRepeated", 245, "TownRepeated$Fitting", "first", "I"), ("TownRepeated", 259, "TownRepeated$Fitting", "inEach", "I"), ("TownRepeated", 256, "TownRepeated$Fitting", "inSome", "I"), ("TownRepeated$Reader", 60, "TownRepeated", "LETTERS", "[I"), ("TownRepeated$Chain", 69, "TownRepeated", "IS_ALSO", "[I")]
def nwM : List (String × Nat × MethodName) := [("TownRepeated", 23, ⟨"TownRepeated$Told", "<init>", "()V"⟩), ("TownRepeated", 30, ⟨"TownRepeated$Reader", "<init>", "()V"⟩), ("TownRepeated$Reader", 11, ⟨"TownRepeated$Chain", "<init>", "()V"⟩), ("TownRepeated", 37, ⟨"TownRepeated$Fitting", "<init>", "()V"⟩), ("TownRepeated", 44, ⟨"TownRepeated$Chain", "<init>", "()V"⟩), ("TownRepeated$Chain", 120, ⟨"TownRepeated", "isTown", "(I)Z"⟩), ("TownRepeated$Chain", 123, ⟨"TownRepeated", "isDay", "(I)Z"⟩), ("TownRepeated$Chain", 145, ⟨"TownRepeated", "nextSet", "(II)I"⟩), ("TownRepeated$Fitting", 49, ⟨"TownRepeated", "nextSet", "(II)I"⟩)]
theorem va_AOA.moved {ty : FieldType} {u U : State} (hvm : u.vm.Alike U.vm) (h : va_AOA ty u) : va_AOA ty U := arrayOver_alikeB hvm h
def NW (U : State) : Prop := (∀ q ∈ nwF, va_Nw (.fieldLinkNest q.1 q.2.1 q.2.2.1 q.2.2.2.1 q.2.2.2.2 "TownRepeated") U) ∧ (∀ q ∈ nwM, va_Nw (.methodLinkNest q.1 q.2.1 q.2.2 "TownRepeated") U) ∧ va_AO "TownRepeated$Chain" U ∧ va_AOA .int U
theorem NW.same {u U : State} (h : u.vm = U.vm) (hN : NW u) : NW U := by
  have al : u.vm.Alike U.vm := h ▸ Vm.Alike.refl u.vm
  exact ⟨fun q hq => va_Nw.same rfl h (hN.1 q hq), fun q hq => va_Nw.same rfl h (hN.2.1 q hq), hN.2.2.1.moved al, hN.2.2.2.moved al⟩
theorem NW.warm {s U : State} (hW : s.WarmedH U.vm) (hN : NW s) : NW U := ⟨fun q hq => va_Nw.warmF hW (hN.1 q hq), fun q hq => va_Nw.warmM hW (hN.2.1 q hq), hN.2.2.1.moved hW.alike, hN.2.2.2.moved hW.alike⟩
/-- a method's start: its world w -/
def PRE (G : GT) (w : va_W) (sz : Nat) (U : State) : Prop := U.heap.size = sz ∧ va_P G.1 vwCl w U.heap ∧ va_K G.1 vwCl (tys G) U ∧ va_D (fun _ => True) w ∧ NW U ∧ ST G (va_A w sz) U U.heap
/-- .. and its end -/
def PST (G : GT) (A : Nat → Prop) (w : va_W) (t : State) : Prop := va_P G.1 vwCl w t.heap ∧ va_D A w
theorem PRE.blind {G : GT} {w : va_W} {sz : Nat} {av : List Value} : FrameBlind (va_Pc av (PRE G w sz)) := by
  intro a U g mk q
  obtain ⟨q0, q1, qP, qK, qD, qN, qS⟩ := q
  exact ⟨q0, q1, qP, va_K.moved (u := U) (U := U.calling g mk a) (Vm.Alike.refl U.vm) qK, qD, NW.same (u := U) (U := U.calling g mk a) rfl qN, ST.moved (u := U) (U := U.calling g mk a) (Vm.Alike.refl U.vm) qS⟩
abbrev MTi (l : Launch) (y : MethodName) (ws : List Cond) (rm : Room) (vs : List Value) (G : GT) (w w' : va_W) (sz : Nat) (r : Int32) : Prop :=
  Met l y ws rm (va_Pc vs (PRE G w sz)) (va_Qi (fun x (_ : Unit) => x = r) (fun _ t => PST G (va_A w sz) w' t) (va_A w sz)) 0 0 (va_A w sz)
abbrev MTl (l : Launch) (y : MethodName) (ws : List Cond) (rm : Room) (vs : List Value) (G : GT) (w w' : va_W) (sz : Nat) (r : Int64) : Prop :=
  Met l y ws rm (va_Pc vs (PRE G w sz)) (va_Ql (fun x (_ : Unit) => x = r) (fun _ t => PST G (va_A w sz) w' t) (va_A w sz)) 0 0 (va_A w sz)
abbrev MTv (l : Launch) (y : MethodName) (ws : List Cond) (rm : Room) (vs : List Value) (G : GT) (w w' : va_W) (sz : Nat) : Prop :=
  Met l y ws rm (va_Pc vs (PRE G w sz)) (va_Qv (fun (_ : Unit) => True) (fun _ t => PST G (va_A w sz) w' t) (va_A w sz)) 0 0 (va_A w sz)
/-- what a walk has at hand everywhere -/
def CX (G : GT) (p : Program) (s : State) (m : MethodId) (meth : Method) (c : Code) (cc : ByteArray) (nL : Nat) (ws : List Cond) (av : Array Value) (own : String) (A : Nat → Prop) : Prop :=
  CallFix p m c cc nL s av ws own ∧ va_K G.1 vwCl (tys G) s ∧ NW s ∧ ST G A s s.heap ∧ ∀ q, s.heap.size ≤ q → A q
section OFS
variable {l : Launch} {y : MethodName} {ws ws' : List Cond} {rm : Room} {vs : List Value} {G : GT} {w w' : va_W} {sz : Nat} {cc : ByteArray} {maxL : Nat}
theorem MTi.of {r : Int32} (hy : plainName y.cls = true) (hw : ws = Cond.code y cc maxL (some .int) :: ws') (hlen : (lg_sl vs).length ≤ maxL)
    (body : ∀ (p : Program) (e : Env) (s : State) (m : MethodId) (av : Array Value) (below : List Frame) (meth : Method) (c : Code) (Q : State → Prop) (B : Nat → Prop) (H0 : Heap) (locs0 : List Loc) (ls : Array Slot), CX G p s m meth c cc maxL ws av y.cls B →
      (∀ (H : Heap) (locs : List Loc) (pc : Nat) (ls : Array Slot), decode cc pc = .ok (.ireturn, 1) → va_P G.1 vwCl w' H → va_D B w' → va_S B s.heap H locs → W p l e rm s m av below meth c H locs 0 0 Q (F0 m pc ls [.int r])) →
      lv_has ls maxL (lv_args 0 vs) → va_P G.1 vwCl w H0 → va_D B w → va_S B s.heap H0 locs0 → W p l e rm s m av below meth c H0 locs0 0 0 Q (F0 m 0 ls [])) : MTi l y ws rm vs G w w' sz r := by
  refine Met.ofW (cc := cc) (maxL := maxL) (ret := some .int) hy hw ?_
  intro p e s m args below meth c s₁ B hml hv
  obtain ⟨rfl, hsz, hP, hK, hD0, hN, hT⟩ := hv
  subst hsz
  have hlocks := B.notSynchronized
  rw [lg_entry_eq]
  refine body p e s m _ below meth c _ (va_A w s.heap.size) s.heap [] _ ⟨⟨B.exec, B.bytes, hml, findClass_of_methodNamed B.named, atoms_spec (ws := ws) B.pre⟩, hK, hN, hT, fun q h => Or.inr h⟩ ?_ (lv_entry vs hlen) hP hD0.self va_S.rf
  intro H locs pc ls hdg h1 h2 h3
  exact W.iret B.exec B.bytes B.returns (fun t ht hW => ⟨⟨r, (), rfl, rfl, by rw [ht]; exact h1, h2⟩, h3.F ht⟩) h3.2.2 hdg
theorem MTz.of {r : Int32} (hy : plainName y.cls = true) (hw : ws = Cond.code y cc maxL (some .boolean) :: ws') (hlen : (lg_sl vs).length ≤ maxL)
    (body : ∀ (p : Program) (e : Env) (s : State) (m : MethodId) (av : Array Value) (below : List Frame) (meth : Method) (c : Code) (Q : State → Prop) (B : Nat → Prop) (H0 : Heap) (locs0 : List Loc) (ls : Array Slot), CX G p s m meth c cc maxL ws av y.cls B →
      (∀ (H : Heap) (locs : List Loc) (pc : Nat) (ls : Array Slot), r = 0 ∨ r = 1 → decode cc pc = .ok (.ireturn, 1) → va_P G.1 vwCl w' H → va_D B w' → va_S B s.heap H locs → W p l e rm s m av below meth c H locs 0 0 Q (F0 m pc ls [.int r])) →
      lv_has ls maxL (lv_args 0 vs) → va_P G.1 vwCl w H0 → va_D B w → va_S B s.heap H0 locs0 → W p l e rm s m av below meth c H0 locs0 0 0 Q (F0 m 0 ls [])) : MTi l y ws rm vs G w w' sz r := by
  refine Met.ofW (cc := cc) (maxL := maxL) (ret := some .boolean) hy hw ?_
  intro p e s m args below meth c s₁ B hml hv
  obtain ⟨rfl, hsz, hP, hK, hD0, hN, hT⟩ := hv
  subst hsz
  have hlocks := B.notSynchronized
  rw [lg_entry_eq]
  refine body p e s m _ below meth c _ (va_A w s.heap.size) s.heap [] _ ⟨⟨B.exec, B.bytes, hml, findClass_of_methodNamed B.named, atoms_spec (ws := ws) B.pre⟩, hK, hN, hT, fun q h => Or.inr h⟩ ?_ (lv_entry vs hlen) hP hD0.self va_S.rf
  intro H locs pc ls hr hdg h1 h2 h3
  exact W.zret B.exec B.bytes B.returns (by rcases hr with rfl | rfl <;> rfl) (fun t ht hW => ⟨⟨r, (), rfl, rfl, by rw [ht]; exact h1, h2⟩, h3.F ht⟩) h3.2.2 hdg
theorem MTl.of {r : Int64} (hy : plainName y.cls = true) (hw : ws = Cond.code y cc maxL (some .long) :: ws') (hlen : (lg_sl vs).length ≤ maxL)
    (body : ∀ (p : Program) (e : Env) (s : State) (m : MethodId) (av : Array Value) (below : List Frame) (meth : Method) (c : Code) (Q : State → Prop) (B : Nat → Prop) (H0 : Heap) (locs0 : List Loc) (ls : Array Slot), CX G p s m meth c cc maxL ws av y.cls B →
      (∀ (H : Heap) (locs : List Loc) (pc : Nat) (ls : Array Slot), decode cc pc = .ok (.lreturn, 1) → va_P G.1 vwCl w' H → va_D B w' → va_S B s.heap H locs → W p l e rm s m av below meth c H locs 0 0 Q (F0 m pc ls [.long r])) →
      lv_has ls maxL (lv_args 0 vs) → va_P G.1 vwCl w H0 → va_D B w → va_S B s.heap H0 locs0 → W p l e rm s m av below meth c H0 locs0 0 0 Q (F0 m 0 ls [])) : MTl l y ws rm vs G w w' sz r := by
  refine Met.ofW (cc := cc) (maxL := maxL) (ret := some .long) hy hw ?_
  intro p e s m args below meth c s₁ B hml hv
  obtain ⟨rfl, hsz, hP, hK, hD0, hN, hT⟩ := hv
  subst hsz
  have hlocks := B.notSynchronized
  rw [lg_entry_eq]
  refine body p e s m _ below meth c _ (va_A w s.heap.size) s.heap [] _ ⟨⟨B.exec, B.bytes, hml, findClass_of_methodNamed B.named, atoms_spec (ws := ws) B.pre⟩, hK, hN, hT, fun q h => Or.inr h⟩ ?_ (lv_entry vs hlen) hP hD0.self va_S.rf
  intro H locs pc ls hdg h1 h2 h3
  exact W.lret B.exec B.bytes B.returns (fun t ht hW => ⟨⟨r, (), rfl, rfl, by rw [ht]; exact h1, h2⟩, h3.F ht⟩) h3.2.2 hdg
theorem MTv.of (hy : plainName y.cls = true) (hw : ws = Cond.code y cc maxL none :: ws') (hlen : (lg_sl vs).length ≤ maxL)
    (body : ∀ (p : Program) (e : Env) (s : State) (m : MethodId) (av : Array Value) (below : List Frame) (meth : Method) (c : Code) (Q : State → Prop) (B : Nat → Prop) (H0 : Heap) (locs0 : List Loc) (ls : Array Slot), CX G p s m meth c cc maxL ws av y.cls B →
      (∀ (H : Heap) (locs : List Loc) (pc : Nat) (ls : Array Slot), decode cc pc = .ok (.return_, 1) → va_P G.1 vwCl w' H → va_D B w' → va_S B s.heap H locs → W p l e rm s m av below meth c H locs 0 0 Q (F0 m pc ls [])) →
      lv_has ls maxL (lv_args 0 vs) → va_P G.1 vwCl w H0 → va_D B w → va_S B s.heap H0 locs0 → W p l e rm s m av below meth c H0 locs0 0 0 Q (F0 m 0 ls [])) : MTv l y ws rm vs G w w' sz := by
  refine Met.ofW (cc := cc) (maxL := maxL) (ret := none) hy hw ?_
  intro p e s m args below meth c s₁ B hml hv
  obtain ⟨rfl, hsz, hP, hK, hD0, hN, hT⟩ := hv
  subst hsz
  have hlocks := B.notSynchronized
  rw [lg_entry_eq]
  refine body p e s m _ below meth c _ (va_A w s.heap.size) s.heap [] _ ⟨⟨B.exec, B.bytes, hml, findClass_of_methodNamed B.named, atoms_spec (ws := ws) B.pre⟩, hK, hN, hT, fun q h => Or.inr h⟩ ?_ (lv_entry vs hlen) hP hD0.self va_S.rf
  intro H locs pc ls hdg h1 h2 h3
  exact W.vret B.exec B.bytes B.returns (fun t ht hW => ⟨⟨(), rfl, trivial, by rw [ht]; exact h1, h2⟩, h3.F ht⟩) h3.2.2 hdg
/-- a constructor's contract: the world behind it, at addresses that begin with the object's own -/
abbrev MTc (l : Launch) (y : MethodName) (ws : List Cond) (rm : Room) (vs : List Value) (G : GT) (w : va_W) (sz h mc ms : Nat) (wp : (Nat → Nat) → va_W) : Prop :=
  Met l y ws rm (va_Pc vs (PRE G w sz)) (va_Qv (fun (A : Nat → Nat) => A 0 = h) (fun A t => PST G (va_A w sz) (wp A) t) (va_A w sz)) mc ms (va_A w sz)
theorem MTc.of {h mc ms : Nat} {wp : (Nat → Nat) → va_W} (hy : plainName y.cls = true) (hw : ws = Cond.code y cc maxL none :: ws') (hlen : (lg_sl vs).length ≤ maxL)
    (body : ∀ (p : Program) (e : Env) (s : State) (m : MethodId) (av : Array Value) (below : List Frame) (meth : Method) (c : Code) (Q : State → Prop) (B : Nat → Prop) (H0 : Heap) (locs0 : List Loc) (ls : Array Slot), CX G p s m meth c cc maxL ws av y.cls B → meth.name = y.name →
      (∀ (A : Nat → Nat) (H : Heap) (locs : List Loc) (pc : Nat) (ls : Array Slot), A 0 = h → decode cc pc = .ok (.return_, 1) → va_P G.1 vwCl (wp A) H → va_D B (wp A) → va_S B s.heap H locs → W p l e rm s m av below meth c H locs mc ms Q (F0 m pc ls [])) →
      lv_has ls maxL (lv_args 0 vs) → va_P G.1 vwCl w H0 → va_D B w → va_S B s.heap H0 locs0 → W p l e rm s m av below meth c H0 locs0 0 0 Q (F0 m 0 ls [])) : MTc l y ws rm vs G w sz h mc ms wp := by
  refine Met.ofW (cc := cc) (maxL := maxL) (ret := none) hy hw ?_
  intro p e s m args below meth c s₁ B hml hv
  obtain ⟨rfl, hsz, hP, hK, hD0, hN, hT⟩ := hv
  subst hsz
  have hlocks := B.notSynchronized
  rw [lg_entry_eq]
  refine body p e s m _ below meth c _ (va_A w s.heap.size) s.heap [] _ ⟨⟨B.exec, B.bytes, hml, findClass_of_methodNamed B.named, atoms_spec (ws := ws) B.pre⟩, hK, hN, hT, fun q h => Or.inr h⟩ (name_of_methodNamed B.named B.method).1 ?_ (lv_entry vs hlen) hP hD0.self va_S.rf
  intro A H locs pc ls hA hdg h1 h2 h3
  exact W.vret B.exec B.bytes B.returns (fun t ht hW => ⟨⟨A, rfl, hA, by rw [ht]; exact h1, h2⟩, h3.F ht⟩) h3.2.2 hdg
end OFS
/-- the callee's world wc is a part of w; when it has become wc', w has become w' -/
def EM (w wc wc' w' : va_W) : Prop := ∃ (isC isR pm : List Nat) (wr : va_W), isC.map (fun i => w[i]?) = wc.map some ∧ isR.map (fun i => w[i]?) = wr.map some ∧ va_nd isC = true ∧ va_nd isR = true ∧ (∀ i ∈ isR, i ∉ isC) ∧ pm.map (fun i => (wr ++ wc')[i]?) = w'.map some ∧ va_nd pm = true
theorem em_pick {w wc : va_W} {is : List Nat} (h : is.map (fun i => w[i]?) = wc.map some) : is.filterMap (fun i => w[i]?) = wc := by
  have h1 : is.filterMap (fun i => w[i]?) = (is.map (fun i => w[i]?)).filterMap id := by rw [List.filterMap_map]; rfl
  rw [h1, h, List.filterMap_map]
  exact List.filterMap_some
theorem EM.P {w wc wc' w' : va_W} {D : va_G} {cl : List vw_C} {H : Heap} (h : EM w wc wc' w') (hP : va_P D cl w H) : va_P D cl wc H := by
  obtain ⟨isC, isR, pm, wr, hC, -⟩ := h
  exact hP.sub isC (em_pick hC)
theorem EM.D {w wc wc' w' : va_W} {A : Nat → Prop} (h : EM w wc wc' w') (hD : va_D A w) : va_D A wc := by
  obtain ⟨isC, isR, pm, wr, hC, -, hn, -⟩ := h
  exact hD.sub isC hn hC
theorem EM.F {w wc wc' w' : va_W} {A : Nat → Prop} {H0 H : Heap} {locs : List Loc} (h : EM w wc wc' w') (hD : va_D A w) (hS : va_S A H0 H locs) (hA : ∀ q, H0.size ≤ q → A q) : ∀ q, va_A wc H.size q → A q := by
  obtain ⟨isC, isR, pm, wr, hC, -⟩ := h
  exact va_free hD hS hA isC hC
theorem EM.J {w wc wc' w' : va_W} {A : Nat → Prop} {D : va_G} {cl : List vw_C} {H H1 : Heap} (h : EM w wc wc' w') (hP : va_P D cl w H) (hD : va_D A w)
    (hk : ∀ q : Nat, q < H.size → ¬ va_A wc H.size q → H1[q]? = H[q]?) (hF : ∀ q, va_A wc H.size q → A q) (hP1 : va_P D cl wc' H1) (hD1 : va_D (va_A wc H.size) wc') : va_P D cl w' H1 ∧ va_D A w' := by
  obtain ⟨isC, isR, pm, wr, hC, hR, hnC, hnR, hdis, hpm, hnp⟩ := h
  obtain ⟨h1, h2⟩ := va_join hP hD isC isR hC hR hnR hdis hk hF hP1 hD1
  exact ⟨h1.sub pm (em_pick hpm), h2.sub pm hnp hpm⟩
theorem EM.nil (w : va_W) : EM w [] [] w := by
  have hm : ∀ (l : va_W), (List.range l.length).map (fun i => l[i]?) = l.map some := by
    intro l
    apply List.ext_getElem?
    intro k
    rw [List.getElem?_map, List.getElem?_map]
    by_cases hk : k < l.length
    · rw [List.getElem?_range hk, List.getElem?_eq_getElem hk]; simp [hk]
    · rw [List.getElem?_eq_none (by rw [List.length_range]; omega), List.getElem?_eq_none (by omega)]; rfl
  have hn : ∀ n : Nat, va_nd (List.range n) = true := by
    intro n
    have key : ∀ l : List Nat, l.Nodup → va_nd l = true := by
      intro l
      induction l with
      | nil => intro _; rfl
      | cons a l ih => intro h; rw [List.nodup_cons] at h; simp [va_nd, h.1, ih h.2]
    exact key _ List.nodup_range
  exact ⟨[], List.range w.length, List.range w.length, w, rfl, hm w, rfl, hn _, (fun i _ h => nomatch h), (by rw [List.append_nil]; exact hm w), hn _⟩
theorem EM.self (w w' : va_W) (h : (List.range w.length).map (fun i => w[i]?) = w.map some) (h' : (List.range w'.length).map (fun i => w'[i]?) = w'.map some) (hn : va_nd (List.range w.length) = true) (hn' : va_nd (List.range w'.length) = true) : EM w w w' w' :=
  ⟨List.range w.length, [], List.range w'.length, [], h, rfl, hn, rfl, (fun i h => nomatch h), h', hn'⟩
theorem em_map (l : va_W) : (List.range l.length).map (fun i => l[i]?) = l.map some := by
  apply List.ext_getElem?
  intro k
  rw [List.getElem?_map, List.getElem?_map]
  by_cases hk : k < l.length
  · rw [List.getElem?_range hk, List.getElem?_eq_getElem hk]; simp [hk]
  · rw [List.getElem?_eq_none (by rw [List.length_range]; omega), List.getElem?_eq_none (by omega)]; rfl
theorem em_nd (n : Nat) : va_nd (List.range n) = true := by
  have key : ∀ l : List Nat, l.Nodup → va_nd l = true := by
    intro l
    induction l with
    | nil => intro _; rfl
    | cons a l ih => intro h; rw [List.nodup_cons] at h; simp [va_nd, h.1, ih h.2]
  exact key _ List.nodup_range
theorem EM.all (w w' : va_W) : EM w w w' w' := EM.self w w' (em_map w) (em_map w') (em_nd _) (em_nd _)
/-- a method's code and name, as a call wants them -/
def KM (y : MethodName) (wsc : List Cond) (bytes : ByteArray) (maxL : Nat) (ret : Option FieldType) (C : String) (n : Nat) : Prop := (∃ ws', wsc = Cond.code y bytes maxL ret :: ws') ∧ y.cls = C ∧ y.cls ≠ "java/lang/invoke/MethodHandle" ∧ y.cls ≠ "java/lang/invoke/VarHandle" ∧ (parseMethodDescriptor y.desc).map (fun d => d.parameters.length) = some n
/-- pure rows: what may fail is told by none -/
def ck {α : Type} (b : Bool) (x : Option α) : Option α := bif b then x else none
theorem ck_some {α : Type} {b : Bool} {x : Option α} {r : α} (h : ck b x = some r) : b = true ∧ x = some r := by
  cases b with
  | true => exact ⟨rfl, h⟩
  | false => cases h
theorem ck_t {α : Type} {b : Bool} (x : Option α) (h : b = true) : ck b x = x := by subst h; rfl
def ob1 {α γ : Type} (x : Option α) (k : α → Option γ) : Option γ := match x with
  | none => none
  | some a => k a
def ob2 {α β γ : Type} (x : Option (α × β)) (k : α → β → Option γ) : Option γ := match x with
  | none => none
  | some a => k a.1 a.2
def ob3 {α β γ δ : Type} (x : Option (α × β × γ)) (k : α → β → γ → Option δ) : Option δ := match x with
  | none => none
  | some a => k a.1 a.2.1 a.2.2
def ob4 {α β γ δ ε : Type} (x : Option (α × β × γ × δ)) (k : α → β → γ → δ → Option ε) : Option ε := match x with
  | none => none
  | some a => k a.1 a.2.1 a.2.2.1 a.2.2.2
def ob5 {α β γ δ ε ζ : Type} (x : Option (α × β × γ × δ × ε)) (k : α → β → γ → δ → ε → Option ζ) : Option ζ := match x with
  | none => none
  | some a => k a.1 a.2.1 a.2.2.1 a.2.2.2.1 a.2.2.2.2
theorem ob1_some {α γ : Type} {x : Option α} {k : α → Option γ} {r : γ} (h : ob1 x k = some r) : ∃ a, x = some a ∧ k a = some r := by
  cases x with
  | none => cases h
  | some a => exact ⟨a, rfl, h⟩
theorem ob2_some {α β γ : Type} {x : Option (α × β)} {k : α → β → Option γ} {r : γ} (h : ob2 x k = some r) : ∃ a b, x = some (a, b) ∧ k a b = some r := by
  cases x with
  | none => cases h
  | some a => exact ⟨a.1, a.2, rfl, h⟩
theorem ob3_some {α β γ δ : Type} {x : Option (α × β × γ)} {k : α → β → γ → Option δ} {r : δ} (h : ob3 x k = some r) : ∃ a b c, x = some (a, b, c) ∧ k a b c = some r := by
  cases x with
  | none => cases h
  | some a => exact ⟨a.1, a.2.1, a.2.2, rfl, h⟩
theorem ob4_some {α β γ δ ε : Type} {x : Option (α × β × γ × δ)} {k : α → β → γ → δ → Option ε} {r : ε} (h : ob4 x k = some r) : ∃ a b c d, x = some (a, b, c, d) ∧ k a b c d = some r := by
  cases x with
  | none => cases h
  | some a => exact ⟨a.1, a.2.1, a.2.2.1, a.2.2.2, rfl, h⟩
theorem ob5_some {α β γ δ ε ζ : Type} {x : Option (α × β × γ × δ × ε)} {k : α → β → γ → δ → ε → Option ζ} {r : ζ} (h : ob5 x k = some r) : ∃ a b c d e, x = some (a, b, c, d, e) ∧ k a b c d e = some r := by
  cases x with
  | none => cases h
  | some a => exact ⟨a.1, a.2.1, a.2.2.1, a.2.2.2.1, a.2.2.2.2, rfl, h⟩
theorem br_y {α : Type} {q : Prop} {i : Decidable q} {a b r : α} (h : q) (hf : @ite α q i a b = r) : a = r := by rw [← hf, if_pos h]
theorem br_n {α : Type} {q : Prop} {i : Decidable q} {a b r : α} (h : ¬ q) (hf : @ite α q i a b = r) : b = r := by rw [← hf, if_neg h]
def inb (i : Int32) (n : Nat) : Bool := decide (0 ≤ i.toInt) && decide (i.toInt < n)
theorem inb_vp {i : Int32} {n : Nat} (h : inb i n = true) : vp_in i n := by
  unfold inb at h
  rw [Bool.and_eq_true, decide_eq_true_eq, decide_eq_true_eq] at h
  exact vp_in_iff.mpr h
theorem inb_lt {i : Int32} {n : Nat} (h : inb i n = true) : i.toNatClampNeg < n := Nat.not_le.mp fun q => inb_vp h (Or.inr q)
def nz (y : Int32) : Bool := decide (¬ y = 0)
def nzL (y : Int64) : Bool := decide (¬ y = 0)
theorem nz_ne {y : Int32} (h : nz y = true) : ¬ y = 0 := of_decide_eq_true h
theorem nzL_ne {y : Int64} (h : nzL y = true) : ¬ y = 0 := of_decide_eq_true h
def isb (v : Int32) : Bool := decide (v = 0 ∨ v = 1)
theorem isb_or {v : Int32} (h : isb v = true) : v = 0 ∨ v = 1 := of_decide_eq_true h
def cpok (i n : Int32) (L : Nat) : Bool := decide (¬ i < 0 ∧ ¬ n < 0 ∧ i.toNatClampNeg + n.toNatClampNeg ≤ L)
theorem cpok_s {i n : Int32} {L : Nat} (h : cpok i n L = true) : ¬ i < 0 ∧ ¬ n < 0 ∧ i.toNatClampNeg + n.toNatClampNeg ≤ L := of_decide_eq_true h
/-- a state's parts, set one by one -/
def csetA (c : CS) (k : Nat) (f : Nat → Int32) : CS := fun k' => bif Nat.beq k' k then f else c k'
def cset (c : CS) (k i : Nat) (v : Int32) : CS := csetA c k (upd (c k) i v)
def jset (j : JS) (k : Nat) (v : Int64) : JS := fun k' => bif Nat.beq k' k then v else j k'
def gset (I : Nat → CS) (g : Nat) (c : CS) : Nat → CS := fun g' => bif Nat.beq g' g then c else I g'
def hset (J : Nat → JS) (g : Nat) (j : JS) : Nat → JS := fun g' => bif Nat.beq g' g then j else J g'
def jrem (x y : Int32) : Int32 := x - x / y * y
def jremL (x y : Int64) : Int64 := x - x / y * y
def jushr (x y : Int32) : Int32 := (x.toUInt32 >>> (y.toUInt32 &&& Int32.toUInt32 31)).toInt32
def jshlL (x : Int64) (y : Int32) : Int64 := x <<< (y.toInt64 &&& 63)
theorem sw_ne {x v : Int32} {k : Int} (hv : v.toInt = k) (h : ¬ x = v) : x.toInt ≠ k := fun q => h (Int32.toInt_inj.mp (q.trans hv.symm))
/-- enough for every loop -/
def FU : Nat := 5000
section CALLS
variable {p : Program} {l : Launch} {e : Env} {R : Room} {s : State} {m : MethodId} {av : Array Value} {below : List Frame} {meth : Method} {c : Code} {H : Heap} {locs : List Loc} {cells slots : Nat} {Q : State → Prop}
variable {G : GT} {cc : ByteArray} {nL : Nat} {ws : List Cond} {own : String} {A : Nat → Prop} {w wc wc' w' : va_W}
variable {y : MethodName} {bytes : ByteArray} {maxL : Nat} {ret : Option FieldType} {wsc : List Cond} {rmc : Room} {idx n : Nat} {C : String} {b pc : Nat} {As rest st : List Value} {ls : Array Slot} {Qc : Array Value → State → Outcome → State → Prop}
theorem runV (X : CX G p s m meth c cc nL ws av own A) (hM : Met l y wsc rmc (va_Pc (.ref b :: As) (PRE G wc H.size)) Qc 0 0 (va_A wc H.size)) (hG : GoodIn ws (wsV own idx C y wsc)) (hk : KM y wsc bytes maxL ret C n) (hz : rmc.cells = 0 ∧ rmc.slots = 0) (hR : rmc.frames + 1 ≤ R.frames ∧ 8 + (maxL + 11) + rmc.locals ≤ R.locals)
    (hE : EM w wc wc' w') (hP : va_P G.1 vwCl w H) (hD : va_D A w) (hS : va_S A s.heap H locs) {ci : Nat} {fs : List Value} {q : vw_C} (hc : vwCl[ci]? = some q) (hq : q.1 = C) (he : wc[0]? = some (b, .inr (ci, fs))) (hn : As.length = n) (hls : ls.size = nL) (hst : st = As.reverse ++ .ref b :: rest) (hroom : (rest.map fun v => v.category).sum ≤ 8) (hcs : cells ≤ R.cells ∧ slots ≤ R.slots) (hdg : decode cc pc = .ok (.invokevirtual idx, 3)) :
    va_Run p l e R s m av below meth c H locs cells slots 0 0 (F0 m pc ls st) rest (Qc (Value.ref b :: As).toArray) (va_A wc H.size) := by
  obtain ⟨XF, hK, hN, hT, hA⟩ := X
  obtain ⟨⟨ws', hw⟩, hd⟩ := hk
  refine va_runV XF hM (cwV n XF.2.2.2.2 hG hw hz.1 hz.2 hd hR) ⟨PRE.blind, ?_, fun U hU hW => ⟨rfl, by rw [hU], by rw [hU]; exact hE.P hP, va_K.moved hW.alike hK, (hE.D hD).weaken (fun _ _ _ _ => trivial), NW.warm hW hN, ST.call hT hS (hE.F hD hS hA) hU hW.alike⟩⟩ rfl hn hls hst (lv_room hroom) hdg hcs
  obtain ⟨cell, h1, h2, h3⟩ := va_recv hK (hE.P hP) hc he
  exact ⟨cell, h1, h2, by rw [← hq]; exact h3⟩
theorem runS (X : CX G p s m meth c cc nL ws av own A) (hM : Met l y wsc rmc (va_Pc As (PRE G wc H.size)) Qc 0 0 (va_A wc H.size)) (hG : GoodIn ws (va_wsS own idx y wsc)) (hk : KM y wsc bytes maxL ret C n) (hz : rmc.cells = 0 ∧ rmc.slots = 0) (hR : rmc.frames + 1 ≤ R.frames ∧ 8 + (maxL + 11) + rmc.locals ≤ R.locals)
    (hE : EM w wc wc' w') (hP : va_P G.1 vwCl w H) (hD : va_D A w) (hS : va_S A s.heap H locs) (hn : As.length = n) (hls : ls.size = nL) (hst : st = As.reverse ++ rest) (hroom : (rest.map fun v => v.category).sum ≤ 8) (hcs : cells ≤ R.cells ∧ slots ≤ R.slots) (hdg : decode cc pc = .ok (.invokestatic idx, 3)) :
    va_Run p l e R s m av below meth c H locs cells slots 0 0 (F0 m pc ls st) rest (Qc As.toArray) (va_A wc H.size) := by
  obtain ⟨XF, hK, hN, hT, hA⟩ := X
  obtain ⟨⟨ws', hw⟩, -, hd⟩ := hk
  exact va_runS XF hM (va_cwS n XF.2.2.2.2 hG hw hz.1 hz.2 hd hR) ⟨PRE.blind, fun U hU hW => ⟨rfl, by rw [hU], by rw [hU]; exact hE.P hP, va_K.moved hW.alike hK, (hE.D hD).weaken (fun _ _ _ _ => trivial), NW.warm hW hN, ST.call hT hS (hE.F hD hS hA) hU hW.alike⟩⟩ rfl hn hls hst (lv_room hroom) hdg hcs
theorem runN (X : CX G p s m meth c cc nL ws av own A) (hM : Met l y wsc rmc (va_Pc As (PRE G wc H.size)) Qc 0 0 (va_A wc H.size)) (hG : GoodIn ws wsc) (hk : KM y wsc bytes maxL ret C n) (hl : (own, idx, y) ∈ nwM) (hi : Cond.initialized C ∈ ws) (hst0 : Cond.static y ∈ ws) (hz : rmc.cells = 0 ∧ rmc.slots = 0) (hR : rmc.frames + 1 ≤ R.frames ∧ 8 + (maxL + 11) + rmc.locals ≤ R.locals)
    (hE : EM w wc wc' w') (hP : va_P G.1 vwCl w H) (hD : va_D A w) (hS : va_S A s.heap H locs) (hn : As.length = n) (hls : ls.size = nL) (hst : st = As.reverse ++ rest) (hroom : (rest.map fun v => v.category).sum ≤ 8) (hcs : cells ≤ R.cells ∧ slots ≤ R.slots) (hdg : decode cc pc = .ok (.invokestatic idx, 3)) :
    va_Run p l e R s m av below meth c H locs cells slots 0 0 (F0 m pc ls st) rest (Qc As.toArray) (va_A wc H.size) := by
  obtain ⟨XF, hK, hN, hT, hA⟩ := X
  obtain ⟨⟨ws', hw⟩, hC, hd⟩ := hk
  refine va_runSN XF hM ⟨va_cnB n XF.2.2.2.2 hG hw hz.1 hz.2 (hN.2.1 _ hl) (by rw [hC]; exact XF.2.2.2.2 _ hi) hd hR, XF.2.2.2.2 _ hst0, trivial⟩ ⟨PRE.blind, fun U hU hW => ⟨rfl, by rw [hU], by rw [hU]; exact hE.P hP, va_K.moved hW.alike hK, (hE.D hD).weaken (fun _ _ _ _ => trivial), NW.warm hW hN, ST.call hT hS (hE.F hD hS hA) hU hW.alike⟩⟩ rfl hn hls hst (lv_room hroom) hdg hcs
variable {a : Array Value}
theorem endi {r : Int32} (hA : ∀ q, s.heap.size ≤ q → A q) (hr : va_Run p l e R s m av below meth c H locs cells slots 0 0 (F0 m pc ls st) rest (va_Qi (fun x (_ : Unit) => x = r) (fun _ t => PST G (va_A wc H.size) wc' t) (va_A wc H.size) a) (va_A wc H.size)) (hE : EM w wc wc' w') (hP : va_P G.1 vwCl w H) (hD : va_D A w) (hS : va_S A s.heap H locs)
    (kk : ∀ (H1 : Heap) (locs1 : List Loc), va_P G.1 vwCl w' H1 → va_D A w' → va_S A s.heap H1 locs1 → W p l e R s m av below meth c H1 locs1 cells slots Q (F0 m (pc + 3) ls (.int r :: rest))) : W p l e R s m av below meth c H locs cells slots Q (F0 m pc ls st) := by
  refine va_calli hr hS (fun q _ h => hE.F hD hS hA q h) (hE.F hD hS hA) (fun x u t H1 locs1 ht hvm hx hB hz hk hS1 => ?_)
  subst hx
  obtain ⟨h1, h2⟩ := hB
  rw [ht] at h1
  obtain ⟨g1, g2⟩ := hE.J hP hD hk (hE.F hD hS hA) h1 h2
  exact kk H1 locs1 g1 g2 hS1
theorem endl {r : Int64} (hA : ∀ q, s.heap.size ≤ q → A q) (hr : va_Run p l e R s m av below meth c H locs cells slots 0 0 (F0 m pc ls st) rest (va_Ql (fun x (_ : Unit) => x = r) (fun _ t => PST G (va_A wc H.size) wc' t) (va_A wc H.size) a) (va_A wc H.size)) (hE : EM w wc wc' w') (hP : va_P G.1 vwCl w H) (hD : va_D A w) (hS : va_S A s.heap H locs)
    (kk : ∀ (H1 : Heap) (locs1 : List Loc), va_P G.1 vwCl w' H1 → va_D A w' → va_S A s.heap H1 locs1 → W p l e R s m av below meth c H1 locs1 cells slots Q (F0 m (pc + 3) ls (.long r :: rest))) : W p l e R s m av below meth c H locs cells slots Q (F0 m pc ls st) := by
  refine va_calll hr hS (fun q _ h => hE.F hD hS hA q h) (hE.F hD hS hA) (fun x u t H1 locs1 ht hvm hx hB hz hk hS1 => ?_)
  subst hx
  obtain ⟨h1, h2⟩ := hB
  rw [ht] at h1
  obtain ⟨g1, g2⟩ := hE.J hP hD hk (hE.F hD hS hA) h1 h2
  exact kk H1 locs1 g1 g2 hS1
theorem endv (hA : ∀ q, s.heap.size ≤ q → A q) (hr : va_Run p l e R s m av below meth c H locs cells slots 0 0 (F0 m pc ls st) rest (va_Qv (fun (_ : Unit) => True) (fun _ t => PST G (va_A wc H.size) wc' t) (va_A wc H.size) a) (va_A wc H.size)) (hE : EM w wc wc' w') (hP : va_P G.1 vwCl w H) (hD : va_D A w) (hS : va_S A s.heap H locs)
    (kk : ∀ (H1 : Heap) (locs1 : List Loc), va_P G.1 vwCl w' H1 → va_D A w' → va_S A s.heap H1 locs1 → W p l e R s m av below meth c H1 locs1 cells slots Q (F0 m (pc + 3) ls rest)) : W p l e R s m av below meth c H locs cells slots Q (F0 m pc ls st) := by
  refine va_callv hr hS (fun q _ h => hE.F hD hS hA q h) (hE.F hD hS hA) (fun u t H1 locs1 ht hvm hx hB hz hk hS1 => ?_)
  obtain ⟨h1, h2⟩ := hB
  rw [ht] at h1
  obtain ⟨g1, g2⟩ := hE.J hP hD hk (hE.F hD hS hA) h1 h2
  exact kk H1 locs1 g1 g2 hS1
theorem wirem (hexec : p.tables.exec = Jvm.exec) (hb : c.code = cc) {x y : Int32} (hdg : decode cc pc = .ok (.irem, 1)) (hne : ¬ y = 0) (kk : W p l e R s m av below meth c H locs cells slots Q (F0 m (pc + 1) ls (.int (jrem x y) :: rest))) : W p l e R s m av below meth c H locs cells slots Q (F0 m pc ls (.int y :: .int x :: rest)) := lv_irem hexec hb hdg hne kk
theorem wlrem (hexec : p.tables.exec = Jvm.exec) (hb : c.code = cc) {x y : Int64} (hdg : decode cc pc = .ok (.lrem, 1)) (hne : ¬ y = 0) (kk : W p l e R s m av below meth c H locs cells slots Q (F0 m (pc + 1) ls (.long (jremL x y) :: rest))) : W p l e R s m av below meth c H locs cells slots Q (F0 m pc ls (.long y :: .long x :: rest)) := lv_lrem hexec hb hdg hne kk
/-- fields -/
theorem wget (X : CX G p s m meth c cc nL ws av own A) {C ref : String} {T : u_T} {N ci index : Nat} (hin : ∀ w ∈ u_ws C T N, w ∈ ws) (hP : va_P G.1 vwCl w H) (q0 : Nat) {a : Nat} {fs : List Value} (he : w[q0]? = some (a, .inr (ci, fs))) (hc : vwCl[ci]? = some (C, T, N)) (k : Nat) (hk : k < N) (hl : Cond.fieldLink own index ref (T k).2.1 (T k).2.2.1 ∈ ws) (hrf : (T k).1 = ref) {v : Value} (hv : fs[k]? = some v) (hdg : decode cc pc = .ok (.getfield index, 3))
    (kk : W p l e R s m av below meth c H locs cells slots Q (F0 m (pc + 3) ls (v :: rest))) : W p l e R s m av below meth c H locs cells slots Q (F0 m pc ls (.ref a :: rest)) :=
  va_get X.1.1 X.1.2.1 X.1.2.2.2.2 hin X.1.2.2.2.1 X.2.1 hP q0 he hc k hk (X.1.2.2.2.2 _ hl) (fun _ h => by rw [← hrf]; exact h) hv hdg kk
theorem wgetN (X : CX G p s m meth c cc nL ws av own A) {C ref : String} {T : u_T} {N ci index : Nat} (hin : ∀ w ∈ u_ws C T N, w ∈ ws) (hP : va_P G.1 vwCl w H) (q0 : Nat) {a : Nat} {fs : List Value} (he : w[q0]? = some (a, .inr (ci, fs))) (hc : vwCl[ci]? = some (C, T, N)) (k : Nat) (hk : k < N) (hl : (own, index, ref, (T k).2.1, (T k).2.2.1) ∈ nwF) (hrf : (T k).1 = ref) {v : Value} (hv : fs[k]? = some v) (hdg : decode cc pc = .ok (.getfield index, 3))
    (kk : W p l e R s m av below meth c H locs cells slots Q (F0 m (pc + 3) ls (v :: rest))) : W p l e R s m av below meth c H locs cells slots Q (F0 m pc ls (.ref a :: rest)) :=
  va_getN X.1.1 X.1.2.1 X.1.2.2.2.2 hin X.1.2.2.2.1 X.2.1 hP q0 he hc k hk (va_Nw.use rfl (X.2.2.1.1 _ hl)) (fun _ h => by rw [← hrf]; exact h) hv hdg kk
theorem wput (X : CX G p s m meth c cc nL ws av own A) {C ref : String} {T : u_T} {N ci index : Nat} (hin : ∀ w ∈ u_ws C T N, w ∈ ws) (ty0 : Nat → FieldType) (hty : ∀ k, k < N → parseFieldDescriptor (T k).2.2.1 = some (ty0 k)) (hnm : ∀ a, a < N → ∀ b, b < N → a ≠ b → (T a).2.1 ≠ (T b).2.1) (hP : va_P G.1 vwCl w H) (hD : va_D A w) (hS : va_S A s.heap H locs) (q0 : Nat) {a : Nat} {fs : List Value} (he : w[q0]? = some (a, .inr (ci, fs))) (hc : vwCl[ci]? = some (C, T, N)) (k : Nat) (hk : k < N) (hl : Cond.fieldLink own index ref (T k).2.1 (T k).2.2.1 ∈ ws) (hrf : (T k).1 = ref) (hfin : (T k).2.2.2 = false) {ty : FieldType} {v : Value} (hd : ty0 k = ty) (hn : narrow ty v = v) (hfit : fits ty v = true) (hlen : k < fs.length) (hset : w.set q0 (a, .inr (ci, fs.set k v)) = w') (hdg : decode cc pc = .ok (.putfield index, 3))
    (kk : ∀ (H1 : Heap) (locs1 : List Loc), va_P G.1 vwCl w' H1 → va_D A w' → va_S A s.heap H1 locs1 → W p l e R s m av below meth c H1 locs1 cells slots Q (F0 m (pc + 3) ls rest)) : W p l e R s m av below meth c H locs cells slots Q (F0 m pc ls (v :: .ref a :: rest)) := by
  subst hset
  exact va_put X.1.1 X.1.2.1 X.1.2.2.2.2 hin ty0 hty hnm X.1.2.2.2.1 X.2.1 hP hD hS q0 he hc k hk (X.1.2.2.2.2 _ hl) (fun _ h => by rw [← hrf]; exact h) hfin (by rw [hty k hk, hd]) hn hfit hlen hdg kk
theorem wputN (X : CX G p s m meth c cc nL ws av own A) {C ref : String} {T : u_T} {N ci index : Nat} (hin : ∀ w ∈ u_ws C T N, w ∈ ws) (ty0 : Nat → FieldType) (hty : ∀ k, k < N → parseFieldDescriptor (T k).2.2.1 = some (ty0 k)) (hnm : ∀ a, a < N → ∀ b, b < N → a ≠ b → (T a).2.1 ≠ (T b).2.1) (hP : va_P G.1 vwCl w H) (hD : va_D A w) (hS : va_S A s.heap H locs) (q0 : Nat) {a : Nat} {fs : List Value} (he : w[q0]? = some (a, .inr (ci, fs))) (hc : vwCl[ci]? = some (C, T, N)) (k : Nat) (hk : k < N) (hl : (own, index, ref, (T k).2.1, (T k).2.2.1) ∈ nwF) (hrf : (T k).1 = ref) (hfin : (T k).2.2.2 = false) {ty : FieldType} {v : Value} (hd : ty0 k = ty) (hn : narrow ty v = v) (hfit : fits ty v = true) (hlen : k < fs.length) (hset : w.set q0 (a, .inr (ci, fs.set k v)) = w') (hdg : decode cc pc = .ok (.putfield index, 3))
    (kk : ∀ (H1 : Heap) (locs1 : List Loc), va_P G.1 vwCl w' H1 → va_D A w' → va_S A s.heap H1 locs1 → W p l e R s m av below meth c H1 locs1 cells slots Q (F0 m (pc + 3) ls rest)) : W p l e R s m av below meth c H locs cells slots Q (F0 m pc ls (v :: .ref a :: rest)) := by
  subst hset
  exact va_putN X.1.1 X.1.2.1 X.1.2.2.2.2 hin ty0 hty hnm X.1.2.2.2.1 X.2.1 hP hD hS q0 he hc k hk (va_Nw.use rfl (X.2.2.1.1 _ hl)) (fun _ h => by rw [← hrf]; exact h) hfin (by rw [hty k hk, hd]) hn hfit hlen hdg kk
/-- arrays -/
theorem wiald (X : CX G p s m meth c cc nL ws av own A) (hP : va_P G.1 vwCl w H) (q0 : Nat) {a n : Nat} {f : Nat → Int32} (ha : w[q0]? = some (a, .inl (G.2 0, n, .inl f))) {i : Int32} (hi : inb i n = true) {j : Nat} (hj : i.toNatClampNeg = j) (hdg : decode cc pc = .ok (.iaload, 1))
    (kk : W p l e R s m av below meth c H locs cells slots Q (F0 m (pc + 1) ls (.int (f j) :: rest))) : W p l e R s m av below meth c H locs cells slots Q (F0 m pc ls (.int i :: .ref a :: rest)) := by
  subst hj
  exact va_iald X.1.1 X.1.2.1 X.2.1 hP q0 0 ha rfl (inb_vp hi) hdg kk
theorem wzald (X : CX G p s m meth c cc nL ws av own A) (hP : va_P G.1 vwCl w H) (q0 : Nat) {a n : Nat} {f : Nat → Int32} (ha : w[q0]? = some (a, .inl (G.2 1, n, .inl f))) {i : Int32} (hi : inb i n = true) {j : Nat} (hj : i.toNatClampNeg = j) (hdg : decode cc pc = .ok (.baload, 1))
    (kk : W p l e R s m av below meth c H locs cells slots Q (F0 m (pc + 1) ls (.int (f j) :: rest))) : W p l e R s m av below meth c H locs cells slots Q (F0 m pc ls (.int i :: .ref a :: rest)) := by
  subst hj
  exact va_zald X.1.1 X.1.2.1 X.2.1 hP q0 1 ha rfl (inb_vp hi) hdg kk
theorem wiast (X : CX G p s m meth c cc nL ws av own A) (hP : va_P G.1 vwCl w H) (hD : va_D A w) (hS : va_S A s.heap H locs) (q0 : Nat) {a n : Nat} {f : Nat → Int32} (ha : w[q0]? = some (a, .inl (G.2 0, n, .inl f))) {i x : Int32} (hi : inb i n = true) {j : Nat} (hj : i.toNatClampNeg = j) (hset : w.set q0 (a, .inl (G.2 0, n, .inl (upd f j x))) = w') (hdg : decode cc pc = .ok (.iastore, 1))
    (kk : ∀ (H1 : Heap) (locs1 : List Loc), va_P G.1 vwCl w' H1 → va_D A w' → va_S A s.heap H1 locs1 → W p l e R s m av below meth c H1 locs1 cells slots Q (F0 m (pc + 1) ls rest)) : W p l e R s m av below meth c H locs cells slots Q (F0 m pc ls (.int x :: .int i :: .ref a :: rest)) := by
  subst hset
  subst hj
  exact va_iast X.1.1 X.1.2.1 X.2.1 hP hD hS q0 0 ha rfl (inb_vp hi) hdg kk
theorem wzast (X : CX G p s m meth c cc nL ws av own A) (hP : va_P G.1 vwCl w H) (hD : va_D A w) (hS : va_S A s.heap H locs) (q0 : Nat) {a n : Nat} {f : Nat → Int32} (ha : w[q0]? = some (a, .inl (G.2 1, n, .inl f))) {i x : Int32} (hi : inb i n = true) {j : Nat} (hj : i.toNatClampNeg = j) (hset : w.set q0 (a, .inl (G.2 1, n, .inl (upd f j (vp_nar .boolean x)))) = w') (hdg : decode cc pc = .ok (.bastore, 1))
    (kk : ∀ (H1 : Heap) (locs1 : List Loc), va_P G.1 vwCl w' H1 → va_D A w' → va_S A s.heap H1 locs1 → W p l e R s m av below meth c H1 locs1 cells slots Q (F0 m (pc + 1) ls rest)) : W p l e R s m av below meth c H locs cells slots Q (F0 m pc ls (.int x :: .int i :: .ref a :: rest)) := by
  subst hset
  subst hj
  exact va_zast X.1.1 X.1.2.1 X.2.1 hP hD hS q0 1 ha rfl (inb_vp hi) hdg kk
theorem walen (X : CX G p s m meth c cc nL ws av own A) (hP : va_P G.1 vwCl w H) (q0 t0 : Nat) {a : Nat} {cA : ClassId} {x : vp_A} (ha : w[q0]? = some (a, .inl (cA, x))) {ty : FieldType} (ht : (tys G)[t0]? = some (cA, ty)) {v : Int32} (hv : Int32.ofNat x.1 = v) (hdg : decode cc pc = .ok (.arraylength, 1))
    (kk : W p l e R s m av below meth c H locs cells slots Q (F0 m (pc + 1) ls (.int v :: rest))) : W p l e R s m av below meth c H locs cells slots Q (F0 m pc ls (.ref a :: rest)) :=
  va_alen X.1.1 X.1.2.1 X.2.1 hP q0 t0 ha ht hv hdg kk
theorem waaldC (X : CX G p s m meth c cc nL ws av own A) (hP : va_P G.1 vwCl w H) (q0 : Nat) {a n : Nat} {f : Nat → Option Nat} (ha : w[q0]? = some (a, .inl (G.2 2, n, .inr (.inr (.inr (.inr f)))))) {i : Int32} (hi : inb i n = true) {B : Nat → Nat} (hB : ∀ j, j < n → f j = some (B j)) (hdg : decode cc pc = .ok (.aaload, 1))
    (kk : W p l e R s m av below meth c H locs cells slots Q (F0 m (pc + 1) ls (.ref (B i.toNatClampNeg) :: rest))) : W p l e R s m av below meth c H locs cells slots Q (F0 m pc ls (.int i :: .ref a :: rest)) := by
  refine va_aldq X.1.1 X.1.2.1 X.2.1 hP q0 2 ha rfl (inb_vp hi) hdg ?_
  rw [hB _ (inb_lt hi)]
  exact kk
theorem waaldI (X : CX G p s m meth c cc nL ws av own A) (hP : va_P G.1 vwCl w H) (q0 : Nat) {a n : Nat} {f : Nat → Option Nat} (ha : w[q0]? = some (a, .inl (G.2 3, n, .inr (.inr (.inr (.inr f)))))) {i : Int32} (hi : inb i n = true) {B : Nat → Nat} (hB : ∀ j, j < n → f j = some (B j)) (hdg : decode cc pc = .ok (.aaload, 1))
    (kk : W p l e R s m av below meth c H locs cells slots Q (F0 m (pc + 1) ls (.ref (B i.toNatClampNeg) :: rest))) : W p l e R s m av below meth c H locs cells slots Q (F0 m pc ls (.int i :: .ref a :: rest)) := by
  have hin := inb_vp hi
  have hlt : i.toNatClampNeg < n := Nat.not_le.mp fun q => hin (Or.inr q)
  exact W.aald (v := va_rf (f i.toNatClampNeg)) (ty := .array .int) X.1.1 X.1.2.1 (hP q0 _ ha) ((X.2.1.2 3 _ rfl).1 n (fun j => va_rf (f j))) rfl (fun q => by cases q) (by show ¬ (i < 0 ∨ (arrV _ _ _).slots.size ≤ _); rw [arrV_size]; exact hin) (by show (arrV _ _ _).slots[_]? = _; rw [arrV_read _ _ hlt]) rfl rfl hdg (by rw [hB _ hlt]; exact kk)
theorem wcopy (X : CX G p s m meth c cc nL ws av own A) (hls : ls.size = nL) (hl : Cond.methodLink own idx arraycopyName ∈ ws) (hna : Cond.native arraycopyName ∈ ws) (hsa : Cond.static arraycopyName ∈ ws) (hia : Cond.initialized "java/lang/System" ∈ ws) (hP : va_P G.1 vwCl w H) (hD : va_D A w) (hS : va_S A s.heap H locs) (q0 q1 : Nat) {a0 a n0 n1 : Nat} {f g : Nat → Int32} (ha0 : w[q0]? = some (a0, .inl (G.2 0, n0, .inl f))) (ha1 : w[q1]? = some (a, .inl (G.2 0, n1, .inl g))) {sp dp n : Int32} (h1 : cpok sp n n0 = true) (h2 : cpok dp n n1 = true) (hfr : 1 ≤ R.frames) (hlo : (rest.map fun v => v.category).sum + (nativeFrameWords "java/lang/System" "arraycopy" 5 + 11) ≤ R.locals) (hset : w.set q1 (a, .inl (G.2 0, n1, .inl (va_cpy f g sp.toNatClampNeg dp.toNatClampNeg n.toNatClampNeg))) = w') (hdg : decode cc pc = .ok (.invokestatic idx, 3))
    (kk : ∀ (H1 : Heap) (locs1 : List Loc), va_P G.1 vwCl w' H1 → va_D A w' → va_S A s.heap H1 locs1 → W p l e R s m av below meth c H1 locs1 cells slots Q (F0 m (pc + 3) ls rest)) : W p l e R s m av below meth c H locs cells slots Q (F0 m pc ls (.int n :: .int dp :: .ref a :: .int sp :: .ref a0 :: rest)) := by
  subst hset
  obtain ⟨b1, b2, b3⟩ := cpok_s h1
  obtain ⟨c1, c2, c3⟩ := cpok_s h2
  exact va_copyi X.1.1 X.1.2.1 (X.1.2.2.1.trans hls.symm) X.1.2.2.2.1 (X.1.2.2.2.2 _ hl) (X.1.2.2.2.2 _ hna) (X.1.2.2.2.2 _ hsa) (X.1.2.2.2.2 _ hia) X.2.1 hP hD hS q0 q1 0 0 ha0 ha1 rfl rfl rfl b1 c1 b2 b3 c3 (fun _ _ => rfl) hfr hlo hdg kk
/-- making -/
theorem wobj (X : CX G p s m meth c cc nL ws av own A) (hls : ls.size = nL) (h1 : Cond.methodLink own idx objectInit ∈ ws) (h2 : Cond.instanceMethod objectInit ∈ ws) (h3 : Cond.code objectInit ⟨#[0xb1]⟩ 1 none ∈ ws) {a : Nat} (hdg : decode cc pc = .ok (.invokespecial idx, 3)) (hfr : 1 ≤ R.frames) (hlo : 2 * (F0 m pc ls (.ref a :: rest)).monitorRoom + (rest.map fun v => v.category).sum + 12 ≤ R.locals)
    (kk : W p l e R s m av below meth c H locs cells slots Q (F0 m (pc + 3) ls rest)) : W p l e R s m av below meth c H locs cells slots Q (F0 m pc ls (.ref a :: rest)) :=
  W.objInit X.1.1 X.1.2.1 X.1.2.2.2.1 (X.1.2.2.2.2 _ h1) (X.1.2.2.2.2 _ h2) (X.1.2.2.2.2 _ h3) rfl (hls.trans X.1.2.2.1.symm) rfl hdg hfr hlo kk
theorem wputF (X : CX G p s m meth c cc nL ws av own A) (hini : meth.name = "<init>") {C ref : String} {T : u_T} {N ci index : Nat} (hin : ∀ w ∈ u_ws C T N, w ∈ ws) (ty0 : Nat → FieldType) (hty : ∀ k, k < N → parseFieldDescriptor (T k).2.2.1 = some (ty0 k)) (hnm : ∀ a, a < N → ∀ b, b < N → a ≠ b → (T a).2.1 ≠ (T b).2.1) (hP : va_P G.1 vwCl w H) (hD : va_D A w) (hS : va_S A s.heap H locs) (q0 : Nat) {a : Nat} {fs : List Value} (he : w[q0]? = some (a, .inr (ci, fs))) (hc : vwCl[ci]? = some (C, T, N)) (k : Nat) (hk : k < N) (hl : Cond.fieldLink own index ref (T k).2.1 (T k).2.2.1 ∈ ws) (hrf : (T k).1 = ref) (hfin : (T k).2.2.2 = true) (hdecl : (T k).1 = own) {ty : FieldType} {v : Value} (hd : ty0 k = ty) (hn : narrow ty v = v) (hfit : fits ty v = true) (hlen : k < fs.length) (hset : w.set q0 (a, .inr (ci, fs.set k v)) = w') (hdg : decode cc pc = .ok (.putfield index, 3))
    (kk : ∀ (H1 : Heap) (locs1 : List Loc), va_P G.1 vwCl w' H1 → va_D A w' → va_S A s.heap H1 locs1 → W p l e R s m av below meth c H1 locs1 cells slots Q (F0 m (pc + 3) ls rest)) : W p l e R s m av below meth c H locs cells slots Q (F0 m pc ls (v :: .ref a :: rest)) := by
  subst hset
  exact va_putF X.1.1 X.1.2.1 X.1.2.2.2.2 hin ty0 hty hnm X.1.2.2.2.1 X.2.1 hP hD hS q0 he hc k hk (X.1.2.2.2.2 _ hl) (fun _ h => by rw [← hrf]; exact h) hfin hini hdecl (by rw [hty k hk, hd]) hn hfit hlen hdg kk
theorem wnewI (X : CX G p s m meth c cc nL ws av own A) (harr : Cond.arrayClass .int ∈ ws) (hP : va_P G.1 vwCl w H) (hD : va_D A w) (hS : va_S A s.heap H locs) {n : Int32} {N' : Nat} (hn : ¬ n < 0) (hN : n.toNatClampNeg = N') (hbytes : N' * 4 ≤ 536870912) (hcells : cells + 1 ≤ R.cells) (hslots : slots + N' ≤ R.slots) (hdg : decode cc pc = .ok (.newarray .int, 2))
    (kk : ∀ (q : Nat) (H1 : Heap), va_P G.1 vwCl (w ++ [(q, .inl (G.2 0, N', .inl (fun _ => 0)))]) H1 → va_D A (w ++ [(q, .inl (G.2 0, N', .inl (fun _ => 0)))]) → va_S A s.heap H1 locs → W p l e R s m av below meth c H1 locs (cells + 1) (slots + N') Q (F0 m (pc + 2) ls (.ref q :: rest))) : W p l e R s m av below meth c H locs cells slots Q (F0 m pc ls (.int n :: rest)) := by
  refine va_newa (atype := .int) X.1.1 X.1.2.1 (X.1.2.2.2.2 _ harr) rfl X.2.1 hP hD hS X.2.2.2.2 (a0 := (N', .inl (fun _ => 0))) (fun cA => rfl) hn hN hbytes hcells hslots hdg (fun q cA H1 hK1 hP1 hD1 hS1 => ?_)
  have e1 := (hK1.2 4 _ rfl).2
  have e2 := (X.2.1.2 0 _ rfl).2
  have e : cA = G.2 0 := Option.some.inj ((show s.vm.findClass ("[" ++ FieldType.int.toString) = some cA from e1).symm.trans (show s.vm.findClass ("[" ++ FieldType.int.toString) = some (G.2 0) from e2))
  subst e
  exact kk q H1 hP1 hD1 hS1
theorem wnewZ (X : CX G p s m meth c cc nL ws av own A) (harr : Cond.arrayClass .boolean ∈ ws) (hP : va_P G.1 vwCl w H) (hD : va_D A w) (hS : va_S A s.heap H locs) {n : Int32} {N' : Nat} (hn : ¬ n < 0) (hN : n.toNatClampNeg = N') (hbytes : N' * 1 ≤ 536870912) (hcells : cells + 1 ≤ R.cells) (hslots : slots + N' ≤ R.slots) (hdg : decode cc pc = .ok (.newarray .boolean, 2))
    (kk : ∀ (q : Nat) (H1 : Heap), va_P G.1 vwCl (w ++ [(q, .inl (G.2 1, N', .inl (fun _ => 0)))]) H1 → va_D A (w ++ [(q, .inl (G.2 1, N', .inl (fun _ => 0)))]) → va_S A s.heap H1 locs → W p l e R s m av below meth c H1 locs (cells + 1) (slots + N') Q (F0 m (pc + 2) ls (.ref q :: rest))) : W p l e R s m av below meth c H locs cells slots Q (F0 m pc ls (.int n :: rest)) := by
  refine va_newa (atype := .boolean) X.1.1 X.1.2.1 (X.1.2.2.2.2 _ harr) rfl X.2.1 hP hD hS X.2.2.2.2 (a0 := (N', .inl (fun _ => 0))) (fun cA => rfl) hn hN hbytes hcells hslots hdg (fun q cA H1 hK1 hP1 hD1 hS1 => ?_)
  have e1 := (hK1.2 4 _ rfl).2
  have e2 := (X.2.1.2 1 _ rfl).2
  have e : cA = G.2 1 := Option.some.inj ((show s.vm.findClass ("[" ++ FieldType.boolean.toString) = some cA from e1).symm.trans (show s.vm.findClass ("[" ++ FieldType.boolean.toString) = some (G.2 1) from e2))
  subst e
  exact kk q H1 hP1 hD1 hS1
theorem wnewC (X : CX G p s m meth c cc nL ws av own A) {index : Nat} (hcl : Cond.classLink own index "TownRepeated$Chain" ∈ ws) (hP : va_P G.1 vwCl w H) (hD : va_D A w) (hS : va_S A s.heap H locs) {n : Int32} {N' : Nat} (hn : ¬ n < 0) (hN : n.toNatClampNeg = N') (hbytes : N' * 4 ≤ 536870912) (hcells : cells + 1 ≤ R.cells) (hslots : slots + N' ≤ R.slots) (hdg : decode cc pc = .ok (.anewarray index, 3))
    (kk : ∀ (q : Nat) (H1 : Heap), va_P G.1 vwCl (w ++ [(q, .inl (G.2 2, N', .inr (.inr (.inr (.inr (fun _ => none))))))]) H1 → va_D A (w ++ [(q, .inl (G.2 2, N', .inr (.inr (.inr (.inr (fun _ => none))))))]) → va_S A s.heap H1 locs → W p l e R s m av below meth c H1 locs (cells + 1) (slots + N') Q (F0 m (pc + 3) ls (.ref q :: rest))) : W p l e R s m av below meth c H locs cells slots Q (F0 m pc ls (.int n :: rest)) := by
  refine va_newq X.1.1 X.1.2.1 X.1.2.2.2.1 (X.1.2.2.2.2 _ hcl) X.2.2.1.2.2.1 X.2.1 hP hD hS X.2.2.2.2 hn hN hbytes hcells hslots hdg (fun q cA H1 hK1 hP1 hD1 hS1 => ?_)
  obtain ⟨-, -, -, -, -, e1⟩ := (hK1.2 4 _ rfl).2
  obtain ⟨-, -, -, -, -, e2⟩ := (X.2.1.2 2 _ rfl).2
  have e : cA = G.2 2 := Option.some.inj (e1.symm.trans e2)
  subst e
  exact kk q H1 hP1 hD1 hS1
theorem wnewM (X : CX G p s m meth c cc nL ws av own A) {index : Nat} (hcl : Cond.classLink own index "[[I" ∈ ws) (harr : Cond.arrayClass .int ∈ ws) (hP : va_P G.1 vwCl w H) (hD : va_D A w) (hS : va_S A s.heap H locs) {n k : Int32} {N' K' : Nat} (hn : ¬ n < 0) (hk : ¬ k < 0) (hN : n.toNatClampNeg = N') (hM : k.toNatClampNeg = K') (hb1 : N' * 4 ≤ 536870912) (hb2 : K' * 4 ≤ 536870912) (hb3 : K' ≤ 536870912) (hcells : cells + (1 + N') ≤ R.cells) (hslots : slots + (N' + N' * K') ≤ R.slots) (hdg : decode cc pc = .ok (.multianewarray index 2, 4))
    (kk : ∀ (q : Nat) (r : Nat → Nat) (H1 : Heap), va_P G.1 vwCl ((w ++ [(q, .inl (G.2 3, N', .inr (.inr (.inr (.inr (fun i => if i < N' then some (r i) else none))))))]) ++ ((List.range N').map r).map (fun a => (a, .inl (G.2 0, K', .inl (fun _ => 0))))) H1 → va_D A ((w ++ [(q, .inl (G.2 3, N', .inr (.inr (.inr (.inr (fun i => if i < N' then some (r i) else none))))))]) ++ ((List.range N').map r).map (fun a => (a, .inl (G.2 0, K', .inl (fun _ => 0))))) → va_S A s.heap H1 locs → W p l e R s m av below meth c H1 locs (cells + 1 + N') (slots + N' + N' * K') Q (F0 m (pc + 4) ls (.ref q :: rest))) : W p l e R s m av below meth c H locs cells slots Q (F0 m pc ls (.int k :: .int n :: rest)) := by
  have e0 : w ++ va_pl [] (fun _ => .inl (0, 0, .inl (fun _ => 0))) = w := List.append_nil w
  refine va_mna (ty := .int) (X := w) (L := []) (f := fun _ => .inl (0, 0, .inl (fun _ => 0))) (z := (K', .inl (fun _ => 0))) X.1.1 X.1.2.1 X.1.2.2.2.1 (X.1.2.2.2.2 _ hcl) X.2.2.1.2.2.2 (X.1.2.2.2.2 _ harr) (cy := G.2 0) (X.2.1.2 0 _ rfl).2 X.2.1 (by rw [e0]; exact hP) (by rw [e0]; exact hD) hS X.2.2.2.2 hn hk hN hM hb1 hb2 hb3 rfl rfl hcells hslots (fun c => (arrV_new c K' (.int 0))) hdg (fun q r cA H1 hinj hnl hK1 hP1 hD1 hS1 => ?_)
  have e1 := (hK1.2 4 _ rfl).2
  have e2 := (X.2.1.2 3 _ rfl).2
  have e : cA = G.2 3 := Option.some.inj ((show s.vm.findClass ("[" ++ (FieldType.array .int).toString) = some cA from e1).symm.trans (show s.vm.findClass ("[" ++ (FieldType.array .int).toString) = some (G.2 3) from e2))
  subst e
  rw [← vr_rows (fun a _ => List.not_mem_nil)] at hP1 hD1
  exact kk q r H1 hP1 hD1 hS1
section CTOR
variable {mc ms : Nat} {wp : (Nat → Nat) → va_W} {w0 : va_W} {ob : va_E}
theorem em_last (w0 : va_W) (x : Nat × va_E) : ([w0.length] : List Nat).map (fun i => (w0 ++ [x])[i]?) = ([x] : va_W).map some ∧ (List.range w0.length).map (fun i => (w0 ++ [x])[i]?) = w0.map some := by
  constructor
  · simp
  · rw [← em_map w0]
    apply List.map_congr_left
    intro i hi
    rw [List.getElem?_append_left (List.mem_range.mp hi)]
theorem pre_last (X : CX G p s m meth c cc nL ws av own A) (hP : va_P G.1 vwCl (w0 ++ [(b, ob)]) H) (hD : va_D A (w0 ++ [(b, ob)])) (hS : va_S A s.heap H locs) (vs : List Value) (U : State) (hU : U.heap = H) (hW : s.WarmedH U.vm) : va_Pc vs (PRE G [(b, ob)] H.size) vs.toArray U := by
  obtain ⟨XF, hK, hN, hT, hA⟩ := X
  have e := em_last w0 (b, ob)
  refine ⟨rfl, by rw [hU], by rw [hU]; exact hP.sub [w0.length] (em_pick e.1), va_K.moved hW.alike hK, (hD.sub [w0.length] rfl e.1).weaken (fun _ _ _ _ => trivial), NW.warm hW hN, ST.call hT hS (va_free hD hS hA [w0.length] e.1) hU hW.alike⟩
theorem endc {a : Array Value} (hA : ∀ q, s.heap.size ≤ q → A q) (hr : va_Run p l e R s m av below meth c H locs cells slots mc ms (F0 m pc ls st) rest (va_Qv (fun (A : Nat → Nat) => A 0 = b) (fun A t => PST G (va_A [(b, ob)] H.size) (wp A) t) (va_A [(b, ob)] H.size) a) (va_A [(b, ob)] H.size)) (hP : va_P G.1 vwCl (w0 ++ [(b, ob)]) H) (hD : va_D A (w0 ++ [(b, ob)])) (hS : va_S A s.heap H locs)
    (kk : ∀ (A1 : Nat → Nat) (H1 : Heap) (locs1 : List Loc), A1 0 = b → va_P G.1 vwCl (w0 ++ wp A1) H1 → va_D A (w0 ++ wp A1) → va_S A s.heap H1 locs1 → W p l e R s m av below meth c H1 locs1 (cells + mc) (slots + ms) Q (F0 m (pc + 3) ls rest)) : W p l e R s m av below meth c H locs cells slots Q (F0 m pc ls st) := by
  have e := em_last w0 (b, ob)
  have hF := va_free hD hS hA [w0.length] e.1
  refine va_callv hr hS (fun q _ h => hF q h) hF (fun A1 t H1 locs1 ht hvm hx hB hz hk hS1 => ?_)
  obtain ⟨h1, h2⟩ := hB
  rw [ht] at h1
  obtain ⟨g1, g2⟩ := va_join hP hD [w0.length] (List.range w0.length) e.1 e.2 (em_nd _) (fun i hi h => by rw [List.mem_singleton] at h; rw [h] at hi; exact absurd (List.mem_range.mp hi) (Nat.lt_irrefl _)) hk hF h1 h2
  exact kk A1 H1 locs1 hx g1 g2 hS1
theorem runI (X : CX G p s m meth c cc nL ws av own A) (hM : Met l y wsc rmc (va_Pc (.ref b :: As) (PRE G [(b, ob)] H.size)) Qc mc ms (va_A [(b, ob)] H.size)) (hG : GoodIn ws wsc) (hk : KM y wsc bytes maxL none C n) (hz : rmc.cells = mc ∧ rmc.slots = ms) (hl : Cond.methodLink own idx y ∈ ws) (hi : Cond.initialized C ∈ ws) (him : Cond.instanceMethod y ∈ ws) (hy : y.name = "<init>") (hR : rmc.frames + 1 ≤ R.frames ∧ 8 + (maxL + 11) + rmc.locals ≤ R.locals)
    (hP : va_P G.1 vwCl (w0 ++ [(b, ob)]) H) (hD : va_D A (w0 ++ [(b, ob)])) (hS : va_S A s.heap H locs) (hn : As.length = n) (hls : ls.size = nL) (hst : st = As.reverse ++ .ref b :: rest) (hroom : (rest.map fun v => v.category).sum ≤ 8) (hcs : cells + mc ≤ R.cells ∧ slots + ms ≤ R.slots) (hdg : decode cc pc = .ok (.invokespecial idx, 3)) :
    va_Run p l e R s m av below meth c H locs cells slots mc ms (F0 m pc ls st) rest (Qc (Value.ref b :: As).toArray) (va_A [(b, ob)] H.size) := by
  have hp := fun U hU hW => pre_last X hP hD hS (Value.ref b :: As) U hU hW
  obtain ⟨XF, hK, hN, hT, hA⟩ := X
  obtain ⟨⟨ws', hw⟩, hC, hd⟩ := hk
  exact va_runI XF hM (cwI n XF.2.2.2.2 hG hw hz.1 hz.2 (by rw [hC]; exact XF.2.2.2.2 _ hi) (XF.2.2.2.2 _ hl) (XF.2.2.2.2 _ him) hy hd hR) ⟨PRE.blind, hp⟩ rfl hn hls hst (lv_room hroom) hdg hcs
theorem runIN (X : CX G p s m meth c cc nL ws av own A) (hM : Met l y wsc rmc (va_Pc (.ref b :: As) (PRE G [(b, ob)] H.size)) Qc mc ms (va_A [(b, ob)] H.size)) (hG : GoodIn ws wsc) (hk : KM y wsc bytes maxL none C n) (hz : rmc.cells = mc ∧ rmc.slots = ms) (hl : (own, idx, y) ∈ nwM) (hi : Cond.initialized C ∈ ws) (him : Cond.instanceMethod y ∈ ws) (hy : y.name = "<init>") (hR : rmc.frames + 1 ≤ R.frames ∧ 8 + (maxL + 11) + rmc.locals ≤ R.locals)
    (hP : va_P G.1 vwCl (w0 ++ [(b, ob)]) H) (hD : va_D A (w0 ++ [(b, ob)])) (hS : va_S A s.heap H locs) (hn : As.length = n) (hls : ls.size = nL) (hst : st = As.reverse ++ .ref b :: rest) (hroom : (rest.map fun v => v.category).sum ≤ 8) (hcs : cells + mc ≤ R.cells ∧ slots + ms ≤ R.slots) (hdg : decode cc pc = .ok (.invokespecial idx, 3)) :
    va_Run p l e R s m av below meth c H locs cells slots mc ms (F0 m pc ls st) rest (Qc (Value.ref b :: As).toArray) (va_A [(b, ob)] H.size) := by
  have hp := fun U hU hW => pre_last X hP hD hS (Value.ref b :: As) U hU hW
  obtain ⟨XF, hK, hN, hT, hA⟩ := X
  obtain ⟨⟨ws', hw⟩, hC, hd⟩ := hk
  exact va_runIN XF hM ⟨va_cnB n XF.2.2.2.2 hG hw hz.1 hz.2 (hN.2.1 _ hl) (by rw [hC]; exact XF.2.2.2.2 _ hi) hd hR, hy, XF.2.2.2.2 _ him⟩ ⟨PRE.blind, hp⟩ rfl hn hls hst (lv_room hroom) hdg hcs
end CTOR
/-- the static arrays -/
theorem wgsL (X : CX G p s m meth c cc nL ws av own A) (hS : va_S A s.heap H locs) {index : Nat} (hl : (own, index, "TownRepeated", "LETTERS", "[I") ∈ nwF) (hdg : decode cc pc = .ok (.getstatic index, 3))
    (kk : W p l e R s m av below meth c H locs cells slots Q (F0 m (pc + 3) ls (.ref (G.2 4) :: rest))) : W p l e R s m av below meth c H locs cells slots Q (F0 m pc ls rest) :=
  va_getsN X.1.1 X.1.2.1 X.2.2.2.1.1 hS X.1.2.2.2.1 (va_Nw.use rfl (X.2.2.1.1 _ hl)) (fun _ h => h) hdg kk
theorem wgsA (X : CX G p s m meth c cc nL ws av own A) (hS : va_S A s.heap H locs) {index : Nat} (hl : (own, index, "TownRepeated", "IS_ALSO", "[I") ∈ nwF) (hdg : decode cc pc = .ok (.getstatic index, 3))
    (kk : W p l e R s m av below meth c H locs cells slots Q (F0 m (pc + 3) ls (.ref (G.2 5) :: rest))) : W p l e R s m av below meth c H locs cells slots Q (F0 m pc ls rest) :=
  va_getsN X.1.1 X.1.2.1 X.2.2.2.1.2.2.1 hS X.1.2.2.2.1 (va_Nw.use rfl (X.2.2.1.1 _ hl)) (fun _ h => h) hdg kk
theorem wtiL (X : CX G p s m meth c cc nL ws av own A) (hS : va_S A s.heap H locs) {i : Int32} (hi : inb i 6 = true) (hdg : decode cc pc = .ok (.iaload, 1))
    (kk : W p l e R s m av below meth c H locs cells slots Q (F0 m (pc + 1) ls (.int (lettersI i.toNatClampNeg) :: rest))) : W p l e R s m av below meth c H locs cells slots Q (F0 m pc ls (.int i :: .ref (G.2 4) :: rest)) :=
  va_ti X.1.1 X.1.2.1 X.2.2.2.1.2.1 hS (inb_vp hi) rfl hdg kk
theorem wtiA (X : CX G p s m meth c cc nL ws av own A) (hS : va_S A s.heap H locs) {i : Int32} (hi : inb i 6 = true) (hdg : decode cc pc = .ok (.iaload, 1))
    (kk : W p l e R s m av below meth c H locs cells slots Q (F0 m (pc + 1) ls (.int (alsoI i.toNatClampNeg) :: rest))) : W p l e R s m av below meth c H locs cells slots Q (F0 m pc ls (.int i :: .ref (G.2 5) :: rest)) :=
  va_ti X.1.1 X.1.2.1 X.2.2.2.1.2.2.2 hS (inb_vp hi) rfl hdg kk
end CALLS

