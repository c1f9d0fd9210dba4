set_option maxHeartbeats 8000000 in
set_option maxRecDepth 100000 in
/-- what the Statement gives of the start: the classes, the array classes, the links, the static arrays -/
theorem law_known {p : Program} {s : State} {m : MethodId} {meth : Method} {c : Code} {b L : Nat} {xs : Nat → Int32} (C0 : lw_At p s m meth c b L xs) : ∃ G : GT, CX G p s m meth c code 4 lw_tbl #[Value.ref b] RL (fun q : Nat => s.heap.size ≤ q) := by
  obtain ⟨hx, hb, hr, hml, hown, hts, hX, hbl, hlocks, hgv⟩ := C0
  obtain ⟨c0, iS0, hKn0⟩ := u_known (C := RX0) (T := TX0) (N := 14) (n := 14) hts in_wsX00 (hts _ (List.mem_of_getElem? (i := 116) rfl))
  obtain ⟨c1, iS1, hKn1⟩ := u_known (C := RX1) (T := TX1) (N := 4) (n := 4) hts in_wsX10 (hts _ (List.mem_of_getElem? (i := 178) rfl))
  obtain ⟨c2, iS2, hKn2⟩ := u_known (C := RX2) (T := TX2) (N := 1) (n := 1) hts in_wsX20 (hts _ (List.mem_of_getElem? (i := 110) rfl))
  obtain ⟨c3, iS3, hKn3⟩ := u_known (C := RX3) (T := TX3) (N := 3) (n := 3) hts in_wsX30 (hts _ (List.mem_of_getElem? (i := 61) rfl))
  obtain ⟨c4, iS4, hKn4⟩ := u_known (C := RX4) (T := TX4) (N := 5) (n := 5) hts in_wsX40 (hts _ (List.mem_of_getElem? (i := 83) rfl))
  obtain ⟨c5, iS5, hKn5⟩ := u_known (C := RX5) (T := TX5) (N := 8) (n := 8) hts in_wsX50 (hts _ (List.mem_of_getElem? (i := 53) rfl))
  obtain ⟨c6, iS6, hKn6⟩ := u_known (C := RX6) (T := TX6) (N := 18) (n := 18) hts in_wsX60 (hts _ (List.mem_of_getElem? (i := 759) rfl))
  obtain ⟨dC, dI, hKc⟩ : ∃ (dC : Nat → ClassId) (dI : Nat → Nat → Nat), ∀ (k : Nat) (q : vw_C), vwCl[k]? = some q → u_Kn s q.1 q.2.1 q.2.2 (dC k) (dI k) := by
    refine ⟨fun k => if k = 0 then c0 else if k = 1 then c1 else if k = 2 then c2 else if k = 3 then c3 else if k = 4 then c4 else if k = 5 then c5 else c6, fun k => if k = 0 then iS0 else if k = 1 then iS1 else if k = 2 then iS2 else if k = 3 then iS3 else if k = 4 then iS4 else if k = 5 then iS5 else iS6, ?_⟩
    intro k q hq
    match k, hq with
    | 0, hq => cases hq; exact hKn0
    | 1, hq => cases hq; exact hKn1
    | 2, hq => cases hq; exact hKn2
    | 3, hq => cases hq; exact hKn3
    | 4, hq => cases hq; exact hKn4
    | 5, hq => cases hq; exact hKn5
    | 6, hq => cases hq; exact hKn6
    | k + 7, hq => simp [vwCl] at hq
  obtain ⟨yI, kI, compI, fI, gI, tI⟩ := Cond.arrayClass_spec (hts _ (List.mem_of_getElem? (i := 81) rfl))
  obtain ⟨yZ, kZ, compZ, fZ, gZ, tZ⟩ := Cond.arrayClass_spec (hts _ (List.mem_of_getElem? (i := 819) rfl))
  have aC := (hts _ (List.mem_of_getElem? (i := 202) rfl))
  have aI := (hts _ (List.mem_of_getElem? (i := 70) rfl))
  obtain ⟨compC, yC, kC, fC, -, gC, tC, nC⟩ := Cond.arrayOver_spec aC
  obtain ⟨compM, yM, kM, fM, -, gM, tM, nM⟩ := arrayOver_specB aI
  have hgs := flat_of_before _ hgv
  have hA : ∀ a : Nat, a < s.heap.size → ¬ (fun q : Nat => s.heap.size ≤ q) a := fun a h => Nat.not_le.mpr h
  have arL : (Cond.arrayOf (Term.static "TownRepeated" "LETTERS" "[I") .int).before #[Value.ref b] s = true := hgs _ (by decide +kernel)
  have leL : (Cond.eq (.length (Term.static "TownRepeated" "LETTERS" "[I")) (.int 6)).before #[Value.ref b] s = true := hgs _ (by decide +kernel)
  have eL0 : (Cond.eq (.elem (Term.static "TownRepeated" "LETTERS" "[I") (.int 0)) (.int (112))).before #[Value.ref b] s = true := hgs _ (by decide +kernel)
  have eL1 : (Cond.eq (.elem (Term.static "TownRepeated" "LETTERS" "[I") (.int 1)) (.int (100))).before #[Value.ref b] s = true := hgs _ (by decide +kernel)
  have eL2 : (Cond.eq (.elem (Term.static "TownRepeated" "LETTERS" "[I") (.int 2)) (.int (122))).before #[Value.ref b] s = true := hgs _ (by decide +kernel)
  have eL3 : (Cond.eq (.elem (Term.static "TownRepeated" "LETTERS" "[I") (.int 3)) (.int (108))).before #[Value.ref b] s = true := hgs _ (by decide +kernel)
  have eL4 : (Cond.eq (.elem (Term.static "TownRepeated" "LETTERS" "[I") (.int 4)) (.int (115))).before #[Value.ref b] s = true := hgs _ (by decide +kernel)
  have eL5 : (Cond.eq (.elem (Term.static "TownRepeated" "LETTERS" "[I") (.int 5)) (.int (102))).before #[Value.ref b] s = true := hgs _ (by decide +kernel)
  obtain ⟨tL, etL, hTL⟩ := va_Tof (A := fun q : Nat => s.heap.size ≤ q) (N := 6) (f := fun j => .int (lettersI j)) (by decide) arL (va_eqt leL) (fun j hj => by rcases (show j = 0 ∨ j = 1 ∨ j = 2 ∨ j = 3 ∨ j = 4 ∨ j = 5 by omega) with rfl | rfl | rfl | rfl | rfl | rfl; all_goals first | exact va_eqt eL0 | exact va_eqt eL1 | exact va_eqt eL2 | exact va_eqt eL3 | exact va_eqt eL4 | exact va_eqt eL5) hA
  have hZL := va_Zref (A := fun q : Nat => s.heap.size ≤ q) (hts _ (List.mem_of_getElem? (i := 353) rfl)) (hts _ (List.mem_of_getElem? (i := 42) rfl)) etL hA
  have arS : (Cond.arrayOf (Term.static "TownRepeated" "IS_ALSO" "[I") .int).before #[Value.ref b] s = true := hgs _ (by decide +kernel)
  have leS : (Cond.eq (.length (Term.static "TownRepeated" "IS_ALSO" "[I")) (.int 6)).before #[Value.ref b] s = true := hgs _ (by decide +kernel)
  have eS0 : (Cond.eq (.elem (Term.static "TownRepeated" "IS_ALSO" "[I") (.int 0)) (.int (-1))).before #[Value.ref b] s = true := hgs _ (by decide +kernel)
  have eS1 : (Cond.eq (.elem (Term.static "TownRepeated" "IS_ALSO" "[I") (.int 1)) (.int (0))).before #[Value.ref b] s = true := hgs _ (by decide +kernel)
  have eS2 : (Cond.eq (.elem (Term.static "TownRepeated" "IS_ALSO" "[I") (.int 2)) (.int (0))).before #[Value.ref b] s = true := hgs _ (by decide +kernel)
  have eS3 : (Cond.eq (.elem (Term.static "TownRepeated" "IS_ALSO" "[I") (.int 3)) (.int (0))).before #[Value.ref b] s = true := hgs _ (by decide +kernel)
  have eS4 : (Cond.eq (.elem (Term.static "TownRepeated" "IS_ALSO" "[I") (.int 4)) (.int (1))).before #[Value.ref b] s = true := hgs _ (by decide +kernel)
  have eS5 : (Cond.eq (.elem (Term.static "TownRepeated" "IS_ALSO" "[I") (.int 5)) (.int (2))).before #[Value.ref b] s = true := hgs _ (by decide +kernel)
  obtain ⟨tS, etS, hTS⟩ := va_Tof (A := fun q : Nat => s.heap.size ≤ q) (N := 6) (f := fun j => .int (alsoI j)) (by decide) arS (va_eqt leS) (fun j hj => by rcases (show j = 0 ∨ j = 1 ∨ j = 2 ∨ j = 3 ∨ j = 4 ∨ j = 5 by omega) with rfl | rfl | rfl | rfl | rfl | rfl; all_goals first | exact va_eqt eS0 | exact va_eqt eS1 | exact va_eqt eS2 | exact va_eqt eS3 | exact va_eqt eS4 | exact va_eqt eS5) hA
  have hZS := va_Zref (A := fun q : Nat => s.heap.size ≤ q) (hts _ (List.mem_of_getElem? (i := 419) rfl)) (hts _ (List.mem_of_getElem? (i := 42) rfl)) etS hA
  refine ⟨((dC, dI), fun k => if k = 0 then yI else if k = 1 then yZ else if k = 2 then yC else if k = 3 then yM else if k = 4 then tL else tS), ⟨hx, hb, hml, hown, hts⟩, ⟨hKc, ?_⟩, ⟨?_, ?_, aC, aI⟩, ⟨hZL, hTL, hZS, hTS⟩, fun q h => h⟩
  · intro k q hq
    match k, hq with
    | 0, hq => cases hq; exact ⟨fun n z => ⟨fun k h => (by cases h), kI, gI, compI, tI⟩, fI⟩
    | 1, hq => cases hq; exact ⟨fun n z => ⟨fun k h => (by cases h), kZ, gZ, compZ, tZ⟩, fZ⟩
    | 2, hq => cases hq; exact ⟨fun n z => ⟨fun k h => (by cases h), kC, gC, compC, tC⟩, kC, compC, gC, tC, fC, nC⟩
    | 3, hq => cases hq; exact ⟨fun n z => ⟨fun k h => (by cases h), kM, gM, compM, tM⟩, nM⟩
    | k + 4, hq => simp [tys] at hq
  · exact List.forall_mem_cons.mpr ⟨va_Nw.of rfl (hts (Cond.fieldLinkNest "TownRepeated" 77 "TownRepeated$Told" "asked" "I" "TownRepeated") (List.mem_of_getElem? (i := 89) rfl)), List.forall_mem_cons.mpr ⟨va_Nw.of rfl (hts (Cond.fieldLinkNest "TownRepeated" 293 "TownRepeated$Told" "upper" "J" "TownRepeated") (List.mem_of_getElem? (i := 91) rfl)), List.forall_mem_cons.mpr ⟨va_Nw.of rfl (hts (Cond.fieldLinkNest "TownRepeated" 296 "TownRepeated$Told" "lower" "J" "TownRepeated") (List.mem_of_getElem? (i := 93) rfl)), List.forall_mem_cons.mpr ⟨va_Nw.of rfl (hts (Cond.fieldLinkNest "TownRepeated" 302 "TownRepeated$Told" "latest" "I" "TownRepeated") (List.mem_of_getElem? (i := 95) rfl)), List.forall_mem_cons.mpr ⟨va_Nw.of rfl (hts (Cond.fieldLinkNest "TownRepeated" 305 "TownRepeated$Told" "often" "[I" "TownRepeated") (List.mem_of_getElem? (i := 97) rfl)), List.forall_mem_cons.mpr ⟨va_Nw.of rfl (hts (Cond.fieldLinkNest "TownRepeated$Reader" 38 "TownRepeated$Chain" "persons" "I" "TownRepeated") (List.mem_of_getElem? (i := 122) rfl)), List.forall_mem_cons.mpr ⟨va_Nw.of rfl (hts (Cond.fieldLinkNest "TownRepeated" 119 "TownRepeated$Chain" "persons" "I" "TownRepeated") (List.mem_of_getElem? (i := 123) rfl)), List.forall_mem_cons.mpr ⟨va_Nw.of rfl (hts (Cond.fieldLinkNest "TownRepeated$Reader" 45 "TownRepeated$Chain" "errors" "I" "TownRepeated") (List.mem_of_getElem? (i := 125) rfl)), List.forall_mem_cons.mpr ⟨va_Nw.of rfl (hts (Cond.fieldLinkNest "TownRepeated" 189 "TownRepeated$Chain" "errors" "I" "TownRepeated") (List.mem_of_getElem? (i := 126) rfl)), List.forall_mem_cons.mpr ⟨va_Nw.of rfl (hts (Cond.fieldLinkNest "TownRepeated" 168 "TownRepeated$Chain" "mended" "I" "TownRepeated") (List.mem_of_getElem? (i := 128) rfl)), List.forall_mem_cons.mpr ⟨va_Nw.of rfl (hts (Cond.fieldLinkNest "TownRepeated" 192 "TownRepeated$Chain" "today" "I" "TownRepeated") (List.mem_of_getElem? (i := 130) rfl)), List.forall_mem_cons.mpr ⟨va_Nw.of rfl (hts (Cond.fieldLinkNest "TownRepeated" 153 "TownRepeated$Chain" "turns" "I" "TownRepeated") (List.mem_of_getElem? (i := 132) rfl)), List.forall_mem_cons.mpr ⟨va_Nw.of rfl (hts (Cond.fieldLinkNest "TownRepeated" 156 "TownRepeated$Chain" "stride" "[I" "TownRepeated") (List.mem_of_getElem? (i := 136) rfl)), List.forall_mem_cons.mpr ⟨va_Nw.of rfl (hts (Cond.fieldLinkNest "TownRepeated" 109 "TownRepeated$Reader" "draft" "LTownRepeated$Chain;" "TownRepeated") (List.mem_of_getElem? (i := 173) rfl)), List.forall_mem_cons.mpr ⟨va_Nw.of rfl (hts (Cond.fieldLinkNest "TownRepeated" 248 "TownRepeated$Fitting" "many" "J" "TownRepeated") (List.mem_of_getElem? (i := 184) rfl)), List.forall_mem_cons.mpr ⟨va_Nw.of rfl (hts (Cond.fieldLinkNest "TownRepeated" 245 "TownRepeated$Fitting" "first" "I" "TownRepeated") (List.mem_of_getElem? (i := 186) rfl)), List.forall_mem_cons.mpr ⟨va_Nw.of rfl (hts (Cond.fieldLinkNest "TownRepeated" 259 "TownRepeated$Fitting" "inEach" "I" "TownRepeated") (List.mem_of_getElem? (i := 188) rfl)), List.forall_mem_cons.mpr ⟨va_Nw.of rfl (hts (Cond.fieldLinkNest "TownRepeated" 256 "TownRepeated$Fitting" "inSome" "I" "TownRepeated") (List.mem_of_getElem? (i := 190) rfl)), List.forall_mem_cons.mpr ⟨va_Nw.of rfl (hts (Cond.fieldLinkNest "TownRepeated$Reader" 60 "TownRepeated" "LETTERS" "[I" "TownRepeated") (List.mem_of_getElem? (i := 352) rfl)), List.forall_mem_cons.mpr ⟨va_Nw.of rfl (hts (Cond.fieldLinkNest "TownRepeated$Chain" 69 "TownRepeated" "IS_ALSO" "[I" "TownRepeated") (List.mem_of_getElem? (i := 418) rfl)), fun _ h => absurd h List.not_mem_nil⟩⟩⟩⟩⟩⟩⟩⟩⟩⟩⟩⟩⟩⟩⟩⟩⟩⟩⟩⟩
  · exact List.forall_mem_cons.mpr ⟨va_Nw.of rfl (hts (Cond.methodLinkNest "TownRepeated" 23 ⟨"TownRepeated$Told", "<init>", "()V"⟩ "TownRepeated") (List.mem_of_getElem? (i := 84) rfl)), List.forall_mem_cons.mpr ⟨va_Nw.of rfl (hts (Cond.methodLinkNest "TownRepeated" 30 ⟨"TownRepeated$Reader", "<init>", "()V"⟩ "TownRepeated") (List.mem_of_getElem? (i := 111) rfl)), List.forall_mem_cons.mpr ⟨va_Nw.of rfl (hts (Cond.methodLinkNest "TownRepeated$Reader" 11 ⟨"TownRepeated$Chain", "<init>", "()V"⟩ "TownRepeated") (List.mem_of_getElem? (i := 117) rfl)), List.forall_mem_cons.mpr ⟨va_Nw.of rfl (hts (Cond.methodLinkNest "TownRepeated" 37 ⟨"TownRepeated$Fitting", "<init>", "()V"⟩ "TownRepeated") (List.mem_of_getElem? (i := 179) rfl)), List.forall_mem_cons.mpr ⟨va_Nw.of rfl (hts (Cond.methodLinkNest "TownRepeated" 44 ⟨"TownRepeated$Chain", "<init>", "()V"⟩ "TownRepeated") (List.mem_of_getElem? (i := 201) rfl)), List.forall_mem_cons.mpr ⟨va_Nw.of rfl (hts (Cond.methodLinkNest "TownRepeated$Chain" 120 ⟨"TownRepeated", "isTown", "(I)Z"⟩ "TownRepeated") (List.mem_of_getElem? (i := 397) rfl)), List.forall_mem_cons.mpr ⟨va_Nw.of rfl (hts (Cond.methodLinkNest "TownRepeated$Chain" 123 ⟨"TownRepeated", "isDay", "(I)Z"⟩ "TownRepeated") (List.mem_of_getElem? (i := 400) rfl)), List.forall_mem_cons.mpr ⟨va_Nw.of rfl (hts (Cond.methodLinkNest "TownRepeated$Chain" 145 ⟨"TownRepeated", "nextSet", "(II)I"⟩ "TownRepeated") (List.mem_of_getElem? (i := 607) rfl)), List.forall_mem_cons.mpr ⟨va_Nw.of rfl (hts (Cond.methodLinkNest "TownRepeated$Fitting" 49 ⟨"TownRepeated", "nextSet", "(II)I"⟩ "TownRepeated") (List.mem_of_getElem? (i := 655) rfl)), fun _ h => absurd h List.not_mem_nil⟩⟩⟩⟩⟩⟩⟩⟩⟩
set_option maxHeartbeats 8000000 in
set_option maxRecDepth 100000 in
theorem law_start (hops : Op_row ∧ Op_lay ∧ Op_at ∧ Op_tear ∧ Op_copy ∧ Op_mean ∧ Op_text ∧ Op_put ∧ Op_fault ∧ Op_chain ∧ Op_person ∧ Op_error ∧ Op_mark ∧ Op_stride ∧ Op_mend ∧ Op_err ∧ Op_day ∧ Op_undo ∧ Op_keep ∧ Op_on ∧ Op_does ∧ Op_differ ∧ Op_since ∧ Op_worst ∧ Op_source ∧ Op_together ∧ Op_warn ∧ Op_agree ∧ Op_next ∧ Op_letter ∧ Op_fits ∧ Op_sure ∧ Op_lies ∧ Op_odds ∧ Op_lots ∧ Op_asked ∧ Op_upper ∧ Op_lower ∧ Op_count ∧ Op_finding ∧ Op_findings ∧ Op_digest) (hR0 : Rel tI0 tJ0 mo0 mj0) {p : Program} {e : Env} {s : State} {m : MethodId} {below : List Frame} {meth : Method} {c : Code} (l : Launch) {b L : Nat} {xs : Nat → Int32} (hL : L ≤ 384) (C0 : lw_At p s m meth c b L xs) : W p l e room_1 s m #[Value.ref b] below meth c s.heap [] 0 0 (lw_Z below #[Value.ref b] s) (entryFrame m ([Value.ref b] : List Value).toArray 4) := by
  obtain ⟨G, X⟩ := law_known C0
  obtain ⟨hx, hb, hr, hml, hown, hts, hX, hbl, hlocks, hgv⟩ := id C0
  have hA : ∀ q : Nat, s.heap.size ≤ q → (fun q : Nat => s.heap.size ≤ q) q := fun _ h => h
  have hS : va_S (fun q : Nat => s.heap.size ≤ q) s.heap s.heap [] := va_S.rf
  have hP : va_P G.1 vwCl [] s.heap := fun k q h => by simp at h
  have hD : va_D (fun q : Nat => s.heap.size ≤ q) [] := ⟨fun i j p q h => by simp at h, fun k q h => by simp at h⟩
  have hl := lv_entry ([.ref b]) (n := 4) (Nat.le_of_ble_eq_true rfl)
  rw [lg_entry_eq]
  generalize (lg_sl ([.ref b]) ++ List.replicate (4 - (lg_sl ([.ref b])).length) Slot.unset).toArray = ls at hl ⊢
  have hl : lv_has ls 4 [(0, .ref b)] := hl
  refine va_new (pc := 0) (ci := 5) (fs := [.null, .null, .null, .null, .null, .null, .null, .null]) (C := RX5) (T := TX5) (N := 8) hx hb hts in_wsX50 tyX5 tyX5_ok hown (hts _ (List.mem_of_getElem? (i := 52) rfl)) (hts _ (List.mem_of_getElem? (i := 53) rfl)) (hts _ (List.mem_of_getElem? (i := 42) rfl)) X.2.1 hP hD hS hA rfl (fun j hj => by rcases (show j = 0 ∨ j = 1 ∨ j = 2 ∨ j = 3 ∨ j = 4 ∨ j = 5 ∨ j = 6 ∨ j = 7 by omega) with rfl | rfl | rfl | rfl | rfl | rfl | rfl | rfl <;> rfl) (Nat.le_of_ble_eq_true rfl) (Nat.le_of_ble_eq_true rfl) dL_law_0 (fun q1 H hP hD hS => ?_)
  have hP : va_P G.1 vwCl ([] ++ [(q1, .inr (5, [.null, .null, .null, .null, .null, .null, .null, .null]))]) H := hP
  have hD : va_D (fun q : Nat => s.heap.size ≤ q) ([] ++ [(q1, .inr (5, [.null, .null, .null, .null, .null, .null, .null, .null]))]) := hD
  refine lv_dup (pc := 3) hx hb dL_law_3 rfl ?_
  refine endc (w0 := []) (wp := fun A1 => w_Tw G A1 tI0 tJ0) X.2.2.2.2 (runI (pc := 4) (As := []) (rest := [.ref q1]) (w0 := []) X (c_X5_init G l q1 H.size) gL_X5_init k_X5_init ⟨rfl, rfl⟩ (List.mem_of_getElem? (i := 54) rfl) (List.mem_of_getElem? (i := 42) rfl) (List.mem_of_getElem? (i := 55) rfl) rfl ⟨Nat.le_of_ble_eq_true rfl, Nat.le_of_ble_eq_true rfl⟩ hP hD hS rfl hl.1 rfl (Nat.le_of_ble_eq_true rfl) ⟨Nat.le_of_ble_eq_true rfl, Nat.le_of_ble_eq_true rfl⟩ dL_law_4) hP hD hS (fun A1 H locs hA1 hPn hDn hS => ?_)
  subst hA1
  have hP : va_P G.1 vwCl ([] ++ w_Tw G A1 tI0 tJ0) H := hPn
  have hD : va_D (fun q : Nat => s.heap.size ≤ q) ([] ++ w_Tw G A1 tI0 tJ0) := hDn
  refine lv_astore_n (pc := 7) (lv' := [(1, .ref (A1 0)), (0, .ref b)]) hx hb dL_law_7 rfl hl (by decide) rfl (fun ls hl => ?_)
  refine va_new (pc := 8) (ci := 6) (fs := [.null, .null, .null, .null, .null, .null, .null, .int 0, .long 0, .long 0, .int 0, .null, .null, .int 0, .null, .null, .null, .null]) (C := RX6) (T := TX6) (N := 18) hx hb hts in_wsX60 tyX6 tyX6_ok hown (hts _ (List.mem_of_getElem? (i := 758) rfl)) (hts _ (List.mem_of_getElem? (i := 759) rfl)) (hts _ (List.mem_of_getElem? (i := 49) rfl)) X.2.1 hP hD hS hA rfl (fun j hj => by rcases (show j = 0 ∨ j = 1 ∨ j = 2 ∨ j = 3 ∨ j = 4 ∨ j = 5 ∨ j = 6 ∨ j = 7 ∨ j = 8 ∨ j = 9 ∨ j = 10 ∨ j = 11 ∨ j = 12 ∨ j = 13 ∨ j = 14 ∨ j = 15 ∨ j = 16 ∨ j = 17 by omega) with rfl | rfl | rfl | rfl | rfl | rfl | rfl | rfl | rfl | rfl | rfl | rfl | rfl | rfl | rfl | rfl | rfl | rfl <;> rfl) (Nat.le_of_ble_eq_true rfl) (Nat.le_of_ble_eq_true rfl) dL_law_8 (fun q2 H hP hD hS => ?_)
  refine lv_dup (pc := 11) hx hb dL_law_11 rfl ?_
  refine endc (w0 := [] ++ w_Tw G A1 tI0 tJ0) (wp := fun A2 => w_Mo G A2 mo0 mj0) X.2.2.2.2 (runI (pc := 12) (As := []) (rest := [.ref q2]) (w0 := [] ++ w_Tw G A1 tI0 tJ0) X (c_X6_init G l q2 H.size) gL_X6_init k_X6_init ⟨rfl, rfl⟩ (List.mem_of_getElem? (i := 760) rfl) (List.mem_of_getElem? (i := 49) rfl) (List.mem_of_getElem? (i := 761) rfl) rfl ⟨Nat.le_of_ble_eq_true rfl, Nat.le_of_ble_eq_true rfl⟩ hP hD hS rfl hl.1 rfl (Nat.le_of_ble_eq_true rfl) ⟨Nat.le_of_ble_eq_true rfl, Nat.le_of_ble_eq_true rfl⟩ dL_law_12) hP hD hS (fun A2 H locs hA2 hPn hDn hS => ?_)
  subst hA2
  have hP : va_P G.1 vwCl (([] ++ w_Tw G A1 tI0 tJ0) ++ w_Mo G A2 mo0 mj0) H := hPn
  have hD : va_D (fun q : Nat => s.heap.size ≤ q) (([] ++ w_Tw G A1 tI0 tJ0) ++ w_Mo G A2 mo0 mj0) := hDn
  refine lv_astore_n (pc := 15) (lv' := [(2, .ref (A2 0)), (1, .ref (A1 0)), (0, .ref b)]) hx hb dL_law_15 rfl hl (by decide) rfl (fun ls hl => ?_)
  refine lv_iconst (pc := 16) (v := 0) hx hb dL_law_16 (by decide) ?_
  refine lv_istore_n (pc := 17) (lv' := [(3, .int 0), (2, .ref (A2 0)), (1, .ref (A1 0)), (0, .ref b)]) hx hb dL_law_17 rfl hl (by decide) rfl (fun ls hl => ?_)
  have hP : va_P G.1 vwCl (w_Lw G (fun k => bif Nat.blt k 73 then A1 k else A2 (k - 73)) tI0 tJ0 mo0 mj0) H := hP.sub [0, 1, 2, 3, 4, 5, 6, 7, 8, 9, 10, 11, 12, 13, 14, 15, 16, 17, 18, 19, 20, 21, 22, 23, 24, 25, 26, 27, 28, 29, 30, 31, 32, 33, 34, 35, 36, 37, 38, 39, 40, 41, 42, 43, 44, 45, 46, 47, 48, 49, 50, 51, 52, 53, 54, 55, 56, 57, 58, 59, 60, 61, 62, 63, 64, 65, 66, 67, 68, 69, 70, 71, 72, 73, 74, 75, 76, 77, 78, 79, 80, 81, 82, 83, 84, 85, 86] rfl
  have hD : va_D (fun q : Nat => s.heap.size ≤ q) (w_Lw G (fun k => bif Nat.blt k 73 then A1 k else A2 (k - 73)) tI0 tJ0 mo0 mj0) := hD.sub [0, 1, 2, 3, 4, 5, 6, 7, 8, 9, 10, 11, 12, 13, 14, 15, 16, 17, 18, 19, 20, 21, 22, 23, 24, 25, 26, 27, 28, 29, 30, 31, 32, 33, 34, 35, 36, 37, 38, 39, 40, 41, 42, 43, 44, 45, 46, 47, 48, 49, 50, 51, 52, 53, 54, 55, 56, 57, 58, 59, 60, 61, 62, 63, 64, 65, 66, 67, 68, 69, 70, 71, 72, 73, 74, 75, 76, 77, 78, 79, 80, 81, 82, 83, 84, 85, 86] rfl rfl
  refine W.widen (k := 87) (n := 2655) (Nat.le_of_ble_eq_true rfl) (Nat.le_of_ble_eq_true rfl) ?_
  exact law_loop hops hL C0 X (L + 1) 0 (by omega) (by omega) tI0 tJ0 mo0 mj0 hR0 H locs ls hP hD hS hl
