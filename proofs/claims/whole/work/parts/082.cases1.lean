set_option maxHeartbeats 4000000 in
set_option maxRecDepth 100000 in
theorem law_case_14 (hop : Op_mend) {p : Program} {l : Launch} {e : Env} {s : State} {m : MethodId} {below : List Frame} {meth : Method} {c : Code} {b L : Nat} {xs : Nat → Int32} (hL : L ≤ 384) (C0 : lw_At p s m meth c b L xs) {G : GT} {A : Nat → Nat} (X : CX G p s m meth c code 4 lw_tbl #[Value.ref b] RL (fun q : Nat => s.heap.size ≤ q)) (I : Nat → CS) (J : Nat → JS) (M : CS) (N : JS) (hR : Rel I J M N) (i : Nat) (hi : i + 6 ≤ L) (H : Heap) (locs : List Loc) (ls : Array Slot) (hP : va_P G.1 vwCl (w_Lw G A I J M N) H) (hD : va_D (fun q : Nat => s.heap.size ≤ q) (w_Lw G A I J M N)) (hS : va_S (fun q : Nat => s.heap.size ≤ q) s.heap H locs) (hl : lv_has ls 4 [(3, .int (nI i)), (2, .ref (A 73)), (1, .ref (A 0)), (0, .ref b)]) (kk : ∀ (I' : Nat → CS) (J' : Nat → JS) (M' : CS) (N' : JS) (H : Heap) (locs : List Loc), Rel I' J' M' N' → va_P G.1 vwCl (w_Lw G A I' J' M' N') H → va_D (fun q : Nat => s.heap.size ≤ q) (w_Lw G A I' J' M' N') → va_S (fun q : Nat => s.heap.size ≤ q) s.heap H locs → W p l e room_1 s m #[Value.ref b] below meth c H locs 87 2655 (lw_Z below #[Value.ref b] s) (F0 m 1545 ls [])) : W p l e room_1 s m #[Value.ref b] below meth c H locs 87 2655 (lw_Z below #[Value.ref b] s) (F0 m 688 ls []) := by
  obtain ⟨hx, hb, hr, hml, hown, hts, hX, hbl, hlocks, hgv⟩ := C0
  have hbA : ¬ (fun q : Nat => s.heap.size ≤ q) b := Nat.not_le.mpr hbl
  obtain ⟨r, I', M', ht, hm, hR⟩ := hop I J M N (xs (i + 1)) (xs (i + 2)) hR
  refine lv_aload_n (pc := 688) hx hb dL_law_688 rfl (lv_at hl 2 rfl) ?_
  refine lv_aload_n (pc := 689) hx hb dL_law_689 rfl (lv_at hl 3 rfl) ?_
  refine lv_iload_n (pc := 690) hx hb dL_law_690 rfl (lv_at hl 0 rfl) ?_
  refine lv_iconst (pc := 691) (v := 1) hx hb dL_law_691 (by decide) ?_
  refine lv_iadd (pc := 692) hx hb dL_law_692 ?_
  refine wsld (pc := 693) hx hb hX hbl hbA hS (j := i + 1) (nI_add i 1) (by omega) hL dL_law_693 ?_
  refine lv_aload_n (pc := 694) hx hb dL_law_694 rfl (lv_at hl 3 rfl) ?_
  refine lv_iload_n (pc := 695) hx hb dL_law_695 rfl (lv_at hl 0 rfl) ?_
  refine lv_iconst (pc := 696) (v := 2) hx hb dL_law_696 (by decide) ?_
  refine lv_iadd (pc := 697) hx hb dL_law_697 ?_
  refine wsld (pc := 698) hx hb hX hbl hbA hS (j := i + 2) (nI_add i 2) (by omega) hL dL_law_698 ?_
  refine endi X.2.2.2.2 (runV (pc := 699) (As := [.int (xs (i + 1)), .int (xs (i + 2))]) (rest := []) X (c_X5_mend G l A H.size I J (xs (i + 1)) (xs (i + 2)) r I' ht) gL_X5_mend k_X5_mend ⟨rfl, rfl⟩ ⟨Nat.le_of_ble_eq_true rfl, Nat.le_of_ble_eq_true rfl⟩ (em_Lw_Tw_I G A I J M N I') hP hD hS (ci := 5) rfl rfl (at_Tw_0 G A I J) rfl hl.1 rfl (Nat.le_of_ble_eq_true rfl) ⟨Nat.le_of_ble_eq_true rfl, Nat.le_of_ble_eq_true rfl⟩ dL_law_699) (em_Lw_Tw_I G A I J M N I') hP hD hS (fun H locs hP hD hS => ?_)
  refine lv_aload_n (pc := 702) hx hb dL_law_702 rfl (lv_at hl 1 rfl) ?_
  refine lv_aload_n (pc := 703) hx hb dL_law_703 rfl (lv_at hl 3 rfl) ?_
  refine lv_iload_n (pc := 704) hx hb dL_law_704 rfl (lv_at hl 0 rfl) ?_
  refine lv_iconst (pc := 705) (v := 1) hx hb dL_law_705 (by decide) ?_
  refine lv_iadd (pc := 706) hx hb dL_law_706 ?_
  refine wsld (pc := 707) hx hb hX hbl hbA hS (j := i + 1) (nI_add i 1) (by omega) hL dL_law_707 ?_
  refine lv_aload_n (pc := 708) hx hb dL_law_708 rfl (lv_at hl 3 rfl) ?_
  refine lv_iload_n (pc := 709) hx hb dL_law_709 rfl (lv_at hl 0 rfl) ?_
  refine lv_iconst (pc := 710) (v := 2) hx hb dL_law_710 (by decide) ?_
  refine lv_iadd (pc := 711) hx hb dL_law_711 ?_
  refine wsld (pc := 712) hx hb hX hbl hbA hS (j := i + 2) (nI_add i 2) (by omega) hL dL_law_712 ?_
  refine endi X.2.2.2.2 (runV (pc := 713) (As := [.int (xs (i + 1)), .int (xs (i + 2))]) (rest := [.int r]) X (c_X6_mend G l (fun k => A (73 + k)) H.size M N (xs (i + 1)) (xs (i + 2)) r M' hm) gL_X6_mend k_X6_mend ⟨rfl, rfl⟩ ⟨Nat.le_of_ble_eq_true rfl, Nat.le_of_ble_eq_true rfl⟩ (em_Lw_Mo_M G A I' J M N M') hP hD hS (ci := 6) rfl rfl (at_Mo_0 G (fun k => A (73 + k)) M N) rfl hl.1 rfl (Nat.le_of_ble_eq_true rfl) ⟨Nat.le_of_ble_eq_true rfl, Nat.le_of_ble_eq_true rfl⟩ dL_law_713) (em_Lw_Mo_M G A I' J M N M') hP hD hS (fun H locs hP hD hS => ?_)
  refine lv_icmp_eq (pc := 716) (tgt := 1545) hx hb dL_law_716 (by decide) (fun _ => ?_) (fun h => absurd rfl h)
  exact kk I' J M' N H locs hR hP hD hS
set_option maxHeartbeats 4000000 in
set_option maxRecDepth 100000 in
theorem law_case_15 (hop : Op_err) {p : Program} {l : Launch} {e : Env} {s : State} {m : MethodId} {below : List Frame} {meth : Method} {c : Code} {b L : Nat} {xs : Nat → Int32} (hL : L ≤ 384) (C0 : lw_At p s m meth c b L xs) {G : GT} {A : Nat → Nat} (X : CX G p s m meth c code 4 lw_tbl #[Value.ref b] RL (fun q : Nat => s.heap.size ≤ q)) (I : Nat → CS) (J : Nat → JS) (M : CS) (N : JS) (hR : Rel I J M N) (i : Nat) (hi : i + 6 ≤ L) (H : Heap) (locs : List Loc) (ls : Array Slot) (hP : va_P G.1 vwCl (w_Lw G A I J M N) H) (hD : va_D (fun q : Nat => s.heap.size ≤ q) (w_Lw G A I J M N)) (hS : va_S (fun q : Nat => s.heap.size ≤ q) s.heap H locs) (hl : lv_has ls 4 [(3, .int (nI i)), (2, .ref (A 73)), (1, .ref (A 0)), (0, .ref b)]) (kk : ∀ (I' : Nat → CS) (J' : Nat → JS) (M' : CS) (N' : JS) (H : Heap) (locs : List Loc), Rel I' J' M' N' → va_P G.1 vwCl (w_Lw G A I' J' M' N') H → va_D (fun q : Nat => s.heap.size ≤ q) (w_Lw G A I' J' M' N') → va_S (fun q : Nat => s.heap.size ≤ q) s.heap H locs → W p l e room_1 s m #[Value.ref b] below meth c H locs 87 2655 (lw_Z below #[Value.ref b] s) (F0 m 1545 ls [])) : W p l e room_1 s m #[Value.ref b] below meth c H locs 87 2655 (lw_Z below #[Value.ref b] s) (F0 m 721 ls []) := by
  obtain ⟨hx, hb, hr, hml, hown, hts, hX, hbl, hlocks, hgv⟩ := C0
  have hbA : ¬ (fun q : Nat => s.heap.size ≤ q) b := Nat.not_le.mpr hbl
  obtain ⟨r, I', M', ht, hm, hR⟩ := hop I J M N (xs (i + 1)) (xs (i + 2)) hR
  refine lv_aload_n (pc := 721) hx hb dL_law_721 rfl (lv_at hl 2 rfl) ?_
  refine lv_aload_n (pc := 722) hx hb dL_law_722 rfl (lv_at hl 3 rfl) ?_
  refine lv_iload_n (pc := 723) hx hb dL_law_723 rfl (lv_at hl 0 rfl) ?_
  refine lv_iconst (pc := 724) (v := 1) hx hb dL_law_724 (by decide) ?_
  refine lv_iadd (pc := 725) hx hb dL_law_725 ?_
  refine wsld (pc := 726) hx hb hX hbl hbA hS (j := i + 1) (nI_add i 1) (by omega) hL dL_law_726 ?_
  refine lv_aload_n (pc := 727) hx hb dL_law_727 rfl (lv_at hl 3 rfl) ?_
  refine lv_iload_n (pc := 728) hx hb dL_law_728 rfl (lv_at hl 0 rfl) ?_
  refine lv_iconst (pc := 729) (v := 2) hx hb dL_law_729 (by decide) ?_
  refine lv_iadd (pc := 730) hx hb dL_law_730 ?_
  refine wsld (pc := 731) hx hb hX hbl hbA hS (j := i + 2) (nI_add i 2) (by omega) hL dL_law_731 ?_
  refine endi X.2.2.2.2 (runV (pc := 732) (As := [.int (xs (i + 1)), .int (xs (i + 2))]) (rest := []) X (c_X5_err G l A H.size I J (xs (i + 1)) (xs (i + 2)) r I' ht) gL_X5_err k_X5_err ⟨rfl, rfl⟩ ⟨Nat.le_of_ble_eq_true rfl, Nat.le_of_ble_eq_true rfl⟩ (em_Lw_Tw_I G A I J M N I') hP hD hS (ci := 5) rfl rfl (at_Tw_0 G A I J) rfl hl.1 rfl (Nat.le_of_ble_eq_true rfl) ⟨Nat.le_of_ble_eq_true rfl, Nat.le_of_ble_eq_true rfl⟩ dL_law_732) (em_Lw_Tw_I G A I J M N I') hP hD hS (fun H locs hP hD hS => ?_)
  refine lv_aload_n (pc := 735) hx hb dL_law_735 rfl (lv_at hl 1 rfl) ?_
  refine lv_aload_n (pc := 736) hx hb dL_law_736 rfl (lv_at hl 3 rfl) ?_
  refine lv_iload_n (pc := 737) hx hb dL_law_737 rfl (lv_at hl 0 rfl) ?_
  refine lv_iconst (pc := 738) (v := 1) hx hb dL_law_738 (by decide) ?_
  refine lv_iadd (pc := 739) hx hb dL_law_739 ?_
  refine wsld (pc := 740) hx hb hX hbl hbA hS (j := i + 1) (nI_add i 1) (by omega) hL dL_law_740 ?_
  refine lv_aload_n (pc := 741) hx hb dL_law_741 rfl (lv_at hl 3 rfl) ?_
  refine lv_iload_n (pc := 742) hx hb dL_law_742 rfl (lv_at hl 0 rfl) ?_
  refine lv_iconst (pc := 743) (v := 2) hx hb dL_law_743 (by decide) ?_
  refine lv_iadd (pc := 744) hx hb dL_law_744 ?_
  refine wsld (pc := 745) hx hb hX hbl hbA hS (j := i + 2) (nI_add i 2) (by omega) hL dL_law_745 ?_
  refine endi X.2.2.2.2 (runV (pc := 746) (As := [.int (xs (i + 1)), .int (xs (i + 2))]) (rest := [.int r]) X (c_X6_err G l (fun k => A (73 + k)) H.size M N (xs (i + 1)) (xs (i + 2)) r M' hm) gL_X6_err k_X6_err ⟨rfl, rfl⟩ ⟨Nat.le_of_ble_eq_true rfl, Nat.le_of_ble_eq_true rfl⟩ (em_Lw_Mo_M G A I' J M N M') hP hD hS (ci := 6) rfl rfl (at_Mo_0 G (fun k => A (73 + k)) M N) rfl hl.1 rfl (Nat.le_of_ble_eq_true rfl) ⟨Nat.le_of_ble_eq_true rfl, Nat.le_of_ble_eq_true rfl⟩ dL_law_746) (em_Lw_Mo_M G A I' J M N M') hP hD hS (fun H locs hP hD hS => ?_)
  refine lv_icmp_eq (pc := 749) (tgt := 1545) hx hb dL_law_749 (by decide) (fun _ => ?_) (fun h => absurd rfl h)
  exact kk I' J M' N H locs hR hP hD hS
set_option maxHeartbeats 4000000 in
set_option maxRecDepth 100000 in
theorem law_case_16 (hop : Op_day) {p : Program} {l : Launch} {e : Env} {s : State} {m : MethodId} {below : List Frame} {meth : Method} {c : Code} {b L : Nat} {xs : Nat → Int32} (hL : L ≤ 384) (C0 : lw_At p s m meth c b L xs) {G : GT} {A : Nat → Nat} (X : CX G p s m meth c code 4 lw_tbl #[Value.ref b] RL (fun q : Nat => s.heap.size ≤ q)) (I : Nat → CS) (J : Nat → JS) (M : CS) (N : JS) (hR : Rel I J M N) (i : Nat) (hi : i + 6 ≤ L) (H : Heap) (locs : List Loc) (ls : Array Slot) (hP : va_P G.1 vwCl (w_Lw G A I J M N) H) (hD : va_D (fun q : Nat => s.heap.size ≤ q) (w_Lw G A I J M N)) (hS : va_S (fun q : Nat => s.heap.size ≤ q) s.heap H locs) (hl : lv_has ls 4 [(3, .int (nI i)), (2, .ref (A 73)), (1, .ref (A 0)), (0, .ref b)]) (kk : ∀ (I' : Nat → CS) (J' : Nat → JS) (M' : CS) (N' : JS) (H : Heap) (locs : List Loc), Rel I' J' M' N' → va_P G.1 vwCl (w_Lw G A I' J' M' N') H → va_D (fun q : Nat => s.heap.size ≤ q) (w_Lw G A I' J' M' N') → va_S (fun q : Nat => s.heap.size ≤ q) s.heap H locs → W p l e room_1 s m #[Value.ref b] below meth c H locs 87 2655 (lw_Z below #[Value.ref b] s) (F0 m 1545 ls [])) : W p l e room_1 s m #[Value.ref b] below meth c H locs 87 2655 (lw_Z below #[Value.ref b] s) (F0 m 754 ls []) := by
  obtain ⟨hx, hb, hr, hml, hown, hts, hX, hbl, hlocks, hgv⟩ := C0
  have hbA : ¬ (fun q : Nat => s.heap.size ≤ q) b := Nat.not_le.mpr hbl
  obtain ⟨r, I', M', ht, hm, hR⟩ := hop I J M N  hR
  refine lv_aload_n (pc := 754) hx hb dL_law_754 rfl (lv_at hl 2 rfl) ?_
  refine endi X.2.2.2.2 (runV (pc := 755) (As := []) (rest := []) X (c_X5_day G l A H.size I J r I' ht) gL_X5_day k_X5_day ⟨rfl, rfl⟩ ⟨Nat.le_of_ble_eq_true rfl, Nat.le_of_ble_eq_true rfl⟩ (em_Lw_Tw_I G A I J M N I') hP hD hS (ci := 5) rfl rfl (at_Tw_0 G A I J) rfl hl.1 rfl (Nat.le_of_ble_eq_true rfl) ⟨Nat.le_of_ble_eq_true rfl, Nat.le_of_ble_eq_true rfl⟩ dL_law_755) (em_Lw_Tw_I G A I J M N I') hP hD hS (fun H locs hP hD hS => ?_)
  refine lv_aload_n (pc := 758) hx hb dL_law_758 rfl (lv_at hl 1 rfl) ?_
  refine endi X.2.2.2.2 (runV (pc := 759) (As := []) (rest := [.int r]) X (c_X6_day G l (fun k => A (73 + k)) H.size M N r M' hm) gL_X6_day k_X6_day ⟨rfl, rfl⟩ ⟨Nat.le_of_ble_eq_true rfl, Nat.le_of_ble_eq_true rfl⟩ (em_Lw_Mo_M G A I' J M N M') hP hD hS (ci := 6) rfl rfl (at_Mo_0 G (fun k => A (73 + k)) M N) rfl hl.1 rfl (Nat.le_of_ble_eq_true rfl) ⟨Nat.le_of_ble_eq_true rfl, Nat.le_of_ble_eq_true rfl⟩ dL_law_759) (em_Lw_Mo_M G A I' J M N M') hP hD hS (fun H locs hP hD hS => ?_)
  refine lv_icmp_eq (pc := 762) (tgt := 1545) hx hb dL_law_762 (by decide) (fun _ => ?_) (fun h => absurd rfl h)
  exact kk I' J M' N H locs hR hP hD hS
set_option maxHeartbeats 4000000 in
set_option maxRecDepth 100000 in
theorem law_case_17 (hop : Op_undo) {p : Program} {l : Launch} {e : Env} {s : State} {m : MethodId} {below : List Frame} {meth : Method} {c : Code} {b L : Nat} {xs : Nat → Int32} (hL : L ≤ 384) (C0 : lw_At p s m meth c b L xs) {G : GT} {A : Nat → Nat} (X : CX G p s m meth c code 4 lw_tbl #[Value.ref b] RL (fun q : Nat => s.heap.size ≤ q)) (I : Nat → CS) (J : Nat → JS) (M : CS) (N : JS) (hR : Rel I J M N) (i : Nat) (hi : i + 6 ≤ L) (H : Heap) (locs : List Loc) (ls : Array Slot) (hP : va_P G.1 vwCl (w_Lw G A I J M N) H) (hD : va_D (fun q : Nat => s.heap.size ≤ q) (w_Lw G A I J M N)) (hS : va_S (fun q : Nat => s.heap.size ≤ q) s.heap H locs) (hl : lv_has ls 4 [(3, .int (nI i)), (2, .ref (A 73)), (1, .ref (A 0)), (0, .ref b)]) (kk : ∀ (I' : Nat → CS) (J' : Nat → JS) (M' : CS) (N' : JS) (H : Heap) (locs : List Loc), Rel I' J' M' N' → va_P G.1 vwCl (w_Lw G A I' J' M' N') H → va_D (fun q : Nat => s.heap.size ≤ q) (w_Lw G A I' J' M' N') → va_S (fun q : Nat => s.heap.size ≤ q) s.heap H locs → W p l e room_1 s m #[Value.ref b] below meth c H locs 87 2655 (lw_Z below #[Value.ref b] s) (F0 m 1545 ls [])) : W p l e room_1 s m #[Value.ref b] below meth c H locs 87 2655 (lw_Z below #[Value.ref b] s) (F0 m 767 ls []) := by
  obtain ⟨hx, hb, hr, hml, hown, hts, hX, hbl, hlocks, hgv⟩ := C0
  have hbA : ¬ (fun q : Nat => s.heap.size ≤ q) b := Nat.not_le.mpr hbl
  obtain ⟨r, I', M', ht, hm, hR⟩ := hop I J M N (xs (i + 1)) hR
  refine lv_aload_n (pc := 767) hx hb dL_law_767 rfl (lv_at hl 2 rfl) ?_
  refine lv_aload_n (pc := 768) hx hb dL_law_768 rfl (lv_at hl 3 rfl) ?_
  refine lv_iload_n (pc := 769) hx hb dL_law_769 rfl (lv_at hl 0 rfl) ?_
  refine lv_iconst (pc := 770) (v := 1) hx hb dL_law_770 (by decide) ?_
  refine lv_iadd (pc := 771) hx hb dL_law_771 ?_
  refine wsld (pc := 772) hx hb hX hbl hbA hS (j := i + 1) (nI_add i 1) (by omega) hL dL_law_772 ?_
  refine endi X.2.2.2.2 (runV (pc := 773) (As := [.int (xs (i + 1))]) (rest := []) X (c_X5_undo G l A H.size I J (xs (i + 1)) r I' ht) gL_X5_undo k_X5_undo ⟨rfl, rfl⟩ ⟨Nat.le_of_ble_eq_true rfl, Nat.le_of_ble_eq_true rfl⟩ (em_Lw_Tw_I G A I J M N I') hP hD hS (ci := 5) rfl rfl (at_Tw_0 G A I J) rfl hl.1 rfl (Nat.le_of_ble_eq_true rfl) ⟨Nat.le_of_ble_eq_true rfl, Nat.le_of_ble_eq_true rfl⟩ dL_law_773) (em_Lw_Tw_I G A I J M N I') hP hD hS (fun H locs hP hD hS => ?_)
  refine lv_aload_n (pc := 776) hx hb dL_law_776 rfl (lv_at hl 1 rfl) ?_
  refine lv_aload_n (pc := 777) hx hb dL_law_777 rfl (lv_at hl 3 rfl) ?_
  refine lv_iload_n (pc := 778) hx hb dL_law_778 rfl (lv_at hl 0 rfl) ?_
  refine lv_iconst (pc := 779) (v := 1) hx hb dL_law_779 (by decide) ?_
  refine lv_iadd (pc := 780) hx hb dL_law_780 ?_
  refine wsld (pc := 781) hx hb hX hbl hbA hS (j := i + 1) (nI_add i 1) (by omega) hL dL_law_781 ?_
  refine endi X.2.2.2.2 (runV (pc := 782) (As := [.int (xs (i + 1))]) (rest := [.int r]) X (c_X6_undo G l (fun k => A (73 + k)) H.size M N (xs (i + 1)) r M' hm) gL_X6_undo k_X6_undo ⟨rfl, rfl⟩ ⟨Nat.le_of_ble_eq_true rfl, Nat.le_of_ble_eq_true rfl⟩ (em_Lw_Mo_M G A I' J M N M') hP hD hS (ci := 6) rfl rfl (at_Mo_0 G (fun k => A (73 + k)) M N) rfl hl.1 rfl (Nat.le_of_ble_eq_true rfl) ⟨Nat.le_of_ble_eq_true rfl, Nat.le_of_ble_eq_true rfl⟩ dL_law_782) (em_Lw_Mo_M G A I' J M N M') hP hD hS (fun H locs hP hD hS => ?_)
  refine lv_icmp_eq (pc := 785) (tgt := 1545) hx hb dL_law_785 (by decide) (fun _ => ?_) (fun h => absurd rfl h)
  exact kk I' J M' N H locs hR hP hD hS
set_option maxHeartbeats 4000000 in
set_option maxRecDepth 100000 in
theorem law_case_18 (hop : Op_keep) {p : Program} {l : Launch} {e : Env} {s : State} {m : MethodId} {below : List Frame} {meth : Method} {c : Code} {b L : Nat} {xs : Nat → Int32} (hL : L ≤ 384) (C0 : lw_At p s m meth c b L xs) {G : GT} {A : Nat → Nat} (X : CX G p s m meth c code 4 lw_tbl #[Value.ref b] RL (fun q : Nat => s.heap.size ≤ q)) (I : Nat → CS) (J : Nat → JS) (M : CS) (N : JS) (hR : Rel I J M N) (i : Nat) (hi : i + 6 ≤ L) (H : Heap) (locs : List Loc) (ls : Array Slot) (hP : va_P G.1 vwCl (w_Lw G A I J M N) H) (hD : va_D (fun q : Nat => s.heap.size ≤ q) (w_Lw G A I J M N)) (hS : va_S (fun q : Nat => s.heap.size ≤ q) s.heap H locs) (hl : lv_has ls 4 [(3, .int (nI i)), (2, .ref (A 73)), (1, .ref (A 0)), (0, .ref b)]) (kk : ∀ (I' : Nat → CS) (J' : Nat → JS) (M' : CS) (N' : JS) (H : Heap) (locs : List Loc), Rel I' J' M' N' → va_P G.1 vwCl (w_Lw G A I' J' M' N') H → va_D (fun q : Nat => s.heap.size ≤ q) (w_Lw G A I' J' M' N') → va_S (fun q : Nat => s.heap.size ≤ q) s.heap H locs → W p l e room_1 s m #[Value.ref b] below meth c H locs 87 2655 (lw_Z below #[Value.ref b] s) (F0 m 1545 ls [])) : W p l e room_1 s m #[Value.ref b] below meth c H locs 87 2655 (lw_Z below #[Value.ref b] s) (F0 m 790 ls []) := by
  obtain ⟨hx, hb, hr, hml, hown, hts, hX, hbl, hlocks, hgv⟩ := C0
  have hbA : ¬ (fun q : Nat => s.heap.size ≤ q) b := Nat.not_le.mpr hbl
  obtain ⟨r, I', M', ht, hm, hR⟩ := hop I J M N (xs (i + 1)) hR
  refine lv_aload_n (pc := 790) hx hb dL_law_790 rfl (lv_at hl 2 rfl) ?_
  refine lv_aload_n (pc := 791) hx hb dL_law_791 rfl (lv_at hl 3 rfl) ?_
  refine lv_iload_n (pc := 792) hx hb dL_law_792 rfl (lv_at hl 0 rfl) ?_
  refine lv_iconst (pc := 793) (v := 1) hx hb dL_law_793 (by decide) ?_
  refine lv_iadd (pc := 794) hx hb dL_law_794 ?_
  refine wsld (pc := 795) hx hb hX hbl hbA hS (j := i + 1) (nI_add i 1) (by omega) hL dL_law_795 ?_
  refine endi X.2.2.2.2 (runV (pc := 796) (As := [.int (xs (i + 1))]) (rest := []) X (c_X5_keep G l A H.size I J (xs (i + 1)) r I' ht) gL_X5_keep k_X5_keep ⟨rfl, rfl⟩ ⟨Nat.le_of_ble_eq_true rfl, Nat.le_of_ble_eq_true rfl⟩ (em_Lw_Tw_I G A I J M N I') hP hD hS (ci := 5) rfl rfl (at_Tw_0 G A I J) rfl hl.1 rfl (Nat.le_of_ble_eq_true rfl) ⟨Nat.le_of_ble_eq_true rfl, Nat.le_of_ble_eq_true rfl⟩ dL_law_796) (em_Lw_Tw_I G A I J M N I') hP hD hS (fun H locs hP hD hS => ?_)
  refine lv_aload_n (pc := 799) hx hb dL_law_799 rfl (lv_at hl 1 rfl) ?_
  refine lv_aload_n (pc := 800) hx hb dL_law_800 rfl (lv_at hl 3 rfl) ?_
  refine lv_iload_n (pc := 801) hx hb dL_law_801 rfl (lv_at hl 0 rfl) ?_
  refine lv_iconst (pc := 802) (v := 1) hx hb dL_law_802 (by decide) ?_
  refine lv_iadd (pc := 803) hx hb dL_law_803 ?_
  refine wsld (pc := 804) hx hb hX hbl hbA hS (j := i + 1) (nI_add i 1) (by omega) hL dL_law_804 ?_
  refine endi X.2.2.2.2 (runV (pc := 805) (As := [.int (xs (i + 1))]) (rest := [.int r]) X (c_X6_keep G l (fun k => A (73 + k)) H.size M N (xs (i + 1)) r M' hm) gL_X6_keep k_X6_keep ⟨rfl, rfl⟩ ⟨Nat.le_of_ble_eq_true rfl, Nat.le_of_ble_eq_true rfl⟩ (em_Lw_Mo_M G A I' J M N M') hP hD hS (ci := 6) rfl rfl (at_Mo_0 G (fun k => A (73 + k)) M N) rfl hl.1 rfl (Nat.le_of_ble_eq_true rfl) ⟨Nat.le_of_ble_eq_true rfl, Nat.le_of_ble_eq_true rfl⟩ dL_law_805) (em_Lw_Mo_M G A I' J M N M') hP hD hS (fun H locs hP hD hS => ?_)
  refine lv_icmp_eq (pc := 808) (tgt := 1545) hx hb dL_law_808 (by decide) (fun _ => ?_) (fun h => absurd rfl h)
  exact kk I' J M' N H locs hR hP hD hS
set_option maxHeartbeats 4000000 in
set_option maxRecDepth 100000 in
theorem law_case_19 (hop : Op_on) {p : Program} {l : Launch} {e : Env} {s : State} {m : MethodId} {below : List Frame} {meth : Method} {c : Code} {b L : Nat} {xs : Nat → Int32} (hL : L ≤ 384) (C0 : lw_At p s m meth c b L xs) {G : GT} {A : Nat → Nat} (X : CX G p s m meth c code 4 lw_tbl #[Value.ref b] RL (fun q : Nat => s.heap.size ≤ q)) (I : Nat → CS) (J : Nat → JS) (M : CS) (N : JS) (hR : Rel I J M N) (i : Nat) (hi : i + 6 ≤ L) (H : Heap) (locs : List Loc) (ls : Array Slot) (hP : va_P G.1 vwCl (w_Lw G A I J M N) H) (hD : va_D (fun q : Nat => s.heap.size ≤ q) (w_Lw G A I J M N)) (hS : va_S (fun q : Nat => s.heap.size ≤ q) s.heap H locs) (hl : lv_has ls 4 [(3, .int (nI i)), (2, .ref (A 73)), (1, .ref (A 0)), (0, .ref b)]) (kk : ∀ (I' : Nat → CS) (J' : Nat → JS) (M' : CS) (N' : JS) (H : Heap) (locs : List Loc), Rel I' J' M' N' → va_P G.1 vwCl (w_Lw G A I' J' M' N') H → va_D (fun q : Nat => s.heap.size ≤ q) (w_Lw G A I' J' M' N') → va_S (fun q : Nat => s.heap.size ≤ q) s.heap H locs → W p l e room_1 s m #[Value.ref b] below meth c H locs 87 2655 (lw_Z below #[Value.ref b] s) (F0 m 1545 ls [])) : W p l e room_1 s m #[Value.ref b] below meth c H locs 87 2655 (lw_Z below #[Value.ref b] s) (F0 m 813 ls []) := by
  obtain ⟨hx, hb, hr, hml, hown, hts, hX, hbl, hlocks, hgv⟩ := C0
  have hbA : ¬ (fun q : Nat => s.heap.size ≤ q) b := Nat.not_le.mpr hbl
  obtain ⟨r, I', M', ht, hm, hR⟩ := hop I J M N (xs (i + 1)) hR
  refine lv_aload_n (pc := 813) hx hb dL_law_813 rfl (lv_at hl 2 rfl) ?_
  refine lv_aload_n (pc := 814) hx hb dL_law_814 rfl (lv_at hl 3 rfl) ?_
  refine lv_iload_n (pc := 815) hx hb dL_law_815 rfl (lv_at hl 0 rfl) ?_
  refine lv_iconst (pc := 816) (v := 1) hx hb dL_law_816 (by decide) ?_
  refine lv_iadd (pc := 817) hx hb dL_law_817 ?_
  refine wsld (pc := 818) hx hb hX hbl hbA hS (j := i + 1) (nI_add i 1) (by omega) hL dL_law_818 ?_
  refine endi X.2.2.2.2 (runV (pc := 819) (As := [.int (xs (i + 1))]) (rest := []) X (c_X5_on G l A H.size I J (xs (i + 1)) r I' ht) gL_X5_on k_X5_on ⟨rfl, rfl⟩ ⟨Nat.le_of_ble_eq_true rfl, Nat.le_of_ble_eq_true rfl⟩ (em_Lw_Tw_I G A I J M N I') hP hD hS (ci := 5) rfl rfl (at_Tw_0 G A I J) rfl hl.1 rfl (Nat.le_of_ble_eq_true rfl) ⟨Nat.le_of_ble_eq_true rfl, Nat.le_of_ble_eq_true rfl⟩ dL_law_819) (em_Lw_Tw_I G A I J M N I') hP hD hS (fun H locs hP hD hS => ?_)
  refine lv_aload_n (pc := 822) hx hb dL_law_822 rfl (lv_at hl 1 rfl) ?_
  refine lv_aload_n (pc := 823) hx hb dL_law_823 rfl (lv_at hl 3 rfl) ?_
  refine lv_iload_n (pc := 824) hx hb dL_law_824 rfl (lv_at hl 0 rfl) ?_
  refine lv_iconst (pc := 825) (v := 1) hx hb dL_law_825 (by decide) ?_
  refine lv_iadd (pc := 826) hx hb dL_law_826 ?_
  refine wsld (pc := 827) hx hb hX hbl hbA hS (j := i + 1) (nI_add i 1) (by omega) hL dL_law_827 ?_
  refine endi X.2.2.2.2 (runV (pc := 828) (As := [.int (xs (i + 1))]) (rest := [.int r]) X (c_X6_on G l (fun k => A (73 + k)) H.size M N (xs (i + 1)) r M' hm) gL_X6_on k_X6_on ⟨rfl, rfl⟩ ⟨Nat.le_of_ble_eq_true rfl, Nat.le_of_ble_eq_true rfl⟩ (em_Lw_Mo_M G A I' J M N M') hP hD hS (ci := 6) rfl rfl (at_Mo_0 G (fun k => A (73 + k)) M N) rfl hl.1 rfl (Nat.le_of_ble_eq_true rfl) ⟨Nat.le_of_ble_eq_true rfl, Nat.le_of_ble_eq_true rfl⟩ dL_law_828) (em_Lw_Mo_M G A I' J M N M') hP hD hS (fun H locs hP hD hS => ?_)
  refine lv_icmp_eq (pc := 831) (tgt := 1545) hx hb dL_law_831 (by decide) (fun _ => ?_) (fun h => absurd rfl h)
  exact kk I' J M' N H locs hR hP hD hS
set_option maxHeartbeats 4000000 in
set_option maxRecDepth 100000 in
theorem law_case_20 (hop : Op_does) {p : Program} {l : Launch} {e : Env} {s : State} {m : MethodId} {below : List Frame} {meth : Method} {c : Code} {b L : Nat} {xs : Nat → Int32} (hL : L ≤ 384) (C0 : lw_At p s m meth c b L xs) {G : GT} {A : Nat → Nat} (X : CX G p s m meth c code 4 lw_tbl #[Value.ref b] RL (fun q : Nat => s.heap.size ≤ q)) (I : Nat → CS) (J : Nat → JS) (M : CS) (N : JS) (hR : Rel I J M N) (i : Nat) (hi : i + 6 ≤ L) (H : Heap) (locs : List Loc) (ls : Array Slot) (hP : va_P G.1 vwCl (w_Lw G A I J M N) H) (hD : va_D (fun q : Nat => s.heap.size ≤ q) (w_Lw G A I J M N)) (hS : va_S (fun q : Nat => s.heap.size ≤ q) s.heap H locs) (hl : lv_has ls 4 [(3, .int (nI i)), (2, .ref (A 73)), (1, .ref (A 0)), (0, .ref b)]) (kk : ∀ (I' : Nat → CS) (J' : Nat → JS) (M' : CS) (N' : JS) (H : Heap) (locs : List Loc), Rel I' J' M' N' → va_P G.1 vwCl (w_Lw G A I' J' M' N') H → va_D (fun q : Nat => s.heap.size ≤ q) (w_Lw G A I' J' M' N') → va_S (fun q : Nat => s.heap.size ≤ q) s.heap H locs → W p l e room_1 s m #[Value.ref b] below meth c H locs 87 2655 (lw_Z below #[Value.ref b] s) (F0 m 1545 ls [])) : W p l e room_1 s m #[Value.ref b] below meth c H locs 87 2655 (lw_Z below #[Value.ref b] s) (F0 m 836 ls []) := by
  obtain ⟨hx, hb, hr, hml, hown, hts, hX, hbl, hlocks, hgv⟩ := C0
  have hbA : ¬ (fun q : Nat => s.heap.size ≤ q) b := Nat.not_le.mpr hbl
  obtain ⟨r, I', M', ht, hm, hR⟩ := hop I J M N (xs (i + 1)) (xs (i + 2)) (xs (i + 3)) hR
  refine lv_aload_n (pc := 836) hx hb dL_law_836 rfl (lv_at hl 2 rfl) ?_
  refine lv_aload_n (pc := 837) hx hb dL_law_837 rfl (lv_at hl 3 rfl) ?_
  refine lv_iload_n (pc := 838) hx hb dL_law_838 rfl (lv_at hl 0 rfl) ?_
  refine lv_iconst (pc := 839) (v := 1) hx hb dL_law_839 (by decide) ?_
  refine lv_iadd (pc := 840) hx hb dL_law_840 ?_
  refine wsld (pc := 841) hx hb hX hbl hbA hS (j := i + 1) (nI_add i 1) (by omega) hL dL_law_841 ?_
  refine lv_aload_n (pc := 842) hx hb dL_law_842 rfl (lv_at hl 3 rfl) ?_
  refine lv_iload_n (pc := 843) hx hb dL_law_843 rfl (lv_at hl 0 rfl) ?_
  refine lv_iconst (pc := 844) (v := 2) hx hb dL_law_844 (by decide) ?_
  refine lv_iadd (pc := 845) hx hb dL_law_845 ?_
  refine wsld (pc := 846) hx hb hX hbl hbA hS (j := i + 2) (nI_add i 2) (by omega) hL dL_law_846 ?_
  refine lv_aload_n (pc := 847) hx hb dL_law_847 rfl (lv_at hl 3 rfl) ?_
  refine lv_iload_n (pc := 848) hx hb dL_law_848 rfl (lv_at hl 0 rfl) ?_
  refine lv_iconst (pc := 849) (v := 3) hx hb dL_law_849 (by decide) ?_
  refine lv_iadd (pc := 850) hx hb dL_law_850 ?_
  refine wsld (pc := 851) hx hb hX hbl hbA hS (j := i + 3) (nI_add i 3) (by omega) hL dL_law_851 ?_
  refine endi X.2.2.2.2 (runV (pc := 852) (As := [.int (xs (i + 1)), .int (xs (i + 2)), .int (xs (i + 3))]) (rest := []) X (c_X5_does G l A H.size I J (xs (i + 1)) (xs (i + 2)) (xs (i + 3)) r I' ht) gL_X5_does k_X5_does ⟨rfl, rfl⟩ ⟨Nat.le_of_ble_eq_true rfl, Nat.le_of_ble_eq_true rfl⟩ (em_Lw_Tw_I G A I J M N I') hP hD hS (ci := 5) rfl rfl (at_Tw_0 G A I J) rfl hl.1 rfl (Nat.le_of_ble_eq_true rfl) ⟨Nat.le_of_ble_eq_true rfl, Nat.le_of_ble_eq_true rfl⟩ dL_law_852) (em_Lw_Tw_I G A I J M N I') hP hD hS (fun H locs hP hD hS => ?_)
  refine lv_aload_n (pc := 855) hx hb dL_law_855 rfl (lv_at hl 1 rfl) ?_
  refine lv_aload_n (pc := 856) hx hb dL_law_856 rfl (lv_at hl 3 rfl) ?_
  refine lv_iload_n (pc := 857) hx hb dL_law_857 rfl (lv_at hl 0 rfl) ?_
  refine lv_iconst (pc := 858) (v := 1) hx hb dL_law_858 (by decide) ?_
  refine lv_iadd (pc := 859) hx hb dL_law_859 ?_
  refine wsld (pc := 860) hx hb hX hbl hbA hS (j := i + 1) (nI_add i 1) (by omega) hL dL_law_860 ?_
  refine lv_aload_n (pc := 861) hx hb dL_law_861 rfl (lv_at hl 3 rfl) ?_
  refine lv_iload_n (pc := 862) hx hb dL_law_862 rfl (lv_at hl 0 rfl) ?_
  refine lv_iconst (pc := 863) (v := 2) hx hb dL_law_863 (by decide) ?_
  refine lv_iadd (pc := 864) hx hb dL_law_864 ?_
  refine wsld (pc := 865) hx hb hX hbl hbA hS (j := i + 2) (nI_add i 2) (by omega) hL dL_law_865 ?_
  refine lv_aload_n (pc := 866) hx hb dL_law_866 rfl (lv_at hl 3 rfl) ?_
  refine lv_iload_n (pc := 867) hx hb dL_law_867 rfl (lv_at hl 0 rfl) ?_
  refine lv_iconst (pc := 868) (v := 3) hx hb dL_law_868 (by decide) ?_
  refine lv_iadd (pc := 869) hx hb dL_law_869 ?_
  refine wsld (pc := 870) hx hb hX hbl hbA hS (j := i + 3) (nI_add i 3) (by omega) hL dL_law_870 ?_
  refine endi X.2.2.2.2 (runV (pc := 871) (As := [.int (xs (i + 1)), .int (xs (i + 2)), .int (xs (i + 3))]) (rest := [.int r]) X (c_X6_does G l (fun k => A (73 + k)) H.size M N (xs (i + 1)) (xs (i + 2)) (xs (i + 3)) r M' hm) gL_X6_does k_X6_does ⟨rfl, rfl⟩ ⟨Nat.le_of_ble_eq_true rfl, Nat.le_of_ble_eq_true rfl⟩ (em_Lw_Mo_M G A I' J M N M') hP hD hS (ci := 6) rfl rfl (at_Mo_0 G (fun k => A (73 + k)) M N) rfl hl.1 rfl (Nat.le_of_ble_eq_true rfl) ⟨Nat.le_of_ble_eq_true rfl, Nat.le_of_ble_eq_true rfl⟩ dL_law_871) (em_Lw_Mo_M G A I' J M N M') hP hD hS (fun H locs hP hD hS => ?_)
  refine lv_icmp_eq (pc := 874) (tgt := 1545) hx hb dL_law_874 (by decide) (fun _ => ?_) (fun h => absurd rfl h)
  exact kk I' J M' N H locs hR hP hD hS
set_option maxHeartbeats 4000000 in
set_option maxRecDepth 100000 in
theorem law_case_21 (hop : Op_differ) {p : Program} {l : Launch} {e : Env} {s : State} {m : MethodId} {below : List Frame} {meth : Method} {c : Code} {b L : Nat} {xs : Nat → Int32} (hL : L ≤ 384) (C0 : lw_At p s m meth c b L xs) {G : GT} {A : Nat → Nat} (X : CX G p s m meth c code 4 lw_tbl #[Value.ref b] RL (fun q : Nat => s.heap.size ≤ q)) (I : Nat → CS) (J : Nat → JS) (M : CS) (N : JS) (hR : Rel I J M N) (i : Nat) (hi : i + 6 ≤ L) (H : Heap) (locs : List Loc) (ls : Array Slot) (hP : va_P G.1 vwCl (w_Lw G A I J M N) H) (hD : va_D (fun q : Nat => s.heap.size ≤ q) (w_Lw G A I J M N)) (hS : va_S (fun q : Nat => s.heap.size ≤ q) s.heap H locs) (hl : lv_has ls 4 [(3, .int (nI i)), (2, .ref (A 73)), (1, .ref (A 0)), (0, .ref b)]) (kk : ∀ (I' : Nat → CS) (J' : Nat → JS) (M' : CS) (N' : JS) (H : Heap) (locs : List Loc), Rel I' J' M' N' → va_P G.1 vwCl (w_Lw G A I' J' M' N') H → va_D (fun q : Nat => s.heap.size ≤ q) (w_Lw G A I' J' M' N') → va_S (fun q : Nat => s.heap.size ≤ q) s.heap H locs → W p l e room_1 s m #[Value.ref b] below meth c H locs 87 2655 (lw_Z below #[Value.ref b] s) (F0 m 1545 ls [])) : W p l e room_1 s m #[Value.ref b] below meth c H locs 87 2655 (lw_Z below #[Value.ref b] s) (F0 m 879 ls []) := by
  obtain ⟨hx, hb, hr, hml, hown, hts, hX, hbl, hlocks, hgv⟩ := C0
  have hbA : ¬ (fun q : Nat => s.heap.size ≤ q) b := Nat.not_le.mpr hbl
  obtain ⟨r, I', M', ht, hm, hR⟩ := hop I J M N (xs (i + 1)) (xs (i + 2)) (xs (i + 3)) hR
  refine lv_aload_n (pc := 879) hx hb dL_law_879 rfl (lv_at hl 2 rfl) ?_
  refine lv_aload_n (pc := 880) hx hb dL_law_880 rfl (lv_at hl 3 rfl) ?_
  refine lv_iload_n (pc := 881) hx hb dL_law_881 rfl (lv_at hl 0 rfl) ?_
  refine lv_iconst (pc := 882) (v := 1) hx hb dL_law_882 (by decide) ?_
  refine lv_iadd (pc := 883) hx hb dL_law_883 ?_
  refine wsld (pc := 884) hx hb hX hbl hbA hS (j := i + 1) (nI_add i 1) (by omega) hL dL_law_884 ?_
  refine lv_aload_n (pc := 885) hx hb dL_law_885 rfl (lv_at hl 3 rfl) ?_
  refine lv_iload_n (pc := 886) hx hb dL_law_886 rfl (lv_at hl 0 rfl) ?_
  refine lv_iconst (pc := 887) (v := 2) hx hb dL_law_887 (by decide) ?_
  refine lv_iadd (pc := 888) hx hb dL_law_888 ?_
  refine wsld (pc := 889) hx hb hX hbl hbA hS (j := i + 2) (nI_add i 2) (by omega) hL dL_law_889 ?_
  refine lv_aload_n (pc := 890) hx hb dL_law_890 rfl (lv_at hl 3 rfl) ?_
  refine lv_iload_n (pc := 891) hx hb dL_law_891 rfl (lv_at hl 0 rfl) ?_
  refine lv_iconst (pc := 892) (v := 3) hx hb dL_law_892 (by decide) ?_
  refine lv_iadd (pc := 893) hx hb dL_law_893 ?_
  refine wsld (pc := 894) hx hb hX hbl hbA hS (j := i + 3) (nI_add i 3) (by omega) hL dL_law_894 ?_
  refine endi X.2.2.2.2 (runV (pc := 895) (As := [.int (xs (i + 1)), .int (xs (i + 2)), .int (xs (i + 3))]) (rest := []) X (c_X5_differ G l A H.size I J (xs (i + 1)) (xs (i + 2)) (xs (i + 3)) r I' ht) gL_X5_differ k_X5_differ ⟨rfl, rfl⟩ ⟨Nat.le_of_ble_eq_true rfl, Nat.le_of_ble_eq_true rfl⟩ (em_Lw_Tw_I G A I J M N I') hP hD hS (ci := 5) rfl rfl (at_Tw_0 G A I J) rfl hl.1 rfl (Nat.le_of_ble_eq_true rfl) ⟨Nat.le_of_ble_eq_true rfl, Nat.le_of_ble_eq_true rfl⟩ dL_law_895) (em_Lw_Tw_I G A I J M N I') hP hD hS (fun H locs hP hD hS => ?_)
  refine lv_aload_n (pc := 898) hx hb dL_law_898 rfl (lv_at hl 1 rfl) ?_
  refine lv_aload_n (pc := 899) hx hb dL_law_899 rfl (lv_at hl 3 rfl) ?_
  refine lv_iload_n (pc := 900) hx hb dL_law_900 rfl (lv_at hl 0 rfl) ?_
  refine lv_iconst (pc := 901) (v := 1) hx hb dL_law_901 (by decide) ?_
  refine lv_iadd (pc := 902) hx hb dL_law_902 ?_
  refine wsld (pc := 903) hx hb hX hbl hbA hS (j := i + 1) (nI_add i 1) (by omega) hL dL_law_903 ?_
  refine lv_aload_n (pc := 904) hx hb dL_law_904 rfl (lv_at hl 3 rfl) ?_
  refine lv_iload_n (pc := 905) hx hb dL_law_905 rfl (lv_at hl 0 rfl) ?_
  refine lv_iconst (pc := 906) (v := 2) hx hb dL_law_906 (by decide) ?_
  refine lv_iadd (pc := 907) hx hb dL_law_907 ?_
  refine wsld (pc := 908) hx hb hX hbl hbA hS (j := i + 2) (nI_add i 2) (by omega) hL dL_law_908 ?_
  refine lv_aload_n (pc := 909) hx hb dL_law_909 rfl (lv_at hl 3 rfl) ?_
  refine lv_iload_n (pc := 910) hx hb dL_law_910 rfl (lv_at hl 0 rfl) ?_
  refine lv_iconst (pc := 911) (v := 3) hx hb dL_law_911 (by decide) ?_
  refine lv_iadd (pc := 912) hx hb dL_law_912 ?_
  refine wsld (pc := 913) hx hb hX hbl hbA hS (j := i + 3) (nI_add i 3) (by omega) hL dL_law_913 ?_
  refine endi X.2.2.2.2 (runV (pc := 914) (As := [.int (xs (i + 1)), .int (xs (i + 2)), .int (xs (i + 3))]) (rest := [.int r]) X (c_X6_differ G l (fun k => A (73 + k)) H.size M N (xs (i + 1)) (xs (i + 2)) (xs (i + 3)) r M' hm) gL_X6_differ k_X6_differ ⟨rfl, rfl⟩ ⟨Nat.le_of_ble_eq_true rfl, Nat.le_of_ble_eq_true rfl⟩ (em_Lw_Mo_M G A I' J M N M') hP hD hS (ci := 6) rfl rfl (at_Mo_0 G (fun k => A (73 + k)) M N) rfl hl.1 rfl (Nat.le_of_ble_eq_true rfl) ⟨Nat.le_of_ble_eq_true rfl, Nat.le_of_ble_eq_true rfl⟩ dL_law_914) (em_Lw_Mo_M G A I' J M N M') hP hD hS (fun H locs hP hD hS => ?_)
  refine lv_icmp_eq (pc := 917) (tgt := 1545) hx hb dL_law_917 (by decide) (fun _ => ?_) (fun h => absurd rfl h)
  exact kk I' J M' N H locs hR hP hD hS
set_option maxHeartbeats 4000000 in
set_option maxRecDepth 100000 in
theorem law_case_22 (hop : Op_since) {p : Program} {l : Launch} {e : Env} {s : State} {m : MethodId} {below : List Frame} {meth : Method} {c : Code} {b L : Nat} {xs : Nat → Int32} (hL : L ≤ 384) (C0 : lw_At p s m meth c b L xs) {G : GT} {A : Nat → Nat} (X : CX G p s m meth c code 4 lw_tbl #[Value.ref b] RL (fun q : Nat => s.heap.size ≤ q)) (I : Nat → CS) (J : Nat → JS) (M : CS) (N : JS) (hR : Rel I J M N) (i : Nat) (hi : i + 6 ≤ L) (H : Heap) (locs : List Loc) (ls : Array Slot) (hP : va_P G.1 vwCl (w_Lw G A I J M N) H) (hD : va_D (fun q : Nat => s.heap.size ≤ q) (w_Lw G A I J M N)) (hS : va_S (fun q : Nat => s.heap.size ≤ q) s.heap H locs) (hl : lv_has ls 4 [(3, .int (nI i)), (2, .ref (A 73)), (1, .ref (A 0)), (0, .ref b)]) (kk : ∀ (I' : Nat → CS) (J' : Nat → JS) (M' : CS) (N' : JS) (H : Heap) (locs : List Loc), Rel I' J' M' N' → va_P G.1 vwCl (w_Lw G A I' J' M' N') H → va_D (fun q : Nat => s.heap.size ≤ q) (w_Lw G A I' J' M' N') → va_S (fun q : Nat => s.heap.size ≤ q) s.heap H locs → W p l e room_1 s m #[Value.ref b] below meth c H locs 87 2655 (lw_Z below #[Value.ref b] s) (F0 m 1545 ls [])) : W p l e room_1 s m #[Value.ref b] below meth c H locs 87 2655 (lw_Z below #[Value.ref b] s) (F0 m 922 ls []) := by
  obtain ⟨hx, hb, hr, hml, hown, hts, hX, hbl, hlocks, hgv⟩ := C0
  have hbA : ¬ (fun q : Nat => s.heap.size ≤ q) b := Nat.not_le.mpr hbl
  obtain ⟨r, I', M', ht, hm, hR⟩ := hop I J M N (xs (i + 1)) (xs (i + 2)) (xs (i + 3)) hR
  refine lv_aload_n (pc := 922) hx hb dL_law_922 rfl (lv_at hl 2 rfl) ?_
  refine lv_aload_n (pc := 923) hx hb dL_law_923 rfl (lv_at hl 3 rfl) ?_
  refine lv_iload_n (pc := 924) hx hb dL_law_924 rfl (lv_at hl 0 rfl) ?_
  refine lv_iconst (pc := 925) (v := 1) hx hb dL_law_925 (by decide) ?_
  refine lv_iadd (pc := 926) hx hb dL_law_926 ?_
  refine wsld (pc := 927) hx hb hX hbl hbA hS (j := i + 1) (nI_add i 1) (by omega) hL dL_law_927 ?_
  refine lv_aload_n (pc := 928) hx hb dL_law_928 rfl (lv_at hl 3 rfl) ?_
  refine lv_iload_n (pc := 929) hx hb dL_law_929 rfl (lv_at hl 0 rfl) ?_
  refine lv_iconst (pc := 930) (v := 2) hx hb dL_law_930 (by decide) ?_
  refine lv_iadd (pc := 931) hx hb dL_law_931 ?_
  refine wsld (pc := 932) hx hb hX hbl hbA hS (j := i + 2) (nI_add i 2) (by omega) hL dL_law_932 ?_
  refine lv_aload_n (pc := 933) hx hb dL_law_933 rfl (lv_at hl 3 rfl) ?_
  refine lv_iload_n (pc := 934) hx hb dL_law_934 rfl (lv_at hl 0 rfl) ?_
  refine lv_iconst (pc := 935) (v := 3) hx hb dL_law_935 (by decide) ?_
  refine lv_iadd (pc := 936) hx hb dL_law_936 ?_
  refine wsld (pc := 937) hx hb hX hbl hbA hS (j := i + 3) (nI_add i 3) (by omega) hL dL_law_937 ?_
  refine endi X.2.2.2.2 (runV (pc := 938) (As := [.int (xs (i + 1)), .int (xs (i + 2)), .int (xs (i + 3))]) (rest := []) X (c_X5_since G l A H.size I J (xs (i + 1)) (xs (i + 2)) (xs (i + 3)) r I' ht) gL_X5_since k_X5_since ⟨rfl, rfl⟩ ⟨Nat.le_of_ble_eq_true rfl, Nat.le_of_ble_eq_true rfl⟩ (em_Lw_Tw_I G A I J M N I') hP hD hS (ci := 5) rfl rfl (at_Tw_0 G A I J) rfl hl.1 rfl (Nat.le_of_ble_eq_true rfl) ⟨Nat.le_of_ble_eq_true rfl, Nat.le_of_ble_eq_true rfl⟩ dL_law_938) (em_Lw_Tw_I G A I J M N I') hP hD hS (fun H locs hP hD hS => ?_)
  refine lv_aload_n (pc := 941) hx hb dL_law_941 rfl (lv_at hl 1 rfl) ?_
  refine lv_aload_n (pc := 942) hx hb dL_law_942 rfl (lv_at hl 3 rfl) ?_
  refine lv_iload_n (pc := 943) hx hb dL_law_943 rfl (lv_at hl 0 rfl) ?_
  refine lv_iconst (pc := 944) (v := 1) hx hb dL_law_944 (by decide) ?_
  refine lv_iadd (pc := 945) hx hb dL_law_945 ?_
  refine wsld (pc := 946) hx hb hX hbl hbA hS (j := i + 1) (nI_add i 1) (by omega) hL dL_law_946 ?_
  refine lv_aload_n (pc := 947) hx hb dL_law_947 rfl (lv_at hl 3 rfl) ?_
  refine lv_iload_n (pc := 948) hx hb dL_law_948 rfl (lv_at hl 0 rfl) ?_
  refine lv_iconst (pc := 949) (v := 2) hx hb dL_law_949 (by decide) ?_
  refine lv_iadd (pc := 950) hx hb dL_law_950 ?_
  refine wsld (pc := 951) hx hb hX hbl hbA hS (j := i + 2) (nI_add i 2) (by omega) hL dL_law_951 ?_
  refine lv_aload_n (pc := 952) hx hb dL_law_952 rfl (lv_at hl 3 rfl) ?_
  refine lv_iload_n (pc := 953) hx hb dL_law_953 rfl (lv_at hl 0 rfl) ?_
  refine lv_iconst (pc := 954) (v := 3) hx hb dL_law_954 (by decide) ?_
  refine lv_iadd (pc := 955) hx hb dL_law_955 ?_
  refine wsld (pc := 956) hx hb hX hbl hbA hS (j := i + 3) (nI_add i 3) (by omega) hL dL_law_956 ?_
  refine endi X.2.2.2.2 (runV (pc := 957) (As := [.int (xs (i + 1)), .int (xs (i + 2)), .int (xs (i + 3))]) (rest := [.int r]) X (c_X6_since G l (fun k => A (73 + k)) H.size M N (xs (i + 1)) (xs (i + 2)) (xs (i + 3)) r M' hm) gL_X6_since k_X6_since ⟨rfl, rfl⟩ ⟨Nat.le_of_ble_eq_true rfl, Nat.le_of_ble_eq_true rfl⟩ (em_Lw_Mo_M G A I' J M N M') hP hD hS (ci := 6) rfl rfl (at_Mo_0 G (fun k => A (73 + k)) M N) rfl hl.1 rfl (Nat.le_of_ble_eq_true rfl) ⟨Nat.le_of_ble_eq_true rfl, Nat.le_of_ble_eq_true rfl⟩ dL_law_957) (em_Lw_Mo_M G A I' J M N M') hP hD hS (fun H locs hP hD hS => ?_)
  refine lv_icmp_eq (pc := 960) (tgt := 1545) hx hb dL_law_960 (by decide) (fun _ => ?_) (fun h => absurd rfl h)
  exact kk I' J M' N H locs hR hP hD hS
set_option maxHeartbeats 4000000 in
set_option maxRecDepth 100000 in
theorem law_case_23 (hop : Op_worst) {p : Program} {l : Launch} {e : Env} {s : State} {m : MethodId} {below : List Frame} {meth : Method} {c : Code} {b L : Nat} {xs : Nat → Int32} (hL : L ≤ 384) (C0 : lw_At p s m meth c b L xs) {G : GT} {A : Nat → Nat} (X : CX G p s m meth c code 4 lw_tbl #[Value.ref b] RL (fun q : Nat => s.heap.size ≤ q)) (I : Nat → CS) (J : Nat → JS) (M : CS) (N : JS) (hR : Rel I J M N) (i : Nat) (hi : i + 6 ≤ L) (H : Heap) (locs : List Loc) (ls : Array Slot) (hP : va_P G.1 vwCl (w_Lw G A I J M N) H) (hD : va_D (fun q : Nat => s.heap.size ≤ q) (w_Lw G A I J M N)) (hS : va_S (fun q : Nat => s.heap.size ≤ q) s.heap H locs) (hl : lv_has ls 4 [(3, .int (nI i)), (2, .ref (A 73)), (1, .ref (A 0)), (0, .ref b)]) (kk : ∀ (I' : Nat → CS) (J' : Nat → JS) (M' : CS) (N' : JS) (H : Heap) (locs : List Loc), Rel I' J' M' N' → va_P G.1 vwCl (w_Lw G A I' J' M' N') H → va_D (fun q : Nat => s.heap.size ≤ q) (w_Lw G A I' J' M' N') → va_S (fun q : Nat => s.heap.size ≤ q) s.heap H locs → W p l e room_1 s m #[Value.ref b] below meth c H locs 87 2655 (lw_Z below #[Value.ref b] s) (F0 m 1545 ls [])) : W p l e room_1 s m #[Value.ref b] below meth c H locs 87 2655 (lw_Z below #[Value.ref b] s) (F0 m 965 ls []) := by
  obtain ⟨hx, hb, hr, hml, hown, hts, hX, hbl, hlocks, hgv⟩ := C0
  have hbA : ¬ (fun q : Nat => s.heap.size ≤ q) b := Nat.not_le.mpr hbl
  obtain ⟨r, I', M', ht, hm, hR⟩ := hop I J M N (xs (i + 1)) hR
  refine lv_aload_n (pc := 965) hx hb dL_law_965 rfl (lv_at hl 2 rfl) ?_
  refine lv_aload_n (pc := 966) hx hb dL_law_966 rfl (lv_at hl 3 rfl) ?_
  refine lv_iload_n (pc := 967) hx hb dL_law_967 rfl (lv_at hl 0 rfl) ?_
  refine lv_iconst (pc := 968) (v := 1) hx hb dL_law_968 (by decide) ?_
  refine lv_iadd (pc := 969) hx hb dL_law_969 ?_
  refine wsld (pc := 970) hx hb hX hbl hbA hS (j := i + 1) (nI_add i 1) (by omega) hL dL_law_970 ?_
  refine endi X.2.2.2.2 (runV (pc := 971) (As := [.int (xs (i + 1))]) (rest := []) X (c_X5_worst G l A H.size I J (xs (i + 1)) r I' ht) gL_X5_worst k_X5_worst ⟨rfl, rfl⟩ ⟨Nat.le_of_ble_eq_true rfl, Nat.le_of_ble_eq_true rfl⟩ (em_Lw_Tw_I G A I J M N I') hP hD hS (ci := 5) rfl rfl (at_Tw_0 G A I J) rfl hl.1 rfl (Nat.le_of_ble_eq_true rfl) ⟨Nat.le_of_ble_eq_true rfl, Nat.le_of_ble_eq_true rfl⟩ dL_law_971) (em_Lw_Tw_I G A I J M N I') hP hD hS (fun H locs hP hD hS => ?_)
  refine lv_aload_n (pc := 974) hx hb dL_law_974 rfl (lv_at hl 1 rfl) ?_
  refine lv_aload_n (pc := 975) hx hb dL_law_975 rfl (lv_at hl 3 rfl) ?_
  refine lv_iload_n (pc := 976) hx hb dL_law_976 rfl (lv_at hl 0 rfl) ?_
  refine lv_iconst (pc := 977) (v := 1) hx hb dL_law_977 (by decide) ?_
  refine lv_iadd (pc := 978) hx hb dL_law_978 ?_
  refine wsld (pc := 979) hx hb hX hbl hbA hS (j := i + 1) (nI_add i 1) (by omega) hL dL_law_979 ?_
  refine endi X.2.2.2.2 (runV (pc := 980) (As := [.int (xs (i + 1))]) (rest := [.int r]) X (c_X6_worst G l (fun k => A (73 + k)) H.size M N (xs (i + 1)) r M' hm) gL_X6_worst k_X6_worst ⟨rfl, rfl⟩ ⟨Nat.le_of_ble_eq_true rfl, Nat.le_of_ble_eq_true rfl⟩ (em_Lw_Mo_M G A I' J M N M') hP hD hS (ci := 6) rfl rfl (at_Mo_0 G (fun k => A (73 + k)) M N) rfl hl.1 rfl (Nat.le_of_ble_eq_true rfl) ⟨Nat.le_of_ble_eq_true rfl, Nat.le_of_ble_eq_true rfl⟩ dL_law_980) (em_Lw_Mo_M G A I' J M N M') hP hD hS (fun H locs hP hD hS => ?_)
  refine lv_icmp_eq (pc := 983) (tgt := 1545) hx hb dL_law_983 (by decide) (fun _ => ?_) (fun h => absurd rfl h)
  exact kk I' J M' N H locs hR hP hD hS
set_option maxHeartbeats 4000000 in
set_option maxRecDepth 100000 in
theorem law_case_24 (hop : Op_source) {p : Program} {l : Launch} {e : Env} {s : State} {m : MethodId} {below : List Frame} {meth : Method} {c : Code} {b L : Nat} {xs : Nat → Int32} (hL : L ≤ 384) (C0 : lw_At p s m meth c b L xs) {G : GT} {A : Nat → Nat} (X : CX G p s m meth c code 4 lw_tbl #[Value.ref b] RL (fun q : Nat => s.heap.size ≤ q)) (I : Nat → CS) (J : Nat → JS) (M : CS) (N : JS) (hR : Rel I J M N) (i : Nat) (hi : i + 6 ≤ L) (H : Heap) (locs : List Loc) (ls : Array Slot) (hP : va_P G.1 vwCl (w_Lw G A I J M N) H) (hD : va_D (fun q : Nat => s.heap.size ≤ q) (w_Lw G A I J M N)) (hS : va_S (fun q : Nat => s.heap.size ≤ q) s.heap H locs) (hl : lv_has ls 4 [(3, .int (nI i)), (2, .ref (A 73)), (1, .ref (A 0)), (0, .ref b)]) (kk : ∀ (I' : Nat → CS) (J' : Nat → JS) (M' : CS) (N' : JS) (H : Heap) (locs : List Loc), Rel I' J' M' N' → va_P G.1 vwCl (w_Lw G A I' J' M' N') H → va_D (fun q : Nat => s.heap.size ≤ q) (w_Lw G A I' J' M' N') → va_S (fun q : Nat => s.heap.size ≤ q) s.heap H locs → W p l e room_1 s m #[Value.ref b] below meth c H locs 87 2655 (lw_Z below #[Value.ref b] s) (F0 m 1545 ls [])) : W p l e room_1 s m #[Value.ref b] below meth c H locs 87 2655 (lw_Z below #[Value.ref b] s) (F0 m 988 ls []) := by
  obtain ⟨hx, hb, hr, hml, hown, hts, hX, hbl, hlocks, hgv⟩ := C0
  have hbA : ¬ (fun q : Nat => s.heap.size ≤ q) b := Nat.not_le.mpr hbl
  obtain ⟨r, I', M', ht, hm, hR⟩ := hop I J M N (xs (i + 1)) (xs (i + 2)) (xs (i + 3)) hR
  refine lv_aload_n (pc := 988) hx hb dL_law_988 rfl (lv_at hl 2 rfl) ?_
  refine lv_aload_n (pc := 989) hx hb dL_law_989 rfl (lv_at hl 3 rfl) ?_
  refine lv_iload_n (pc := 990) hx hb dL_law_990 rfl (lv_at hl 0 rfl) ?_
  refine lv_iconst (pc := 991) (v := 1) hx hb dL_law_991 (by decide) ?_
  refine lv_iadd (pc := 992) hx hb dL_law_992 ?_
  refine wsld (pc := 993) hx hb hX hbl hbA hS (j := i + 1) (nI_add i 1) (by omega) hL dL_law_993 ?_
  refine lv_aload_n (pc := 994) hx hb dL_law_994 rfl (lv_at hl 3 rfl) ?_
  refine lv_iload_n (pc := 995) hx hb dL_law_995 rfl (lv_at hl 0 rfl) ?_
  refine lv_iconst (pc := 996) (v := 2) hx hb dL_law_996 (by decide) ?_
  refine lv_iadd (pc := 997) hx hb dL_law_997 ?_
  refine wsld (pc := 998) hx hb hX hbl hbA hS (j := i + 2) (nI_add i 2) (by omega) hL dL_law_998 ?_
  refine lv_aload_n (pc := 999) hx hb dL_law_999 rfl (lv_at hl 3 rfl) ?_
  refine lv_iload_n (pc := 1000) hx hb dL_law_1000 rfl (lv_at hl 0 rfl) ?_
  refine lv_iconst (pc := 1001) (v := 3) hx hb dL_law_1001 (by decide) ?_
  refine lv_iadd (pc := 1002) hx hb dL_law_1002 ?_
  refine wsld (pc := 1003) hx hb hX hbl hbA hS (j := i + 3) (nI_add i 3) (by omega) hL dL_law_1003 ?_
  refine endi X.2.2.2.2 (runV (pc := 1004) (As := [.int (xs (i + 1)), .int (xs (i + 2)), .int (xs (i + 3))]) (rest := []) X (c_X5_source G l A H.size I J (xs (i + 1)) (xs (i + 2)) (xs (i + 3)) r I' ht) gL_X5_source k_X5_source ⟨rfl, rfl⟩ ⟨Nat.le_of_ble_eq_true rfl, Nat.le_of_ble_eq_true rfl⟩ (em_Lw_Tw_I G A I J M N I') hP hD hS (ci := 5) rfl rfl (at_Tw_0 G A I J) rfl hl.1 rfl (Nat.le_of_ble_eq_true rfl) ⟨Nat.le_of_ble_eq_true rfl, Nat.le_of_ble_eq_true rfl⟩ dL_law_1004) (em_Lw_Tw_I G A I J M N I') hP hD hS (fun H locs hP hD hS => ?_)
  refine lv_aload_n (pc := 1007) hx hb dL_law_1007 rfl (lv_at hl 1 rfl) ?_
  refine lv_aload_n (pc := 1008) hx hb dL_law_1008 rfl (lv_at hl 3 rfl) ?_
  refine lv_iload_n (pc := 1009) hx hb dL_law_1009 rfl (lv_at hl 0 rfl) ?_
  refine lv_iconst (pc := 1010) (v := 1) hx hb dL_law_1010 (by decide) ?_
  refine lv_iadd (pc := 1011) hx hb dL_law_1011 ?_
  refine wsld (pc := 1012) hx hb hX hbl hbA hS (j := i + 1) (nI_add i 1) (by omega) hL dL_law_1012 ?_
  refine lv_aload_n (pc := 1013) hx hb dL_law_1013 rfl (lv_at hl 3 rfl) ?_
  refine lv_iload_n (pc := 1014) hx hb dL_law_1014 rfl (lv_at hl 0 rfl) ?_
  refine lv_iconst (pc := 1015) (v := 2) hx hb dL_law_1015 (by decide) ?_
  refine lv_iadd (pc := 1016) hx hb dL_law_1016 ?_
  refine wsld (pc := 1017) hx hb hX hbl hbA hS (j := i + 2) (nI_add i 2) (by omega) hL dL_law_1017 ?_
  refine lv_aload_n (pc := 1018) hx hb dL_law_1018 rfl (lv_at hl 3 rfl) ?_
  refine lv_iload_n (pc := 1019) hx hb dL_law_1019 rfl (lv_at hl 0 rfl) ?_
  refine lv_iconst (pc := 1020) (v := 3) hx hb dL_law_1020 (by decide) ?_
  refine lv_iadd (pc := 1021) hx hb dL_law_1021 ?_
  refine wsld (pc := 1022) hx hb hX hbl hbA hS (j := i + 3) (nI_add i 3) (by omega) hL dL_law_1022 ?_
  refine endi X.2.2.2.2 (runV (pc := 1023) (As := [.int (xs (i + 1)), .int (xs (i + 2)), .int (xs (i + 3))]) (rest := [.int r]) X (c_X6_source G l (fun k => A (73 + k)) H.size M N (xs (i + 1)) (xs (i + 2)) (xs (i + 3)) r M' hm) gL_X6_source k_X6_source ⟨rfl, rfl⟩ ⟨Nat.le_of_ble_eq_true rfl, Nat.le_of_ble_eq_true rfl⟩ (em_Lw_Mo_M G A I' J M N M') hP hD hS (ci := 6) rfl rfl (at_Mo_0 G (fun k => A (73 + k)) M N) rfl hl.1 rfl (Nat.le_of_ble_eq_true rfl) ⟨Nat.le_of_ble_eq_true rfl, Nat.le_of_ble_eq_true rfl⟩ dL_law_1023) (em_Lw_Mo_M G A I' J M N M') hP hD hS (fun H locs hP hD hS => ?_)
  refine lv_icmp_eq (pc := 1026) (tgt := 1545) hx hb dL_law_1026 (by decide) (fun _ => ?_) (fun h => absurd rfl h)
  exact kk I' J M' N H locs hR hP hD hS
set_option maxHeartbeats 4000000 in
set_option maxRecDepth 100000 in
theorem law_case_25 (hop : Op_together) {p : Program} {l : Launch} {e : Env} {s : State} {m : MethodId} {below : List Frame} {meth : Method} {c : Code} {b L : Nat} {xs : Nat → Int32} (hL : L ≤ 384) (C0 : lw_At p s m meth c b L xs) {G : GT} {A : Nat → Nat} (X : CX G p s m meth c code 4 lw_tbl #[Value.ref b] RL (fun q : Nat => s.heap.size ≤ q)) (I : Nat → CS) (J : Nat → JS) (M : CS) (N : JS) (hR : Rel I J M N) (i : Nat) (hi : i + 6 ≤ L) (H : Heap) (locs : List Loc) (ls : Array Slot) (hP : va_P G.1 vwCl (w_Lw G A I J M N) H) (hD : va_D (fun q : Nat => s.heap.size ≤ q) (w_Lw G A I J M N)) (hS : va_S (fun q : Nat => s.heap.size ≤ q) s.heap H locs) (hl : lv_has ls 4 [(3, .int (nI i)), (2, .ref (A 73)), (1, .ref (A 0)), (0, .ref b)]) (kk : ∀ (I' : Nat → CS) (J' : Nat → JS) (M' : CS) (N' : JS) (H : Heap) (locs : List Loc), Rel I' J' M' N' → va_P G.1 vwCl (w_Lw G A I' J' M' N') H → va_D (fun q : Nat => s.heap.size ≤ q) (w_Lw G A I' J' M' N') → va_S (fun q : Nat => s.heap.size ≤ q) s.heap H locs → W p l e room_1 s m #[Value.ref b] below meth c H locs 87 2655 (lw_Z below #[Value.ref b] s) (F0 m 1545 ls [])) : W p l e room_1 s m #[Value.ref b] below meth c H locs 87 2655 (lw_Z below #[Value.ref b] s) (F0 m 1031 ls []) := by
  obtain ⟨hx, hb, hr, hml, hown, hts, hX, hbl, hlocks, hgv⟩ := C0
  have hbA : ¬ (fun q : Nat => s.heap.size ≤ q) b := Nat.not_le.mpr hbl
  obtain ⟨r, I', M', ht, hm, hR⟩ := hop I J M N (xs (i + 1)) (xs (i + 2)) (xs (i + 3)) hR
  refine lv_aload_n (pc := 1031) hx hb dL_law_1031 rfl (lv_at hl 2 rfl) ?_
  refine lv_aload_n (pc := 1032) hx hb dL_law_1032 rfl (lv_at hl 3 rfl) ?_
  refine lv_iload_n (pc := 1033) hx hb dL_law_1033 rfl (lv_at hl 0 rfl) ?_
  refine lv_iconst (pc := 1034) (v := 1) hx hb dL_law_1034 (by decide) ?_
  refine lv_iadd (pc := 1035) hx hb dL_law_1035 ?_
  refine wsld (pc := 1036) hx hb hX hbl hbA hS (j := i + 1) (nI_add i 1) (by omega) hL dL_law_1036 ?_
  refine lv_aload_n (pc := 1037) hx hb dL_law_1037 rfl (lv_at hl 3 rfl) ?_
  refine lv_iload_n (pc := 1038) hx hb dL_law_1038 rfl (lv_at hl 0 rfl) ?_
  refine lv_iconst (pc := 1039) (v := 2) hx hb dL_law_1039 (by decide) ?_
  refine lv_iadd (pc := 1040) hx hb dL_law_1040 ?_
  refine wsld (pc := 1041) hx hb hX hbl hbA hS (j := i + 2) (nI_add i 2) (by omega) hL dL_law_1041 ?_
  refine lv_aload_n (pc := 1042) hx hb dL_law_1042 rfl (lv_at hl 3 rfl) ?_
  refine lv_iload_n (pc := 1043) hx hb dL_law_1043 rfl (lv_at hl 0 rfl) ?_
  refine lv_iconst (pc := 1044) (v := 3) hx hb dL_law_1044 (by decide) ?_
  refine lv_iadd (pc := 1045) hx hb dL_law_1045 ?_
  refine wsld (pc := 1046) hx hb hX hbl hbA hS (j := i + 3) (nI_add i 3) (by omega) hL dL_law_1046 ?_
  refine endi X.2.2.2.2 (runV (pc := 1047) (As := [.int (xs (i + 1)), .int (xs (i + 2)), .int (xs (i + 3))]) (rest := []) X (c_X5_together G l A H.size I J (xs (i + 1)) (xs (i + 2)) (xs (i + 3)) r I' ht) gL_X5_together k_X5_together ⟨rfl, rfl⟩ ⟨Nat.le_of_ble_eq_true rfl, Nat.le_of_ble_eq_true rfl⟩ (em_Lw_Tw_I G A I J M N I') hP hD hS (ci := 5) rfl rfl (at_Tw_0 G A I J) rfl hl.1 rfl (Nat.le_of_ble_eq_true rfl) ⟨Nat.le_of_ble_eq_true rfl, Nat.le_of_ble_eq_true rfl⟩ dL_law_1047) (em_Lw_Tw_I G A I J M N I') hP hD hS (fun H locs hP hD hS => ?_)
  refine lv_aload_n (pc := 1050) hx hb dL_law_1050 rfl (lv_at hl 1 rfl) ?_
  refine lv_aload_n (pc := 1051) hx hb dL_law_1051 rfl (lv_at hl 3 rfl) ?_
  refine lv_iload_n (pc := 1052) hx hb dL_law_1052 rfl (lv_at hl 0 rfl) ?_
  refine lv_iconst (pc := 1053) (v := 1) hx hb dL_law_1053 (by decide) ?_
  refine lv_iadd (pc := 1054) hx hb dL_law_1054 ?_
  refine wsld (pc := 1055) hx hb hX hbl hbA hS (j := i + 1) (nI_add i 1) (by omega) hL dL_law_1055 ?_
  refine lv_aload_n (pc := 1056) hx hb dL_law_1056 rfl (lv_at hl 3 rfl) ?_
  refine lv_iload_n (pc := 1057) hx hb dL_law_1057 rfl (lv_at hl 0 rfl) ?_
  refine lv_iconst (pc := 1058) (v := 2) hx hb dL_law_1058 (by decide) ?_
  refine lv_iadd (pc := 1059) hx hb dL_law_1059 ?_
  refine wsld (pc := 1060) hx hb hX hbl hbA hS (j := i + 2) (nI_add i 2) (by omega) hL dL_law_1060 ?_
  refine lv_aload_n (pc := 1061) hx hb dL_law_1061 rfl (lv_at hl 3 rfl) ?_
  refine lv_iload_n (pc := 1062) hx hb dL_law_1062 rfl (lv_at hl 0 rfl) ?_
  refine lv_iconst (pc := 1063) (v := 3) hx hb dL_law_1063 (by decide) ?_
  refine lv_iadd (pc := 1064) hx hb dL_law_1064 ?_
  refine wsld (pc := 1065) hx hb hX hbl hbA hS (j := i + 3) (nI_add i 3) (by omega) hL dL_law_1065 ?_
  refine endi X.2.2.2.2 (runV (pc := 1066) (As := [.int (xs (i + 1)), .int (xs (i + 2)), .int (xs (i + 3))]) (rest := [.int r]) X (c_X6_together G l (fun k => A (73 + k)) H.size M N (xs (i + 1)) (xs (i + 2)) (xs (i + 3)) r M' hm) gL_X6_together k_X6_together ⟨rfl, rfl⟩ ⟨Nat.le_of_ble_eq_true rfl, Nat.le_of_ble_eq_true rfl⟩ (em_Lw_Mo_M G A I' J M N M') hP hD hS (ci := 6) rfl rfl (at_Mo_0 G (fun k => A (73 + k)) M N) rfl hl.1 rfl (Nat.le_of_ble_eq_true rfl) ⟨Nat.le_of_ble_eq_true rfl, Nat.le_of_ble_eq_true rfl⟩ dL_law_1066) (em_Lw_Mo_M G A I' J M N M') hP hD hS (fun H locs hP hD hS => ?_)
  refine lv_icmp_eq (pc := 1069) (tgt := 1545) hx hb dL_law_1069 (by decide) (fun _ => ?_) (fun h => absurd rfl h)
  exact kk I' J M' N H locs hR hP hD hS
set_option maxHeartbeats 4000000 in
set_option maxRecDepth 100000 in
theorem law_case_26 (hop : Op_warn) {p : Program} {l : Launch} {e : Env} {s : State} {m : MethodId} {below : List Frame} {meth : Method} {c : Code} {b L : Nat} {xs : Nat → Int32} (hL : L ≤ 384) (C0 : lw_At p s m meth c b L xs) {G : GT} {A : Nat → Nat} (X : CX G p s m meth c code 4 lw_tbl #[Value.ref b] RL (fun q : Nat => s.heap.size ≤ q)) (I : Nat → CS) (J : Nat → JS) (M : CS) (N : JS) (hR : Rel I J M N) (i : Nat) (hi : i + 6 ≤ L) (H : Heap) (locs : List Loc) (ls : Array Slot) (hP : va_P G.1 vwCl (w_Lw G A I J M N) H) (hD : va_D (fun q : Nat => s.heap.size ≤ q) (w_Lw G A I J M N)) (hS : va_S (fun q : Nat => s.heap.size ≤ q) s.heap H locs) (hl : lv_has ls 4 [(3, .int (nI i)), (2, .ref (A 73)), (1, .ref (A 0)), (0, .ref b)]) (kk : ∀ (I' : Nat → CS) (J' : Nat → JS) (M' : CS) (N' : JS) (H : Heap) (locs : List Loc), Rel I' J' M' N' → va_P G.1 vwCl (w_Lw G A I' J' M' N') H → va_D (fun q : Nat => s.heap.size ≤ q) (w_Lw G A I' J' M' N') → va_S (fun q : Nat => s.heap.size ≤ q) s.heap H locs → W p l e room_1 s m #[Value.ref b] below meth c H locs 87 2655 (lw_Z below #[Value.ref b] s) (F0 m 1545 ls [])) : W p l e room_1 s m #[Value.ref b] below meth c H locs 87 2655 (lw_Z below #[Value.ref b] s) (F0 m 1074 ls []) := by
  obtain ⟨hx, hb, hr, hml, hown, hts, hX, hbl, hlocks, hgv⟩ := C0
  have hbA : ¬ (fun q : Nat => s.heap.size ≤ q) b := Nat.not_le.mpr hbl
  obtain ⟨r, I', M', ht, hm, hR⟩ := hop I J M N (xs (i + 1)) (xs (i + 2)) (xs (i + 3)) (xs (i + 4)) hR
  refine lv_aload_n (pc := 1074) hx hb dL_law_1074 rfl (lv_at hl 2 rfl) ?_
  refine lv_aload_n (pc := 1075) hx hb dL_law_1075 rfl (lv_at hl 3 rfl) ?_
  refine lv_iload_n (pc := 1076) hx hb dL_law_1076 rfl (lv_at hl 0 rfl) ?_
  refine lv_iconst (pc := 1077) (v := 1) hx hb dL_law_1077 (by decide) ?_
  refine lv_iadd (pc := 1078) hx hb dL_law_1078 ?_
  refine wsld (pc := 1079) hx hb hX hbl hbA hS (j := i + 1) (nI_add i 1) (by omega) hL dL_law_1079 ?_
  refine lv_aload_n (pc := 1080) hx hb dL_law_1080 rfl (lv_at hl 3 rfl) ?_
  refine lv_iload_n (pc := 1081) hx hb dL_law_1081 rfl (lv_at hl 0 rfl) ?_
  refine lv_iconst (pc := 1082) (v := 2) hx hb dL_law_1082 (by decide) ?_
  refine lv_iadd (pc := 1083) hx hb dL_law_1083 ?_
  refine wsld (pc := 1084) hx hb hX hbl hbA hS (j := i + 2) (nI_add i 2) (by omega) hL dL_law_1084 ?_
  refine lv_aload_n (pc := 1085) hx hb dL_law_1085 rfl (lv_at hl 3 rfl) ?_
  refine lv_iload_n (pc := 1086) hx hb dL_law_1086 rfl (lv_at hl 0 rfl) ?_
  refine lv_iconst (pc := 1087) (v := 3) hx hb dL_law_1087 (by decide) ?_
  refine lv_iadd (pc := 1088) hx hb dL_law_1088 ?_
  refine wsld (pc := 1089) hx hb hX hbl hbA hS (j := i + 3) (nI_add i 3) (by omega) hL dL_law_1089 ?_
  refine lv_aload_n (pc := 1090) hx hb dL_law_1090 rfl (lv_at hl 3 rfl) ?_
  refine lv_iload_n (pc := 1091) hx hb dL_law_1091 rfl (lv_at hl 0 rfl) ?_
  refine lv_iconst (pc := 1092) (v := 4) hx hb dL_law_1092 (by decide) ?_
  refine lv_iadd (pc := 1093) hx hb dL_law_1093 ?_
  refine wsld (pc := 1094) hx hb hX hbl hbA hS (j := i + 4) (nI_add i 4) (by omega) hL dL_law_1094 ?_
  refine endi X.2.2.2.2 (runV (pc := 1095) (As := [.int (xs (i + 1)), .int (xs (i + 2)), .int (xs (i + 3)), .int (xs (i + 4))]) (rest := []) X (c_X5_warn G l A H.size I J (xs (i + 1)) (xs (i + 2)) (xs (i + 3)) (xs (i + 4)) r I' ht) gL_X5_warn k_X5_warn ⟨rfl, rfl⟩ ⟨Nat.le_of_ble_eq_true rfl, Nat.le_of_ble_eq_true rfl⟩ (em_Lw_Tw_I G A I J M N I') hP hD hS (ci := 5) rfl rfl (at_Tw_0 G A I J) rfl hl.1 rfl (Nat.le_of_ble_eq_true rfl) ⟨Nat.le_of_ble_eq_true rfl, Nat.le_of_ble_eq_true rfl⟩ dL_law_1095) (em_Lw_Tw_I G A I J M N I') hP hD hS (fun H locs hP hD hS => ?_)
  refine lv_aload_n (pc := 1098) hx hb dL_law_1098 rfl (lv_at hl 1 rfl) ?_
  refine lv_aload_n (pc := 1099) hx hb dL_law_1099 rfl (lv_at hl 3 rfl) ?_
  refine lv_iload_n (pc := 1100) hx hb dL_law_1100 rfl (lv_at hl 0 rfl) ?_
  refine lv_iconst (pc := 1101) (v := 1) hx hb dL_law_1101 (by decide) ?_
  refine lv_iadd (pc := 1102) hx hb dL_law_1102 ?_
  refine wsld (pc := 1103) hx hb hX hbl hbA hS (j := i + 1) (nI_add i 1) (by omega) hL dL_law_1103 ?_
  refine lv_aload_n (pc := 1104) hx hb dL_law_1104 rfl (lv_at hl 3 rfl) ?_
  refine lv_iload_n (pc := 1105) hx hb dL_law_1105 rfl (lv_at hl 0 rfl) ?_
  refine lv_iconst (pc := 1106) (v := 2) hx hb dL_law_1106 (by decide) ?_
  refine lv_iadd (pc := 1107) hx hb dL_law_1107 ?_
  refine wsld (pc := 1108) hx hb hX hbl hbA hS (j := i + 2) (nI_add i 2) (by omega) hL dL_law_1108 ?_
  refine lv_aload_n (pc := 1109) hx hb dL_law_1109 rfl (lv_at hl 3 rfl) ?_
  refine lv_iload_n (pc := 1110) hx hb dL_law_1110 rfl (lv_at hl 0 rfl) ?_
  refine lv_iconst (pc := 1111) (v := 3) hx hb dL_law_1111 (by decide) ?_
  refine lv_iadd (pc := 1112) hx hb dL_law_1112 ?_
  refine wsld (pc := 1113) hx hb hX hbl hbA hS (j := i + 3) (nI_add i 3) (by omega) hL dL_law_1113 ?_
  refine lv_aload_n (pc := 1114) hx hb dL_law_1114 rfl (lv_at hl 3 rfl) ?_
  refine lv_iload_n (pc := 1115) hx hb dL_law_1115 rfl (lv_at hl 0 rfl) ?_
  refine lv_iconst (pc := 1116) (v := 4) hx hb dL_law_1116 (by decide) ?_
  refine lv_iadd (pc := 1117) hx hb dL_law_1117 ?_
  refine wsld (pc := 1118) hx hb hX hbl hbA hS (j := i + 4) (nI_add i 4) (by omega) hL dL_law_1118 ?_
  refine endi X.2.2.2.2 (runV (pc := 1119) (As := [.int (xs (i + 1)), .int (xs (i + 2)), .int (xs (i + 3)), .int (xs (i + 4))]) (rest := [.int r]) X (c_X6_warn G l (fun k => A (73 + k)) H.size M N (xs (i + 1)) (xs (i + 2)) (xs (i + 3)) (xs (i + 4)) r M' hm) gL_X6_warn k_X6_warn ⟨rfl, rfl⟩ ⟨Nat.le_of_ble_eq_true rfl, Nat.le_of_ble_eq_true rfl⟩ (em_Lw_Mo_M G A I' J M N M') hP hD hS (ci := 6) rfl rfl (at_Mo_0 G (fun k => A (73 + k)) M N) rfl hl.1 rfl (Nat.le_of_ble_eq_true rfl) ⟨Nat.le_of_ble_eq_true rfl, Nat.le_of_ble_eq_true rfl⟩ dL_law_1119) (em_Lw_Mo_M G A I' J M N M') hP hD hS (fun H locs hP hD hS => ?_)
  refine lv_icmp_eq (pc := 1122) (tgt := 1545) hx hb dL_law_1122 (by decide) (fun _ => ?_) (fun h => absurd rfl h)
  exact kk I' J M' N H locs hR hP hD hS
set_option maxHeartbeats 4000000 in
set_option maxRecDepth 100000 in
theorem law_case_27 (hop : Op_agree) {p : Program} {l : Launch} {e : Env} {s : State} {m : MethodId} {below : List Frame} {meth : Method} {c : Code} {b L : Nat} {xs : Nat → Int32} (hL : L ≤ 384) (C0 : lw_At p s m meth c b L xs) {G : GT} {A : Nat → Nat} (X : CX G p s m meth c code 4 lw_tbl #[Value.ref b] RL (fun q : Nat => s.heap.size ≤ q)) (I : Nat → CS) (J : Nat → JS) (M : CS) (N : JS) (hR : Rel I J M N) (i : Nat) (hi : i + 6 ≤ L) (H : Heap) (locs : List Loc) (ls : Array Slot) (hP : va_P G.1 vwCl (w_Lw G A I J M N) H) (hD : va_D (fun q : Nat => s.heap.size ≤ q) (w_Lw G A I J M N)) (hS : va_S (fun q : Nat => s.heap.size ≤ q) s.heap H locs) (hl : lv_has ls 4 [(3, .int (nI i)), (2, .ref (A 73)), (1, .ref (A 0)), (0, .ref b)]) (kk : ∀ (I' : Nat → CS) (J' : Nat → JS) (M' : CS) (N' : JS) (H : Heap) (locs : List Loc), Rel I' J' M' N' → va_P G.1 vwCl (w_Lw G A I' J' M' N') H → va_D (fun q : Nat => s.heap.size ≤ q) (w_Lw G A I' J' M' N') → va_S (fun q : Nat => s.heap.size ≤ q) s.heap H locs → W p l e room_1 s m #[Value.ref b] below meth c H locs 87 2655 (lw_Z below #[Value.ref b] s) (F0 m 1545 ls [])) : W p l e room_1 s m #[Value.ref b] below meth c H locs 87 2655 (lw_Z below #[Value.ref b] s) (F0 m 1127 ls []) := by
  obtain ⟨hx, hb, hr, hml, hown, hts, hX, hbl, hlocks, hgv⟩ := C0
  have hbA : ¬ (fun q : Nat => s.heap.size ≤ q) b := Nat.not_le.mpr hbl
  obtain ⟨r, I', M', ht, hm, hR⟩ := hop I J M N (xs (i + 1)) (xs (i + 2)) (xs (i + 3)) hR
  refine lv_aload_n (pc := 1127) hx hb dL_law_1127 rfl (lv_at hl 2 rfl) ?_
  refine lv_aload_n (pc := 1128) hx hb dL_law_1128 rfl (lv_at hl 3 rfl) ?_
  refine lv_iload_n (pc := 1129) hx hb dL_law_1129 rfl (lv_at hl 0 rfl) ?_
  refine lv_iconst (pc := 1130) (v := 1) hx hb dL_law_1130 (by decide) ?_
  refine lv_iadd (pc := 1131) hx hb dL_law_1131 ?_
  refine wsld (pc := 1132) hx hb hX hbl hbA hS (j := i + 1) (nI_add i 1) (by omega) hL dL_law_1132 ?_
  refine lv_aload_n (pc := 1133) hx hb dL_law_1133 rfl (lv_at hl 3 rfl) ?_
  refine lv_iload_n (pc := 1134) hx hb dL_law_1134 rfl (lv_at hl 0 rfl) ?_
  refine lv_iconst (pc := 1135) (v := 2) hx hb dL_law_1135 (by decide) ?_
  refine lv_iadd (pc := 1136) hx hb dL_law_1136 ?_
  refine wsld (pc := 1137) hx hb hX hbl hbA hS (j := i + 2) (nI_add i 2) (by omega) hL dL_law_1137 ?_
  refine lv_aload_n (pc := 1138) hx hb dL_law_1138 rfl (lv_at hl 3 rfl) ?_
  refine lv_iload_n (pc := 1139) hx hb dL_law_1139 rfl (lv_at hl 0 rfl) ?_
  refine lv_iconst (pc := 1140) (v := 3) hx hb dL_law_1140 (by decide) ?_
  refine lv_iadd (pc := 1141) hx hb dL_law_1141 ?_
  refine wsld (pc := 1142) hx hb hX hbl hbA hS (j := i + 3) (nI_add i 3) (by omega) hL dL_law_1142 ?_
  refine endi X.2.2.2.2 (runV (pc := 1143) (As := [.int (xs (i + 1)), .int (xs (i + 2)), .int (xs (i + 3))]) (rest := []) X (c_X5_agree G l A H.size I J (xs (i + 1)) (xs (i + 2)) (xs (i + 3)) r I' ht) gL_X5_agree k_X5_agree ⟨rfl, rfl⟩ ⟨Nat.le_of_ble_eq_true rfl, Nat.le_of_ble_eq_true rfl⟩ (em_Lw_Tw_I G A I J M N I') hP hD hS (ci := 5) rfl rfl (at_Tw_0 G A I J) rfl hl.1 rfl (Nat.le_of_ble_eq_true rfl) ⟨Nat.le_of_ble_eq_true rfl, Nat.le_of_ble_eq_true rfl⟩ dL_law_1143) (em_Lw_Tw_I G A I J M N I') hP hD hS (fun H locs hP hD hS => ?_)
  refine lv_aload_n (pc := 1146) hx hb dL_law_1146 rfl (lv_at hl 1 rfl) ?_
  refine lv_aload_n (pc := 1147) hx hb dL_law_1147 rfl (lv_at hl 3 rfl) ?_
  refine lv_iload_n (pc := 1148) hx hb dL_law_1148 rfl (lv_at hl 0 rfl) ?_
  refine lv_iconst (pc := 1149) (v := 1) hx hb dL_law_1149 (by decide) ?_
  refine lv_iadd (pc := 1150) hx hb dL_law_1150 ?_
  refine wsld (pc := 1151) hx hb hX hbl hbA hS (j := i + 1) (nI_add i 1) (by omega) hL dL_law_1151 ?_
  refine lv_aload_n (pc := 1152) hx hb dL_law_1152 rfl (lv_at hl 3 rfl) ?_
  refine lv_iload_n (pc := 1153) hx hb dL_law_1153 rfl (lv_at hl 0 rfl) ?_
  refine lv_iconst (pc := 1154) (v := 2) hx hb dL_law_1154 (by decide) ?_
  refine lv_iadd (pc := 1155) hx hb dL_law_1155 ?_
  refine wsld (pc := 1156) hx hb hX hbl hbA hS (j := i + 2) (nI_add i 2) (by omega) hL dL_law_1156 ?_
  refine lv_aload_n (pc := 1157) hx hb dL_law_1157 rfl (lv_at hl 3 rfl) ?_
  refine lv_iload_n (pc := 1158) hx hb dL_law_1158 rfl (lv_at hl 0 rfl) ?_
  refine lv_iconst (pc := 1159) (v := 3) hx hb dL_law_1159 (by decide) ?_
  refine lv_iadd (pc := 1160) hx hb dL_law_1160 ?_
  refine wsld (pc := 1161) hx hb hX hbl hbA hS (j := i + 3) (nI_add i 3) (by omega) hL dL_law_1161 ?_
  refine endi X.2.2.2.2 (runV (pc := 1162) (As := [.int (xs (i + 1)), .int (xs (i + 2)), .int (xs (i + 3))]) (rest := [.int r]) X (c_X6_agree G l (fun k => A (73 + k)) H.size M N (xs (i + 1)) (xs (i + 2)) (xs (i + 3)) r M' hm) gL_X6_agree k_X6_agree ⟨rfl, rfl⟩ ⟨Nat.le_of_ble_eq_true rfl, Nat.le_of_ble_eq_true rfl⟩ (em_Lw_Mo_M G A I' J M N M') hP hD hS (ci := 6) rfl rfl (at_Mo_0 G (fun k => A (73 + k)) M N) rfl hl.1 rfl (Nat.le_of_ble_eq_true rfl) ⟨Nat.le_of_ble_eq_true rfl, Nat.le_of_ble_eq_true rfl⟩ dL_law_1162) (em_Lw_Mo_M G A I' J M N M') hP hD hS (fun H locs hP hD hS => ?_)
  refine lv_icmp_eq (pc := 1165) (tgt := 1545) hx hb dL_law_1165 (by decide) (fun _ => ?_) (fun h => absurd rfl h)
  exact kk I' J M' N H locs hR hP hD hS
