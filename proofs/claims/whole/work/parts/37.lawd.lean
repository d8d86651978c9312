set_option maxHeartbeats 4000000 in
set_option maxRecDepth 100000 in
theorem lw_c15 {p : Program} {l : Launch} {e : Env} {RR : Room} {s : State} {m : MethodId} {below : List Frame} {meth : Method} {c : Code} {QQ : State → Prop} {b L : Nat} {xs : Nat → Int32} {g : GG} {ma : Nat → Nat} {q1 i cells slots : Nat} {x : FT} {P : PT} {S : ST} {H : Heap} {locs : List Loc} {ls : Array Slot} (C0 : LwC RR p s m c b L xs g) (hi4 : i + 4 ≤ L) (hL : L ≤ 2048) (hc5 : cells + 5 ≤ 600000) (hs5 : slots + 136 ≤ 7302250) (hI : LI g ma q1 s.heap x P S H locs) (hl : lv_has ls 4 [(0, .ref (b)), (1, .ref (q1)), (2, .ref (ma 0)), (3, .int (nI (i)))]) (hn : LN p l e RR s m below meth c b QQ g ma q1 i cells slots) : W p l e RR s m #[Value.ref b] below meth c H locs cells slots QQ (F0 m 629 ls []) := by
  obtain ⟨hx, hb, hml, hown, hts, hX, hbl, hK, hR1, hR2, hR3, hR4⟩ := C0
  obtain ⟨⟨hSo, hRl, hR0, hs0⟩, hq1, hP, hD, hS⟩ := hI
  subst hq1
  have hx9 := hSo.1
  have hA : ∀ q : Nat, s.heap.size ≤ q → (fun q : Nat => s.heap.size ≤ q) q := fun _ h => h
  have hbA : ¬ (fun q : Nat => s.heap.size ≤ q) b := Nat.not_le.mpr hbl
  refine lv_aload_n hx hb dL_law_629 rfl (lv_at hl 1 rfl) ?_
  refine lv_aload_n hx hb dL_law_630 rfl (lv_at hl 0 rfl) ?_
  refine lv_iload_n hx hb dL_law_631 rfl (lv_at hl 3 rfl) ?_
  refine lv_iconst (v := nI (1)) hx hb dL_law_632 (by decide) ?_
  refine n_iadd hx hb dL_law_633 ?_
  refine n_sld (k := i + 1) hx hb hX hbl hbA hS (by omega) (by omega) dL_law_634 ?_
  refine lv_aload_n hx hb dL_law_635 rfl (lv_at hl 0 rfl) ?_
  refine lv_iload_n hx hb dL_law_636 rfl (lv_at hl 3 rfl) ?_
  refine lv_iconst (v := nI (2)) hx hb dL_law_637 (by decide) ?_
  refine n_iadd hx hb dL_law_638 ?_
  refine n_sld (k := i + 2) hx hb hX hbl hbA hS (by omega) (by omega) dL_law_639 ?_
  refine lv_aload_n hx hb dL_law_640 rfl (lv_at hl 0 rfl) ?_
  refine lv_iload_n hx hb dL_law_641 rfl (lv_at hl 3 rfl) ?_
  refine lv_iconst (v := nI (3)) hx hb dL_law_642 (by decide) ?_
  refine n_iadd hx hb dL_law_643 ?_
  refine n_sld (k := i + 3) hx hb hX hbl hbA hS (by omega) (by omega) dL_law_644 ?_
  refine cL_i (wc := wX g x) (wr := wM g ma P S) (w1 := fun u => wX g u) (va_runV (As := [.int (xs (i + 1)), .int (xs (i + 2)), .int (xs (i + 3))]) (rest := []) ⟨hx, hb, hml, hown, hts⟩ (k_day l g x hx9 hSo.2 (xs (i + 1)) (xs (i + 2)) (xs (i + 3)) _) (cwV 3 hts (gV w_ml_L_80 w_im_X4_day w_sel_X4_day w_ini_X4 w_co_X4_day) rfl rfl rfl (by decide +kernel) (by rw [hR1, hR2]; exact ⟨Nat.le_of_ble_eq_true rfl, Nat.le_of_ble_eq_true rfl⟩)) (preV_wr (P_left hP) hK (D_left hD) (va_recv hK.1 (P_left hP) (ci := 4) (q0 := 0) rfl rfl)) rfl rfl hl.1 rfl (lv_room (Nat.le_of_ble_eq_true rfl)) dL_law_645 ⟨by rw [hR3]; omega, by rw [hR4]; omega⟩) hP hD hS hA (fun r u H locs hpx hP hD hS => ?_)
  obtain ⟨hr1, hal⟩ := hpx
  subst hr1
  refine lv_aload_n hx hb dL_law_648 rfl (lv_at hl 2 rfl) ?_
  refine lv_aload_n hx hb dL_law_649 rfl (lv_at hl 0 rfl) ?_
  refine lv_iload_n hx hb dL_law_650 rfl (lv_at hl 3 rfl) ?_
  refine lv_iconst (v := nI (1)) hx hb dL_law_651 (by decide) ?_
  refine n_iadd hx hb dL_law_652 ?_
  refine n_sld (k := i + 1) hx hb hX hbl hbA hS (by omega) (by omega) dL_law_653 ?_
  refine lv_aload_n hx hb dL_law_654 rfl (lv_at hl 0 rfl) ?_
  refine lv_iload_n hx hb dL_law_655 rfl (lv_at hl 3 rfl) ?_
  refine lv_iconst (v := nI (2)) hx hb dL_law_656 (by decide) ?_
  refine n_iadd hx hb dL_law_657 ?_
  refine n_sld (k := i + 2) hx hb hX hbl hbA hS (by omega) (by omega) dL_law_658 ?_
  refine lv_aload_n hx hb dL_law_659 rfl (lv_at hl 0 rfl) ?_
  refine lv_iload_n hx hb dL_law_660 rfl (lv_at hl 3 rfl) ?_
  refine lv_iconst (v := nI (3)) hx hb dL_law_661 (by decide) ?_
  refine n_iadd hx hb dL_law_662 ?_
  refine n_sld (k := i + 3) hx hb hX hbl hbA hS (by omega) (by omega) dL_law_663 ?_
  refine cM_i (wl := wX g u) (wc := wM g ma P S) (w1 := fun v => wM g ma P v) (va_runV (As := [.int (xs (i + 1)), .int (xs (i + 2)), .int (xs (i + 3))]) (rest := [.int (_)]) ⟨hx, hb, hml, hown, hts⟩ (m_day l g ma P S x hx9 hRl hs0 (xs (i + 1)) (xs (i + 2)) (xs (i + 3)) _) (cwV 3 hts (gV w_ml_L_83 w_im_X5_day w_sel_X5_day w_ini_X5 w_co_X5_day) rfl rfl rfl (by decide +kernel) (by rw [hR1, hR2]; exact ⟨Nat.le_of_ble_eq_true rfl, Nat.le_of_ble_eq_true rfl⟩)) (preV_wr (P_right hP) hK (D_right hD) (va_recv hK.1 (P_right hP) (ci := 5) (q0 := 0) rfl rfl)) rfl rfl hl.1 rfl (lv_room (Nat.le_of_ble_eq_true rfl)) dL_law_664 ⟨by rw [hR3]; omega, by rw [hR4]; omega⟩) hP hD hS hA (fun _ => rfl) (fun r2 S2 H locs hpm hP hD hS => ?_)
  obtain ⟨hr2, hs2⟩ := hpm
  subst hr2
  refine lv_icmp_eq (tgt := 706) hx hb dL_law_667 (by decide) (fun c1 => ?_) (fun c1 => ?_)
  · refine W.widen (k := cells + 5) (n := slots + 136) (by omega) (by omega) ?_
    exact hn u P S2 H locs ls ⟨⟨Sok_al hSo hal, Rel_al hRl hal, hR0, hs2⟩, congrFun (xA_al hal) 0, hP, hD, hS⟩ (lv_sub hl [0, 1, 2, 3] rfl)
  · exact absurd rfl c1

set_option maxHeartbeats 4000000 in
set_option maxRecDepth 100000 in
theorem lw_c16 {p : Program} {l : Launch} {e : Env} {RR : Room} {s : State} {m : MethodId} {below : List Frame} {meth : Method} {c : Code} {QQ : State → Prop} {b L : Nat} {xs : Nat → Int32} {g : GG} {ma : Nat → Nat} {q1 i cells slots : Nat} {x : FT} {P : PT} {S : ST} {H : Heap} {locs : List Loc} {ls : Array Slot} (C0 : LwC RR p s m c b L xs g) (hi4 : i + 4 ≤ L) (hL : L ≤ 2048) (hc5 : cells + 5 ≤ 600000) (hs5 : slots + 136 ≤ 7302250) (hI : LI g ma q1 s.heap x P S H locs) (hl : lv_has ls 4 [(0, .ref (b)), (1, .ref (q1)), (2, .ref (ma 0)), (3, .int (nI (i)))]) (hn : LN p l e RR s m below meth c b QQ g ma q1 i cells slots) : W p l e RR s m #[Value.ref b] below meth c H locs cells slots QQ (F0 m 672 ls []) := by
  obtain ⟨hx, hb, hml, hown, hts, hX, hbl, hK, hR1, hR2, hR3, hR4⟩ := C0
  obtain ⟨⟨hSo, hRl, hR0, hs0⟩, hq1, hP, hD, hS⟩ := hI
  subst hq1
  have hx9 := hSo.1
  have hA : ∀ q : Nat, s.heap.size ≤ q → (fun q : Nat => s.heap.size ≤ q) q := fun _ h => h
  have hbA : ¬ (fun q : Nat => s.heap.size ≤ q) b := Nat.not_le.mpr hbl
  refine lv_aload_n hx hb dL_law_672 rfl (lv_at hl 1 rfl) ?_
  refine lv_aload_n hx hb dL_law_673 rfl (lv_at hl 0 rfl) ?_
  refine lv_iload_n hx hb dL_law_674 rfl (lv_at hl 3 rfl) ?_
  refine lv_iconst (v := nI (1)) hx hb dL_law_675 (by decide) ?_
  refine n_iadd hx hb dL_law_676 ?_
  refine n_sld (k := i + 1) hx hb hX hbl hbA hS (by omega) (by omega) dL_law_677 ?_
  refine lv_aload_n hx hb dL_law_678 rfl (lv_at hl 0 rfl) ?_
  refine lv_iload_n hx hb dL_law_679 rfl (lv_at hl 3 rfl) ?_
  refine lv_iconst (v := nI (2)) hx hb dL_law_680 (by decide) ?_
  refine n_iadd hx hb dL_law_681 ?_
  refine n_sld (k := i + 2) hx hb hX hbl hbA hS (by omega) (by omega) dL_law_682 ?_
  refine cL_l (wc := wX g x) (wr := wM g ma P S) (w1 := fun u => wX g u) (va_runV (As := [.int (xs (i + 1)), .int (xs (i + 2))]) (rest := []) ⟨hx, hb, hml, hown, hts⟩ (k_check l g x hx9 hSo.2 (xs (i + 1)) (xs (i + 2)) _) (cwV 2 hts (gV w_ml_L_84 w_im_X4_check w_sel_X4_check w_ini_X4 w_co_X4_check) rfl rfl rfl (by decide +kernel) (by rw [hR1, hR2]; exact ⟨Nat.le_of_ble_eq_true rfl, Nat.le_of_ble_eq_true rfl⟩)) (preV_wr (P_left hP) hK (D_left hD) (va_recv hK.1 (P_left hP) (ci := 4) (q0 := 0) rfl rfl)) rfl rfl hl.1 rfl (lv_room (Nat.le_of_ble_eq_true rfl)) dL_law_683 ⟨by rw [hR3]; omega, by rw [hR4]; omega⟩) hP hD hS hA (fun r u H locs hpx hP hD hS => ?_)
  obtain ⟨hr1, hal⟩ := hpx
  subst hr1
  refine lv_aload_n hx hb dL_law_686 rfl (lv_at hl 2 rfl) ?_
  refine lv_aload_n hx hb dL_law_687 rfl (lv_at hl 0 rfl) ?_
  refine lv_iload_n hx hb dL_law_688 rfl (lv_at hl 3 rfl) ?_
  refine lv_iconst (v := nI (1)) hx hb dL_law_689 (by decide) ?_
  refine n_iadd hx hb dL_law_690 ?_
  refine n_sld (k := i + 1) hx hb hX hbl hbA hS (by omega) (by omega) dL_law_691 ?_
  refine lv_aload_n hx hb dL_law_692 rfl (lv_at hl 0 rfl) ?_
  refine lv_iload_n hx hb dL_law_693 rfl (lv_at hl 3 rfl) ?_
  refine lv_iconst (v := nI (2)) hx hb dL_law_694 (by decide) ?_
  refine n_iadd hx hb dL_law_695 ?_
  refine n_sld (k := i + 2) hx hb hX hbl hbA hS (by omega) (by omega) dL_law_696 ?_
  refine cM_l (wl := wX g u) (wc := wM g ma P S) (w1 := fun v => wM g ma P v) (va_runV (As := [.int (xs (i + 1)), .int (xs (i + 2))]) (rest := [.long (_)]) ⟨hx, hb, hml, hown, hts⟩ (m_check l g ma P S x hx9 hRl hs0 (xs (i + 1)) (xs (i + 2)) _) (cwV 2 hts (gV w_ml_L_87 w_im_X5_check w_sel_X5_check w_ini_X5 w_co_X5_check) rfl rfl rfl (by decide +kernel) (by rw [hR1, hR2]; exact ⟨Nat.le_of_ble_eq_true rfl, Nat.le_of_ble_eq_true rfl⟩)) (preV_wr (P_right hP) hK (D_right hD) (va_recv hK.1 (P_right hP) (ci := 5) (q0 := 0) rfl rfl)) rfl rfl hl.1 rfl (lv_room (Nat.le_of_ble_eq_true rfl)) dL_law_697 ⟨by rw [hR3]; omega, by rw [hR4]; omega⟩) hP hD hS hA (fun _ => rfl) (fun r2 S2 H locs hpm hP hD hS => ?_)
  obtain ⟨hr2, hs2⟩ := hpm
  subst hr2
  refine W.lcmp hx hb dL_law_700 ?_
  refine lv_if_eq (tgt := 706) hx hb dL_law_701 (by decide) (fun c1 => ?_) (fun c1 => ?_)
  · refine W.widen (k := cells + 5) (n := slots + 136) (by omega) (by omega) ?_
    exact hn u P S2 H locs ls ⟨⟨Sok_al hSo hal, Rel_al hRl hal, hR0, hs2⟩, congrFun (xA_al hal) 0, hP, hD, hS⟩ (lv_sub hl [0, 1, 2, 3] rfl)
  · exact absurd ((lg_cmp_eq _ _).mpr rfl) c1
