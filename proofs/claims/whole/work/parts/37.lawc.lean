set_option maxHeartbeats 4000000 in
set_option maxRecDepth 100000 in
theorem lw_c9 {p : Program} {l : Launch} {e : Env} {RR : Room} {s : State} {m : MethodId} {below : List Frame} {meth : Method} {c : Code} {QQ : State → Prop} {b L : Nat} {xs : Nat → Int32} {g : GG} {ma : Nat → Nat} {q1 i cells slots : Nat} {x : FT} {P : PT} {S : ST} {H : Heap} {locs : List Loc} {ls : Array Slot} (C0 : LwC RR p s m c b L xs g) (hi4 : i + 4 ≤ L) (hL : L ≤ 2048) (hc5 : cells + 5 ≤ 600000) (hs5 : slots + 136 ≤ 7302250) (hI : LI g ma q1 s.heap x P S H locs) (hl : lv_has ls 4 [(0, .ref (b)), (1, .ref (q1)), (2, .ref (ma 0)), (3, .int (nI (i)))]) (hn : LN p l e RR s m below meth c b QQ g ma q1 i cells slots) : W p l e RR s m #[Value.ref b] below meth c H locs cells slots QQ (F0 m 440 ls []) := by
  obtain ⟨hx, hb, hml, hown, hts, hX, hbl, hK, hR1, hR2, hR3, hR4⟩ := C0
  obtain ⟨⟨hSo, hRl, hR0, hs0⟩, hq1, hP, hD, hS⟩ := hI
  subst hq1
  have hx9 := hSo.1
  have hA : ∀ q : Nat, s.heap.size ≤ q → (fun q : Nat => s.heap.size ≤ q) q := fun _ h => h
  have hbA : ¬ (fun q : Nat => s.heap.size ≤ q) b := Nat.not_le.mpr hbl
  refine lv_aload_n hx hb dL_law_440 rfl (lv_at hl 1 rfl) ?_
  refine lv_aload_n hx hb dL_law_441 rfl (lv_at hl 0 rfl) ?_
  refine lv_iload_n hx hb dL_law_442 rfl (lv_at hl 3 rfl) ?_
  refine lv_iconst (v := nI (1)) hx hb dL_law_443 (by decide) ?_
  refine n_iadd hx hb dL_law_444 ?_
  refine n_sld (k := i + 1) hx hb hX hbl hbA hS (by omega) (by omega) dL_law_445 ?_
  refine lv_aload_n hx hb dL_law_446 rfl (lv_at hl 0 rfl) ?_
  refine lv_iload_n hx hb dL_law_447 rfl (lv_at hl 3 rfl) ?_
  refine lv_iconst (v := nI (2)) hx hb dL_law_448 (by decide) ?_
  refine n_iadd hx hb dL_law_449 ?_
  refine n_sld (k := i + 2) hx hb hX hbl hbA hS (by omega) (by omega) dL_law_450 ?_
  refine cR_i (W.runV (As := [.int (xs (i + 1)), .int (xs (i + 2))]) (rest := []) ⟨hx, hb, hml, hown, hts⟩ (k_wrong l g x hx9 (xs (i + 1)) (xs (i + 2))) (cwV 2 hts (gV w_ml_L_55 w_im_X4_wrong w_sel_X4_wrong w_ini_X4 w_co_X4_wrong) rfl rfl rfl (by decide +kernel) (by rw [hR1, hR2]; exact ⟨Nat.le_of_ble_eq_true rfl, Nat.le_of_ble_eq_true rfl⟩)) (preV_rd (P_left hP) hK (va_recv hK.1 (P_left hP) (ci := 4) (q0 := 0) rfl rfl)) rfl rfl hl.1 rfl (lv_room (Nat.le_of_ble_eq_true rfl)) dL_law_451 ⟨by rw [hR3]; omega, by rw [hR4]; omega⟩) ?_
  refine lv_aload_n hx hb dL_law_454 rfl (lv_at hl 2 rfl) ?_
  refine lv_aload_n hx hb dL_law_455 rfl (lv_at hl 0 rfl) ?_
  refine lv_iload_n hx hb dL_law_456 rfl (lv_at hl 3 rfl) ?_
  refine lv_iconst (v := nI (1)) hx hb dL_law_457 (by decide) ?_
  refine n_iadd hx hb dL_law_458 ?_
  refine n_sld (k := i + 1) hx hb hX hbl hbA hS (by omega) (by omega) dL_law_459 ?_
  refine lv_aload_n hx hb dL_law_460 rfl (lv_at hl 0 rfl) ?_
  refine lv_iload_n hx hb dL_law_461 rfl (lv_at hl 3 rfl) ?_
  refine lv_iconst (v := nI (2)) hx hb dL_law_462 (by decide) ?_
  refine n_iadd hx hb dL_law_463 ?_
  refine n_sld (k := i + 2) hx hb hX hbl hbA hS (by omega) (by omega) dL_law_464 ?_
  refine cM_i (wl := wX g x) (wc := wM g ma P S) (w1 := fun v => wM g ma P v) (va_runV (As := [.int (xs (i + 1)), .int (xs (i + 2))]) (rest := [.int (_)]) ⟨hx, hb, hml, hown, hts⟩ (m_wrong l g ma P S x hx9 hRl hs0 (xs (i + 1)) (xs (i + 2)) _) (cwV 2 hts (gV w_ml_L_58 w_im_X5_wrong w_sel_X5_wrong w_ini_X5 w_co_X5_wrong) rfl rfl rfl (by decide +kernel) (by rw [hR1, hR2]; exact ⟨Nat.le_of_ble_eq_true rfl, Nat.le_of_ble_eq_true rfl⟩)) (preV_wr (P_right hP) hK (D_right hD) (va_recv hK.1 (P_right hP) (ci := 5) (q0 := 0) rfl rfl)) rfl rfl hl.1 rfl (lv_room (Nat.le_of_ble_eq_true rfl)) dL_law_465 ⟨by rw [hR3]; omega, by rw [hR4]; omega⟩) hP hD hS hA (fun _ => rfl) (fun r2 S2 H locs hpm hP hD hS => ?_)
  obtain ⟨hr2, hs2⟩ := hpm
  subst hr2
  refine lv_icmp_eq (tgt := 706) hx hb dL_law_468 (by decide) (fun c1 => ?_) (fun c1 => ?_)
  · refine W.widen (k := cells + 5) (n := slots + 136) (by omega) (by omega) ?_
    exact hn x P S2 H locs ls ⟨⟨hSo, hRl, hR0, hs2⟩, rfl, hP, hD, hS⟩ (lv_sub hl [0, 1, 2, 3] rfl)
  · exact absurd rfl c1

set_option maxHeartbeats 4000000 in
set_option maxRecDepth 100000 in
theorem lw_c10 {p : Program} {l : Launch} {e : Env} {RR : Room} {s : State} {m : MethodId} {below : List Frame} {meth : Method} {c : Code} {QQ : State → Prop} {b L : Nat} {xs : Nat → Int32} {g : GG} {ma : Nat → Nat} {q1 i cells slots : Nat} {x : FT} {P : PT} {S : ST} {H : Heap} {locs : List Loc} {ls : Array Slot} (C0 : LwC RR p s m c b L xs g) (hi4 : i + 4 ≤ L) (hL : L ≤ 2048) (hc5 : cells + 5 ≤ 600000) (hs5 : slots + 136 ≤ 7302250) (hI : LI g ma q1 s.heap x P S H locs) (hl : lv_has ls 4 [(0, .ref (b)), (1, .ref (q1)), (2, .ref (ma 0)), (3, .int (nI (i)))]) (hn : LN p l e RR s m below meth c b QQ g ma q1 i cells slots) : W p l e RR s m #[Value.ref b] below meth c H locs cells slots QQ (F0 m 473 ls []) := by
  obtain ⟨hx, hb, hml, hown, hts, hX, hbl, hK, hR1, hR2, hR3, hR4⟩ := C0
  obtain ⟨⟨hSo, hRl, hR0, hs0⟩, hq1, hP, hD, hS⟩ := hI
  subst hq1
  have hx9 := hSo.1
  have hA : ∀ q : Nat, s.heap.size ≤ q → (fun q : Nat => s.heap.size ≤ q) q := fun _ h => h
  have hbA : ¬ (fun q : Nat => s.heap.size ≤ q) b := Nat.not_le.mpr hbl
  refine lv_aload_n hx hb dL_law_473 rfl (lv_at hl 1 rfl) ?_
  refine lv_aload_n hx hb dL_law_474 rfl (lv_at hl 0 rfl) ?_
  refine lv_iload_n hx hb dL_law_475 rfl (lv_at hl 3 rfl) ?_
  refine lv_iconst (v := nI (1)) hx hb dL_law_476 (by decide) ?_
  refine n_iadd hx hb dL_law_477 ?_
  refine n_sld (k := i + 1) hx hb hX hbl hbA hS (by omega) (by omega) dL_law_478 ?_
  refine cL_i (wc := wX g x) (wr := wM g ma P S) (w1 := fun u => wX g u) (va_runV (As := [.int (xs (i + 1))]) (rest := []) ⟨hx, hb, hml, hown, hts⟩ (k_quiet l g x hx9 (xs (i + 1)) _) (cwV 1 hts (gV w_ml_L_59 w_im_X4_quiet w_sel_X4_quiet w_ini_X4 w_co_X4_quiet) rfl rfl rfl (by decide +kernel) (by rw [hR1, hR2]; exact ⟨Nat.le_of_ble_eq_true rfl, Nat.le_of_ble_eq_true rfl⟩)) (preV_wr (P_left hP) hK (D_left hD) (va_recv hK.1 (P_left hP) (ci := 4) (q0 := 0) rfl rfl)) rfl rfl hl.1 rfl (lv_room (Nat.le_of_ble_eq_true rfl)) dL_law_479 ⟨by rw [hR3]; omega, by rw [hR4]; omega⟩) hP hD hS hA (fun r u H locs hpx hP hD hS => ?_)
  have hr1 : r = (quietS x (xs (i + 1))).1 := congrArg Prod.fst hpx
  have hu1 : u = (quietS x (xs (i + 1))).2 := congrArg Prod.snd hpx
  subst hr1 hu1
  refine lv_aload_n hx hb dL_law_482 rfl (lv_at hl 2 rfl) ?_
  refine lv_aload_n hx hb dL_law_483 rfl (lv_at hl 0 rfl) ?_
  refine lv_iload_n hx hb dL_law_484 rfl (lv_at hl 3 rfl) ?_
  refine lv_iconst (v := nI (1)) hx hb dL_law_485 (by decide) ?_
  refine n_iadd hx hb dL_law_486 ?_
  refine n_sld (k := i + 1) hx hb hX hbl hbA hS (by omega) (by omega) dL_law_487 ?_
  refine cM_i (wl := wX g (quietS x (xs (i + 1))).2) (wc := wM g ma P S) (w1 := fun v => wM g ma v S) (va_runV (As := [.int (xs (i + 1))]) (rest := [.int ((quietS x (xs (i + 1))).1)]) ⟨hx, hb, hml, hown, hts⟩ (m_quiet l g ma P S x hx9 hRl hR0 (xs (i + 1)) _) (cwV 1 hts (gV w_ml_L_63 w_im_X5_quiet w_sel_X5_quiet w_ini_X5 w_co_X5_quiet) rfl rfl rfl (by decide +kernel) (by rw [hR1, hR2]; exact ⟨Nat.le_of_ble_eq_true rfl, Nat.le_of_ble_eq_true rfl⟩)) (preV_wr (P_right hP) hK (D_right hD) (va_recv hK.1 (P_right hP) (ci := 5) (q0 := 0) rfl rfl)) rfl rfl hl.1 rfl (lv_room (Nat.le_of_ble_eq_true rfl)) dL_law_488 ⟨by rw [hR3]; omega, by rw [hR4]; omega⟩) hP hD hS hA (fun _ => rfl) (fun r2 P2 H locs hpm hP hD hS => ?_)
  obtain ⟨hr2, hRl2, hR02⟩ := hpm
  subst hr2
  refine lv_icmp_eq (tgt := 706) hx hb dL_law_491 (by decide) (fun c1 => ?_) (fun c1 => ?_)
  · refine W.widen (k := cells + 5) (n := slots + 136) (by omega) (by omega) ?_
    exact hn _ P2 S H locs ls ⟨⟨Sok_quiet hSo, hRl2, hR02, hs0⟩, congrFun xA_quiet 0, hP, hD, hS⟩ (lv_sub hl [0, 1, 2, 3] rfl)
  · exact absurd rfl c1

set_option maxHeartbeats 4000000 in
set_option maxRecDepth 100000 in
theorem lw_c11 {p : Program} {l : Launch} {e : Env} {RR : Room} {s : State} {m : MethodId} {below : List Frame} {meth : Method} {c : Code} {QQ : State → Prop} {b L : Nat} {xs : Nat → Int32} {g : GG} {ma : Nat → Nat} {q1 i cells slots : Nat} {x : FT} {P : PT} {S : ST} {H : Heap} {locs : List Loc} {ls : Array Slot} (C0 : LwC RR p s m c b L xs g) (hi4 : i + 4 ≤ L) (hL : L ≤ 2048) (hc5 : cells + 5 ≤ 600000) (hs5 : slots + 136 ≤ 7302250) (hI : LI g ma q1 s.heap x P S H locs) (hl : lv_has ls 4 [(0, .ref (b)), (1, .ref (q1)), (2, .ref (ma 0)), (3, .int (nI (i)))]) (hn : LN p l e RR s m below meth c b QQ g ma q1 i cells slots) : W p l e RR s m #[Value.ref b] below meth c H locs cells slots QQ (F0 m 496 ls []) := by
  obtain ⟨hx, hb, hml, hown, hts, hX, hbl, hK, hR1, hR2, hR3, hR4⟩ := C0
  obtain ⟨⟨hSo, hRl, hR0, hs0⟩, hq1, hP, hD, hS⟩ := hI
  subst hq1
  have hx9 := hSo.1
  have hA : ∀ q : Nat, s.heap.size ≤ q → (fun q : Nat => s.heap.size ≤ q) q := fun _ h => h
  have hbA : ¬ (fun q : Nat => s.heap.size ≤ q) b := Nat.not_le.mpr hbl
  refine lv_aload_n hx hb dL_law_496 rfl (lv_at hl 1 rfl) ?_
  refine lv_aload_n hx hb dL_law_497 rfl (lv_at hl 0 rfl) ?_
  refine lv_iload_n hx hb dL_law_498 rfl (lv_at hl 3 rfl) ?_
  refine lv_iconst (v := nI (1)) hx hb dL_law_499 (by decide) ?_
  refine n_iadd hx hb dL_law_500 ?_
  refine n_sld (k := i + 1) hx hb hX hbl hbA hS (by omega) (by omega) dL_law_501 ?_
  refine lv_aload_n hx hb dL_law_502 rfl (lv_at hl 0 rfl) ?_
  refine lv_iload_n hx hb dL_law_503 rfl (lv_at hl 3 rfl) ?_
  refine lv_iconst (v := nI (2)) hx hb dL_law_504 (by decide) ?_
  refine n_iadd hx hb dL_law_505 ?_
  refine n_sld (k := i + 2) hx hb hX hbl hbA hS (by omega) (by omega) dL_law_506 ?_
  refine cR_i (W.runV (As := [.int (xs (i + 1)), .int (xs (i + 2))]) (rest := []) ⟨hx, hb, hml, hown, hts⟩ (k_silent l g x hx9 (xs (i + 1)) (xs (i + 2))) (cwV 2 hts (gV w_ml_L_64 w_im_X4_silent w_sel_X4_silent w_ini_X4 w_co_X4_silent) rfl rfl rfl (by decide +kernel) (by rw [hR1, hR2]; exact ⟨Nat.le_of_ble_eq_true rfl, Nat.le_of_ble_eq_true rfl⟩)) (preV_rd (P_left hP) hK (va_recv hK.1 (P_left hP) (ci := 4) (q0 := 0) rfl rfl)) rfl rfl hl.1 rfl (lv_room (Nat.le_of_ble_eq_true rfl)) dL_law_507 ⟨by rw [hR3]; omega, by rw [hR4]; omega⟩) ?_
  refine lv_aload_n hx hb dL_law_510 rfl (lv_at hl 2 rfl) ?_
  refine lv_aload_n hx hb dL_law_511 rfl (lv_at hl 0 rfl) ?_
  refine lv_iload_n hx hb dL_law_512 rfl (lv_at hl 3 rfl) ?_
  refine lv_iconst (v := nI (1)) hx hb dL_law_513 (by decide) ?_
  refine n_iadd hx hb dL_law_514 ?_
  refine n_sld (k := i + 1) hx hb hX hbl hbA hS (by omega) (by omega) dL_law_515 ?_
  refine lv_aload_n hx hb dL_law_516 rfl (lv_at hl 0 rfl) ?_
  refine lv_iload_n hx hb dL_law_517 rfl (lv_at hl 3 rfl) ?_
  refine lv_iconst (v := nI (2)) hx hb dL_law_518 (by decide) ?_
  refine n_iadd hx hb dL_law_519 ?_
  refine n_sld (k := i + 2) hx hb hX hbl hbA hS (by omega) (by omega) dL_law_520 ?_
  refine cR_i (W.runV (As := [.int (xs (i + 1)), .int (xs (i + 2))]) (rest := [.int (_)]) ⟨hx, hb, hml, hown, hts⟩ (m_silent l g ma P S x hx9 hRl (xs (i + 1)) (xs (i + 2))) (cwV 2 hts (gV w_ml_L_67 w_im_X5_silent w_sel_X5_silent w_ini_X5 w_co_X5_silent) rfl rfl rfl (by decide +kernel) (by rw [hR1, hR2]; exact ⟨Nat.le_of_ble_eq_true rfl, Nat.le_of_ble_eq_true rfl⟩)) (preV_rd (P_right hP) hK (va_recv hK.1 (P_right hP) (ci := 5) (q0 := 0) rfl rfl)) rfl rfl hl.1 rfl (lv_room (Nat.le_of_ble_eq_true rfl)) dL_law_521 ⟨by rw [hR3]; omega, by rw [hR4]; omega⟩) ?_
  refine lv_icmp_eq (tgt := 706) hx hb dL_law_524 (by decide) (fun c1 => ?_) (fun c1 => ?_)
  · refine W.widen (k := cells + 5) (n := slots + 136) (by omega) (by omega) ?_
    exact hn x P S H locs ls ⟨⟨hSo, hRl, hR0, hs0⟩, rfl, hP, hD, hS⟩ (lv_sub hl [0, 1, 2, 3] rfl)
  · exact absurd rfl c1

set_option maxHeartbeats 4000000 in
set_option maxRecDepth 100000 in
theorem lw_c12 {p : Program} {l : Launch} {e : Env} {RR : Room} {s : State} {m : MethodId} {below : List Frame} {meth : Method} {c : Code} {QQ : State → Prop} {b L : Nat} {xs : Nat → Int32} {g : GG} {ma : Nat → Nat} {q1 i cells slots : Nat} {x : FT} {P : PT} {S : ST} {H : Heap} {locs : List Loc} {ls : Array Slot} (C0 : LwC RR p s m c b L xs g) (hi4 : i + 4 ≤ L) (hL : L ≤ 2048) (hc5 : cells + 5 ≤ 600000) (hs5 : slots + 136 ≤ 7302250) (hI : LI g ma q1 s.heap x P S H locs) (hl : lv_has ls 4 [(0, .ref (b)), (1, .ref (q1)), (2, .ref (ma 0)), (3, .int (nI (i)))]) (hn : LN p l e RR s m below meth c b QQ g ma q1 i cells slots) : W p l e RR s m #[Value.ref b] below meth c H locs cells slots QQ (F0 m 529 ls []) := by
  obtain ⟨hx, hb, hml, hown, hts, hX, hbl, hK, hR1, hR2, hR3, hR4⟩ := C0
  obtain ⟨⟨hSo, hRl, hR0, hs0⟩, hq1, hP, hD, hS⟩ := hI
  subst hq1
  have hx9 := hSo.1
  have hA : ∀ q : Nat, s.heap.size ≤ q → (fun q : Nat => s.heap.size ≤ q) q := fun _ h => h
  have hbA : ¬ (fun q : Nat => s.heap.size ≤ q) b := Nat.not_le.mpr hbl
  refine lv_aload_n hx hb dL_law_529 rfl (lv_at hl 1 rfl) ?_
  refine lv_aload_n hx hb dL_law_530 rfl (lv_at hl 0 rfl) ?_
  refine lv_iload_n hx hb dL_law_531 rfl (lv_at hl 3 rfl) ?_
  refine lv_iconst (v := nI (1)) hx hb dL_law_532 (by decide) ?_
  refine n_iadd hx hb dL_law_533 ?_
  refine n_sld (k := i + 1) hx hb hX hbl hbA hS (by omega) (by omega) dL_law_534 ?_
  refine lv_aload_n hx hb dL_law_535 rfl (lv_at hl 0 rfl) ?_
  refine lv_iload_n hx hb dL_law_536 rfl (lv_at hl 3 rfl) ?_
  refine lv_iconst (v := nI (2)) hx hb dL_law_537 (by decide) ?_
  refine n_iadd hx hb dL_law_538 ?_
  refine n_sld (k := i + 2) hx hb hX hbl hbA hS (by omega) (by omega) dL_law_539 ?_
  refine cL_i (wc := wX g x) (wr := wM g ma P S) (w1 := fun u => wX g u) (va_runV (As := [.int (xs (i + 1)), .int (xs (i + 2))]) (rest := []) ⟨hx, hb, hml, hown, hts⟩ (k_over l g x hx9 hSo.2 (xs (i + 1)) (xs (i + 2)) _) (cwV 2 hts (gV w_ml_L_68 w_im_X4_over w_sel_X4_over w_ini_X4 w_co_X4_over) rfl rfl rfl (by decide +kernel) (by rw [hR1, hR2]; exact ⟨Nat.le_of_ble_eq_true rfl, Nat.le_of_ble_eq_true rfl⟩)) (preV_wr (P_left hP) hK (D_left hD) (va_recv hK.1 (P_left hP) (ci := 4) (q0 := 0) rfl rfl)) rfl rfl hl.1 rfl (lv_room (Nat.le_of_ble_eq_true rfl)) dL_law_540 ⟨by rw [hR3]; omega, by rw [hR4]; omega⟩) hP hD hS hA (fun r u H locs hpx hP hD hS => ?_)
  obtain ⟨hr1, hal⟩ := hpx
  subst hr1
  refine lv_aload_n hx hb dL_law_543 rfl (lv_at hl 2 rfl) ?_
  refine lv_aload_n hx hb dL_law_544 rfl (lv_at hl 0 rfl) ?_
  refine lv_iload_n hx hb dL_law_545 rfl (lv_at hl 3 rfl) ?_
  refine lv_iconst (v := nI (1)) hx hb dL_law_546 (by decide) ?_
  refine n_iadd hx hb dL_law_547 ?_
  refine n_sld (k := i + 1) hx hb hX hbl hbA hS (by omega) (by omega) dL_law_548 ?_
  refine lv_aload_n hx hb dL_law_549 rfl (lv_at hl 0 rfl) ?_
  refine lv_iload_n hx hb dL_law_550 rfl (lv_at hl 3 rfl) ?_
  refine lv_iconst (v := nI (2)) hx hb dL_law_551 (by decide) ?_
  refine n_iadd hx hb dL_law_552 ?_
  refine n_sld (k := i + 2) hx hb hX hbl hbA hS (by omega) (by omega) dL_law_553 ?_
  refine cM_i (wl := wX g u) (wc := wM g ma P S) (w1 := fun v => wM g ma P v) (va_runV (As := [.int (xs (i + 1)), .int (xs (i + 2))]) (rest := [.int (_)]) ⟨hx, hb, hml, hown, hts⟩ (m_over l g ma P S x hx9 hRl hs0 (xs (i + 1)) (xs (i + 2)) _) (cwV 2 hts (gV w_ml_L_71 w_im_X5_over w_sel_X5_over w_ini_X5 w_co_X5_over) rfl rfl rfl (by decide +kernel) (by rw [hR1, hR2]; exact ⟨Nat.le_of_ble_eq_true rfl, Nat.le_of_ble_eq_true rfl⟩)) (preV_wr (P_right hP) hK (D_right hD) (va_recv hK.1 (P_right hP) (ci := 5) (q0 := 0) rfl rfl)) rfl rfl hl.1 rfl (lv_room (Nat.le_of_ble_eq_true rfl)) dL_law_554 ⟨by rw [hR3]; omega, by rw [hR4]; omega⟩) hP hD hS hA (fun _ => rfl) (fun r2 S2 H locs hpm hP hD hS => ?_)
  obtain ⟨hr2, hs2⟩ := hpm
  subst hr2
  refine lv_icmp_eq (tgt := 706) hx hb dL_law_557 (by decide) (fun c1 => ?_) (fun c1 => ?_)
  · refine W.widen (k := cells + 5) (n := slots + 136) (by omega) (by omega) ?_
    exact hn u P S2 H locs ls ⟨⟨Sok_al hSo hal, Rel_al hRl hal, hR0, hs2⟩, congrFun (xA_al hal) 0, hP, hD, hS⟩ (lv_sub hl [0, 1, 2, 3] rfl)
  · exact absurd rfl c1

set_option maxHeartbeats 4000000 in
set_option maxRecDepth 100000 in
theorem lw_c13 {p : Program} {l : Launch} {e : Env} {RR : Room} {s : State} {m : MethodId} {below : List Frame} {meth : Method} {c : Code} {QQ : State → Prop} {b L : Nat} {xs : Nat → Int32} {g : GG} {ma : Nat → Nat} {q1 i cells slots : Nat} {x : FT} {P : PT} {S : ST} {H : Heap} {locs : List Loc} {ls : Array Slot} (C0 : LwC RR p s m c b L xs g) (hi4 : i + 4 ≤ L) (hL : L ≤ 2048) (hc5 : cells + 5 ≤ 600000) (hs5 : slots + 136 ≤ 7302250) (hI : LI g ma q1 s.heap x P S H locs) (hl : lv_has ls 4 [(0, .ref (b)), (1, .ref (q1)), (2, .ref (ma 0)), (3, .int (nI (i)))]) (hn : LN p l e RR s m below meth c b QQ g ma q1 i cells slots) : W p l e RR s m #[Value.ref b] below meth c H locs cells slots QQ (F0 m 562 ls []) := by
  obtain ⟨hx, hb, hml, hown, hts, hX, hbl, hK, hR1, hR2, hR3, hR4⟩ := C0
  obtain ⟨⟨hSo, hRl, hR0, hs0⟩, hq1, hP, hD, hS⟩ := hI
  subst hq1
  have hx9 := hSo.1
  have hA : ∀ q : Nat, s.heap.size ≤ q → (fun q : Nat => s.heap.size ≤ q) q := fun _ h => h
  have hbA : ¬ (fun q : Nat => s.heap.size ≤ q) b := Nat.not_le.mpr hbl
  refine lv_aload_n hx hb dL_law_562 rfl (lv_at hl 1 rfl) ?_
  refine lv_aload_n hx hb dL_law_563 rfl (lv_at hl 0 rfl) ?_
  refine lv_iload_n hx hb dL_law_564 rfl (lv_at hl 3 rfl) ?_
  refine lv_iconst (v := nI (1)) hx hb dL_law_565 (by decide) ?_
  refine n_iadd hx hb dL_law_566 ?_
  refine n_sld (k := i + 1) hx hb hX hbl hbA hS (by omega) (by omega) dL_law_567 ?_
  refine lv_aload_n hx hb dL_law_568 rfl (lv_at hl 0 rfl) ?_
  refine lv_iload_n hx hb dL_law_569 rfl (lv_at hl 3 rfl) ?_
  refine lv_iconst (v := nI (2)) hx hb dL_law_570 (by decide) ?_
  refine n_iadd hx hb dL_law_571 ?_
  refine n_sld (k := i + 2) hx hb hX hbl hbA hS (by omega) (by omega) dL_law_572 ?_
  refine cL_i (wc := wX g x) (wr := wM g ma P S) (w1 := fun u => wX g u) (va_runV (As := [.int (xs (i + 1)), .int (xs (i + 2))]) (rest := []) ⟨hx, hb, hml, hown, hts⟩ (k_cost l g x hx9 (xs (i + 1)) (xs (i + 2)) _) (cwV 2 hts (gV w_ml_L_72 w_im_X4_cost w_sel_X4_cost w_ini_X4 w_co_X4_cost) rfl rfl rfl (by decide +kernel) (by rw [hR1, hR2]; exact ⟨Nat.le_of_ble_eq_true rfl, Nat.le_of_ble_eq_true rfl⟩)) (preV_wr (P_left hP) hK (D_left hD) (va_recv hK.1 (P_left hP) (ci := 4) (q0 := 0) rfl rfl)) rfl rfl hl.1 rfl (lv_room (Nat.le_of_ble_eq_true rfl)) dL_law_573 ⟨by rw [hR3]; omega, by rw [hR4]; omega⟩) hP hD hS hA (fun r u H locs hpx hP hD hS => ?_)
  have hr1 : r = (costS x (xs (i + 1)) (xs (i + 2))).1 := congrArg Prod.fst hpx
  have hu1 : u = (costS x (xs (i + 1)) (xs (i + 2))).2 := congrArg Prod.snd hpx
  subst hr1 hu1
  refine lv_aload_n hx hb dL_law_576 rfl (lv_at hl 2 rfl) ?_
  refine lv_aload_n hx hb dL_law_577 rfl (lv_at hl 0 rfl) ?_
  refine lv_iload_n hx hb dL_law_578 rfl (lv_at hl 3 rfl) ?_
  refine lv_iconst (v := nI (1)) hx hb dL_law_579 (by decide) ?_
  refine n_iadd hx hb dL_law_580 ?_
  refine n_sld (k := i + 1) hx hb hX hbl hbA hS (by omega) (by omega) dL_law_581 ?_
  refine lv_aload_n hx hb dL_law_582 rfl (lv_at hl 0 rfl) ?_
  refine lv_iload_n hx hb dL_law_583 rfl (lv_at hl 3 rfl) ?_
  refine lv_iconst (v := nI (2)) hx hb dL_law_584 (by decide) ?_
  refine n_iadd hx hb dL_law_585 ?_
  refine n_sld (k := i + 2) hx hb hX hbl hbA hS (by omega) (by omega) dL_law_586 ?_
  refine cM_i (wl := wX g (costS x (xs (i + 1)) (xs (i + 2))).2) (wc := wM g ma P S) (w1 := fun v => wM g ma v S) (va_runV (As := [.int (xs (i + 1)), .int (xs (i + 2))]) (rest := [.int ((costS x (xs (i + 1)) (xs (i + 2))).1)]) ⟨hx, hb, hml, hown, hts⟩ (m_cost l g ma P S x hx9 hRl hR0 (xs (i + 1)) (xs (i + 2)) _) (cwV 2 hts (gV w_ml_L_75 w_im_X5_cost w_sel_X5_cost w_ini_X5 w_co_X5_cost) rfl rfl rfl (by decide +kernel) (by rw [hR1, hR2]; exact ⟨Nat.le_of_ble_eq_true rfl, Nat.le_of_ble_eq_true rfl⟩)) (preV_wr (P_right hP) hK (D_right hD) (va_recv hK.1 (P_right hP) (ci := 5) (q0 := 0) rfl rfl)) rfl rfl hl.1 rfl (lv_room (Nat.le_of_ble_eq_true rfl)) dL_law_587 ⟨by rw [hR3]; omega, by rw [hR4]; omega⟩) hP hD hS hA (fun _ => rfl) (fun r2 P2 H locs hpm hP hD hS => ?_)
  obtain ⟨hr2, hRl2, hR02⟩ := hpm
  subst hr2
  refine lv_icmp_eq (tgt := 706) hx hb dL_law_590 (by decide) (fun c1 => ?_) (fun c1 => ?_)
  · refine W.widen (k := cells + 5) (n := slots + 136) (by omega) (by omega) ?_
    exact hn _ P2 S H locs ls ⟨⟨Sok_cost hSo, hRl2, hR02, hs0⟩, congrFun xA_cost 0, hP, hD, hS⟩ (lv_sub hl [0, 1, 2, 3] rfl)
  · exact absurd rfl c1

set_option maxHeartbeats 4000000 in
set_option maxRecDepth 100000 in
theorem lw_c14 {p : Program} {l : Launch} {e : Env} {RR : Room} {s : State} {m : MethodId} {below : List Frame} {meth : Method} {c : Code} {QQ : State → Prop} {b L : Nat} {xs : Nat → Int32} {g : GG} {ma : Nat → Nat} {q1 i cells slots : Nat} {x : FT} {P : PT} {S : ST} {H : Heap} {locs : List Loc} {ls : Array Slot} (C0 : LwC RR p s m c b L xs g) (hi4 : i + 4 ≤ L) (hL : L ≤ 2048) (hc5 : cells + 5 ≤ 600000) (hs5 : slots + 136 ≤ 7302250) (hI : LI g ma q1 s.heap x P S H locs) (hl : lv_has ls 4 [(0, .ref (b)), (1, .ref (q1)), (2, .ref (ma 0)), (3, .int (nI (i)))]) (hn : LN p l e RR s m below meth c b QQ g ma q1 i cells slots) : W p l e RR s m #[Value.ref b] below meth c H locs cells slots QQ (F0 m 595 ls []) := by
  obtain ⟨hx, hb, hml, hown, hts, hX, hbl, hK, hR1, hR2, hR3, hR4⟩ := C0
  obtain ⟨⟨hSo, hRl, hR0, hs0⟩, hq1, hP, hD, hS⟩ := hI
  subst hq1
  have hx9 := hSo.1
  have hA : ∀ q : Nat, s.heap.size ≤ q → (fun q : Nat => s.heap.size ≤ q) q := fun _ h => h
  have hbA : ¬ (fun q : Nat => s.heap.size ≤ q) b := Nat.not_le.mpr hbl
  refine lv_aload_n hx hb dL_law_595 rfl (lv_at hl 1 rfl) ?_
  refine lv_aload_n hx hb dL_law_596 rfl (lv_at hl 0 rfl) ?_
  refine lv_iload_n hx hb dL_law_597 rfl (lv_at hl 3 rfl) ?_
  refine lv_iconst (v := nI (1)) hx hb dL_law_598 (by decide) ?_
  refine n_iadd hx hb dL_law_599 ?_
  refine n_sld (k := i + 1) hx hb hX hbl hbA hS (by omega) (by omega) dL_law_600 ?_
  refine lv_aload_n hx hb dL_law_601 rfl (lv_at hl 0 rfl) ?_
  refine lv_iload_n hx hb dL_law_602 rfl (lv_at hl 3 rfl) ?_
  refine lv_iconst (v := nI (2)) hx hb dL_law_603 (by decide) ?_
  refine n_iadd hx hb dL_law_604 ?_
  refine n_sld (k := i + 2) hx hb hX hbl hbA hS (by omega) (by omega) dL_law_605 ?_
  refine cL_l (wc := wX g x) (wr := wM g ma P S) (w1 := fun u => wX g u) (va_runV (As := [.int (xs (i + 1)), .int (xs (i + 2))]) (rest := []) ⟨hx, hb, hml, hown, hts⟩ (k_costOf l g x hx9 hSo.2 (xs (i + 1)) (xs (i + 2)) _) (cwV 2 hts (gV w_ml_L_76 w_im_X4_costOf w_sel_X4_costOf w_ini_X4 w_co_X4_costOf) rfl rfl rfl (by decide +kernel) (by rw [hR1, hR2]; exact ⟨Nat.le_of_ble_eq_true rfl, Nat.le_of_ble_eq_true rfl⟩)) (preV_wr (P_left hP) hK (D_left hD) (va_recv hK.1 (P_left hP) (ci := 4) (q0 := 0) rfl rfl)) rfl rfl hl.1 rfl (lv_room (Nat.le_of_ble_eq_true rfl)) dL_law_606 ⟨by rw [hR3]; omega, by rw [hR4]; omega⟩) hP hD hS hA (fun r u H locs hpx hP hD hS => ?_)
  obtain ⟨hr1, hal⟩ := hpx
  subst hr1
  refine lv_aload_n hx hb dL_law_609 rfl (lv_at hl 2 rfl) ?_
  refine lv_aload_n hx hb dL_law_610 rfl (lv_at hl 0 rfl) ?_
  refine lv_iload_n hx hb dL_law_611 rfl (lv_at hl 3 rfl) ?_
  refine lv_iconst (v := nI (1)) hx hb dL_law_612 (by decide) ?_
  refine n_iadd hx hb dL_law_613 ?_
  refine n_sld (k := i + 1) hx hb hX hbl hbA hS (by omega) (by omega) dL_law_614 ?_
  refine lv_aload_n hx hb dL_law_615 rfl (lv_at hl 0 rfl) ?_
  refine lv_iload_n hx hb dL_law_616 rfl (lv_at hl 3 rfl) ?_
  refine lv_iconst (v := nI (2)) hx hb dL_law_617 (by decide) ?_
  refine n_iadd hx hb dL_law_618 ?_
  refine n_sld (k := i + 2) hx hb hX hbl hbA hS (by omega) (by omega) dL_law_619 ?_
  refine cM_l (wl := wX g u) (wc := wM g ma P S) (w1 := fun v => wM g ma P v) (va_runV (As := [.int (xs (i + 1)), .int (xs (i + 2))]) (rest := [.long (_)]) ⟨hx, hb, hml, hown, hts⟩ (m_costOf l g ma P S x hx9 hRl hs0 (xs (i + 1)) (xs (i + 2)) _) (cwV 2 hts (gV w_ml_L_79 w_im_X5_costOf w_sel_X5_costOf w_ini_X5 w_co_X5_costOf) rfl rfl rfl (by decide +kernel) (by rw [hR1, hR2]; exact ⟨Nat.le_of_ble_eq_true rfl, Nat.le_of_ble_eq_true rfl⟩)) (preV_wr (P_right hP) hK (D_right hD) (va_recv hK.1 (P_right hP) (ci := 5) (q0 := 0) rfl rfl)) rfl rfl hl.1 rfl (lv_room (Nat.le_of_ble_eq_true rfl)) dL_law_620 ⟨by rw [hR3]; omega, by rw [hR4]; omega⟩) hP hD hS hA (fun _ => rfl) (fun r2 S2 H locs hpm hP hD hS => ?_)
  obtain ⟨hr2, hs2⟩ := hpm
  subst hr2
  refine W.lcmp hx hb dL_law_623 ?_
  refine lv_if_eq (tgt := 706) hx hb dL_law_624 (by decide) (fun c1 => ?_) (fun c1 => ?_)
  · refine W.widen (k := cells + 5) (n := slots + 136) (by omega) (by omega) ?_
    exact hn u P S2 H locs ls ⟨⟨Sok_al hSo hal, Rel_al hRl hal, hR0, hs2⟩, congrFun (xA_al hal) 0, hP, hD, hS⟩ (lv_sub hl [0, 1, 2, 3] rfl)
  · exact absurd ((lg_cmp_eq _ _).mpr rfl) c1

