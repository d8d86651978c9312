set_option maxHeartbeats 4000000 in
set_option maxRecDepth 100000 in
theorem lw_c4 {p : Program} {l : Launch} {e : Env} {RR : Room} {s : State} {m : MethodId} {below : List Frame} {meth : Method} {c : Code} {QQ : State → Prop} {b L : Nat} {xs : Nat → Int32} {g : GG} {ma : Nat → Nat} {q1 i cells slots : Nat} {x : FT} {P : PT} {S : ST} {H : Heap} {locs : List Loc} {ls : Array Slot} (C0 : LwC RR p s m c b L xs g) (hi4 : i + 4 ≤ L) (hL : L ≤ 2048) (hc5 : cells + 5 ≤ 600000) (hs5 : slots + 136 ≤ 7302250) (hI : LI g ma q1 s.heap x P S H locs) (hl : lv_has ls 4 [(0, .ref (b)), (1, .ref (q1)), (2, .ref (ma 0)), (3, .int (nI (i)))]) (hn : LN p l e RR s m below meth c b QQ g ma q1 i cells slots) : W p l e RR s m #[Value.ref b] below meth c H locs cells slots QQ (F0 m 268 ls []) := by
  obtain ⟨hx, hb, hml, hown, hts, hX, hbl, hK, hR1, hR2, hR3, hR4⟩ := C0
  obtain ⟨⟨hSo, hRl, hR0, hs0⟩, hq1, hP, hD, hS⟩ := hI
  subst hq1
  have hx9 := hSo.1
  have hA : ∀ q : Nat, s.heap.size ≤ q → (fun q : Nat => s.heap.size ≤ q) q := fun _ h => h
  have hbA : ¬ (fun q : Nat => s.heap.size ≤ q) b := Nat.not_le.mpr hbl
  refine lv_aload_n hx hb dL_law_268 rfl (lv_at hl 1 rfl) ?_
  refine lv_aload_n hx hb dL_law_269 rfl (lv_at hl 0 rfl) ?_
  refine lv_iload_n hx hb dL_law_270 rfl (lv_at hl 3 rfl) ?_
  refine lv_iconst (v := nI (1)) hx hb dL_law_271 (by decide) ?_
  refine n_iadd hx hb dL_law_272 ?_
  refine n_sld (k := i + 1) hx hb hX hbl hbA hS (by omega) (by omega) dL_law_273 ?_
  refine lv_aload_n hx hb dL_law_274 rfl (lv_at hl 0 rfl) ?_
  refine lv_iload_n hx hb dL_law_275 rfl (lv_at hl 3 rfl) ?_
  refine lv_iconst (v := nI (2)) hx hb dL_law_276 (by decide) ?_
  refine n_iadd hx hb dL_law_277 ?_
  refine n_sld (k := i + 2) hx hb hX hbl hbA hS (by omega) (by omega) dL_law_278 ?_
  refine lv_if_eq (tgt := 286) hx hb dL_law_279 (by decide) (fun c8 => ?_) (fun c8 => ?_)
  · refine lv_iconst (v := bI (false)) hx hb dL_law_286 (by decide) ?_
    refine cL_i (wc := wX g x) (wr := wM g ma P S) (w1 := fun u => wX g u) (va_runV (As := [.int (xs (i + 1)), .int (bI (false))]) (rest := []) ⟨hx, hb, hml, hown, hts⟩ (k_holiday l g x hx9 (xs (i + 1)) false _) (cwV 2 hts (gV w_ml_L_32 w_im_X4_holiday w_sel_X4_holiday w_ini_X4 w_co_X4_holiday) rfl rfl rfl (by decide +kernel) (by rw [hR1, hR2]; exact ⟨Nat.le_of_ble_eq_true rfl, Nat.le_of_ble_eq_true rfl⟩)) (preV_wr (P_left hP) hK (D_left hD) (va_recv hK.1 (P_left hP) (ci := 4) (q0 := 0) rfl rfl)) rfl rfl hl.1 rfl (lv_room (Nat.le_of_ble_eq_true rfl)) dL_law_287 ⟨by rw [hR3]; omega, by rw [hR4]; omega⟩) hP hD hS hA (fun r u H locs hpx hP hD hS => ?_)
    have hr1 : r = (holS x (xs (i + 1)) false).1 := congrArg Prod.fst hpx
    have hu1 : u = (holS x (xs (i + 1)) false).2 := congrArg Prod.snd hpx
    subst hr1 hu1
    refine lv_aload_n hx hb dL_law_290 rfl (lv_at hl 2 rfl) ?_
    refine lv_aload_n hx hb dL_law_291 rfl (lv_at hl 0 rfl) ?_
    refine lv_iload_n hx hb dL_law_292 rfl (lv_at hl 3 rfl) ?_
    refine lv_iconst (v := nI (1)) hx hb dL_law_293 (by decide) ?_
    refine n_iadd hx hb dL_law_294 ?_
    refine n_sld (k := i + 1) hx hb hX hbl hbA hS (by omega) (by omega) dL_law_295 ?_
    refine lv_aload_n hx hb dL_law_296 rfl (lv_at hl 0 rfl) ?_
    refine lv_iload_n hx hb dL_law_297 rfl (lv_at hl 3 rfl) ?_
    refine lv_iconst (v := nI (2)) hx hb dL_law_298 (by decide) ?_
    refine n_iadd hx hb dL_law_299 ?_
    refine n_sld (k := i + 2) hx hb hX hbl hbA hS (by omega) (by omega) dL_law_300 ?_
    refine lv_if_eq (tgt := 308) hx hb dL_law_301 (by decide) (fun c9 => ?_) (fun c9 => ?_)
    · refine lv_iconst (v := bI (false)) hx hb dL_law_308 (by decide) ?_
      refine cM_i (wl := wX g (holS x (xs (i + 1)) false).2) (wc := wM g ma P S) (w1 := fun v => wM g ma v S) (va_runV (As := [.int (xs (i + 1)), .int (bI (false))]) (rest := [.int ((holS x (xs (i + 1)) false).1)]) ⟨hx, hb, hml, hown, hts⟩ (m_holiday l g ma P S x hx9 hRl hR0 (xs (i + 1)) false _) (cwV 2 hts (gV w_ml_L_36 w_im_X5_holiday w_sel_X5_holiday w_ini_X5 w_co_X5_holiday) rfl rfl rfl (by decide +kernel) (by rw [hR1, hR2]; exact ⟨Nat.le_of_ble_eq_true rfl, Nat.le_of_ble_eq_true rfl⟩)) (preV_wr (P_right hP) hK (D_right hD) (va_recv hK.1 (P_right hP) (ci := 5) (q0 := 0) rfl rfl)) rfl rfl hl.1 rfl (lv_room (Nat.le_of_ble_eq_true rfl)) dL_law_309 ⟨by rw [hR3]; omega, by rw [hR4]; omega⟩) hP hD hS hA (fun _ => rfl) (fun r2 P2 H locs hpm hP hD hS => ?_)
      obtain ⟨hr2, hRl2, hR02⟩ := hpm
      subst hr2
      refine lv_icmp_eq (tgt := 706) hx hb dL_law_312 (by decide) (fun c1 => ?_) (fun c1 => ?_)
      · refine W.widen (k := cells + 5) (n := slots + 136) (by omega) (by omega) ?_
        exact hn _ P2 S H locs ls ⟨⟨Sok_hol hSo, hRl2, hR02, hs0⟩, congrFun xA_hol 0, hP, hD, hS⟩ (lv_sub hl [0, 1, 2, 3] rfl)
      · exact absurd rfl c1
    · exact absurd c8 c9
  · refine lv_iconst (v := bI (true)) hx hb dL_law_282 (by decide) ?_
    refine lv_goto (tgt := 287) hx hb dL_law_283 (by decide) ?_
    refine cL_i (wc := wX g x) (wr := wM g ma P S) (w1 := fun u => wX g u) (va_runV (As := [.int (xs (i + 1)), .int (bI (true))]) (rest := []) ⟨hx, hb, hml, hown, hts⟩ (k_holiday l g x hx9 (xs (i + 1)) true _) (cwV 2 hts (gV w_ml_L_32 w_im_X4_holiday w_sel_X4_holiday w_ini_X4 w_co_X4_holiday) rfl rfl rfl (by decide +kernel) (by rw [hR1, hR2]; exact ⟨Nat.le_of_ble_eq_true rfl, Nat.le_of_ble_eq_true rfl⟩)) (preV_wr (P_left hP) hK (D_left hD) (va_recv hK.1 (P_left hP) (ci := 4) (q0 := 0) rfl rfl)) rfl rfl hl.1 rfl (lv_room (Nat.le_of_ble_eq_true rfl)) dL_law_287 ⟨by rw [hR3]; omega, by rw [hR4]; omega⟩) hP hD hS hA (fun r u H locs hpx hP hD hS => ?_)
    have hr1 : r = (holS x (xs (i + 1)) true).1 := congrArg Prod.fst hpx
    have hu1 : u = (holS x (xs (i + 1)) true).2 := congrArg Prod.snd hpx
    subst hr1 hu1
    refine lv_aload_n hx hb dL_law_290 rfl (lv_at hl 2 rfl) ?_
    refine lv_aload_n hx hb dL_law_291 rfl (lv_at hl 0 rfl) ?_
    refine lv_iload_n hx hb dL_law_292 rfl (lv_at hl 3 rfl) ?_
    refine lv_iconst (v := nI (1)) hx hb dL_law_293 (by decide) ?_
    refine n_iadd hx hb dL_law_294 ?_
    refine n_sld (k := i + 1) hx hb hX hbl hbA hS (by omega) (by omega) dL_law_295 ?_
    refine lv_aload_n hx hb dL_law_296 rfl (lv_at hl 0 rfl) ?_
    refine lv_iload_n hx hb dL_law_297 rfl (lv_at hl 3 rfl) ?_
    refine lv_iconst (v := nI (2)) hx hb dL_law_298 (by decide) ?_
    refine n_iadd hx hb dL_law_299 ?_
    refine n_sld (k := i + 2) hx hb hX hbl hbA hS (by omega) (by omega) dL_law_300 ?_
    refine lv_if_eq (tgt := 308) hx hb dL_law_301 (by decide) (fun c9 => ?_) (fun c9 => ?_)
    · exact absurd c9 c8
    · refine lv_iconst (v := bI (true)) hx hb dL_law_304 (by decide) ?_
      refine lv_goto (tgt := 309) hx hb dL_law_305 (by decide) ?_
      refine cM_i (wl := wX g (holS x (xs (i + 1)) true).2) (wc := wM g ma P S) (w1 := fun v => wM g ma v S) (va_runV (As := [.int (xs (i + 1)), .int (bI (true))]) (rest := [.int ((holS x (xs (i + 1)) true).1)]) ⟨hx, hb, hml, hown, hts⟩ (m_holiday l g ma P S x hx9 hRl hR0 (xs (i + 1)) true _) (cwV 2 hts (gV w_ml_L_36 w_im_X5_holiday w_sel_X5_holiday w_ini_X5 w_co_X5_holiday) rfl rfl rfl (by decide +kernel) (by rw [hR1, hR2]; exact ⟨Nat.le_of_ble_eq_true rfl, Nat.le_of_ble_eq_true rfl⟩)) (preV_wr (P_right hP) hK (D_right hD) (va_recv hK.1 (P_right hP) (ci := 5) (q0 := 0) rfl rfl)) rfl rfl hl.1 rfl (lv_room (Nat.le_of_ble_eq_true rfl)) dL_law_309 ⟨by rw [hR3]; omega, by rw [hR4]; omega⟩) hP hD hS hA (fun _ => rfl) (fun r2 P2 H locs hpm hP hD hS => ?_)
      obtain ⟨hr2, hRl2, hR02⟩ := hpm
      subst hr2
      refine lv_icmp_eq (tgt := 706) hx hb dL_law_312 (by decide) (fun c1 => ?_) (fun c1 => ?_)
      · refine W.widen (k := cells + 5) (n := slots + 136) (by omega) (by omega) ?_
        exact hn _ P2 S H locs ls ⟨⟨Sok_hol hSo, hRl2, hR02, hs0⟩, congrFun xA_hol 0, hP, hD, hS⟩ (lv_sub hl [0, 1, 2, 3] rfl)
      · exact absurd rfl c1

set_option maxHeartbeats 4000000 in
set_option maxRecDepth 100000 in
theorem lw_c5 {p : Program} {l : Launch} {e : Env} {RR : Room} {s : State} {m : MethodId} {below : List Frame} {meth : Method} {c : Code} {QQ : State → Prop} {b L : Nat} {xs : Nat → Int32} {g : GG} {ma : Nat → Nat} {q1 i cells slots : Nat} {x : FT} {P : PT} {S : ST} {H : Heap} {locs : List Loc} {ls : Array Slot} (C0 : LwC RR p s m c b L xs g) (hi4 : i + 4 ≤ L) (hL : L ≤ 2048) (hc5 : cells + 5 ≤ 600000) (hs5 : slots + 136 ≤ 7302250) (hI : LI g ma q1 s.heap x P S H locs) (hl : lv_has ls 4 [(0, .ref (b)), (1, .ref (q1)), (2, .ref (ma 0)), (3, .int (nI (i)))]) (hn : LN p l e RR s m below meth c b QQ g ma q1 i cells slots) : W p l e RR s m #[Value.ref b] below meth c H locs cells slots QQ (F0 m 317 ls []) := by
  obtain ⟨hx, hb, hml, hown, hts, hX, hbl, hK, hR1, hR2, hR3, hR4⟩ := C0
  obtain ⟨⟨hSo, hRl, hR0, hs0⟩, hq1, hP, hD, hS⟩ := hI
  subst hq1
  have hx9 := hSo.1
  have hA : ∀ q : Nat, s.heap.size ≤ q → (fun q : Nat => s.heap.size ≤ q) q := fun _ h => h
  have hbA : ¬ (fun q : Nat => s.heap.size ≤ q) b := Nat.not_le.mpr hbl
  refine lv_aload_n hx hb dL_law_317 rfl (lv_at hl 1 rfl) ?_
  refine lv_aload_n hx hb dL_law_318 rfl (lv_at hl 0 rfl) ?_
  refine lv_iload_n hx hb dL_law_319 rfl (lv_at hl 3 rfl) ?_
  refine lv_iconst (v := nI (1)) hx hb dL_law_320 (by decide) ?_
  refine n_iadd hx hb dL_law_321 ?_
  refine n_sld (k := i + 1) hx hb hX hbl hbA hS (by omega) (by omega) dL_law_322 ?_
  refine lv_aload_n hx hb dL_law_323 rfl (lv_at hl 0 rfl) ?_
  refine lv_iload_n hx hb dL_law_324 rfl (lv_at hl 3 rfl) ?_
  refine lv_iconst (v := nI (2)) hx hb dL_law_325 (by decide) ?_
  refine n_iadd hx hb dL_law_326 ?_
  refine n_sld (k := i + 2) hx hb hX hbl hbA hS (by omega) (by omega) dL_law_327 ?_
  refine cR_i (W.runV (As := [.int (xs (i + 1)), .int (xs (i + 2))]) (rest := []) ⟨hx, hb, hml, hown, hts⟩ (k_mean l g x hx9 (xs (i + 1)) (xs (i + 2))) (cwV 2 hts (gV w_ml_L_37 w_im_X4_mean w_sel_X4_mean w_ini_X4 w_co_X4_mean) rfl rfl rfl (by decide +kernel) (by rw [hR1, hR2]; exact ⟨Nat.le_of_ble_eq_true rfl, Nat.le_of_ble_eq_true rfl⟩)) (preV_rd (P_left hP) hK (va_recv hK.1 (P_left hP) (ci := 4) (q0 := 0) rfl rfl)) rfl rfl hl.1 rfl (lv_room (Nat.le_of_ble_eq_true rfl)) dL_law_328 ⟨by rw [hR3]; omega, by rw [hR4]; omega⟩) ?_
  refine lv_aload_n hx hb dL_law_331 rfl (lv_at hl 2 rfl) ?_
  refine lv_aload_n hx hb dL_law_332 rfl (lv_at hl 0 rfl) ?_
  refine lv_iload_n hx hb dL_law_333 rfl (lv_at hl 3 rfl) ?_
  refine lv_iconst (v := nI (1)) hx hb dL_law_334 (by decide) ?_
  refine n_iadd hx hb dL_law_335 ?_
  refine n_sld (k := i + 1) hx hb hX hbl hbA hS (by omega) (by omega) dL_law_336 ?_
  refine lv_aload_n hx hb dL_law_337 rfl (lv_at hl 0 rfl) ?_
  refine lv_iload_n hx hb dL_law_338 rfl (lv_at hl 3 rfl) ?_
  refine lv_iconst (v := nI (2)) hx hb dL_law_339 (by decide) ?_
  refine n_iadd hx hb dL_law_340 ?_
  refine n_sld (k := i + 2) hx hb hX hbl hbA hS (by omega) (by omega) dL_law_341 ?_
  refine cM_i (wl := wX g x) (wc := wM g ma P S) (w1 := fun v => wM g ma P v) (va_runV (As := [.int (xs (i + 1)), .int (xs (i + 2))]) (rest := [.int (_)]) ⟨hx, hb, hml, hown, hts⟩ (m_mean l g ma P S x hx9 hRl hs0 (xs (i + 1)) (xs (i + 2)) _) (cwV 2 hts (gV w_ml_L_40 w_im_X5_mean w_sel_X5_mean w_ini_X5 w_co_X5_mean) rfl rfl rfl (by decide +kernel) (by rw [hR1, hR2]; exact ⟨Nat.le_of_ble_eq_true rfl, Nat.le_of_ble_eq_true rfl⟩)) (preV_wr (P_right hP) hK (D_right hD) (va_recv hK.1 (P_right hP) (ci := 5) (q0 := 0) rfl rfl)) rfl rfl hl.1 rfl (lv_room (Nat.le_of_ble_eq_true rfl)) dL_law_342 ⟨by rw [hR3]; omega, by rw [hR4]; omega⟩) hP hD hS hA (fun _ => rfl) (fun r2 S2 H locs hpm hP hD hS => ?_)
  obtain ⟨hr2, hs2⟩ := hpm
  subst hr2
  refine lv_icmp_eq (tgt := 706) hx hb dL_law_345 (by decide) (fun c1 => ?_) (fun c1 => ?_)
  · refine W.widen (k := cells + 5) (n := slots + 136) (by omega) (by omega) ?_
    exact hn x P S2 H locs ls ⟨⟨hSo, hRl, hR0, hs2⟩, rfl, hP, hD, hS⟩ (lv_sub hl [0, 1, 2, 3] rfl)
  · exact absurd rfl c1

set_option maxHeartbeats 4000000 in
set_option maxRecDepth 100000 in
theorem lw_c6 {p : Program} {l : Launch} {e : Env} {RR : Room} {s : State} {m : MethodId} {below : List Frame} {meth : Method} {c : Code} {QQ : State → Prop} {b L : Nat} {xs : Nat → Int32} {g : GG} {ma : Nat → Nat} {q1 i cells slots : Nat} {x : FT} {P : PT} {S : ST} {H : Heap} {locs : List Loc} {ls : Array Slot} (C0 : LwC RR p s m c b L xs g) (hi4 : i + 4 ≤ L) (hL : L ≤ 2048) (hc5 : cells + 5 ≤ 600000) (hs5 : slots + 136 ≤ 7302250) (hI : LI g ma q1 s.heap x P S H locs) (hl : lv_has ls 4 [(0, .ref (b)), (1, .ref (q1)), (2, .ref (ma 0)), (3, .int (nI (i)))]) (hn : LN p l e RR s m below meth c b QQ g ma q1 i cells slots) : W p l e RR s m #[Value.ref b] below meth c H locs cells slots QQ (F0 m 350 ls []) := by
  obtain ⟨hx, hb, hml, hown, hts, hX, hbl, hK, hR1, hR2, hR3, hR4⟩ := C0
  obtain ⟨⟨hSo, hRl, hR0, hs0⟩, hq1, hP, hD, hS⟩ := hI
  subst hq1
  have hx9 := hSo.1
  have hA : ∀ q : Nat, s.heap.size ≤ q → (fun q : Nat => s.heap.size ≤ q) q := fun _ h => h
  have hbA : ¬ (fun q : Nat => s.heap.size ≤ q) b := Nat.not_le.mpr hbl
  refine lv_aload_n hx hb dL_law_350 rfl (lv_at hl 1 rfl) ?_
  refine lv_aload_n hx hb dL_law_351 rfl (lv_at hl 0 rfl) ?_
  refine lv_iload_n hx hb dL_law_352 rfl (lv_at hl 3 rfl) ?_
  refine lv_iconst (v := nI (1)) hx hb dL_law_353 (by decide) ?_
  refine n_iadd hx hb dL_law_354 ?_
  refine n_sld (k := i + 1) hx hb hX hbl hbA hS (by omega) (by omega) dL_law_355 ?_
  refine lv_aload_n hx hb dL_law_356 rfl (lv_at hl 0 rfl) ?_
  refine lv_iload_n hx hb dL_law_357 rfl (lv_at hl 3 rfl) ?_
  refine lv_iconst (v := nI (2)) hx hb dL_law_358 (by decide) ?_
  refine n_iadd hx hb dL_law_359 ?_
  refine n_sld (k := i + 2) hx hb hX hbl hbA hS (by omega) (by omega) dL_law_360 ?_
  refine cR_i (W.runV (As := [.int (xs (i + 1)), .int (xs (i + 2))]) (rest := []) ⟨hx, hb, hml, hown, hts⟩ (k_rate l g x hx9 (xs (i + 1)) (xs (i + 2))) (cwV 2 hts (gV w_ml_L_41 w_im_X4_rate w_sel_X4_rate w_ini_X4 w_co_X4_rate) rfl rfl rfl (by decide +kernel) (by rw [hR1, hR2]; exact ⟨Nat.le_of_ble_eq_true rfl, Nat.le_of_ble_eq_true rfl⟩)) (preV_rd (P_left hP) hK (va_recv hK.1 (P_left hP) (ci := 4) (q0 := 0) rfl rfl)) rfl rfl hl.1 rfl (lv_room (Nat.le_of_ble_eq_true rfl)) dL_law_361 ⟨by rw [hR3]; omega, by rw [hR4]; omega⟩) ?_
  refine lv_aload_n hx hb dL_law_364 rfl (lv_at hl 2 rfl) ?_
  refine lv_aload_n hx hb dL_law_365 rfl (lv_at hl 0 rfl) ?_
  refine lv_iload_n hx hb dL_law_366 rfl (lv_at hl 3 rfl) ?_
  refine lv_iconst (v := nI (1)) hx hb dL_law_367 (by decide) ?_
  refine n_iadd hx hb dL_law_368 ?_
  refine n_sld (k := i + 1) hx hb hX hbl hbA hS (by omega) (by omega) dL_law_369 ?_
  refine lv_aload_n hx hb dL_law_370 rfl (lv_at hl 0 rfl) ?_
  refine lv_iload_n hx hb dL_law_371 rfl (lv_at hl 3 rfl) ?_
  refine lv_iconst (v := nI (2)) hx hb dL_law_372 (by decide) ?_
  refine n_iadd hx hb dL_law_373 ?_
  refine n_sld (k := i + 2) hx hb hX hbl hbA hS (by omega) (by omega) dL_law_374 ?_
  refine cM_i (wl := wX g x) (wc := wM g ma P S) (w1 := fun v => wM g ma P v) (va_runV (As := [.int (xs (i + 1)), .int (xs (i + 2))]) (rest := [.int (_)]) ⟨hx, hb, hml, hown, hts⟩ (m_rate l g ma P S x hx9 hRl hs0 (xs (i + 1)) (xs (i + 2)) _) (cwV 2 hts (gV w_ml_L_44 w_im_X5_rate w_sel_X5_rate w_ini_X5 w_co_X5_rate) rfl rfl rfl (by decide +kernel) (by rw [hR1, hR2]; exact ⟨Nat.le_of_ble_eq_true rfl, Nat.le_of_ble_eq_true rfl⟩)) (preV_wr (P_right hP) hK (D_right hD) (va_recv hK.1 (P_right hP) (ci := 5) (q0 := 0) rfl rfl)) rfl rfl hl.1 rfl (lv_room (Nat.le_of_ble_eq_true rfl)) dL_law_375 ⟨by rw [hR3]; omega, by rw [hR4]; omega⟩) hP hD hS hA (fun _ => rfl) (fun r2 S2 H locs hpm hP hD hS => ?_)
  obtain ⟨hr2, hs2⟩ := hpm
  subst hr2
  refine lv_icmp_eq (tgt := 706) hx hb dL_law_378 (by decide) (fun c1 => ?_) (fun c1 => ?_)
  · refine W.widen (k := cells + 5) (n := slots + 136) (by omega) (by omega) ?_
    exact hn x P S2 H locs ls ⟨⟨hSo, hRl, hR0, hs2⟩, rfl, hP, hD, hS⟩ (lv_sub hl [0, 1, 2, 3] rfl)
  · exact absurd rfl c1

set_option maxHeartbeats 4000000 in
set_option maxRecDepth 100000 in
theorem lw_c7 {p : Program} {l : Launch} {e : Env} {RR : Room} {s : State} {m : MethodId} {below : List Frame} {meth : Method} {c : Code} {QQ : State → Prop} {b L : Nat} {xs : Nat → Int32} {g : GG} {ma : Nat → Nat} {q1 i cells slots : Nat} {x : FT} {P : PT} {S : ST} {H : Heap} {locs : List Loc} {ls : Array Slot} (C0 : LwC RR p s m c b L xs g) (hi4 : i + 4 ≤ L) (hL : L ≤ 2048) (hc5 : cells + 5 ≤ 600000) (hs5 : slots + 136 ≤ 7302250) (hI : LI g ma q1 s.heap x P S H locs) (hl : lv_has ls 4 [(0, .ref (b)), (1, .ref (q1)), (2, .ref (ma 0)), (3, .int (nI (i)))]) (hn : LN p l e RR s m below meth c b QQ g ma q1 i cells slots) : W p l e RR s m #[Value.ref b] below meth c H locs cells slots QQ (F0 m 383 ls []) := by
  obtain ⟨hx, hb, hml, hown, hts, hX, hbl, hK, hR1, hR2, hR3, hR4⟩ := C0
  obtain ⟨⟨hSo, hRl, hR0, hs0⟩, hq1, hP, hD, hS⟩ := hI
  subst hq1
  have hx9 := hSo.1
  have hA : ∀ q : Nat, s.heap.size ≤ q → (fun q : Nat => s.heap.size ≤ q) q := fun _ h => h
  have hbA : ¬ (fun q : Nat => s.heap.size ≤ q) b := Nat.not_le.mpr hbl
  refine lv_aload_n hx hb dL_law_383 rfl (lv_at hl 1 rfl) ?_
  refine lv_aload_n hx hb dL_law_384 rfl (lv_at hl 0 rfl) ?_
  refine lv_iload_n hx hb dL_law_385 rfl (lv_at hl 3 rfl) ?_
  refine lv_iconst (v := nI (1)) hx hb dL_law_386 (by decide) ?_
  refine n_iadd hx hb dL_law_387 ?_
  refine n_sld (k := i + 1) hx hb hX hbl hbA hS (by omega) (by omega) dL_law_388 ?_
  refine cR_i (W.runV (As := [.int (xs (i + 1))]) (rest := []) ⟨hx, hb, hml, hown, hts⟩ (k_weight l g x hx9 (xs (i + 1))) (cwV 1 hts (gV w_ml_L_45 w_im_X4_weight w_sel_X4_weight w_ini_X4 w_co_X4_weight) rfl rfl rfl (by decide +kernel) (by rw [hR1, hR2]; exact ⟨Nat.le_of_ble_eq_true rfl, Nat.le_of_ble_eq_true rfl⟩)) (preV_rd (P_left hP) hK (va_recv hK.1 (P_left hP) (ci := 4) (q0 := 0) rfl rfl)) rfl rfl hl.1 rfl (lv_room (Nat.le_of_ble_eq_true rfl)) dL_law_389 ⟨by rw [hR3]; omega, by rw [hR4]; omega⟩) ?_
  refine lv_aload_n hx hb dL_law_392 rfl (lv_at hl 2 rfl) ?_
  refine lv_aload_n hx hb dL_law_393 rfl (lv_at hl 0 rfl) ?_
  refine lv_iload_n hx hb dL_law_394 rfl (lv_at hl 3 rfl) ?_
  refine lv_iconst (v := nI (1)) hx hb dL_law_395 (by decide) ?_
  refine n_iadd hx hb dL_law_396 ?_
  refine n_sld (k := i + 1) hx hb hX hbl hbA hS (by omega) (by omega) dL_law_397 ?_
  refine cR_i (W.runV (As := [.int (xs (i + 1))]) (rest := [.int (_)]) ⟨hx, hb, hml, hown, hts⟩ (m_weight l g ma P S x hx9 hRl (xs (i + 1))) (cwV 1 hts (gV w_ml_L_49 w_im_X5_weight w_sel_X5_weight w_ini_X5 w_co_X5_weight) rfl rfl rfl (by decide +kernel) (by rw [hR1, hR2]; exact ⟨Nat.le_of_ble_eq_true rfl, Nat.le_of_ble_eq_true rfl⟩)) (preV_rd (P_right hP) hK (va_recv hK.1 (P_right hP) (ci := 5) (q0 := 0) rfl rfl)) rfl rfl hl.1 rfl (lv_room (Nat.le_of_ble_eq_true rfl)) dL_law_398 ⟨by rw [hR3]; omega, by rw [hR4]; omega⟩) ?_
  refine lv_icmp_eq (tgt := 706) hx hb dL_law_401 (by decide) (fun c1 => ?_) (fun c1 => ?_)
  · refine W.widen (k := cells + 5) (n := slots + 136) (by omega) (by omega) ?_
    exact hn x P S H locs ls ⟨⟨hSo, hRl, hR0, hs0⟩, rfl, hP, hD, hS⟩ (lv_sub hl [0, 1, 2, 3] rfl)
  · exact absurd rfl c1

set_option maxHeartbeats 4000000 in
set_option maxRecDepth 100000 in
theorem lw_c8 {p : Program} {l : Launch} {e : Env} {RR : Room} {s : State} {m : MethodId} {below : List Frame} {meth : Method} {c : Code} {QQ : State → Prop} {b L : Nat} {xs : Nat → Int32} {g : GG} {ma : Nat → Nat} {q1 i cells slots : Nat} {x : FT} {P : PT} {S : ST} {H : Heap} {locs : List Loc} {ls : Array Slot} (C0 : LwC RR p s m c b L xs g) (hi4 : i + 4 ≤ L) (hL : L ≤ 2048) (hc5 : cells + 5 ≤ 600000) (hs5 : slots + 136 ≤ 7302250) (hI : LI g ma q1 s.heap x P S H locs) (hl : lv_has ls 4 [(0, .ref (b)), (1, .ref (q1)), (2, .ref (ma 0)), (3, .int (nI (i)))]) (hn : LN p l e RR s m below meth c b QQ g ma q1 i cells slots) : W p l e RR s m #[Value.ref b] below meth c H locs cells slots QQ (F0 m 406 ls []) := by
  obtain ⟨hx, hb, hml, hown, hts, hX, hbl, hK, hR1, hR2, hR3, hR4⟩ := C0
  obtain ⟨⟨hSo, hRl, hR0, hs0⟩, hq1, hP, hD, hS⟩ := hI
  subst hq1
  have hx9 := hSo.1
  have hA : ∀ q : Nat, s.heap.size ≤ q → (fun q : Nat => s.heap.size ≤ q) q := fun _ h => h
  have hbA : ¬ (fun q : Nat => s.heap.size ≤ q) b := Nat.not_le.mpr hbl
  refine lv_aload_n hx hb dL_law_406 rfl (lv_at hl 1 rfl) ?_
  refine lv_aload_n hx hb dL_law_407 rfl (lv_at hl 0 rfl) ?_
  refine lv_iload_n hx hb dL_law_408 rfl (lv_at hl 3 rfl) ?_
  refine lv_iconst (v := nI (1)) hx hb dL_law_409 (by decide) ?_
  refine n_iadd hx hb dL_law_410 ?_
  refine n_sld (k := i + 1) hx hb hX hbl hbA hS (by omega) (by omega) dL_law_411 ?_
  refine lv_aload_n hx hb dL_law_412 rfl (lv_at hl 0 rfl) ?_
  refine lv_iload_n hx hb dL_law_413 rfl (lv_at hl 3 rfl) ?_
  refine lv_iconst (v := nI (2)) hx hb dL_law_414 (by decide) ?_
  refine n_iadd hx hb dL_law_415 ?_
  refine n_sld (k := i + 2) hx hb hX hbl hbA hS (by omega) (by omega) dL_law_416 ?_
  refine cL_l (wc := wX g x) (wr := wM g ma P S) (w1 := fun u => wX g u) (va_runV (As := [.int (xs (i + 1)), .int (xs (i + 2))]) (rest := []) ⟨hx, hb, hml, hown, hts⟩ (k_expected l g x hx9 hSo.2 (xs (i + 1)) (xs (i + 2)) _) (cwV 2 hts (gV w_ml_L_50 w_im_X4_expected w_sel_X4_expected w_ini_X4 w_co_X4_expected) rfl rfl rfl (by decide +kernel) (by rw [hR1, hR2]; exact ⟨Nat.le_of_ble_eq_true rfl, Nat.le_of_ble_eq_true rfl⟩)) (preV_wr (P_left hP) hK (D_left hD) (va_recv hK.1 (P_left hP) (ci := 4) (q0 := 0) rfl rfl)) rfl rfl hl.1 rfl (lv_room (Nat.le_of_ble_eq_true rfl)) dL_law_417 ⟨by rw [hR3]; omega, by rw [hR4]; omega⟩) hP hD hS hA (fun r u H locs hpx hP hD hS => ?_)
  obtain ⟨hr1, hal⟩ := hpx
  subst hr1
  refine lv_aload_n hx hb dL_law_420 rfl (lv_at hl 2 rfl) ?_
  refine lv_aload_n hx hb dL_law_421 rfl (lv_at hl 0 rfl) ?_
  refine lv_iload_n hx hb dL_law_422 rfl (lv_at hl 3 rfl) ?_
  refine lv_iconst (v := nI (1)) hx hb dL_law_423 (by decide) ?_
  refine n_iadd hx hb dL_law_424 ?_
  refine n_sld (k := i + 1) hx hb hX hbl hbA hS (by omega) (by omega) dL_law_425 ?_
  refine lv_aload_n hx hb dL_law_426 rfl (lv_at hl 0 rfl) ?_
  refine lv_iload_n hx hb dL_law_427 rfl (lv_at hl 3 rfl) ?_
  refine lv_iconst (v := nI (2)) hx hb dL_law_428 (by decide) ?_
  refine n_iadd hx hb dL_law_429 ?_
  refine n_sld (k := i + 2) hx hb hX hbl hbA hS (by omega) (by omega) dL_law_430 ?_
  refine cM_l (wl := wX g u) (wc := wM g ma P S) (w1 := fun v => wM g ma P v) (va_runV (As := [.int (xs (i + 1)), .int (xs (i + 2))]) (rest := [.long (_)]) ⟨hx, hb, hml, hown, hts⟩ (m_expected l g ma P S x hx9 hRl hs0 (xs (i + 1)) (xs (i + 2)) _) (cwV 2 hts (gV w_ml_L_54 w_im_X5_expected w_sel_X5_expected w_ini_X5 w_co_X5_expected) rfl rfl rfl (by decide +kernel) (by rw [hR1, hR2]; exact ⟨Nat.le_of_ble_eq_true rfl, Nat.le_of_ble_eq_true rfl⟩)) (preV_wr (P_right hP) hK (D_right hD) (va_recv hK.1 (P_right hP) (ci := 5) (q0 := 0) rfl rfl)) rfl rfl hl.1 rfl (lv_room (Nat.le_of_ble_eq_true rfl)) dL_law_431 ⟨by rw [hR3]; omega, by rw [hR4]; omega⟩) hP hD hS hA (fun _ => rfl) (fun r2 S2 H locs hpm hP hD hS => ?_)
  obtain ⟨hr2, hs2⟩ := hpm
  subst hr2
  refine W.lcmp hx hb dL_law_434 ?_
  refine lv_if_eq (tgt := 706) hx hb dL_law_435 (by decide) (fun c1 => ?_) (fun c1 => ?_)
  · refine W.widen (k := cells + 5) (n := slots + 136) (by omega) (by omega) ?_
    exact hn u P S2 H locs ls ⟨⟨Sok_al hSo hal, Rel_al hRl hal, hR0, hs2⟩, congrFun (xA_al hal) 0, hP, hD, hS⟩ (lv_sub hl [0, 1, 2, 3] rfl)
  · exact absurd ((lg_cmp_eq _ _).mpr rfl) c1

