set_option maxHeartbeats 4000000 in
set_option maxRecDepth 100000 in
theorem k_expected (l : Launch) (g : GG) (x : FT) (hx9 : Xok x) (h0 : xS x 0 = 0) (k t : Int32) (sz : Nat) : Al l yX4_expected wsX4_expected 5 124 0 0 [.ref (xA x 0), .int (k), .int (t)] g (x) sz (fun r u => r = lE (expO x k t) ∧ alX u x) := by
  refine Met.ofW (cc := cX4_expected) (maxL := 4) (ret := (some .long)) (by decide) rfl ?_
  intro p e s m args below meth c s₁ BB hml hv
  obtain ⟨hargs, hsz, hP, hK, hD0⟩ := hv
  have hx := BB.exec
  have hb := BB.bytes
  have hr := BB.returns
  have hts : ∀ w ∈ BIG, w.before args s = true := fun w h => atoms_spec (ws := wsX4_expected) BB.pre w (List.mem_cons_of_mem _ h)
  have hown : s.vm.findClass RX4 = some m.cls := findClass_of_methodNamed BB.named
  have hlocks := BB.notSynchronized
  obtain ⟨RR, hRR⟩ : ∃ RR, RR = (headSpec wsX4_expected ⟨5, 0, 0, 124⟩).room := ⟨_, rfl⟩
  have hR1 : RR.frames = 5 := by rw [hRR]; rfl
  have hR2 : RR.locals = 124 := by rw [hRR]; rfl
  have hR3 : RR.cells = 0 := by rw [hRR]; rfl
  have hR4 : RR.slots = 0 := by rw [hRR]; rfl
  have hl := lv_entry ([.ref (xA x 0), .int (k), .int (t)]) (n := 4) (Nat.le_of_ble_eq_true rfl)
  have hent : entryFrame m args 4 = F0 m 0 ((lg_sl ([.ref (xA x 0), .int (k), .int (t)]) ++ List.replicate (4 - (lg_sl ([.ref (xA x 0), .int (k), .int (t)])).length) Slot.unset).toArray) [] := by rw [hargs, lg_entry_eq]
  rw [hent]
  generalize (lg_sl ([.ref (xA x 0), .int (k), .int (t)]) ++ List.replicate (4 - (lg_sl ([.ref (xA x 0), .int (k), .int (t)])).length) Slot.unset).toArray = ls at hl ⊢
  have hl : lv_has ls 4 [(0, .ref (xA x 0)), (1, .int (k)), (2, .int (t))] := hl
  subst hsz
  have hD := hD0.self (sz := s.heap.size)
  generalize hAe : va_A (wX g x) s.heap.size = A at hD ⊢
  have hA : ∀ q : Nat, s.heap.size ≤ q → A q := fun q h => by rw [← hAe]; exact Or.inr h
  have hS : va_S A s.heap s.heap [] := va_S.rf
  refine q_ab (R := RR) hRR ?_
  generalize hQQ : MQ below _ args s _ _ _ = QQ
  obtain ⟨h8, hB, hW, hq9, he9, hl9⟩ := id hx9
  refine lv_aload_n hx hb dX4_expected_0 rfl (lv_at hl 0 rfl) ?_
  refine lv_iload_n hx hb dX4_expected_1 rfl (lv_at hl 1 rfl) ?_
  cases hbk : binAt (xB x) k with
  | none =>
    refine cR_q (W.runV (As := [.int (k)]) (rest := []) ⟨hx, hb, hml, hown, hts⟩ (k_binOf_n l g x k h8 hbk) (cwV 1 hts (gV w_ml_X4_56 w_im_X4_binOf w_sel_X4_binOf w_ini_X4 w_co_X4_binOf) rfl rfl rfl (by decide +kernel) (by rw [hR1, hR2]; exact ⟨Nat.le_of_ble_eq_true rfl, Nat.le_of_ble_eq_true rfl⟩)) (preV_rd hP hK (va_recv hK.1 hP (ci := 4) (q0 := 0) rfl rfl)) rfl rfl hl.1 rfl (lv_room (Nat.le_of_ble_eq_true rfl)) dX4_expected_2 ⟨by rw [hR3]; omega, by rw [hR4]; omega⟩) ?_
    refine W.eq (g2 := F0 m 5 ls [.null]) rfl ?_
    refine lv_astore_nN (lv' := [(3, .null), (0, .ref (xA x 0)), (1, .int (k)), (2, .int (t))]) hx hb dX4_expected_5 rfl hl (by decide) rfl (fun ls hl => ?_)
    refine lv_aload_nN hx hb dX4_expected_6 rfl (lv_at hl 0 rfl) ?_
    refine lv_ifnullN (tgt := 17) hx hb dX4_expected_7 (by decide) ?_
    refine lv_ldc2 (v := (-1)) hx hb hown (hts _ w_ct_X4_97) dX4_expected_17 ?_
    subst hQQ
    exact W.lret hx hb hr (fun t9 ht _ => ⟨⟨_, x, rfl, ⟨by rw [expO, hbk]; rfl, alX_rf h0⟩, hpT ht hP, hD⟩, hS.F ht⟩) hS.2.2 dX4_expected_20
  | some b =>
    have hbm : b ∈ xB x := by obtain ⟨j, -, -, hj, -⟩ := binAt_s h8 hbk; exact List.mem_of_getElem? hj
    have hBk := hB b hbm
    obtain ⟨⟨hbn, hbp, hbo, hba⟩, hbw, hbg, hbs, hbr, hc1, hc2, hc3, hbam⟩ := id hBk
    have hPb := wX_B hP hbm
    have hPm := va_P.app hPb (va_P.app (wX_C hP) (wX_F hP))
    have hpl2 : ∀ i, i < bN b → bPl b i < 2 ^ 31 := fun i hi => Nat.lt_trans (hbp i hi) (by decide)
    refine cR_q (W.runV (As := [.int (k)]) (rest := []) ⟨hx, hb, hml, hown, hts⟩ (k_binOf_s l g x k b h8 hbk) (cwV 1 hts (gV w_ml_X4_56 w_im_X4_binOf w_sel_X4_binOf w_ini_X4 w_co_X4_binOf) rfl rfl rfl (by decide +kernel) (by rw [hR1, hR2]; exact ⟨Nat.le_of_ble_eq_true rfl, Nat.le_of_ble_eq_true rfl⟩)) (preV_rd hP hK (va_recv hK.1 hP (ci := 4) (q0 := 0) rfl rfl)) rfl rfl hl.1 rfl (lv_room (Nat.le_of_ble_eq_true rfl)) dX4_expected_2 ⟨by rw [hR3]; omega, by rw [hR4]; omega⟩) ?_
    refine W.eq (g2 := F0 m 5 ls [.ref (bA b 0)]) rfl ?_
    refine lv_astore_n (lv' := [(3, .ref (bA b 0)), (0, .ref (xA x 0)), (1, .int (k)), (2, .int (t))]) hx hb dX4_expected_5 rfl hl (by decide) rfl (fun ls hl => ?_)
    refine lv_aload_n hx hb dX4_expected_6 rfl (lv_at hl 0 rfl) ?_
    refine lv_ifnull hx hb dX4_expected_7 ?_
    refine lv_iload_n hx hb dX4_expected_10 rfl (lv_at hl 3 rfl) ?_
    refine cR_i (W.runS (As := [.int (t)]) (rest := []) ⟨hx, hb, hml, hown, hts⟩ (k_isHour l g t) (va_cwS 1 hts (gS w_ml_X4_60 w_sm_X4_isHour w_ini_X4 w_co_X4_isHour) rfl rfl rfl (by decide +kernel) (by rw [hR1, hR2]; exact ⟨Nat.le_of_ble_eq_true rfl, Nat.le_of_ble_eq_true rfl⟩)) (preS_rd va_P.nil hK) rfl rfl hl.1 rfl (lv_room (Nat.le_of_ble_eq_true rfl)) dX4_expected_11 ⟨by rw [hR3]; omega, by rw [hR4]; omega⟩) ?_
    refine bb_ne (tgt := 21) hx hb dX4_expected_14 (by decide) (fun hhc => ?_) (fun hhc => ?_)
    · cases hh : inL 0 9999 t with
      | none => exact absurd hhc (by rw [inL_n hh]; decide)
      | some h =>
        obtain ⟨hhl, hhn, hhe, -⟩ := inL_s (by decide) (by decide) hh
        subst hhe
        refine lv_aload_n hx hb dX4_expected_21 rfl (lv_at hl 1 rfl) ?_
        refine lv_aload_n hx hb dX4_expected_22 rfl (lv_at hl 0 rfl) ?_
        refine cW0_v (wc := wX g x) (w1 := wX g (lkX x b)) (va_runV (As := [.ref (bA b 0)]) (rest := []) ⟨hx, hb, hml, hown, hts⟩ (k_lookAhead l g x b hx9 hbm _) (cwV 1 hts (gV w_ml_X4_99 w_im_X4_lookAhead w_sel_X4_lookAhead w_ini_X4 w_co_X4_lookAhead) rfl rfl rfl (by decide +kernel) (by rw [hR1, hR2]; exact ⟨Nat.le_of_ble_eq_true rfl, Nat.le_of_ble_eq_true rfl⟩)) (preV_wr hP hK hD (va_recv hK.1 hP (ci := 4) (q0 := 0) rfl rfl)) rfl rfl hl.1 rfl (lv_room (Nat.le_of_ble_eq_true rfl)) dX4_expected_23 ⟨by rw [hR3]; omega, by rw [hR4]; omega⟩) hP hD hS hA rfl (fun H locs hP hD hS => ?_)
        obtain ⟨hs, hm⟩ := lkX_le hx9 hbm h0
        have hPo := va_P.app (wX_O hP) (wX_B (x := lkX x b) hP hbm)
        refine lv_aload_n hx hb dX4_expected_26 rfl (lv_at hl 1 rfl) ?_
        refine va_get (D := g.1) (ci := 4) (v := .ref (xO x 0)) (C := RX4) (T := TX4) (N := 8) hx hb hts hiX4 hown hK.1 hP 0 rfl rfl 2 (by decide) (hts _ w_fl_X4_26) (fun _ h9 => h9) rfl dX4_expected_27 ?_
        refine lv_aload_n hx hb dX4_expected_30 rfl (lv_at hl 0 rfl) ?_
        refine lv_iload_n hx hb dX4_expected_31 rfl (lv_at hl 3 rfl) ?_
        refine cR_l (W.runV (As := [.ref (bA b 0), .int (nI (h))]) (rest := []) ⟨hx, hb, hml, hown, hts⟩ (k_shareAtO l g (xO x) (xR (lkX x b)) (xS (lkX x b)) b hbn hbp hba hs hm h (by omega)) (cwV 2 hts (gV w_ml_X4_103 w_im_X3_shareAt w_sel_X3_shareAt w_ini_X3 w_co_X3_shareAt) rfl rfl rfl (by decide +kernel) (by rw [hR1, hR2]; exact ⟨Nat.le_of_ble_eq_true rfl, Nat.le_of_ble_eq_true rfl⟩)) (preV_rd hPo hK (va_recv hK.1 hPo (ci := 3) (q0 := 0) rfl rfl)) rfl rfl hl.1 rfl (lv_room (Nat.le_of_ble_eq_true rfl)) dX4_expected_32 ⟨by rw [hR3]; omega, by rw [hR4]; omega⟩) ?_
        subst hQQ
        exact W.lret hx hb hr (fun t9 ht _ => ⟨⟨_, lkX x b, rfl, ⟨by rw [lkX_shA h0 (by omega), expO, hbk]; show _ = lE ((inL 0 9999 (nI h)).map _); rw [hh]; rfl, alX_lk h0⟩, hpT ht hP, hD⟩, hS.F ht⟩) hS.2.2 dX4_expected_35
    · cases hh : inL 0 9999 t with
      | none =>
        refine lv_ldc2 (v := (-1)) hx hb hown (hts _ w_ct_X4_97) dX4_expected_17 ?_
        subst hQQ
        exact W.lret hx hb hr (fun t9 ht _ => ⟨⟨_, x, rfl, ⟨by rw [expO, hbk]; show _ = lE ((inL 0 9999 t).map _); rw [hh]; rfl, alX_rf h0⟩, hpT ht hP, hD⟩, hS.F ht⟩) hS.2.2 dX4_expected_20
      | some h => exact absurd hhc (by rw [(inL_s (by decide) (by decide) hh).2.2.2]; decide)

set_option maxHeartbeats 4000000 in
set_option maxRecDepth 100000 in
theorem k_costOf (l : Launch) (g : GG) (x : FT) (hx9 : Xok x) (h0 : xS x 0 = 0) (k t : Int32) (sz : Nat) : Al l yX4_costOf wsX4_costOf 5 124 0 0 [.ref (xA x 0), .int (k), .int (t)] g (x) sz (fun r u => r = lE (cosO x k t) ∧ alX u x) := by
  refine Met.ofW (cc := cX4_costOf) (maxL := 4) (ret := (some .long)) (by decide) rfl ?_
  intro p e s m args below meth c s₁ BB hml hv
  obtain ⟨hargs, hsz, hP, hK, hD0⟩ := hv
  have hx := BB.exec
  have hb := BB.bytes
  have hr := BB.returns
  have hts : ∀ w ∈ BIG, w.before args s = true := fun w h => atoms_spec (ws := wsX4_costOf) BB.pre w (List.mem_cons_of_mem _ h)
  have hown : s.vm.findClass RX4 = some m.cls := findClass_of_methodNamed BB.named
  have hlocks := BB.notSynchronized
  obtain ⟨RR, hRR⟩ : ∃ RR, RR = (headSpec wsX4_costOf ⟨5, 0, 0, 124⟩).room := ⟨_, rfl⟩
  have hR1 : RR.frames = 5 := by rw [hRR]; rfl
  have hR2 : RR.locals = 124 := by rw [hRR]; rfl
  have hR3 : RR.cells = 0 := by rw [hRR]; rfl
  have hR4 : RR.slots = 0 := by rw [hRR]; rfl
  have hl := lv_entry ([.ref (xA x 0), .int (k), .int (t)]) (n := 4) (Nat.le_of_ble_eq_true rfl)
  have hent : entryFrame m args 4 = F0 m 0 ((lg_sl ([.ref (xA x 0), .int (k), .int (t)]) ++ List.replicate (4 - (lg_sl ([.ref (xA x 0), .int (k), .int (t)])).length) Slot.unset).toArray) [] := by rw [hargs, lg_entry_eq]
  rw [hent]
  generalize (lg_sl ([.ref (xA x 0), .int (k), .int (t)]) ++ List.replicate (4 - (lg_sl ([.ref (xA x 0), .int (k), .int (t)])).length) Slot.unset).toArray = ls at hl ⊢
  have hl : lv_has ls 4 [(0, .ref (xA x 0)), (1, .int (k)), (2, .int (t))] := hl
  subst hsz
  have hD := hD0.self (sz := s.heap.size)
  generalize hAe : va_A (wX g x) s.heap.size = A at hD ⊢
  have hA : ∀ q : Nat, s.heap.size ≤ q → A q := fun q h => by rw [← hAe]; exact Or.inr h
  have hS : va_S A s.heap s.heap [] := va_S.rf
  refine q_ab (R := RR) hRR ?_
  generalize hQQ : MQ below _ args s _ _ _ = QQ
  obtain ⟨h8, hB, hW, hq9, he9, hl9⟩ := id hx9
  refine lv_aload_n hx hb dX4_costOf_0 rfl (lv_at hl 0 rfl) ?_
  refine lv_iload_n hx hb dX4_costOf_1 rfl (lv_at hl 1 rfl) ?_
  cases hbk : binAt (xB x) k with
  | none =>
    refine cR_q (W.runV (As := [.int (k)]) (rest := []) ⟨hx, hb, hml, hown, hts⟩ (k_binOf_n l g x k h8 hbk) (cwV 1 hts (gV w_ml_X4_56 w_im_X4_binOf w_sel_X4_binOf w_ini_X4 w_co_X4_binOf) rfl rfl rfl (by decide +kernel) (by rw [hR1, hR2]; exact ⟨Nat.le_of_ble_eq_true rfl, Nat.le_of_ble_eq_true rfl⟩)) (preV_rd hP hK (va_recv hK.1 hP (ci := 4) (q0 := 0) rfl rfl)) rfl rfl hl.1 rfl (lv_room (Nat.le_of_ble_eq_true rfl)) dX4_costOf_2 ⟨by rw [hR3]; omega, by rw [hR4]; omega⟩) ?_
    refine W.eq (g2 := F0 m 5 ls [.null]) rfl ?_
    refine lv_astore_nN (lv' := [(3, .null), (0, .ref (xA x 0)), (1, .int (k)), (2, .int (t))]) hx hb dX4_costOf_5 rfl hl (by decide) rfl (fun ls hl => ?_)
    refine lv_aload_nN hx hb dX4_costOf_6 rfl (lv_at hl 0 rfl) ?_
    refine lv_ifnullN (tgt := 17) hx hb dX4_costOf_7 (by decide) ?_
    refine lv_ldc2 (v := (-1)) hx hb hown (hts _ w_ct_X4_97) dX4_costOf_17 ?_
    subst hQQ
    exact W.lret hx hb hr (fun t9 ht _ => ⟨⟨_, x, rfl, ⟨by rw [cosO, hbk]; rfl, alX_rf h0⟩, hpT ht hP, hD⟩, hS.F ht⟩) hS.2.2 dX4_costOf_20
  | some b =>
    have hbm : b ∈ xB x := by obtain ⟨j, -, -, hj, -⟩ := binAt_s h8 hbk; exact List.mem_of_getElem? hj
    have hBk := hB b hbm
    obtain ⟨⟨hbn, hbp, hbo, hba⟩, hbw, hbg, hbs, hbr, hc1, hc2, hc3, hbam⟩ := id hBk
    have hPb := wX_B hP hbm
    have hPm := va_P.app hPb (va_P.app (wX_C hP) (wX_F hP))
    have hpl2 : ∀ i, i < bN b → bPl b i < 2 ^ 31 := fun i hi => Nat.lt_trans (hbp i hi) (by decide)
    refine cR_q (W.runV (As := [.int (k)]) (rest := []) ⟨hx, hb, hml, hown, hts⟩ (k_binOf_s l g x k b h8 hbk) (cwV 1 hts (gV w_ml_X4_56 w_im_X4_binOf w_sel_X4_binOf w_ini_X4 w_co_X4_binOf) rfl rfl rfl (by decide +kernel) (by rw [hR1, hR2]; exact ⟨Nat.le_of_ble_eq_true rfl, Nat.le_of_ble_eq_true rfl⟩)) (preV_rd hP hK (va_recv hK.1 hP (ci := 4) (q0 := 0) rfl rfl)) rfl rfl hl.1 rfl (lv_room (Nat.le_of_ble_eq_true rfl)) dX4_costOf_2 ⟨by rw [hR3]; omega, by rw [hR4]; omega⟩) ?_
    refine W.eq (g2 := F0 m 5 ls [.ref (bA b 0)]) rfl ?_
    refine lv_astore_n (lv' := [(3, .ref (bA b 0)), (0, .ref (xA x 0)), (1, .int (k)), (2, .int (t))]) hx hb dX4_costOf_5 rfl hl (by decide) rfl (fun ls hl => ?_)
    refine lv_aload_n hx hb dX4_costOf_6 rfl (lv_at hl 0 rfl) ?_
    refine lv_ifnull hx hb dX4_costOf_7 ?_
    refine lv_iload_n hx hb dX4_costOf_10 rfl (lv_at hl 3 rfl) ?_
    refine cR_i (W.runS (As := [.int (t)]) (rest := []) ⟨hx, hb, hml, hown, hts⟩ (k_isDay l g t) (va_cwS 1 hts (gS w_ml_X4_75 w_sm_X4_isDay w_ini_X4 w_co_X4_isDay) rfl rfl rfl (by decide +kernel) (by rw [hR1, hR2]; exact ⟨Nat.le_of_ble_eq_true rfl, Nat.le_of_ble_eq_true rfl⟩)) (preS_rd va_P.nil hK) rfl rfl hl.1 rfl (lv_room (Nat.le_of_ble_eq_true rfl)) dX4_costOf_11 ⟨by rw [hR3]; omega, by rw [hR4]; omega⟩) ?_
    refine bb_ne (tgt := 21) hx hb dX4_costOf_14 (by decide) (fun hhc => ?_) (fun hhc => ?_)
    · cases hh : inL 0 416 t with
      | none => exact absurd hhc (by rw [inL_n hh]; decide)
      | some d =>
        obtain ⟨hhl, hhn, hhe, -⟩ := inL_s (by decide) (by decide) hh
        subst hhe
        refine lv_aload_n hx hb dX4_costOf_21 rfl (lv_at hl 1 rfl) ?_
        refine lv_aload_n hx hb dX4_costOf_22 rfl (lv_at hl 0 rfl) ?_
        refine cW0_v (wc := wX g x) (w1 := wX g (lkX x b)) (va_runV (As := [.ref (bA b 0)]) (rest := []) ⟨hx, hb, hml, hown, hts⟩ (k_lookAhead l g x b hx9 hbm _) (cwV 1 hts (gV w_ml_X4_99 w_im_X4_lookAhead w_sel_X4_lookAhead w_ini_X4 w_co_X4_lookAhead) rfl rfl rfl (by decide +kernel) (by rw [hR1, hR2]; exact ⟨Nat.le_of_ble_eq_true rfl, Nat.le_of_ble_eq_true rfl⟩)) (preV_wr hP hK hD (va_recv hK.1 hP (ci := 4) (q0 := 0) rfl rfl)) rfl rfl hl.1 rfl (lv_room (Nat.le_of_ble_eq_true rfl)) dX4_costOf_23 ⟨by rw [hR3]; omega, by rw [hR4]; omega⟩) hP hD hS hA rfl (fun H locs hP hD hS => ?_)
        obtain ⟨hs, hm⟩ := lkX_le hx9 hbm h0
        have hPo := va_P.app (wX_O hP) (wX_B (x := lkX x b) hP hbm)
        refine lv_aload_n hx hb dX4_costOf_26 rfl (lv_at hl 1 rfl) ?_
        refine lv_aload_n hx hb dX4_costOf_27 rfl (lv_at hl 0 rfl) ?_
        refine lv_iload_n hx hb dX4_costOf_28 rfl (lv_at hl 3 rfl) ?_
        refine cR_l (W.runV (As := [.ref (bA b 0), .int (nI (d))]) (rest := []) ⟨hx, hb, hml, hown, hts⟩ (k_centsOn l g (lkX x b) b hx9 hbm hs hm d (by omega)) (cwV 2 hts (gV w_ml_X4_116 w_im_X4_centsOn w_sel_X4_centsOn w_ini_X4 w_co_X4_centsOn) rfl rfl rfl (by decide +kernel) (by rw [hR1, hR2]; exact ⟨Nat.le_of_ble_eq_true rfl, Nat.le_of_ble_eq_true rfl⟩)) (preV_rd hP hK (va_recv hK.1 hP (ci := 4) (q0 := 0) rfl rfl)) rfl rfl hl.1 rfl (lv_room (Nat.le_of_ble_eq_true rfl)) dX4_costOf_29 ⟨by rw [hR3]; omega, by rw [hR4]; omega⟩) ?_
        subst hQQ
        exact W.lret hx hb hr (fun t9 ht _ => ⟨⟨_, lkX x b, rfl, ⟨by rw [ctN_eq h0 (by omega), cosO, hbk]; show _ = lE ((inL 0 416 (nI d)).map _); rw [hh]; rfl, alX_lk h0⟩, hpT ht hP, hD⟩, hS.F ht⟩) hS.2.2 dX4_costOf_32
    · cases hh : inL 0 416 t with
      | none =>
        refine lv_ldc2 (v := (-1)) hx hb hown (hts _ w_ct_X4_97) dX4_costOf_17 ?_
        subst hQQ
        exact W.lret hx hb hr (fun t9 ht _ => ⟨⟨_, x, rfl, ⟨by rw [cosO, hbk]; show _ = lE ((inL 0 416 t).map _); rw [hh]; rfl, alX_rf h0⟩, hpT ht hP, hD⟩, hS.F ht⟩) hS.2.2 dX4_costOf_20
      | some d => exact absurd hhc (by rw [(inL_s (by decide) (by decide) hh).2.2.2]; decide)

