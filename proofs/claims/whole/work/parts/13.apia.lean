set_option maxHeartbeats 4000000 in
set_option maxRecDepth 100000 in
theorem k_weight (l : Launch) (g : GG) (x : FT) (hx9 : Xok x) (k : Int32) : Rd l yX4_weight wsX4_weight 1 22 [.ref (xA x 0), .int (k)] g (wX g x) (gI ((inL 0 7 k).map (xW x))) := by
  refine Met.ofW (cc := cX4_weight) (maxL := 2) (ret := (some .int)) (by decide) rfl ?_
  intro p e s m args below meth c s₁ BB hml hv
  obtain ⟨hargs, hP, hK⟩ := hv
  have hx := BB.exec
  have hb := BB.bytes
  have hr := BB.returns
  have hts : ∀ w ∈ BIG, w.before args s = true := fun w h => atoms_spec (ws := wsX4_weight) BB.pre w (List.mem_cons_of_mem _ h)
  have hown : s.vm.findClass RX4 = some m.cls := findClass_of_methodNamed BB.named
  have hlocks := BB.notSynchronized
  obtain ⟨RR, hRR⟩ : ∃ RR, RR = (headSpec wsX4_weight ⟨1, 0, 0, 22⟩).room := ⟨_, rfl⟩
  have hR1 : RR.frames = 1 := by rw [hRR]; rfl
  have hR2 : RR.locals = 22 := by rw [hRR]; rfl
  have hR3 : RR.cells = 0 := by rw [hRR]; rfl
  have hR4 : RR.slots = 0 := by rw [hRR]; rfl
  have hl := lv_entry ([.ref (xA x 0), .int (k)]) (n := 2) (Nat.le_of_ble_eq_true rfl)
  have hent : entryFrame m args 2 = F0 m 0 ((lg_sl ([.ref (xA x 0), .int (k)]) ++ List.replicate (2 - (lg_sl ([.ref (xA x 0), .int (k)])).length) Slot.unset).toArray) [] := by rw [hargs, lg_entry_eq]
  rw [hent]
  generalize (lg_sl ([.ref (xA x 0), .int (k)]) ++ List.replicate (2 - (lg_sl ([.ref (xA x 0), .int (k)])).length) Slot.unset).toArray = ls at hl ⊢
  have hl : lv_has ls 2 [(0, .ref (xA x 0)), (1, .int (k))] := hl
  refine q_ab (R := RR) hRR ?_
  generalize hQQ : MQ below _ args s _ _ _ = QQ
  refine lv_iload_n hx hb dX4_weight_0 rfl (lv_at hl 1 rfl) ?_
  refine lv_iconst (v := nI (0)) hx hb dX4_weight_1 (by decide) ?_
  refine lv_bipush (v := nI (7)) hx hb dX4_weight_2 (by decide) ?_
  refine cR_i (W.runS (As := [.int (k), .int (nI (0)), .int (nI (7))]) (rest := []) ⟨hx, hb, hml, hown, hts⟩ (k_isWithin l g k (nI 0) (nI 7)) (va_cwS 3 hts (gS w_ml_X4_49 w_sm_X4_isWithin w_ini_X4 w_co_X4_isWithin) rfl rfl rfl (by decide +kernel) (by rw [hR1, hR2]; exact ⟨Nat.le_of_ble_eq_true rfl, Nat.le_of_ble_eq_true rfl⟩)) (preS_rd va_P.nil hK) rfl rfl hl.1 rfl (lv_room (Nat.le_of_ble_eq_true rfl)) dX4_weight_4 ⟨by rw [hR3]; omega, by rw [hR4]; omega⟩) ?_
  refine bb_eq (tgt := 21) hx hb dX4_weight_7 (by decide) (fun hhc => ?_) (fun hhc => ?_)
  · cases hh : inL 0 7 k with
    | none =>
      refine lv_iconst (v := (-1)) hx hb dX4_weight_21 (by decide) ?_
      subst hQQ
      exact W.iret hx hb hr (fun t9 ht _ => rdI (by rw [hh]; rfl) ht) (fun q h => absurd h List.not_mem_nil) dX4_weight_22
    | some a => exact absurd hhc (by rw [(inL_s (by decide) (by decide) hh).2.2.2]; decide)
  · cases hh : inL 0 7 k with
    | none => exact absurd hhc (by rw [inL_n hh]; decide)
    | some a =>
      obtain ⟨hhl, hhn, hhe, -⟩ := inL_s (by decide) (by decide) hh
      subst hhe
      refine lv_aload_n hx hb dX4_weight_10 rfl (lv_at hl 0 rfl) ?_
      refine va_get (D := g.1) (ci := 4) (v := .ref (xF x 0)) (C := RX4) (T := TX4) (N := 8) hx hb hts hiX4 hown hK.1 hP 0 rfl rfl 1 (by decide) (hts _ w_fl_X4_19) (fun _ h9 => h9) rfl dX4_weight_11 ?_
      refine lv_iload_n hx hb dX4_weight_14 rfl (lv_at hl 1 rfl) ?_
      refine cR_i (W.runV (As := [.int (nI (a))]) (rest := []) ⟨hx, hb, hml, hown, hts⟩ (k_weightOf l g (xF x) (xW x) a (by omega)) (cwV 1 hts (gV w_ml_X4_94 w_im_X2_weightOf w_sel_X2_weightOf w_ini_X2 w_co_X2_weightOf) rfl rfl rfl (by decide +kernel) (by rw [hR1, hR2]; exact ⟨Nat.le_of_ble_eq_true rfl, Nat.le_of_ble_eq_true rfl⟩)) (preV_rd (wX_F hP) hK (va_recv hK.1 (wX_F hP) (ci := 2) (q0 := 0) rfl rfl)) rfl rfl hl.1 rfl (lv_room (Nat.le_of_ble_eq_true rfl)) dX4_weight_15 ⟨by rw [hR3]; omega, by rw [hR4]; omega⟩) ?_
      refine lv_goto (tgt := 22) hx hb dX4_weight_18 (by decide) ?_
      subst hQQ
      exact W.iret hx hb hr (fun t9 ht _ => rdI (by rw [hh]; rfl) ht) (fun q h => absurd h List.not_mem_nil) dX4_weight_22

set_option maxHeartbeats 4000000 in
set_option maxRecDepth 100000 in
theorem k_mean (l : Launch) (g : GG) (x : FT) (hx9 : Xok x) (k d : Int32) : Rd l yX4_mean wsX4_mean 2 52 [.ref (xA x 0), .int (k), .int (d)] g (wX g x) (gI ((binAt (xB x) k).bind (fun b => (inL 0 6 d).bind (fun a => meanX x b a)))) := by
  refine Met.ofW (cc := cX4_mean) (maxL := 4) (ret := (some .int)) (by decide) rfl ?_
  intro p e s m args below meth c s₁ BB hml hv
  obtain ⟨hargs, hP, hK⟩ := hv
  have hx := BB.exec
  have hb := BB.bytes
  have hr := BB.returns
  have hts : ∀ w ∈ BIG, w.before args s = true := fun w h => atoms_spec (ws := wsX4_mean) BB.pre w (List.mem_cons_of_mem _ h)
  have hown : s.vm.findClass RX4 = some m.cls := findClass_of_methodNamed BB.named
  have hlocks := BB.notSynchronized
  obtain ⟨RR, hRR⟩ : ∃ RR, RR = (headSpec wsX4_mean ⟨2, 0, 0, 52⟩).room := ⟨_, rfl⟩
  have hR1 : RR.frames = 2 := by rw [hRR]; rfl
  have hR2 : RR.locals = 52 := by rw [hRR]; rfl
  have hR3 : RR.cells = 0 := by rw [hRR]; rfl
  have hR4 : RR.slots = 0 := by rw [hRR]; rfl
  have hl := lv_entry ([.ref (xA x 0), .int (k), .int (d)]) (n := 4) (Nat.le_of_ble_eq_true rfl)
  have hent : entryFrame m args 4 = F0 m 0 ((lg_sl ([.ref (xA x 0), .int (k), .int (d)]) ++ List.replicate (4 - (lg_sl ([.ref (xA x 0), .int (k), .int (d)])).length) Slot.unset).toArray) [] := by rw [hargs, lg_entry_eq]
  rw [hent]
  generalize (lg_sl ([.ref (xA x 0), .int (k), .int (d)]) ++ List.replicate (4 - (lg_sl ([.ref (xA x 0), .int (k), .int (d)])).length) Slot.unset).toArray = ls at hl ⊢
  have hl : lv_has ls 4 [(0, .ref (xA x 0)), (1, .int (k)), (2, .int (d))] := hl
  refine q_ab (R := RR) hRR ?_
  generalize hQQ : MQ below _ args s _ _ _ = QQ
  obtain ⟨h8, hB, hW, hq9, he9, hl9⟩ := id hx9
  refine lv_aload_n hx hb dX4_mean_0 rfl (lv_at hl 0 rfl) ?_
  refine lv_iload_n hx hb dX4_mean_1 rfl (lv_at hl 1 rfl) ?_
  cases hbk : binAt (xB x) k with
  | none =>
    refine cR_q (W.runV (As := [.int (k)]) (rest := []) ⟨hx, hb, hml, hown, hts⟩ (k_binOf_n l g x k h8 hbk) (cwV 1 hts (gV w_ml_X4_56 w_im_X4_binOf w_sel_X4_binOf w_ini_X4 w_co_X4_binOf) rfl rfl rfl (by decide +kernel) (by rw [hR1, hR2]; exact ⟨Nat.le_of_ble_eq_true rfl, Nat.le_of_ble_eq_true rfl⟩)) (preV_rd hP hK (va_recv hK.1 hP (ci := 4) (q0 := 0) rfl rfl)) rfl rfl hl.1 rfl (lv_room (Nat.le_of_ble_eq_true rfl)) dX4_mean_2 ⟨by rw [hR3]; omega, by rw [hR4]; omega⟩) ?_
    refine W.eq (g2 := F0 m 5 ls [.null]) rfl ?_
    refine lv_astore_nN (lv' := [(3, .null), (0, .ref (xA x 0)), (1, .int (k)), (2, .int (d))]) hx hb dX4_mean_5 rfl hl (by decide) rfl (fun ls hl => ?_)
    refine lv_aload_nN hx hb dX4_mean_6 rfl (lv_at hl 0 rfl) ?_
    refine lv_ifnullN (tgt := 20) hx hb dX4_mean_7 (by decide) ?_
    refine lv_iconst (v := (-1)) hx hb dX4_mean_20 (by decide) ?_
    subst hQQ
    exact W.iret hx hb hr (fun t9 ht _ => rdI (by rw [hbk]; rfl) ht) (fun q h => absurd h List.not_mem_nil) dX4_mean_21
  | some b =>
    have hbm : b ∈ xB x := by obtain ⟨j, -, -, hj, -⟩ := binAt_s h8 hbk; exact List.mem_of_getElem? hj
    have hBk := hB b hbm
    obtain ⟨⟨hbn, hbp, hbo, hba⟩, hbw, hbg, hbs, hbr, hc1, hc2, hc3, hbam⟩ := id hBk
    have hPb := wX_B hP hbm
    have hPm := va_P.app hPb (va_P.app (wX_C hP) (wX_F hP))
    have hpl2 : ∀ i, i < bN b → bPl b i < 2 ^ 31 := fun i hi => Nat.lt_trans (hbp i hi) (by decide)
    refine cR_q (W.runV (As := [.int (k)]) (rest := []) ⟨hx, hb, hml, hown, hts⟩ (k_binOf_s l g x k b h8 hbk) (cwV 1 hts (gV w_ml_X4_56 w_im_X4_binOf w_sel_X4_binOf w_ini_X4 w_co_X4_binOf) rfl rfl rfl (by decide +kernel) (by rw [hR1, hR2]; exact ⟨Nat.le_of_ble_eq_true rfl, Nat.le_of_ble_eq_true rfl⟩)) (preV_rd hP hK (va_recv hK.1 hP (ci := 4) (q0 := 0) rfl rfl)) rfl rfl hl.1 rfl (lv_room (Nat.le_of_ble_eq_true rfl)) dX4_mean_2 ⟨by rw [hR3]; omega, by rw [hR4]; omega⟩) ?_
    refine W.eq (g2 := F0 m 5 ls [.ref (bA b 0)]) rfl ?_
    refine lv_astore_n (lv' := [(3, .ref (bA b 0)), (0, .ref (xA x 0)), (1, .int (k)), (2, .int (d))]) hx hb dX4_mean_5 rfl hl (by decide) rfl (fun ls hl => ?_)
    refine lv_aload_n hx hb dX4_mean_6 rfl (lv_at hl 0 rfl) ?_
    refine lv_ifnull hx hb dX4_mean_7 ?_
    refine lv_iload_n hx hb dX4_mean_10 rfl (lv_at hl 3 rfl) ?_
    refine lv_iconst (v := nI (0)) hx hb dX4_mean_11 (by decide) ?_
    refine lv_bipush (v := nI (6)) hx hb dX4_mean_12 (by decide) ?_
    refine cR_i (W.runS (As := [.int (d), .int (nI (0)), .int (nI (6))]) (rest := []) ⟨hx, hb, hml, hown, hts⟩ (k_isWithin l g d (nI 0) (nI 6)) (va_cwS 3 hts (gS w_ml_X4_49 w_sm_X4_isWithin w_ini_X4 w_co_X4_isWithin) rfl rfl rfl (by decide +kernel) (by rw [hR1, hR2]; exact ⟨Nat.le_of_ble_eq_true rfl, Nat.le_of_ble_eq_true rfl⟩)) (preS_rd va_P.nil hK) rfl rfl hl.1 rfl (lv_room (Nat.le_of_ble_eq_true rfl)) dX4_mean_14 ⟨by rw [hR3]; omega, by rw [hR4]; omega⟩) ?_
    refine bb_ne (tgt := 22) hx hb dX4_mean_17 (by decide) (fun hhc => ?_) (fun hhc => ?_)
    · cases hh : inL 0 6 d with
      | none => exact absurd hhc (by rw [inL_n hh]; decide)
      | some a =>
        obtain ⟨hhl, hhn, hhe, -⟩ := inL_s (by decide) (by decide) hh
        subst hhe
        refine lv_aload_n hx hb dX4_mean_22 rfl (lv_at hl 0 rfl) ?_
        refine lv_iload_n hx hb dX4_mean_23 rfl (lv_at hl 3 rfl) ?_
        refine lv_aload_n hx hb dX4_mean_24 rfl (lv_at hl 1 rfl) ?_
        refine va_get (D := g.1) (ci := 4) (v := .ref (xC x 0)) (C := RX4) (T := TX4) (N := 8) hx hb hts hiX4 hown hK.1 hP 0 rfl rfl 0 (by decide) (hts _ w_fl_X4_10) (fun _ h9 => h9) rfl dX4_mean_25 ?_
        refine lv_aload_n hx hb dX4_mean_28 rfl (lv_at hl 1 rfl) ?_
        refine va_get (D := g.1) (ci := 4) (v := .ref (xF x 0)) (C := RX4) (T := TX4) (N := 8) hx hb hts hiX4 hown hK.1 hP 0 rfl rfl 1 (by decide) (hts _ w_fl_X4_19) (fun _ h9 => h9) rfl dX4_mean_29 ?_
        refine cR_i (W.runV (As := [.int (nI (a)), .ref (xC x 0), .ref (xF x 0)]) (rest := []) ⟨hx, hb, hml, hown, hts⟩ (k_meanOn l g b (xC x) (xF x) (xH x) (xW x) a (by omega) hbn hbp hBk.gain hW) (cwV 3 hts (gV w_ml_X4_82 w_im_X0_meanOn w_sel_X0_meanOn w_ini_X0 w_co_X0_meanOn) rfl rfl rfl (by decide +kernel) (by rw [hR1, hR2]; exact ⟨Nat.le_of_ble_eq_true rfl, Nat.le_of_ble_eq_true rfl⟩)) (preV_rd hPm hK (va_recv hK.1 hPm (ci := 0) (q0 := 0) rfl rfl)) rfl rfl hl.1 rfl (lv_room (Nat.le_of_ble_eq_true rfl)) dX4_mean_32 ⟨by rw [hR3]; omega, by rw [hR4]; omega⟩) ?_
        subst hQQ
        exact W.iret hx hb hr (fun t9 ht _ => rdI (by rw [hbk]; show _ = gI ((inL 0 6 (nI a)).bind _); rw [hh]; rfl) ht) (fun q h => absurd h List.not_mem_nil) dX4_mean_35
    · cases hh : inL 0 6 d with
      | none =>
        refine lv_iconst (v := (-1)) hx hb dX4_mean_20 (by decide) ?_
        subst hQQ
        exact W.iret hx hb hr (fun t9 ht _ => rdI (by rw [hbk]; show _ = gI ((inL 0 6 d).bind _); rw [hh]; rfl) ht) (fun q h => absurd h List.not_mem_nil) dX4_mean_21
      | some a => exact absurd hhc (by rw [(inL_s (by decide) (by decide) hh).2.2.2]; decide)

set_option maxHeartbeats 4000000 in
set_option maxRecDepth 100000 in
theorem k_rate (l : Launch) (g : GG) (x : FT) (hx9 : Xok x) (k d : Int32) : Rd l yX4_rate wsX4_rate 4 102 [.ref (xA x 0), .int (k), .int (d)] g (wX g x) (gI ((binAt (xB x) k).bind (fun b => (inL 0 416 d).map (fun a => rateV x b (wdy (xH x) a))))) := by
  refine Met.ofW (cc := cX4_rate) (maxL := 4) (ret := (some .int)) (by decide) rfl ?_
  intro p e s m args below meth c s₁ BB hml hv
  obtain ⟨hargs, hP, hK⟩ := hv
  have hx := BB.exec
  have hb := BB.bytes
  have hr := BB.returns
  have hts : ∀ w ∈ BIG, w.before args s = true := fun w h => atoms_spec (ws := wsX4_rate) BB.pre w (List.mem_cons_of_mem _ h)
  have hown : s.vm.findClass RX4 = some m.cls := findClass_of_methodNamed BB.named
  have hlocks := BB.notSynchronized
  obtain ⟨RR, hRR⟩ : ∃ RR, RR = (headSpec wsX4_rate ⟨4, 0, 0, 102⟩).room := ⟨_, rfl⟩
  have hR1 : RR.frames = 4 := by rw [hRR]; rfl
  have hR2 : RR.locals = 102 := by rw [hRR]; rfl
  have hR3 : RR.cells = 0 := by rw [hRR]; rfl
  have hR4 : RR.slots = 0 := by rw [hRR]; rfl
  have hl := lv_entry ([.ref (xA x 0), .int (k), .int (d)]) (n := 4) (Nat.le_of_ble_eq_true rfl)
  have hent : entryFrame m args 4 = F0 m 0 ((lg_sl ([.ref (xA x 0), .int (k), .int (d)]) ++ List.replicate (4 - (lg_sl ([.ref (xA x 0), .int (k), .int (d)])).length) Slot.unset).toArray) [] := by rw [hargs, lg_entry_eq]
  rw [hent]
  generalize (lg_sl ([.ref (xA x 0), .int (k), .int (d)]) ++ List.replicate (4 - (lg_sl ([.ref (xA x 0), .int (k), .int (d)])).length) Slot.unset).toArray = ls at hl ⊢
  have hl : lv_has ls 4 [(0, .ref (xA x 0)), (1, .int (k)), (2, .int (d))] := hl
  refine q_ab (R := RR) hRR ?_
  generalize hQQ : MQ below _ args s _ _ _ = QQ
  obtain ⟨h8, hB, hW, hq9, he9, hl9⟩ := id hx9
  refine lv_aload_n hx hb dX4_rate_0 rfl (lv_at hl 0 rfl) ?_
  refine lv_iload_n hx hb dX4_rate_1 rfl (lv_at hl 1 rfl) ?_
  cases hbk : binAt (xB x) k with
  | none =>
    refine cR_q (W.runV (As := [.int (k)]) (rest := []) ⟨hx, hb, hml, hown, hts⟩ (k_binOf_n l g x k h8 hbk) (cwV 1 hts (gV w_ml_X4_56 w_im_X4_binOf w_sel_X4_binOf w_ini_X4 w_co_X4_binOf) rfl rfl rfl (by decide +kernel) (by rw [hR1, hR2]; exact ⟨Nat.le_of_ble_eq_true rfl, Nat.le_of_ble_eq_true rfl⟩)) (preV_rd hP hK (va_recv hK.1 hP (ci := 4) (q0 := 0) rfl rfl)) rfl rfl hl.1 rfl (lv_room (Nat.le_of_ble_eq_true rfl)) dX4_rate_2 ⟨by rw [hR3]; omega, by rw [hR4]; omega⟩) ?_
    refine W.eq (g2 := F0 m 5 ls [.null]) rfl ?_
    refine lv_astore_nN (lv' := [(3, .null), (0, .ref (xA x 0)), (1, .int (k)), (2, .int (d))]) hx hb dX4_rate_5 rfl hl (by decide) rfl (fun ls hl => ?_)
    refine lv_aload_nN hx hb dX4_rate_6 rfl (lv_at hl 0 rfl) ?_
    refine lv_ifnullN (tgt := 17) hx hb dX4_rate_7 (by decide) ?_
    refine lv_iconst (v := (-1)) hx hb dX4_rate_17 (by decide) ?_
    subst hQQ
    exact W.iret hx hb hr (fun t9 ht _ => rdI (by rw [hbk]; rfl) ht) (fun q h => absurd h List.not_mem_nil) dX4_rate_18
  | some b =>
    have hbm : b ∈ xB x := by obtain ⟨j, -, -, hj, -⟩ := binAt_s h8 hbk; exact List.mem_of_getElem? hj
    have hBk := hB b hbm
    obtain ⟨⟨hbn, hbp, hbo, hba⟩, hbw, hbg, hbs, hbr, hc1, hc2, hc3, hbam⟩ := id hBk
    have hPb := wX_B hP hbm
    have hPm := va_P.app hPb (va_P.app (wX_C hP) (wX_F hP))
    have hpl2 : ∀ i, i < bN b → bPl b i < 2 ^ 31 := fun i hi => Nat.lt_trans (hbp i hi) (by decide)
    refine cR_q (W.runV (As := [.int (k)]) (rest := []) ⟨hx, hb, hml, hown, hts⟩ (k_binOf_s l g x k b h8 hbk) (cwV 1 hts (gV w_ml_X4_56 w_im_X4_binOf w_sel_X4_binOf w_ini_X4 w_co_X4_binOf) rfl rfl rfl (by decide +kernel) (by rw [hR1, hR2]; exact ⟨Nat.le_of_ble_eq_true rfl, Nat.le_of_ble_eq_true rfl⟩)) (preV_rd hP hK (va_recv hK.1 hP (ci := 4) (q0 := 0) rfl rfl)) rfl rfl hl.1 rfl (lv_room (Nat.le_of_ble_eq_true rfl)) dX4_rate_2 ⟨by rw [hR3]; omega, by rw [hR4]; omega⟩) ?_
    refine W.eq (g2 := F0 m 5 ls [.ref (bA b 0)]) rfl ?_
    refine lv_astore_n (lv' := [(3, .ref (bA b 0)), (0, .ref (xA x 0)), (1, .int (k)), (2, .int (d))]) hx hb dX4_rate_5 rfl hl (by decide) rfl (fun ls hl => ?_)
    refine lv_aload_n hx hb dX4_rate_6 rfl (lv_at hl 0 rfl) ?_
    refine lv_ifnull hx hb dX4_rate_7 ?_
    refine lv_iload_n hx hb dX4_rate_10 rfl (lv_at hl 3 rfl) ?_
    refine cR_i (W.runS (As := [.int (d)]) (rest := []) ⟨hx, hb, hml, hown, hts⟩ (k_isDay l g d) (va_cwS 1 hts (gS w_ml_X4_75 w_sm_X4_isDay w_ini_X4 w_co_X4_isDay) rfl rfl rfl (by decide +kernel) (by rw [hR1, hR2]; exact ⟨Nat.le_of_ble_eq_true rfl, Nat.le_of_ble_eq_true rfl⟩)) (preS_rd va_P.nil hK) rfl rfl hl.1 rfl (lv_room (Nat.le_of_ble_eq_true rfl)) dX4_rate_11 ⟨by rw [hR3]; omega, by rw [hR4]; omega⟩) ?_
    refine bb_ne (tgt := 19) hx hb dX4_rate_14 (by decide) (fun hhc => ?_) (fun hhc => ?_)
    · cases hh : inL 0 416 d with
      | none => exact absurd hhc (by rw [inL_n hh]; decide)
      | some a =>
        obtain ⟨hhl, hhn, hhe, -⟩ := inL_s (by decide) (by decide) hh
        subst hhe
        refine lv_aload_n hx hb dX4_rate_19 rfl (lv_at hl 1 rfl) ?_
        refine lv_aload_n hx hb dX4_rate_20 rfl (lv_at hl 0 rfl) ?_
        refine lv_aload_n hx hb dX4_rate_21 rfl (lv_at hl 1 rfl) ?_
        refine va_get (D := g.1) (ci := 4) (v := .ref (xC x 0)) (C := RX4) (T := TX4) (N := 8) hx hb hts hiX4 hown hK.1 hP 0 rfl rfl 0 (by decide) (hts _ w_fl_X4_10) (fun _ h9 => h9) rfl dX4_rate_22 ?_
        refine lv_iload_n hx hb dX4_rate_25 rfl (lv_at hl 3 rfl) ?_
        refine cR_i (W.runV (As := [.int (nI (a))]) (rest := [.ref (bA b 0), .ref (xA x 0)]) ⟨hx, hb, hml, hown, hts⟩ (k_weekdayOf l g (xC x) (xH x) a (by omega)) (cwV 1 hts (gV w_ml_X4_86 w_im_X1_weekdayOf w_sel_X1_weekdayOf w_ini_X1 w_co_X1_weekdayOf) rfl rfl rfl (by decide +kernel) (by rw [hR1, hR2]; exact ⟨Nat.le_of_ble_eq_true rfl, Nat.le_of_ble_eq_true rfl⟩)) (preV_rd (wX_C hP) hK (va_recv hK.1 (wX_C hP) (ci := 1) (q0 := 0) rfl rfl)) rfl rfl hl.1 rfl (lv_room (Nat.le_of_ble_eq_true rfl)) dX4_rate_26 ⟨by rw [hR3]; omega, by rw [hR4]; omega⟩) ?_
        refine cR_i (W.runV (As := [.ref (bA b 0), .int (nI (wdy (xH x) a))]) (rest := []) ⟨hx, hb, hml, hown, hts⟩ (k_rateOn l g x b (wdy (xH x) a) hx9 hbm wdy_lt) (cwV 2 hts (gV w_ml_X4_90 w_im_X4_rateOn w_sel_X4_rateOn w_ini_X4 w_co_X4_rateOn) rfl rfl rfl (by decide +kernel) (by rw [hR1, hR2]; exact ⟨Nat.le_of_ble_eq_true rfl, Nat.le_of_ble_eq_true rfl⟩)) (preV_rd hP hK (va_recv hK.1 hP (ci := 4) (q0 := 0) rfl rfl)) rfl rfl hl.1 rfl (lv_room (Nat.le_of_ble_eq_true rfl)) dX4_rate_29 ⟨by rw [hR3]; omega, by rw [hR4]; omega⟩) ?_
        subst hQQ
        exact W.iret hx hb hr (fun t9 ht _ => rdI (by rw [hbk]; show _ = gI ((inL 0 416 (nI a)).map _); rw [hh]; rfl) ht) (fun q h => absurd h List.not_mem_nil) dX4_rate_32
    · cases hh : inL 0 416 d with
      | none =>
        refine lv_iconst (v := (-1)) hx hb dX4_rate_17 (by decide) ?_
        subst hQQ
        exact W.iret hx hb hr (fun t9 ht _ => rdI (by rw [hbk]; show _ = gI ((inL 0 416 d).map _); rw [hh]; rfl) ht) (fun q h => absurd h List.not_mem_nil) dX4_rate_18
      | some a => exact absurd hhc (by rw [(inL_s (by decide) (by decide) hh).2.2.2]; decide)

set_option maxHeartbeats 4000000 in
set_option maxRecDepth 100000 in
theorem k_wrong (l : Launch) (g : GG) (x : FT) (hx9 : Xok x) (k d : Int32) : Rd l yX4_wrong wsX4_wrong 2 44 [.ref (xA x 0), .int (k), .int (d)] g (wX g x) (gI ((binAt (xB x) k).bind (fun b => (kth (bWr b) d (bN b) 0 0).map (hrB b)))) := by
  refine Met.ofW (cc := cX4_wrong) (maxL := 4) (ret := (some .int)) (by decide) rfl ?_
  intro p e s m args below meth c s₁ BB hml hv
  obtain ⟨hargs, hP, hK⟩ := hv
  have hx := BB.exec
  have hb := BB.bytes
  have hr := BB.returns
  have hts : ∀ w ∈ BIG, w.before args s = true := fun w h => atoms_spec (ws := wsX4_wrong) BB.pre w (List.mem_cons_of_mem _ h)
  have hown : s.vm.findClass RX4 = some m.cls := findClass_of_methodNamed BB.named
  have hlocks := BB.notSynchronized
  obtain ⟨RR, hRR⟩ : ∃ RR, RR = (headSpec wsX4_wrong ⟨2, 0, 0, 44⟩).room := ⟨_, rfl⟩
  have hR1 : RR.frames = 2 := by rw [hRR]; rfl
  have hR2 : RR.locals = 44 := by rw [hRR]; rfl
  have hR3 : RR.cells = 0 := by rw [hRR]; rfl
  have hR4 : RR.slots = 0 := by rw [hRR]; rfl
  have hl := lv_entry ([.ref (xA x 0), .int (k), .int (d)]) (n := 4) (Nat.le_of_ble_eq_true rfl)
  have hent : entryFrame m args 4 = F0 m 0 ((lg_sl ([.ref (xA x 0), .int (k), .int (d)]) ++ List.replicate (4 - (lg_sl ([.ref (xA x 0), .int (k), .int (d)])).length) Slot.unset).toArray) [] := by rw [hargs, lg_entry_eq]
  rw [hent]
  generalize (lg_sl ([.ref (xA x 0), .int (k), .int (d)]) ++ List.replicate (4 - (lg_sl ([.ref (xA x 0), .int (k), .int (d)])).length) Slot.unset).toArray = ls at hl ⊢
  have hl : lv_has ls 4 [(0, .ref (xA x 0)), (1, .int (k)), (2, .int (d))] := hl
  refine q_ab (R := RR) hRR ?_
  generalize hQQ : MQ below _ args s _ _ _ = QQ
  obtain ⟨h8, hB, hW, hq9, he9, hl9⟩ := id hx9
  refine lv_aload_n hx hb dX4_wrong_0 rfl (lv_at hl 0 rfl) ?_
  refine lv_iload_n hx hb dX4_wrong_1 rfl (lv_at hl 1 rfl) ?_
  cases hbk : binAt (xB x) k with
  | none =>
    refine cR_q (W.runV (As := [.int (k)]) (rest := []) ⟨hx, hb, hml, hown, hts⟩ (k_binOf_n l g x k h8 hbk) (cwV 1 hts (gV w_ml_X4_56 w_im_X4_binOf w_sel_X4_binOf w_ini_X4 w_co_X4_binOf) rfl rfl rfl (by decide +kernel) (by rw [hR1, hR2]; exact ⟨Nat.le_of_ble_eq_true rfl, Nat.le_of_ble_eq_true rfl⟩)) (preV_rd hP hK (va_recv hK.1 hP (ci := 4) (q0 := 0) rfl rfl)) rfl rfl hl.1 rfl (lv_room (Nat.le_of_ble_eq_true rfl)) dX4_wrong_2 ⟨by rw [hR3]; omega, by rw [hR4]; omega⟩) ?_
    refine W.eq (g2 := F0 m 5 ls [.null]) rfl ?_
    refine lv_astore_nN (lv' := [(3, .null), (0, .ref (xA x 0)), (1, .int (k)), (2, .int (d))]) hx hb dX4_wrong_5 rfl hl (by decide) rfl (fun ls hl => ?_)
    refine lv_aload_nN hx hb dX4_wrong_6 rfl (lv_at hl 0 rfl) ?_
    refine lv_ifnonnullN hx hb dX4_wrong_7 ?_
    refine lv_iconst (v := (-1)) hx hb dX4_wrong_10 (by decide) ?_
    refine lv_goto (tgt := 19) hx hb dX4_wrong_11 (by decide) ?_
    subst hQQ
    exact W.iret hx hb hr (fun t9 ht _ => rdI (by rw [hbk]; rfl) ht) (fun q h => absurd h List.not_mem_nil) dX4_wrong_19
  | some b =>
    have hbm : b ∈ xB x := by obtain ⟨j, -, -, hj, -⟩ := binAt_s h8 hbk; exact List.mem_of_getElem? hj
    have hBk := hB b hbm
    obtain ⟨⟨hbn, hbp, hbo, hba⟩, hbw, hbg, hbs, hbr, hc1, hc2, hc3, hbam⟩ := id hBk
    have hPb := wX_B hP hbm
    have hPm := va_P.app hPb (va_P.app (wX_C hP) (wX_F hP))
    have hpl2 : ∀ i, i < bN b → bPl b i < 2 ^ 31 := fun i hi => Nat.lt_trans (hbp i hi) (by decide)
    refine cR_q (W.runV (As := [.int (k)]) (rest := []) ⟨hx, hb, hml, hown, hts⟩ (k_binOf_s l g x k b h8 hbk) (cwV 1 hts (gV w_ml_X4_56 w_im_X4_binOf w_sel_X4_binOf w_ini_X4 w_co_X4_binOf) rfl rfl rfl (by decide +kernel) (by rw [hR1, hR2]; exact ⟨Nat.le_of_ble_eq_true rfl, Nat.le_of_ble_eq_true rfl⟩)) (preV_rd hP hK (va_recv hK.1 hP (ci := 4) (q0 := 0) rfl rfl)) rfl rfl hl.1 rfl (lv_room (Nat.le_of_ble_eq_true rfl)) dX4_wrong_2 ⟨by rw [hR3]; omega, by rw [hR4]; omega⟩) ?_
    refine W.eq (g2 := F0 m 5 ls [.ref (bA b 0)]) rfl ?_
    refine lv_astore_n (lv' := [(3, .ref (bA b 0)), (0, .ref (xA x 0)), (1, .int (k)), (2, .int (d))]) hx hb dX4_wrong_5 rfl hl (by decide) rfl (fun ls hl => ?_)
    refine lv_aload_n hx hb dX4_wrong_6 rfl (lv_at hl 0 rfl) ?_
    refine lv_ifnonnull (tgt := 14) hx hb dX4_wrong_7 (by decide) ?_
    refine lv_aload_n hx hb dX4_wrong_14 rfl (lv_at hl 0 rfl) ?_
    refine lv_iload_n hx hb dX4_wrong_15 rfl (lv_at hl 3 rfl) ?_
    refine cR_i (W.runV (As := [.int (d)]) (rest := []) ⟨hx, hb, hml, hown, hts⟩ (k_hourOfWrong l g b d hbn hpl2) (cwV 1 hts (gV w_ml_X4_107 w_im_X0_hourOfWrong w_sel_X0_hourOfWrong w_ini_X0 w_co_X0_hourOfWrong) rfl rfl rfl (by decide +kernel) (by rw [hR1, hR2]; exact ⟨Nat.le_of_ble_eq_true rfl, Nat.le_of_ble_eq_true rfl⟩)) (preV_rd hPb hK (va_recv hK.1 hPb (ci := 0) (q0 := 0) rfl rfl)) rfl rfl hl.1 rfl (lv_room (Nat.le_of_ble_eq_true rfl)) dX4_wrong_16 ⟨by rw [hR3]; omega, by rw [hR4]; omega⟩) ?_
    subst hQQ
    exact W.iret hx hb hr (fun t9 ht _ => rdI (by rw [hbk]; rfl) ht) (fun q h => absurd h List.not_mem_nil) dX4_wrong_19

