set_option maxHeartbeats 4000000 in
set_option maxRecDepth 100000 in
theorem m_expected (l : Launch) (g : GG) (ma : Nat → Nat) (P : PT) (S : ST) (x : FT) (hx9 : Xok x) (hRl : Rel x P) (hs0 : sM S 0 = 0) (k t : Int32) (sz : Nat) : El l yX5_expected wsX5_expected 5 125 0 0 [.ref (ma 0), .int (k), .int (t)] g (wM g ma P S) sz ma P (lE (expO x k t)) (fun u => sM u 0 = 0) := by
  refine Met.ofW (cc := cX5_expected) (maxL := 3) (ret := (some .long)) (by decide) rfl ?_
  intro p e s m args below meth c s₁ BB hml hv
  obtain ⟨hargs, hsz, hP, hK, hD0⟩ := hv
  have hx := BB.exec
  have hb := BB.bytes
  have hr := BB.returns
  have hts : ∀ w ∈ BIG, w.before args s = true := fun w h => atoms_spec (ws := wsX5_expected) BB.pre w (List.mem_cons_of_mem _ h)
  have hown : s.vm.findClass RX5 = some m.cls := findClass_of_methodNamed BB.named
  have hlocks := BB.notSynchronized
  obtain ⟨RR, hRR⟩ : ∃ RR, RR = (headSpec wsX5_expected ⟨5, 0, 0, 125⟩).room := ⟨_, rfl⟩
  have hR1 : RR.frames = 5 := by rw [hRR]; rfl
  have hR2 : RR.locals = 125 := by rw [hRR]; rfl
  have hR3 : RR.cells = 0 := by rw [hRR]; rfl
  have hR4 : RR.slots = 0 := by rw [hRR]; rfl
  have hl := lv_entry ([.ref (ma 0), .int (k), .int (t)]) (n := 3) (Nat.le_of_ble_eq_true rfl)
  have hent : entryFrame m args 3 = F0 m 0 ((lg_sl ([.ref (ma 0), .int (k), .int (t)]) ++ List.replicate (3 - (lg_sl ([.ref (ma 0), .int (k), .int (t)])).length) Slot.unset).toArray) [] := by rw [hargs, lg_entry_eq]
  rw [hent]
  generalize (lg_sl ([.ref (ma 0), .int (k), .int (t)]) ++ List.replicate (3 - (lg_sl ([.ref (ma 0), .int (k), .int (t)])).length) Slot.unset).toArray = ls at hl ⊢
  have hl : lv_has ls 3 [(0, .ref (ma 0)), (1, .int (k)), (2, .int (t))] := hl
  subst hsz
  have hD := hD0.self (sz := s.heap.size)
  generalize hAe : va_A (wM g ma P S) s.heap.size = A at hD ⊢
  have hA : ∀ q : Nat, s.heap.size ≤ q → A q := fun q h => by rw [← hAe]; exact Or.inr h
  have hS : va_S A s.heap s.heap [] := va_S.rf
  refine q_ab (R := RR) hRR ?_
  generalize hQQ : MQ below _ args s _ _ _ = QQ
  have h8 := hx9.1
  have hpB := hRl.1
  refine lv_aload_n hx hb dX5_expected_0 rfl (lv_at hl 0 rfl) ?_
  refine lv_iload_n hx hb dX5_expected_1 rfl (lv_at hl 1 rfl) ?_
  cases hbk : binAt (xB x) k with
  | none =>
    refine cR_i (W.runV (As := [.int (k)]) (rest := []) ⟨hx, hb, hml, hown, hts⟩ (m_isBin_n l g ma P S x k hpB h8 hbk) (cwV 1 hts (gV w_ml_X5_83 w_im_X5_isBin w_sel_X5_isBin w_ini_X5 w_co_X5_isBin) rfl rfl rfl (by decide +kernel) (by rw [hR1, hR2]; exact ⟨Nat.le_of_ble_eq_true rfl, Nat.le_of_ble_eq_true rfl⟩)) (preV_rd hP hK (va_recv hK.1 hP (ci := 5) (q0 := 0) rfl rfl)) rfl rfl hl.1 rfl (lv_room (Nat.le_of_ble_eq_true rfl)) dX5_expected_2 ⟨by rw [hR3]; omega, by rw [hR4]; omega⟩) ?_
    refine bb_eq (tgt := 15) hx hb dX5_expected_5 (by decide) (fun cb => ?_) (fun cb => ?_)
    · refine lv_ldc2 (v := (-1)) hx hb hown (hts _ w_ct_X5_121) dX5_expected_15 ?_
      subst hQQ
      exact W.lret hx hb hr (fun t9 ht _ => ⟨⟨_, S, rfl, ⟨by rw [expO, hbk]; rfl, hs0⟩, hpT ht hP⟩, hS.F ht⟩) hS.2.2 dX5_expected_18
    · exact absurd cb (by decide)
  | some b =>
    obtain ⟨j, hjl, ek, hbj, -⟩ := binAt_s h8 hbk
    subst ek
    have hbm := List.mem_of_getElem? hbj
    have hBk := hx9.2.1 b hbm
    have hR := hRl.2.1 j b hbj
    obtain ⟨⟨hbn, hbp, hbo, hba⟩, hbw, hbg, hbs, hbr, hc1, hc2, hc3, hbam⟩ := id hBk
    refine cR_i (W.runV (As := [.int (nI (j))]) (rest := []) ⟨hx, hb, hml, hown, hts⟩ (m_isBin_s l g ma P S j (by omega) (by omega)) (cwV 1 hts (gV w_ml_X5_83 w_im_X5_isBin w_sel_X5_isBin w_ini_X5 w_co_X5_isBin) rfl rfl rfl (by decide +kernel) (by rw [hR1, hR2]; exact ⟨Nat.le_of_ble_eq_true rfl, Nat.le_of_ble_eq_true rfl⟩)) (preV_rd hP hK (va_recv hK.1 hP (ci := 5) (q0 := 0) rfl rfl)) rfl rfl hl.1 rfl (lv_room (Nat.le_of_ble_eq_true rfl)) dX5_expected_2 ⟨by rw [hR3]; omega, by rw [hR4]; omega⟩) ?_
    refine bb_eq (tgt := 15) hx hb dX5_expected_5 (by decide) (fun cb => ?_) (fun cb => ?_)
    · exact absurd cb (by decide)
    · refine lv_iload_n hx hb dX5_expected_8 rfl (lv_at hl 2 rfl) ?_
      refine cR_i (W.runS (As := [.int (t)]) (rest := []) ⟨hx, hb, hml, hown, hts⟩ (m_isHour l g t) (va_cwS 1 hts (gS w_ml_X5_87 w_sm_X5_isHour w_ini_X5 w_co_X5_isHour) rfl rfl rfl (by decide +kernel) (by rw [hR1, hR2]; exact ⟨Nat.le_of_ble_eq_true rfl, Nat.le_of_ble_eq_true rfl⟩)) (preS_rd va_P.nil hK) rfl rfl hl.1 rfl (lv_room (Nat.le_of_ble_eq_true rfl)) dX5_expected_9 ⟨by rw [hR3]; omega, by rw [hR4]; omega⟩) ?_
      refine bb_ne (tgt := 19) hx hb dX5_expected_12 (by decide) (fun hhc => ?_) (fun hhc => ?_)
      · cases hh : inL 0 9999 t with
        | none => exact absurd hhc (by rw [inL_n hh]; decide)
        | some h =>
          obtain ⟨hhl, hhn, hhe, -⟩ := inL_s (by decide) (by decide) hh
          subst hhe
          refine lv_aload_n hx hb dX5_expected_19 rfl (lv_at hl 0 rfl) ?_
          refine lv_iload_n hx hb dX5_expected_20 rfl (lv_at hl 1 rfl) ?_
          refine cE_v (wc := wM g ma P S) (w1 := fun u => wM g ma (P) u) (va_runV (As := [.int (nI (j))]) (rest := []) ⟨hx, hb, hml, hown, hts⟩ (m_prepare l g ma P S x hx9 hRl j b hbj hs0 _) (cwV 1 hts (gV w_ml_X5_123 w_im_X5_prepare w_sel_X5_prepare w_ini_X5 w_co_X5_prepare) rfl rfl rfl (by decide +kernel) (by rw [hR1, hR2]; exact ⟨Nat.le_of_ble_eq_true rfl, Nat.le_of_ble_eq_true rfl⟩)) (preV_wr hP hK hD (va_recv hK.1 hP (ci := 5) (q0 := 0) rfl rfl)) rfl rfl hl.1 rfl (lv_room (Nat.le_of_ble_eq_true rfl)) dX5_expected_21 ⟨by rw [hR3]; omega, by rw [hR4]; omega⟩) hP hD hS hA (fun _ => rfl) (fun T H locs hT hP hD hS => ?_)
          obtain ⟨hLy, hTM⟩ := hT
          have hN := hLy.1
          have hT0 : sM T 0 = 0 := by rw [hTM 0 (by omega)]; rfl
          refine lv_aload_n hx hb dX5_expected_24 rfl (lv_at hl 0 rfl) ?_
          refine lv_aload_n hx hb dX5_expected_25 rfl (lv_at hl 0 rfl) ?_
          refine va_get (D := g.1) (ci := 5) (v := .int (nI (sN T))) (C := RX5) (T := TX5) (N := 23) hx hb hts hiX5 hown hK.1 hP 0 rfl rfl 15 (by decide) (hts _ w_fl_X5_94) (fun _ h9 => h9) rfl dX5_expected_26 ?_
          refine tp_i (y := nI (bN b)) (by rw [hN]) ?_
          refine lv_iload_n hx hb dX5_expected_29 rfl (lv_at hl 2 rfl) ?_
          refine cR_l (W.runV (As := [.int (nI (bN b)), .int (nI (h))]) (rest := []) ⟨hx, hb, hml, hown, hts⟩ (m_expectedBy l g ma P T x hx9 b hbm hLy hTM (bN b) h (Nat.le_refl _) (by omega)) (cwV 2 hts (gV w_ml_X5_126 w_im_X5_expectedBy w_sel_X5_expectedBy w_ini_X5 w_co_X5_expectedBy) rfl rfl rfl (by decide +kernel) (by rw [hR1, hR2]; exact ⟨Nat.le_of_ble_eq_true rfl, Nat.le_of_ble_eq_true rfl⟩)) (preV_rd hP hK (va_recv hK.1 hP (ci := 5) (q0 := 0) rfl rfl)) rfl rfl hl.1 rfl (lv_room (Nat.le_of_ble_eq_true rfl)) dX5_expected_30 ⟨by rw [hR3]; omega, by rw [hR4]; omega⟩) ?_
          subst hQQ
          exact W.lret hx hb hr (fun t9 ht _ => ⟨⟨_, T, rfl, ⟨by rw [exY_A (by omega), expO, hbk]; show _ = lE ((inL 0 9999 (nI h)).map _); rw [hh]; rfl, hT0⟩, hpT ht hP⟩, hS.F ht⟩) hS.2.2 dX5_expected_33
      · cases hh : inL 0 9999 t with
        | none =>
          refine lv_ldc2 (v := (-1)) hx hb hown (hts _ w_ct_X5_121) dX5_expected_15 ?_
          subst hQQ
          exact W.lret hx hb hr (fun t9 ht _ => ⟨⟨_, S, rfl, ⟨by rw [expO, hbk]; show _ = lE ((inL 0 9999 t).map _); rw [hh]; rfl, hs0⟩, hpT ht hP⟩, hS.F ht⟩) hS.2.2 dX5_expected_18
        | some h => exact absurd hhc (by rw [(inL_s (by decide) (by decide) hh).2.2.2]; decide)

set_option maxHeartbeats 4000000 in
set_option maxRecDepth 100000 in
theorem m_costOf (l : Launch) (g : GG) (ma : Nat → Nat) (P : PT) (S : ST) (x : FT) (hx9 : Xok x) (hRl : Rel x P) (hs0 : sM S 0 = 0) (k t : Int32) (sz : Nat) : El l yX5_costOf wsX5_costOf 5 125 0 0 [.ref (ma 0), .int (k), .int (t)] g (wM g ma P S) sz ma P (lE (cosO x k t)) (fun u => sM u 0 = 0) := by
  refine Met.ofW (cc := cX5_costOf) (maxL := 3) (ret := (some .long)) (by decide) rfl ?_
  intro p e s m args below meth c s₁ BB hml hv
  obtain ⟨hargs, hsz, hP, hK, hD0⟩ := hv
  have hx := BB.exec
  have hb := BB.bytes
  have hr := BB.returns
  have hts : ∀ w ∈ BIG, w.before args s = true := fun w h => atoms_spec (ws := wsX5_costOf) BB.pre w (List.mem_cons_of_mem _ h)
  have hown : s.vm.findClass RX5 = some m.cls := findClass_of_methodNamed BB.named
  have hlocks := BB.notSynchronized
  obtain ⟨RR, hRR⟩ : ∃ RR, RR = (headSpec wsX5_costOf ⟨5, 0, 0, 125⟩).room := ⟨_, rfl⟩
  have hR1 : RR.frames = 5 := by rw [hRR]; rfl
  have hR2 : RR.locals = 125 := by rw [hRR]; rfl
  have hR3 : RR.cells = 0 := by rw [hRR]; rfl
  have hR4 : RR.slots = 0 := by rw [hRR]; rfl
  have hl := lv_entry ([.ref (ma 0), .int (k), .int (t)]) (n := 3) (Nat.le_of_ble_eq_true rfl)
  have hent : entryFrame m args 3 = F0 m 0 ((lg_sl ([.ref (ma 0), .int (k), .int (t)]) ++ List.replicate (3 - (lg_sl ([.ref (ma 0), .int (k), .int (t)])).length) Slot.unset).toArray) [] := by rw [hargs, lg_entry_eq]
  rw [hent]
  generalize (lg_sl ([.ref (ma 0), .int (k), .int (t)]) ++ List.replicate (3 - (lg_sl ([.ref (ma 0), .int (k), .int (t)])).length) Slot.unset).toArray = ls at hl ⊢
  have hl : lv_has ls 3 [(0, .ref (ma 0)), (1, .int (k)), (2, .int (t))] := hl
  subst hsz
  have hD := hD0.self (sz := s.heap.size)
  generalize hAe : va_A (wM g ma P S) s.heap.size = A at hD ⊢
  have hA : ∀ q : Nat, s.heap.size ≤ q → A q := fun q h => by rw [← hAe]; exact Or.inr h
  have hS : va_S A s.heap s.heap [] := va_S.rf
  refine q_ab (R := RR) hRR ?_
  generalize hQQ : MQ below _ args s _ _ _ = QQ
  have h8 := hx9.1
  have hpB := hRl.1
  refine lv_aload_n hx hb dX5_costOf_0 rfl (lv_at hl 0 rfl) ?_
  refine lv_iload_n hx hb dX5_costOf_1 rfl (lv_at hl 1 rfl) ?_
  cases hbk : binAt (xB x) k with
  | none =>
    refine cR_i (W.runV (As := [.int (k)]) (rest := []) ⟨hx, hb, hml, hown, hts⟩ (m_isBin_n l g ma P S x k hpB h8 hbk) (cwV 1 hts (gV w_ml_X5_83 w_im_X5_isBin w_sel_X5_isBin w_ini_X5 w_co_X5_isBin) rfl rfl rfl (by decide +kernel) (by rw [hR1, hR2]; exact ⟨Nat.le_of_ble_eq_true rfl, Nat.le_of_ble_eq_true rfl⟩)) (preV_rd hP hK (va_recv hK.1 hP (ci := 5) (q0 := 0) rfl rfl)) rfl rfl hl.1 rfl (lv_room (Nat.le_of_ble_eq_true rfl)) dX5_costOf_2 ⟨by rw [hR3]; omega, by rw [hR4]; omega⟩) ?_
    refine bb_eq (tgt := 15) hx hb dX5_costOf_5 (by decide) (fun cb => ?_) (fun cb => ?_)
    · refine lv_ldc2 (v := (-1)) hx hb hown (hts _ w_ct_X5_121) dX5_costOf_15 ?_
      subst hQQ
      exact W.lret hx hb hr (fun t9 ht _ => ⟨⟨_, S, rfl, ⟨by rw [cosO, hbk]; rfl, hs0⟩, hpT ht hP⟩, hS.F ht⟩) hS.2.2 dX5_costOf_18
    · exact absurd cb (by decide)
  | some b =>
    obtain ⟨j, hjl, ek, hbj, -⟩ := binAt_s h8 hbk
    subst ek
    have hbm := List.mem_of_getElem? hbj
    have hBk := hx9.2.1 b hbm
    have hR := hRl.2.1 j b hbj
    obtain ⟨⟨hbn, hbp, hbo, hba⟩, hbw, hbg, hbs, hbr, hc1, hc2, hc3, hbam⟩ := id hBk
    refine cR_i (W.runV (As := [.int (nI (j))]) (rest := []) ⟨hx, hb, hml, hown, hts⟩ (m_isBin_s l g ma P S j (by omega) (by omega)) (cwV 1 hts (gV w_ml_X5_83 w_im_X5_isBin w_sel_X5_isBin w_ini_X5 w_co_X5_isBin) rfl rfl rfl (by decide +kernel) (by rw [hR1, hR2]; exact ⟨Nat.le_of_ble_eq_true rfl, Nat.le_of_ble_eq_true rfl⟩)) (preV_rd hP hK (va_recv hK.1 hP (ci := 5) (q0 := 0) rfl rfl)) rfl rfl hl.1 rfl (lv_room (Nat.le_of_ble_eq_true rfl)) dX5_costOf_2 ⟨by rw [hR3]; omega, by rw [hR4]; omega⟩) ?_
    refine bb_eq (tgt := 15) hx hb dX5_costOf_5 (by decide) (fun cb => ?_) (fun cb => ?_)
    · exact absurd cb (by decide)
    · refine lv_iload_n hx hb dX5_costOf_8 rfl (lv_at hl 2 rfl) ?_
      refine cR_i (W.runS (As := [.int (t)]) (rest := []) ⟨hx, hb, hml, hown, hts⟩ (m_isDay l g t) (va_cwS 1 hts (gS w_ml_X5_91 w_sm_X5_isDay w_ini_X5 w_co_X5_isDay) rfl rfl rfl (by decide +kernel) (by rw [hR1, hR2]; exact ⟨Nat.le_of_ble_eq_true rfl, Nat.le_of_ble_eq_true rfl⟩)) (preS_rd va_P.nil hK) rfl rfl hl.1 rfl (lv_room (Nat.le_of_ble_eq_true rfl)) dX5_costOf_9 ⟨by rw [hR3]; omega, by rw [hR4]; omega⟩) ?_
      refine bb_ne (tgt := 19) hx hb dX5_costOf_12 (by decide) (fun hhc => ?_) (fun hhc => ?_)
      · cases hh : inL 0 416 t with
        | none => exact absurd hhc (by rw [inL_n hh]; decide)
        | some d =>
          obtain ⟨hhl, hhn, hhe, -⟩ := inL_s (by decide) (by decide) hh
          subst hhe
          refine lv_aload_n hx hb dX5_costOf_19 rfl (lv_at hl 0 rfl) ?_
          refine lv_iload_n hx hb dX5_costOf_20 rfl (lv_at hl 1 rfl) ?_
          refine cE_v (wc := wM g ma P S) (w1 := fun u => wM g ma (P) u) (va_runV (As := [.int (nI (j))]) (rest := []) ⟨hx, hb, hml, hown, hts⟩ (m_prepare l g ma P S x hx9 hRl j b hbj hs0 _) (cwV 1 hts (gV w_ml_X5_123 w_im_X5_prepare w_sel_X5_prepare w_ini_X5 w_co_X5_prepare) rfl rfl rfl (by decide +kernel) (by rw [hR1, hR2]; exact ⟨Nat.le_of_ble_eq_true rfl, Nat.le_of_ble_eq_true rfl⟩)) (preV_wr hP hK hD (va_recv hK.1 hP (ci := 5) (q0 := 0) rfl rfl)) rfl rfl hl.1 rfl (lv_room (Nat.le_of_ble_eq_true rfl)) dX5_costOf_21 ⟨by rw [hR3]; omega, by rw [hR4]; omega⟩) hP hD hS hA (fun _ => rfl) (fun T H locs hT hP hD hS => ?_)
          obtain ⟨hLy, hTM⟩ := hT
          have hN := hLy.1
          have hT0 : sM T 0 = 0 := by rw [hTM 0 (by omega)]; rfl
          refine lv_aload_n hx hb dX5_costOf_24 rfl (lv_at hl 0 rfl) ?_
          refine lv_iload_n hx hb dX5_costOf_25 rfl (lv_at hl 2 rfl) ?_
          refine cR_l (W.runV (As := [.int (nI (d))]) (rest := []) ⟨hx, hb, hml, hown, hts⟩ (m_costOn l g ma P T x hx9 hRl b hbm hLy hTM d (by omega)) (cwV 1 hts (gV w_ml_X5_139 w_im_X5_costOn w_sel_X5_costOn w_ini_X5 w_co_X5_costOn) rfl rfl rfl (by decide +kernel) (by rw [hR1, hR2]; exact ⟨Nat.le_of_ble_eq_true rfl, Nat.le_of_ble_eq_true rfl⟩)) (preV_rd hP hK (va_recv hK.1 hP (ci := 5) (q0 := 0) rfl rfl)) rfl rfl hl.1 rfl (lv_room (Nat.le_of_ble_eq_true rfl)) dX5_costOf_26 ⟨by rw [hR3]; omega, by rw [hR4]; omega⟩) ?_
          subst hQQ
          exact W.lret hx hb hr (fun t9 ht _ => ⟨⟨_, T, rfl, ⟨by rw [cosO, hbk]; show _ = lE ((inL 0 416 (nI d)).map _); rw [hh]; rfl, hT0⟩, hpT ht hP⟩, hS.F ht⟩) hS.2.2 dX5_costOf_29
      · cases hh : inL 0 416 t with
        | none =>
          refine lv_ldc2 (v := (-1)) hx hb hown (hts _ w_ct_X5_121) dX5_costOf_15 ?_
          subst hQQ
          exact W.lret hx hb hr (fun t9 ht _ => ⟨⟨_, S, rfl, ⟨by rw [cosO, hbk]; show _ = lE ((inL 0 416 t).map _); rw [hh]; rfl, hs0⟩, hpT ht hP⟩, hS.F ht⟩) hS.2.2 dX5_costOf_18
        | some d => exact absurd hhc (by rw [(inL_s (by decide) (by decide) hh).2.2.2]; decide)

