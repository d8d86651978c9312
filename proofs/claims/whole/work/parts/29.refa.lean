set_option maxHeartbeats 4000000 in
set_option maxRecDepth 100000 in
theorem m_weight (l : Launch) (g : GG) (ma : Nat → Nat) (P : PT) (S : ST) (x : FT) (hx9 : Xok x) (hRl : Rel x P) (k : Int32) : Rd l yX5_weight wsX5_weight 1 23 [.ref (ma 0), .int (k)] g (wM g ma P S) (gI ((inL 0 7 k).map (xW x))) := by
  refine Met.ofW (cc := cX5_weight) (maxL := 2) (ret := (some .int)) (by decide) rfl ?_
  intro p e s m args below meth c s₁ BB hml hv
  obtain ⟨hargs, hP, hK⟩ := hv
  have hx := BB.exec
  have hb := BB.bytes
  have hr := BB.returns
  have hts : ∀ w ∈ BIG, w.before args s = true := fun w h => atoms_spec (ws := wsX5_weight) BB.pre w (List.mem_cons_of_mem _ h)
  have hown : s.vm.findClass RX5 = some m.cls := findClass_of_methodNamed BB.named
  have hlocks := BB.notSynchronized
  obtain ⟨RR, hRR⟩ : ∃ RR, RR = (headSpec wsX5_weight ⟨1, 0, 0, 23⟩).room := ⟨_, rfl⟩
  have hR1 : RR.frames = 1 := by rw [hRR]; rfl
  have hR2 : RR.locals = 23 := by rw [hRR]; rfl
  have hR3 : RR.cells = 0 := by rw [hRR]; rfl
  have hR4 : RR.slots = 0 := by rw [hRR]; rfl
  have hl := lv_entry ([.ref (ma 0), .int (k)]) (n := 2) (Nat.le_of_ble_eq_true rfl)
  have hent : entryFrame m args 2 = F0 m 0 ((lg_sl ([.ref (ma 0), .int (k)]) ++ List.replicate (2 - (lg_sl ([.ref (ma 0), .int (k)])).length) Slot.unset).toArray) [] := by rw [hargs, lg_entry_eq]
  rw [hent]
  generalize (lg_sl ([.ref (ma 0), .int (k)]) ++ List.replicate (2 - (lg_sl ([.ref (ma 0), .int (k)])).length) Slot.unset).toArray = ls at hl ⊢
  have hl : lv_has ls 2 [(0, .ref (ma 0)), (1, .int (k))] := hl
  refine q_ab (R := RR) hRR ?_
  generalize hQQ : MQ below _ args s _ _ _ = QQ
  refine lv_iload_n hx hb dX5_weight_0 rfl (lv_at hl 1 rfl) ?_
  refine lv_iconst (v := nI (0)) hx hb dX5_weight_1 (by decide) ?_
  refine lv_bipush (v := nI (7)) hx hb dX5_weight_2 (by decide) ?_
  refine cR_i (W.runS (As := [.int (k), .int (nI (0)), .int (nI (7))]) (rest := []) ⟨hx, hb, hml, hown, hts⟩ (m_isIn l g k (nI 0) (nI 7)) (va_cwS 3 hts (gS w_ml_X5_79 w_sm_X5_isIn w_ini_X5 w_co_X5_isIn) rfl rfl rfl (by decide +kernel) (by rw [hR1, hR2]; exact ⟨Nat.le_of_ble_eq_true rfl, Nat.le_of_ble_eq_true rfl⟩)) (preS_rd va_P.nil hK) rfl rfl hl.1 rfl (lv_room (Nat.le_of_ble_eq_true rfl)) dX5_weight_4 ⟨by rw [hR3]; omega, by rw [hR4]; omega⟩) ?_
  refine bb_eq (tgt := 18) hx hb dX5_weight_7 (by decide) (fun hhc => ?_) (fun hhc => ?_)
  · cases hh : inL 0 7 k with
    | none =>
      refine lv_iconst (v := (-1)) hx hb dX5_weight_18 (by decide) ?_
      subst hQQ
      exact W.iret hx hb hr (fun t9 ht _ => rdI (by rw [hh]; rfl) ht) (fun q h => absurd h List.not_mem_nil) dX5_weight_19
    | some a => exact absurd hhc (by rw [(inL_s (by decide) (by decide) hh).2.2.2]; decide)
  · cases hh : inL 0 7 k with
    | none => exact absurd hhc (by rw [inL_n hh]; decide)
    | some a =>
      obtain ⟨hhl, hhn, hhe, -⟩ := inL_s (by decide) (by decide) hh
      subst hhe
      refine lv_aload_n hx hb dX5_weight_10 rfl (lv_at hl 0 rfl) ?_
      refine lv_iload_n hx hb dX5_weight_11 rfl (lv_at hl 1 rfl) ?_
      refine cR_i (W.runV (As := [.int (nI (a))]) (rest := []) ⟨hx, hb, hml, hown, hts⟩ (m_weightOf l g ma P S a (by omega)) (cwV 1 hts (gV w_ml_X5_101 w_im_X5_weightOf w_sel_X5_weightOf w_ini_X5 w_co_X5_weightOf) rfl rfl rfl (by decide +kernel) (by rw [hR1, hR2]; exact ⟨Nat.le_of_ble_eq_true rfl, Nat.le_of_ble_eq_true rfl⟩)) (preV_rd hP hK (va_recv hK.1 hP (ci := 5) (q0 := 0) rfl rfl)) rfl rfl hl.1 rfl (lv_room (Nat.le_of_ble_eq_true rfl)) dX5_weight_12 ⟨by rw [hR3]; omega, by rw [hR4]; omega⟩) ?_
      refine lv_goto (tgt := 19) hx hb dX5_weight_15 (by decide) ?_
      subst hQQ
      exact W.iret hx hb hr (fun t9 ht _ => rdI (by rw [hh, ← hRl.2.2.2.1 a (by omega)]; rfl) ht) (fun q h => absurd h List.not_mem_nil) dX5_weight_19

set_option maxHeartbeats 4000000 in
set_option maxRecDepth 100000 in
theorem m_mean (l : Launch) (g : GG) (ma : Nat → Nat) (P : PT) (S : ST) (x : FT) (hx9 : Xok x) (hRl : Rel x P) (hs0 : sM S 0 = 0) (k d : Int32) (sz : Nat) : Ei l yX5_mean wsX5_mean 3 76 0 0 [.ref (ma 0), .int (k), .int (d)] g (wM g ma P S) sz ma P (gI ((binAt (xB x) k).bind (fun b => (inL 0 6 d).bind (fun a => meanX x b a)))) (fun u => sM u 0 = 0) := by
  refine Met.ofW (cc := cX5_mean) (maxL := 3) (ret := (some .int)) (by decide) rfl ?_
  intro p e s m args below meth c s₁ BB hml hv
  obtain ⟨hargs, hsz, hP, hK, hD0⟩ := hv
  have hx := BB.exec
  have hb := BB.bytes
  have hr := BB.returns
  have hts : ∀ w ∈ BIG, w.before args s = true := fun w h => atoms_spec (ws := wsX5_mean) BB.pre w (List.mem_cons_of_mem _ h)
  have hown : s.vm.findClass RX5 = some m.cls := findClass_of_methodNamed BB.named
  have hlocks := BB.notSynchronized
  obtain ⟨RR, hRR⟩ : ∃ RR, RR = (headSpec wsX5_mean ⟨3, 0, 0, 76⟩).room := ⟨_, rfl⟩
  have hR1 : RR.frames = 3 := by rw [hRR]; rfl
  have hR2 : RR.locals = 76 := by rw [hRR]; rfl
  have hR3 : RR.cells = 0 := by rw [hRR]; rfl
  have hR4 : RR.slots = 0 := by rw [hRR]; rfl
  have hl := lv_entry ([.ref (ma 0), .int (k), .int (d)]) (n := 3) (Nat.le_of_ble_eq_true rfl)
  have hent : entryFrame m args 3 = F0 m 0 ((lg_sl ([.ref (ma 0), .int (k), .int (d)]) ++ List.replicate (3 - (lg_sl ([.ref (ma 0), .int (k), .int (d)])).length) Slot.unset).toArray) [] := by rw [hargs, lg_entry_eq]
  rw [hent]
  generalize (lg_sl ([.ref (ma 0), .int (k), .int (d)]) ++ List.replicate (3 - (lg_sl ([.ref (ma 0), .int (k), .int (d)])).length) Slot.unset).toArray = ls at hl ⊢
  have hl : lv_has ls 3 [(0, .ref (ma 0)), (1, .int (k)), (2, .int (d))] := hl
  subst hsz
  have hD := hD0.self (sz := s.heap.size)
  generalize hAe : va_A (wM g ma P S) s.heap.size = A at hD ⊢
  have hA : ∀ q : Nat, s.heap.size ≤ q → A q := fun q h => by rw [← hAe]; exact Or.inr h
  have hS : va_S A s.heap s.heap [] := va_S.rf
  refine q_ab (R := RR) hRR ?_
  generalize hQQ : MQ below _ args s _ _ _ = QQ
  have h8 := hx9.1
  have hpB := hRl.1
  refine lv_aload_n hx hb dX5_mean_0 rfl (lv_at hl 0 rfl) ?_
  refine lv_iload_n hx hb dX5_mean_1 rfl (lv_at hl 1 rfl) ?_
  cases hbk : binAt (xB x) k with
  | none =>
    refine cR_i (W.runV (As := [.int (k)]) (rest := []) ⟨hx, hb, hml, hown, hts⟩ (m_isBin_n l g ma P S x k hpB h8 hbk) (cwV 1 hts (gV w_ml_X5_83 w_im_X5_isBin w_sel_X5_isBin w_ini_X5 w_co_X5_isBin) rfl rfl rfl (by decide +kernel) (by rw [hR1, hR2]; exact ⟨Nat.le_of_ble_eq_true rfl, Nat.le_of_ble_eq_true rfl⟩)) (preV_rd hP hK (va_recv hK.1 hP (ci := 5) (q0 := 0) rfl rfl)) rfl rfl hl.1 rfl (lv_room (Nat.le_of_ble_eq_true rfl)) dX5_mean_2 ⟨by rw [hR3]; omega, by rw [hR4]; omega⟩) ?_
    refine bb_eq (tgt := 27) hx hb dX5_mean_5 (by decide) (fun cb => ?_) (fun cb => ?_)
    · refine lv_iconst (v := (-1)) hx hb dX5_mean_27 (by decide) ?_
      subst hQQ
      exact W.iret hx hb hr (fun t9 ht _ => ⟨⟨_, S, rfl, ⟨by rw [hbk]; rfl, hs0⟩, hpT ht hP⟩, hS.F ht⟩) hS.2.2 dX5_mean_28
    · exact absurd cb (by decide)
  | some b =>
    obtain ⟨j, hjl, ek, hbj, -⟩ := binAt_s h8 hbk
    subst ek
    have hbm := List.mem_of_getElem? hbj
    have hBk := hx9.2.1 b hbm
    have hR := hRl.2.1 j b hbj
    obtain ⟨⟨hbn, hbp, hbo, hba⟩, hbw, hbg, hbs, hbr, hc1, hc2, hc3, hbam⟩ := id hBk
    refine cR_i (W.runV (As := [.int (nI (j))]) (rest := []) ⟨hx, hb, hml, hown, hts⟩ (m_isBin_s l g ma P S j (by omega) (by omega)) (cwV 1 hts (gV w_ml_X5_83 w_im_X5_isBin w_sel_X5_isBin w_ini_X5 w_co_X5_isBin) rfl rfl rfl (by decide +kernel) (by rw [hR1, hR2]; exact ⟨Nat.le_of_ble_eq_true rfl, Nat.le_of_ble_eq_true rfl⟩)) (preV_rd hP hK (va_recv hK.1 hP (ci := 5) (q0 := 0) rfl rfl)) rfl rfl hl.1 rfl (lv_room (Nat.le_of_ble_eq_true rfl)) dX5_mean_2 ⟨by rw [hR3]; omega, by rw [hR4]; omega⟩) ?_
    refine bb_eq (tgt := 27) hx hb dX5_mean_5 (by decide) (fun cb => ?_) (fun cb => ?_)
    · exact absurd cb (by decide)
    · refine lv_iload_n hx hb dX5_mean_8 rfl (lv_at hl 2 rfl) ?_
      refine lv_iconst (v := nI (0)) hx hb dX5_mean_9 (by decide) ?_
      refine lv_bipush (v := nI (6)) hx hb dX5_mean_10 (by decide) ?_
      refine cR_i (W.runS (As := [.int (d), .int (nI (0)), .int (nI (6))]) (rest := []) ⟨hx, hb, hml, hown, hts⟩ (m_isIn l g d (nI 0) (nI 6)) (va_cwS 3 hts (gS w_ml_X5_79 w_sm_X5_isIn w_ini_X5 w_co_X5_isIn) rfl rfl rfl (by decide +kernel) (by rw [hR1, hR2]; exact ⟨Nat.le_of_ble_eq_true rfl, Nat.le_of_ble_eq_true rfl⟩)) (preS_rd va_P.nil hK) rfl rfl hl.1 rfl (lv_room (Nat.le_of_ble_eq_true rfl)) dX5_mean_12 ⟨by rw [hR3]; omega, by rw [hR4]; omega⟩) ?_
      refine bb_eq (tgt := 27) hx hb dX5_mean_15 (by decide) (fun hhc => ?_) (fun hhc => ?_)
      · cases hh : inL 0 6 d with
        | none =>
          refine lv_iconst (v := (-1)) hx hb dX5_mean_27 (by decide) ?_
          subst hQQ
          exact W.iret hx hb hr (fun t9 ht _ => ⟨⟨_, S, rfl, ⟨by rw [hbk]; show _ = gI ((inL 0 6 d).bind _); rw [hh]; rfl, hs0⟩, hpT ht hP⟩, hS.F ht⟩) hS.2.2 dX5_mean_28
        | some a => exact absurd hhc (by rw [(inL_s (by decide) (by decide) hh).2.2.2]; decide)
      · cases hh : inL 0 6 d with
        | none => exact absurd hhc (by rw [inL_n hh]; decide)
        | some a =>
          obtain ⟨hhl, hhn, hhe, -⟩ := inL_s (by decide) (by decide) hh
          subst hhe
          refine lv_aload_n hx hb dX5_mean_18 rfl (lv_at hl 0 rfl) ?_
          refine lv_iload_n hx hb dX5_mean_19 rfl (lv_at hl 1 rfl) ?_
          refine lv_iload_n hx hb dX5_mean_20 rfl (lv_at hl 2 rfl) ?_
          refine cE_i (wc := wM g ma P S) (w1 := fun u => wM g ma (P) u) (va_runV (As := [.int (nI (j)), .int (nI (a))]) (rest := []) ⟨hx, hb, hml, hown, hts⟩ (m_meanOf l g ma P S x hx9 hRl j b hbj a (by omega) _) (cwV 2 hts (gV w_ml_X5_112 w_im_X5_meanOf w_sel_X5_meanOf w_ini_X5 w_co_X5_meanOf) rfl rfl rfl (by decide +kernel) (by rw [hR1, hR2]; exact ⟨Nat.le_of_ble_eq_true rfl, Nat.le_of_ble_eq_true rfl⟩)) (preV_wr hP hK hD (va_recv hK.1 hP (ci := 5) (q0 := 0) rfl rfl)) rfl rfl hl.1 rfl (lv_room (Nat.le_of_ble_eq_true rfl)) dX5_mean_21 ⟨by rw [hR3]; omega, by rw [hR4]; omega⟩) hP hD hS hA (fun _ => rfl) (fun T H locs hT hP hD hS => ?_)
          refine lv_goto (tgt := 28) hx hb dX5_mean_24 (by decide) ?_
          subst hQQ
          exact W.iret hx hb hr (fun t9 ht _ => ⟨⟨_, T, rfl, ⟨by rw [hbk]; show _ = gI ((inL 0 6 (nI a)).bind _); rw [hh]; rfl, by show sM T 0 = 0; rw [hT.2.2]; exact hs0⟩, hpT ht hP⟩, hS.F ht⟩) hS.2.2 dX5_mean_28

set_option maxHeartbeats 4000000 in
set_option maxRecDepth 100000 in
theorem m_rate (l : Launch) (g : GG) (ma : Nat → Nat) (P : PT) (S : ST) (x : FT) (hx9 : Xok x) (hRl : Rel x P) (hs0 : sM S 0 = 0) (k d : Int32) (sz : Nat) : Ei l yX5_rate wsX5_rate 4 103 0 0 [.ref (ma 0), .int (k), .int (d)] g (wM g ma P S) sz ma P (gI ((binAt (xB x) k).bind (fun b => (inL 0 416 d).map (fun a => rateV x b (wdy (xH x) a))))) (fun u => sM u 0 = 0) := by
  refine Met.ofW (cc := cX5_rate) (maxL := 3) (ret := (some .int)) (by decide) rfl ?_
  intro p e s m args below meth c s₁ BB hml hv
  obtain ⟨hargs, hsz, hP, hK, hD0⟩ := hv
  have hx := BB.exec
  have hb := BB.bytes
  have hr := BB.returns
  have hts : ∀ w ∈ BIG, w.before args s = true := fun w h => atoms_spec (ws := wsX5_rate) BB.pre w (List.mem_cons_of_mem _ h)
  have hown : s.vm.findClass RX5 = some m.cls := findClass_of_methodNamed BB.named
  have hlocks := BB.notSynchronized
  obtain ⟨RR, hRR⟩ : ∃ RR, RR = (headSpec wsX5_rate ⟨4, 0, 0, 103⟩).room := ⟨_, rfl⟩
  have hR1 : RR.frames = 4 := by rw [hRR]; rfl
  have hR2 : RR.locals = 103 := by rw [hRR]; rfl
  have hR3 : RR.cells = 0 := by rw [hRR]; rfl
  have hR4 : RR.slots = 0 := by rw [hRR]; rfl
  have hl := lv_entry ([.ref (ma 0), .int (k), .int (d)]) (n := 3) (Nat.le_of_ble_eq_true rfl)
  have hent : entryFrame m args 3 = F0 m 0 ((lg_sl ([.ref (ma 0), .int (k), .int (d)]) ++ List.replicate (3 - (lg_sl ([.ref (ma 0), .int (k), .int (d)])).length) Slot.unset).toArray) [] := by rw [hargs, lg_entry_eq]
  rw [hent]
  generalize (lg_sl ([.ref (ma 0), .int (k), .int (d)]) ++ List.replicate (3 - (lg_sl ([.ref (ma 0), .int (k), .int (d)])).length) Slot.unset).toArray = ls at hl ⊢
  have hl : lv_has ls 3 [(0, .ref (ma 0)), (1, .int (k)), (2, .int (d))] := hl
  subst hsz
  have hD := hD0.self (sz := s.heap.size)
  generalize hAe : va_A (wM g ma P S) s.heap.size = A at hD ⊢
  have hA : ∀ q : Nat, s.heap.size ≤ q → A q := fun q h => by rw [← hAe]; exact Or.inr h
  have hS : va_S A s.heap s.heap [] := va_S.rf
  refine q_ab (R := RR) hRR ?_
  generalize hQQ : MQ below _ args s _ _ _ = QQ
  have h8 := hx9.1
  have hpB := hRl.1
  refine lv_aload_n hx hb dX5_rate_0 rfl (lv_at hl 0 rfl) ?_
  refine lv_iload_n hx hb dX5_rate_1 rfl (lv_at hl 1 rfl) ?_
  cases hbk : binAt (xB x) k with
  | none =>
    refine cR_i (W.runV (As := [.int (k)]) (rest := []) ⟨hx, hb, hml, hown, hts⟩ (m_isBin_n l g ma P S x k hpB h8 hbk) (cwV 1 hts (gV w_ml_X5_83 w_im_X5_isBin w_sel_X5_isBin w_ini_X5 w_co_X5_isBin) rfl rfl rfl (by decide +kernel) (by rw [hR1, hR2]; exact ⟨Nat.le_of_ble_eq_true rfl, Nat.le_of_ble_eq_true rfl⟩)) (preV_rd hP hK (va_recv hK.1 hP (ci := 5) (q0 := 0) rfl rfl)) rfl rfl hl.1 rfl (lv_room (Nat.le_of_ble_eq_true rfl)) dX5_rate_2 ⟨by rw [hR3]; omega, by rw [hR4]; omega⟩) ?_
    refine bb_eq (tgt := 28) hx hb dX5_rate_5 (by decide) (fun cb => ?_) (fun cb => ?_)
    · refine lv_iconst (v := (-1)) hx hb dX5_rate_28 (by decide) ?_
      subst hQQ
      exact W.iret hx hb hr (fun t9 ht _ => ⟨⟨_, S, rfl, ⟨by rw [hbk]; rfl, hs0⟩, hpT ht hP⟩, hS.F ht⟩) hS.2.2 dX5_rate_29
    · exact absurd cb (by decide)
  | some b =>
    obtain ⟨j, hjl, ek, hbj, -⟩ := binAt_s h8 hbk
    subst ek
    have hbm := List.mem_of_getElem? hbj
    have hBk := hx9.2.1 b hbm
    have hR := hRl.2.1 j b hbj
    obtain ⟨⟨hbn, hbp, hbo, hba⟩, hbw, hbg, hbs, hbr, hc1, hc2, hc3, hbam⟩ := id hBk
    refine cR_i (W.runV (As := [.int (nI (j))]) (rest := []) ⟨hx, hb, hml, hown, hts⟩ (m_isBin_s l g ma P S j (by omega) (by omega)) (cwV 1 hts (gV w_ml_X5_83 w_im_X5_isBin w_sel_X5_isBin w_ini_X5 w_co_X5_isBin) rfl rfl rfl (by decide +kernel) (by rw [hR1, hR2]; exact ⟨Nat.le_of_ble_eq_true rfl, Nat.le_of_ble_eq_true rfl⟩)) (preV_rd hP hK (va_recv hK.1 hP (ci := 5) (q0 := 0) rfl rfl)) rfl rfl hl.1 rfl (lv_room (Nat.le_of_ble_eq_true rfl)) dX5_rate_2 ⟨by rw [hR3]; omega, by rw [hR4]; omega⟩) ?_
    refine bb_eq (tgt := 28) hx hb dX5_rate_5 (by decide) (fun cb => ?_) (fun cb => ?_)
    · exact absurd cb (by decide)
    · refine lv_iload_n hx hb dX5_rate_8 rfl (lv_at hl 2 rfl) ?_
      refine cR_i (W.runS (As := [.int (d)]) (rest := []) ⟨hx, hb, hml, hown, hts⟩ (m_isDay l g d) (va_cwS 1 hts (gS w_ml_X5_91 w_sm_X5_isDay w_ini_X5 w_co_X5_isDay) rfl rfl rfl (by decide +kernel) (by rw [hR1, hR2]; exact ⟨Nat.le_of_ble_eq_true rfl, Nat.le_of_ble_eq_true rfl⟩)) (preS_rd va_P.nil hK) rfl rfl hl.1 rfl (lv_room (Nat.le_of_ble_eq_true rfl)) dX5_rate_9 ⟨by rw [hR3]; omega, by rw [hR4]; omega⟩) ?_
      refine bb_eq (tgt := 28) hx hb dX5_rate_12 (by decide) (fun hhc => ?_) (fun hhc => ?_)
      · cases hh : inL 0 416 d with
        | none =>
          refine lv_iconst (v := (-1)) hx hb dX5_rate_28 (by decide) ?_
          subst hQQ
          exact W.iret hx hb hr (fun t9 ht _ => ⟨⟨_, S, rfl, ⟨by rw [hbk]; show _ = gI ((inL 0 416 d).map _); rw [hh]; rfl, hs0⟩, hpT ht hP⟩, hS.F ht⟩) hS.2.2 dX5_rate_29
        | some a => exact absurd hhc (by rw [(inL_s (by decide) (by decide) hh).2.2.2]; decide)
      · cases hh : inL 0 416 d with
        | none => exact absurd hhc (by rw [inL_n hh]; decide)
        | some a =>
          obtain ⟨hhl, hhn, hhe, -⟩ := inL_s (by decide) (by decide) hh
          subst hhe
          refine lv_aload_n hx hb dX5_rate_15 rfl (lv_at hl 0 rfl) ?_
          refine lv_iload_n hx hb dX5_rate_16 rfl (lv_at hl 1 rfl) ?_
          refine lv_aload_n hx hb dX5_rate_17 rfl (lv_at hl 0 rfl) ?_
          refine lv_iload_n hx hb dX5_rate_18 rfl (lv_at hl 2 rfl) ?_
          refine cR_i (W.runV (As := [.int (nI (a))]) (rest := [.int (nI (j)), .ref (ma 0)]) ⟨hx, hb, hml, hown, hts⟩ (m_weekdayOf l g ma P S a (by omega)) (cwV 1 hts (gV w_ml_X5_109 w_im_X5_weekdayOf w_sel_X5_weekdayOf w_ini_X5 w_co_X5_weekdayOf) rfl rfl rfl (by decide +kernel) (by rw [hR1, hR2]; exact ⟨Nat.le_of_ble_eq_true rfl, Nat.le_of_ble_eq_true rfl⟩)) (preV_rd hP hK (va_recv hK.1 hP (ci := 5) (q0 := 0) rfl rfl)) rfl rfl hl.1 rfl (lv_room (Nat.le_of_ble_eq_true rfl)) dX5_rate_19 ⟨by rw [hR3]; omega, by rw [hR4]; omega⟩) ?_
          refine tp_i (y := nI (wdy (xH x) a)) (by rw [hRl.2.2.1]) ?_
          refine cE_i (wc := wM g ma P S) (w1 := fun u => wM g ma (P) u) (va_runV (As := [.int (nI (j)), .int (nI (wdy (xH x) a))]) (rest := []) ⟨hx, hb, hml, hown, hts⟩ (m_rateOf l g ma P S x hx9 hRl j b hbj (wdy (xH x) a) wdy_lt _) (cwV 2 hts (gV w_ml_X5_116 w_im_X5_rateOf w_sel_X5_rateOf w_ini_X5 w_co_X5_rateOf) rfl rfl rfl (by decide +kernel) (by rw [hR1, hR2]; exact ⟨Nat.le_of_ble_eq_true rfl, Nat.le_of_ble_eq_true rfl⟩)) (preV_wr hP hK hD (va_recv hK.1 hP (ci := 5) (q0 := 0) rfl rfl)) rfl rfl hl.1 rfl (lv_room (Nat.le_of_ble_eq_true rfl)) dX5_rate_22 ⟨by rw [hR3]; omega, by rw [hR4]; omega⟩) hP hD hS hA (fun _ => rfl) (fun T H locs hT hP hD hS => ?_)
          refine lv_goto (tgt := 29) hx hb dX5_rate_25 (by decide) ?_
          subst hQQ
          exact W.iret hx hb hr (fun t9 ht _ => ⟨⟨_, T, rfl, ⟨by rw [hbk]; show _ = gI ((inL 0 416 (nI a)).map _); rw [hh]; rfl, by show sM T 0 = 0; rw [hT.2]; exact hs0⟩, hpT ht hP⟩, hS.F ht⟩) hS.2.2 dX5_rate_29

