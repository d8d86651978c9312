set_option maxHeartbeats 4000000 in
set_option maxRecDepth 100000 in
theorem k_quiet (l : Launch) (g : GG) (x : FT) (hx9 : Xok x) (k : Int32) (sz : Nat) : Ai l yX4_quiet wsX4_quiet 1 22 0 0 [.ref (xA x 0), .int (k)] g (x) sz (fun r u => (r, u) = quietS x k) := by
  refine Met.ofW (cc := cX4_quiet) (maxL := 2) (ret := (some .boolean)) (by decide) rfl ?_
  intro p e s m args below meth c s₁ BB hml hv
  obtain ⟨hargs, hsz, hP, hK, hD0⟩ := hv
  have hx := BB.exec
  have hb := BB.bytes
  have hr := BB.returns
  have hts : ∀ w ∈ BIG, w.before args s = true := fun w h => atoms_spec (ws := wsX4_quiet) BB.pre w (List.mem_cons_of_mem _ h)
  have hown : s.vm.findClass RX4 = some m.cls := findClass_of_methodNamed BB.named
  have hlocks := BB.notSynchronized
  obtain ⟨RR, hRR⟩ : ∃ RR, RR = (headSpec wsX4_quiet ⟨1, 0, 0, 22⟩).room := ⟨_, rfl⟩
  have hR1 : RR.frames = 1 := by rw [hRR]; rfl
  have hR2 : RR.locals = 22 := by rw [hRR]; rfl
  have hR3 : RR.cells = 0 := by rw [hRR]; rfl
  have hR4 : RR.slots = 0 := by rw [hRR]; rfl
  have hl := lv_entry ([.ref (xA x 0), .int (k)]) (n := 2) (Nat.le_of_ble_eq_true rfl)
  have hent : entryFrame m args 2 = F0 m 0 ((lg_sl ([.ref (xA x 0), .int (k)]) ++ List.replicate (2 - (lg_sl ([.ref (xA x 0), .int (k)])).length) Slot.unset).toArray) [] := by rw [hargs, lg_entry_eq]
  rw [hent]
  generalize (lg_sl ([.ref (xA x 0), .int (k)]) ++ List.replicate (2 - (lg_sl ([.ref (xA x 0), .int (k)])).length) Slot.unset).toArray = ls at hl ⊢
  have hl : lv_has ls 2 [(0, .ref (xA x 0)), (1, .int (k))] := hl
  subst hsz
  have hD := hD0.self (sz := s.heap.size)
  generalize hAe : va_A (wX g x) s.heap.size = A at hD ⊢
  have hA : ∀ q : Nat, s.heap.size ≤ q → A q := fun q h => by rw [← hAe]; exact Or.inr h
  have hS : va_S A s.heap s.heap [] := va_S.rf
  refine q_ab (R := RR) hRR ?_
  generalize hQQ : MQ below _ args s _ _ _ = QQ
  refine lv_iload_n hx hb dX4_quiet_0 rfl (lv_at hl 1 rfl) ?_
  refine lv_iconst (v := nI (0)) hx hb dX4_quiet_1 (by decide) ?_
  refine lv_sipush (v := nI (1000)) hx hb dX4_quiet_2 (by decide) ?_
  refine cR_i (W.runS (As := [.int (k), .int (nI (0)), .int (nI (1000))]) (rest := []) ⟨hx, hb, hml, hown, hts⟩ (k_isWithin l g k (nI 0) (nI 1000)) (va_cwS 3 hts (gS w_ml_X4_49 w_sm_X4_isWithin w_ini_X4 w_co_X4_isWithin) rfl rfl rfl (by decide +kernel) (by rw [hR1, hR2]; exact ⟨Nat.le_of_ble_eq_true rfl, Nat.le_of_ble_eq_true rfl⟩)) (preS_rd va_P.nil hK) rfl rfl hl.1 rfl (lv_room (Nat.le_of_ble_eq_true rfl)) dX4_quiet_5 ⟨by rw [hR3]; omega, by rw [hR4]; omega⟩) ?_
  refine bb_ne (tgt := 13) hx hb dX4_quiet_8 (by decide) (fun hhc => ?_) (fun hhc => ?_)
  · cases hh : inL 0 1000 k with
    | none => exact absurd hhc (by rw [inL_n hh]; decide)
    | some a =>
      obtain ⟨hhl, hhn, hhe, -⟩ := inL_s (by decide) (by decide) hh
      subst hhe
      refine lv_aload_n hx hb dX4_quiet_13 rfl (lv_at hl 0 rfl) ?_
      refine lv_iload_n hx hb dX4_quiet_14 rfl (lv_at hl 1 rfl) ?_
      refine va_put (D := g.1) (ci := 4) (v := .int (nI (a))) (ty := .int) (C := RX4) (T := TX4) (N := 8) hx hb hts hiX4 tyX4 tyX4_ok nmX4 hown hK.1 hP hD hS 0 rfl rfl 5 (by decide) (hts _ w_fl_X4_40) (fun _ h9 => h9) rfl (by decide +kernel) rfl rfl (Nat.le_of_ble_eq_true rfl) dX4_quiet_15 (fun H locs hP hD hS => ?_)
      have hP : va_P g.1 vwCl (wX g (xsQ x a)) H := hP
      have hD : va_D A (wX g (xsQ x a)) := hD
      refine lv_iconst (v := bI (true)) hx hb dX4_quiet_18 (by decide) ?_
      subst hQQ
      exact W.zret hx hb hr (nar_b _) (fun t9 ht _ => ⟨⟨_, xsQ x a, rfl, by unfold quietS; rw [hh], hpT ht hP, hD⟩, hS.F ht⟩) hS.2.2 dX4_quiet_19
  · cases hh : inL 0 1000 k with
    | none =>
      refine lv_iconst (v := bI (false)) hx hb dX4_quiet_11 (by decide) ?_
      subst hQQ
      exact W.zret hx hb hr (nar_b _) (fun t9 ht _ => ⟨⟨_, x, rfl, by unfold quietS; rw [hh], hpT ht hP, hD⟩, hS.F ht⟩) hS.2.2 dX4_quiet_12
    | some a => exact absurd hhc (by rw [(inL_s (by decide) (by decide) hh).2.2.2]; decide)

set_option maxHeartbeats 4000000 in
set_option maxRecDepth 100000 in
theorem k_cost (l : Launch) (g : GG) (x : FT) (hx9 : Xok x) (k d : Int32) (sz : Nat) : Ai l yX4_cost wsX4_cost 1 22 0 0 [.ref (xA x 0), .int (k), .int (d)] g (x) sz (fun r u => (r, u) = costS x k d) := by
  refine Met.ofW (cc := cX4_cost) (maxL := 3) (ret := (some .boolean)) (by decide) rfl ?_
  intro p e s m args below meth c s₁ BB hml hv
  obtain ⟨hargs, hsz, hP, hK, hD0⟩ := hv
  have hx := BB.exec
  have hb := BB.bytes
  have hr := BB.returns
  have hts : ∀ w ∈ BIG, w.before args s = true := fun w h => atoms_spec (ws := wsX4_cost) BB.pre w (List.mem_cons_of_mem _ h)
  have hown : s.vm.findClass RX4 = some m.cls := findClass_of_methodNamed BB.named
  have hlocks := BB.notSynchronized
  obtain ⟨RR, hRR⟩ : ∃ RR, RR = (headSpec wsX4_cost ⟨1, 0, 0, 22⟩).room := ⟨_, rfl⟩
  have hR1 : RR.frames = 1 := by rw [hRR]; rfl
  have hR2 : RR.locals = 22 := by rw [hRR]; rfl
  have hR3 : RR.cells = 0 := by rw [hRR]; rfl
  have hR4 : RR.slots = 0 := by rw [hRR]; rfl
  have hl := lv_entry ([.ref (xA x 0), .int (k), .int (d)]) (n := 3) (Nat.le_of_ble_eq_true rfl)
  have hent : entryFrame m args 3 = F0 m 0 ((lg_sl ([.ref (xA x 0), .int (k), .int (d)]) ++ List.replicate (3 - (lg_sl ([.ref (xA x 0), .int (k), .int (d)])).length) Slot.unset).toArray) [] := by rw [hargs, lg_entry_eq]
  rw [hent]
  generalize (lg_sl ([.ref (xA x 0), .int (k), .int (d)]) ++ List.replicate (3 - (lg_sl ([.ref (xA x 0), .int (k), .int (d)])).length) Slot.unset).toArray = ls at hl ⊢
  have hl : lv_has ls 3 [(0, .ref (xA x 0)), (1, .int (k)), (2, .int (d))] := hl
  subst hsz
  have hD := hD0.self (sz := s.heap.size)
  generalize hAe : va_A (wX g x) s.heap.size = A at hD ⊢
  have hA : ∀ q : Nat, s.heap.size ≤ q → A q := fun q h => by rw [← hAe]; exact Or.inr h
  have hS : va_S A s.heap s.heap [] := va_S.rf
  refine q_ab (R := RR) hRR ?_
  generalize hQQ : MQ below _ args s _ _ _ = QQ
  refine lv_iload_n hx hb dX4_cost_0 rfl (lv_at hl 1 rfl) ?_
  refine lv_iconst (v := nI (0)) hx hb dX4_cost_1 (by decide) ?_
  refine lv_sipush (v := nI (1000)) hx hb dX4_cost_2 (by decide) ?_
  refine cR_i (W.runS (As := [.int (k), .int (nI (0)), .int (nI (1000))]) (rest := []) ⟨hx, hb, hml, hown, hts⟩ (k_isWithin l g k (nI 0) (nI 1000)) (va_cwS 3 hts (gS w_ml_X4_49 w_sm_X4_isWithin w_ini_X4 w_co_X4_isWithin) rfl rfl rfl (by decide +kernel) (by rw [hR1, hR2]; exact ⟨Nat.le_of_ble_eq_true rfl, Nat.le_of_ble_eq_true rfl⟩)) (preS_rd va_P.nil hK) rfl rfl hl.1 rfl (lv_room (Nat.le_of_ble_eq_true rfl)) dX4_cost_5 ⟨by rw [hR3]; omega, by rw [hR4]; omega⟩) ?_
  refine bb_eq (tgt := 22) hx hb dX4_cost_8 (by decide) (fun hhc => ?_) (fun hhc => ?_)
  · cases hh : inL 0 1000 k with
    | none =>
      refine lv_iconst (v := bI (false)) hx hb dX4_cost_22 (by decide) ?_
      subst hQQ
      exact W.zret hx hb hr (nar_b _) (fun t9 ht _ => ⟨⟨_, x, rfl, by unfold costS; rw [hh], hpT ht hP, hD⟩, hS.F ht⟩) hS.2.2 dX4_cost_23
    | some a => exact absurd hhc (by rw [(inL_s (by decide) (by decide) hh).2.2.2]; decide)
  · cases hh : inL 0 1000 k with
    | none => exact absurd hhc (by rw [inL_n hh]; decide)
    | some a =>
      obtain ⟨hhl, hhn, hhe, -⟩ := inL_s (by decide) (by decide) hh
      subst hhe
      refine lv_iload_n hx hb dX4_cost_11 rfl (lv_at hl 2 rfl) ?_
      refine lv_iconst (v := nI (0)) hx hb dX4_cost_12 (by decide) ?_
      refine lv_sipush (v := nI (1000)) hx hb dX4_cost_13 (by decide) ?_
      refine cR_i (W.runS (As := [.int (d), .int (nI (0)), .int (nI (1000))]) (rest := []) ⟨hx, hb, hml, hown, hts⟩ (k_isWithin l g d (nI 0) (nI 1000)) (va_cwS 3 hts (gS w_ml_X4_49 w_sm_X4_isWithin w_ini_X4 w_co_X4_isWithin) rfl rfl rfl (by decide +kernel) (by rw [hR1, hR2]; exact ⟨Nat.le_of_ble_eq_true rfl, Nat.le_of_ble_eq_true rfl⟩)) (preS_rd va_P.nil hK) rfl rfl hl.1 rfl (lv_room (Nat.le_of_ble_eq_true rfl)) dX4_cost_16 ⟨by rw [hR3]; omega, by rw [hR4]; omega⟩) ?_
      refine bb_ne (tgt := 24) hx hb dX4_cost_19 (by decide) (fun hic => ?_) (fun hic => ?_)
      · cases hi : inL 0 1000 d with
        | none => exact absurd hic (by rw [inL_n hi]; decide)
        | some e =>
          obtain ⟨hil, hin, hie, -⟩ := inL_s (by decide) (by decide) hi
          subst hie
          refine lv_aload_n hx hb dX4_cost_24 rfl (lv_at hl 0 rfl) ?_
          refine lv_iload_n hx hb dX4_cost_25 rfl (lv_at hl 1 rfl) ?_
          refine va_put (D := g.1) (ci := 4) (v := .int (nI (a))) (ty := .int) (C := RX4) (T := TX4) (N := 8) hx hb hts hiX4 tyX4 tyX4_ok nmX4 hown hK.1 hP hD hS 0 rfl rfl 6 (by decide) (hts _ w_fl_X4_43) (fun _ h9 => h9) rfl (by decide +kernel) rfl rfl (Nat.le_of_ble_eq_true rfl) dX4_cost_26 (fun H locs hP hD hS => ?_)
          have hP : va_P g.1 vwCl (wX g (xsE x a)) H := hP
          have hD : va_D A (wX g (xsE x a)) := hD
          refine lv_aload_n hx hb dX4_cost_29 rfl (lv_at hl 0 rfl) ?_
          refine lv_iload_n hx hb dX4_cost_30 rfl (lv_at hl 2 rfl) ?_
          refine va_put (D := g.1) (ci := 4) (v := .int (nI (e))) (ty := .int) (C := RX4) (T := TX4) (N := 8) hx hb hts hiX4 tyX4 tyX4_ok nmX4 hown hK.1 hP hD hS 0 rfl rfl 7 (by decide) (hts _ w_fl_X4_46) (fun _ h9 => h9) rfl (by decide +kernel) rfl rfl (Nat.le_of_ble_eq_true rfl) dX4_cost_31 (fun H locs hP hD hS => ?_)
          have hP : va_P g.1 vwCl (wX g (xsL (xsE x a) e)) H := hP
          have hD : va_D A (wX g (xsL (xsE x a) e)) := hD
          refine lv_iconst (v := bI (true)) hx hb dX4_cost_34 (by decide) ?_
          subst hQQ
          exact W.zret hx hb hr (nar_b _) (fun t9 ht _ => ⟨⟨_, xsL (xsE x a) e, rfl, by unfold costS; rw [hh, hi], hpT ht hP, hD⟩, hS.F ht⟩) hS.2.2 dX4_cost_35
      · cases hi : inL 0 1000 d with
        | none =>
          refine lv_iconst (v := bI (false)) hx hb dX4_cost_22 (by decide) ?_
          subst hQQ
          exact W.zret hx hb hr (nar_b _) (fun t9 ht _ => ⟨⟨_, x, rfl, by unfold costS; rw [hh, hi], hpT ht hP, hD⟩, hS.F ht⟩) hS.2.2 dX4_cost_23
        | some e => exact absurd hic (by rw [(inL_s (by decide) (by decide) hi).2.2.2]; decide)

set_option maxHeartbeats 4000000 in
set_option maxRecDepth 100000 in
theorem k_holiday (l : Launch) (g : GG) (x : FT) (hx9 : Xok x) (k : Int32) (on : Bool) (sz : Nat) : Ai l yX4_holiday wsX4_holiday 2 42 0 0 [.ref (xA x 0), .int (k), .int (bI (on))] g (x) sz (fun r u => (r, u) = holS x k on) := by
  refine Met.ofW (cc := cX4_holiday) (maxL := 3) (ret := (some .boolean)) (by decide) rfl ?_
  intro p e s m args below meth c s₁ BB hml hv
  obtain ⟨hargs, hsz, hP, hK, hD0⟩ := hv
  have hx := BB.exec
  have hb := BB.bytes
  have hr := BB.returns
  have hts : ∀ w ∈ BIG, w.before args s = true := fun w h => atoms_spec (ws := wsX4_holiday) BB.pre w (List.mem_cons_of_mem _ h)
  have hown : s.vm.findClass RX4 = some m.cls := findClass_of_methodNamed BB.named
  have hlocks := BB.notSynchronized
  obtain ⟨RR, hRR⟩ : ∃ RR, RR = (headSpec wsX4_holiday ⟨2, 0, 0, 42⟩).room := ⟨_, rfl⟩
  have hR1 : RR.frames = 2 := by rw [hRR]; rfl
  have hR2 : RR.locals = 42 := by rw [hRR]; rfl
  have hR3 : RR.cells = 0 := by rw [hRR]; rfl
  have hR4 : RR.slots = 0 := by rw [hRR]; rfl
  have hl := lv_entry ([.ref (xA x 0), .int (k), .int (bI (on))]) (n := 3) (Nat.le_of_ble_eq_true rfl)
  have hent : entryFrame m args 3 = F0 m 0 ((lg_sl ([.ref (xA x 0), .int (k), .int (bI (on))]) ++ List.replicate (3 - (lg_sl ([.ref (xA x 0), .int (k), .int (bI (on))])).length) Slot.unset).toArray) [] := by rw [hargs, lg_entry_eq]
  rw [hent]
  generalize (lg_sl ([.ref (xA x 0), .int (k), .int (bI (on))]) ++ List.replicate (3 - (lg_sl ([.ref (xA x 0), .int (k), .int (bI (on))])).length) Slot.unset).toArray = ls at hl ⊢
  have hl : lv_has ls 3 [(0, .ref (xA x 0)), (1, .int (k)), (2, .int (bI (on)))] := hl
  subst hsz
  have hD := hD0.self (sz := s.heap.size)
  generalize hAe : va_A (wX g x) s.heap.size = A at hD ⊢
  have hA : ∀ q : Nat, s.heap.size ≤ q → A q := fun q h => by rw [← hAe]; exact Or.inr h
  have hS : va_S A s.heap s.heap [] := va_S.rf
  refine q_ab (R := RR) hRR ?_
  generalize hQQ : MQ below _ args s _ _ _ = QQ
  refine lv_iload_n hx hb dX4_holiday_0 rfl (lv_at hl 1 rfl) ?_
  refine cR_i (W.runS (As := [.int (k)]) (rest := []) ⟨hx, hb, hml, hown, hts⟩ (k_isDay l g k) (va_cwS 1 hts (gS w_ml_X4_75 w_sm_X4_isDay w_ini_X4 w_co_X4_isDay) rfl rfl rfl (by decide +kernel) (by rw [hR1, hR2]; exact ⟨Nat.le_of_ble_eq_true rfl, Nat.le_of_ble_eq_true rfl⟩)) (preS_rd va_P.nil hK) rfl rfl hl.1 rfl (lv_room (Nat.le_of_ble_eq_true rfl)) dX4_holiday_1 ⟨by rw [hR3]; omega, by rw [hR4]; omega⟩) ?_
  refine bb_ne (tgt := 9) hx hb dX4_holiday_4 (by decide) (fun hhc => ?_) (fun hhc => ?_)
  · cases hh : inL 0 416 k with
    | none => exact absurd hhc (by rw [inL_n hh]; decide)
    | some a =>
      obtain ⟨hhl, hhn, hhe, -⟩ := inL_s (by decide) (by decide) hh
      subst hhe
      refine lv_aload_n hx hb dX4_holiday_9 rfl (lv_at hl 0 rfl) ?_
      refine va_get (D := g.1) (ci := 4) (v := .ref (xC x 0)) (C := RX4) (T := TX4) (N := 8) hx hb hts hiX4 hown hK.1 hP 0 rfl rfl 0 (by decide) (hts _ w_fl_X4_10) (fun _ h9 => h9) rfl dX4_holiday_10 ?_
      refine lv_iload_n hx hb dX4_holiday_13 rfl (lv_at hl 1 rfl) ?_
      refine lv_iload_n hx hb dX4_holiday_14 rfl (lv_at hl 2 rfl) ?_
      have hP3 : va_P g.1 vwCl ((wXh g x ++ (wF g (xF x) (xW x) ++ wO g (xO x) (xR x) (xS x))) ++ (wC g (xC x) (xH x) ++ bw g (xB x))) _ := hP
      have hD3 : va_D A ((wXh g x ++ (wF g (xF x) (xW x) ++ wO g (xO x) (xR x) (xS x))) ++ (wC g (xC x) (xH x) ++ bw g (xB x))) := hD
      refine cW_v (w1 := wC g (xC x) (va_up (xH x) a on)) (va_runV (As := [.int (nI (a)), .int (bI (on))]) (rest := []) ⟨hx, hb, hml, hown, hts⟩ (k_mark l g (xC x) (xH x) a on (by omega) _) (cwV 2 hts (gV w_ml_X4_78 w_im_X1_mark w_sel_X1_mark w_ini_X1 w_co_X1_mark) rfl rfl rfl (by decide +kernel) (by rw [hR1, hR2]; exact ⟨Nat.le_of_ble_eq_true rfl, Nat.le_of_ble_eq_true rfl⟩)) (preV_wr (P_mid hP3) hK (D_mid hD3) (va_recv hK.1 (P_mid hP3) (ci := 1) (q0 := 0) rfl rfl)) rfl rfl hl.1 rfl (lv_room (Nat.le_of_ble_eq_true rfl)) dX4_holiday_15 ⟨by rw [hR3]; omega, by rw [hR4]; omega⟩) hP3 hD3 hS hA rfl (fun H locs hP hD hS => ?_)
      have hP : va_P g.1 vwCl (wX g (xsH x (va_up (xH x) a on))) H := hP
      have hD : va_D A (wX g (xsH x (va_up (xH x) a on))) := hD
      refine lv_iconst (v := bI (true)) hx hb dX4_holiday_18 (by decide) ?_
      subst hQQ
      exact W.zret hx hb hr (nar_b _) (fun t9 ht _ => ⟨⟨_, xsH x (va_up (xH x) a on), rfl, by unfold holS; rw [hh], hpT ht hP, hD⟩, hS.F ht⟩) hS.2.2 dX4_holiday_19
  · cases hh : inL 0 416 k with
    | none =>
      refine lv_iconst (v := bI (false)) hx hb dX4_holiday_7 (by decide) ?_
      subst hQQ
      exact W.zret hx hb hr (nar_b _) (fun t9 ht _ => ⟨⟨_, x, rfl, by unfold holS; rw [hh], hpT ht hP, hD⟩, hS.F ht⟩) hS.2.2 dX4_holiday_8
    | some a => exact absurd hhc (by rw [(inL_s (by decide) (by decide) hh).2.2.2]; decide)

set_option maxHeartbeats 4000000 in
set_option maxRecDepth 100000 in
theorem k_fade (l : Launch) (g : GG) (x : FT) (hx9 : Xok x) (k d : Int32) (sz : Nat) : Ai l yX4_fade wsX4_fade 1 25 0 0 [.ref (xA x 0), .int (k), .int (d)] g (x) sz (fun r u => (r, u) = fadeS x k d) := by
  refine Met.ofW (cc := cX4_fade) (maxL := 3) (ret := (some .boolean)) (by decide) rfl ?_
  intro p e s m args below meth c s₁ BB hml hv
  obtain ⟨hargs, hsz, hP, hK, hD0⟩ := hv
  have hx := BB.exec
  have hb := BB.bytes
  have hr := BB.returns
  have hts : ∀ w ∈ BIG, w.before args s = true := fun w h => atoms_spec (ws := wsX4_fade) BB.pre w (List.mem_cons_of_mem _ h)
  have hown : s.vm.findClass RX4 = some m.cls := findClass_of_methodNamed BB.named
  have hlocks := BB.notSynchronized
  obtain ⟨RR, hRR⟩ : ∃ RR, RR = (headSpec wsX4_fade ⟨1, 0, 0, 25⟩).room := ⟨_, rfl⟩
  have hR1 : RR.frames = 1 := by rw [hRR]; rfl
  have hR2 : RR.locals = 25 := by rw [hRR]; rfl
  have hR3 : RR.cells = 0 := by rw [hRR]; rfl
  have hR4 : RR.slots = 0 := by rw [hRR]; rfl
  have hl := lv_entry ([.ref (xA x 0), .int (k), .int (d)]) (n := 3) (Nat.le_of_ble_eq_true rfl)
  have hent : entryFrame m args 3 = F0 m 0 ((lg_sl ([.ref (xA x 0), .int (k), .int (d)]) ++ List.replicate (3 - (lg_sl ([.ref (xA x 0), .int (k), .int (d)])).length) Slot.unset).toArray) [] := by rw [hargs, lg_entry_eq]
  rw [hent]
  generalize (lg_sl ([.ref (xA x 0), .int (k), .int (d)]) ++ List.replicate (3 - (lg_sl ([.ref (xA x 0), .int (k), .int (d)])).length) Slot.unset).toArray = ls at hl ⊢
  have hl : lv_has ls 3 [(0, .ref (xA x 0)), (1, .int (k)), (2, .int (d))] := hl
  subst hsz
  have hD := hD0.self (sz := s.heap.size)
  generalize hAe : va_A (wX g x) s.heap.size = A at hD ⊢
  have hA : ∀ q : Nat, s.heap.size ≤ q → A q := fun q h => by rw [← hAe]; exact Or.inr h
  have hS : va_S A s.heap s.heap [] := va_S.rf
  refine q_ab (R := RR) hRR ?_
  generalize hQQ : MQ below _ args s _ _ _ = QQ
  refine lv_iload_n hx hb dX4_fade_0 rfl (lv_at hl 1 rfl) ?_
  refine lv_iconst (v := nI (1)) hx hb dX4_fade_1 (by decide) ?_
  refine lv_bipush (v := nI (9)) hx hb dX4_fade_2 (by decide) ?_
  refine cR_i (W.runS (As := [.int (k), .int (nI (1)), .int (nI (9))]) (rest := []) ⟨hx, hb, hml, hown, hts⟩ (k_isWithin l g k (nI 1) (nI 9)) (va_cwS 3 hts (gS w_ml_X4_49 w_sm_X4_isWithin w_ini_X4 w_co_X4_isWithin) rfl rfl rfl (by decide +kernel) (by rw [hR1, hR2]; exact ⟨Nat.le_of_ble_eq_true rfl, Nat.le_of_ble_eq_true rfl⟩)) (preS_rd va_P.nil hK) rfl rfl hl.1 rfl (lv_room (Nat.le_of_ble_eq_true rfl)) dX4_fade_4 ⟨by rw [hR3]; omega, by rw [hR4]; omega⟩) ?_
  refine bb_eq (tgt := 25) hx hb dX4_fade_7 (by decide) (fun hhc => ?_) (fun hhc => ?_)
  · cases hh : inL 1 9 k with
    | none =>
      refine lv_iconst (v := bI (false)) hx hb dX4_fade_25 (by decide) ?_
      subst hQQ
      exact W.zret hx hb hr (nar_b _) (fun t9 ht _ => ⟨⟨_, x, rfl, by unfold fadeS; rw [hh], hpT ht hP, hD⟩, hS.F ht⟩) hS.2.2 dX4_fade_26
    | some a => exact absurd hhc (by rw [(inL_s (by decide) (by decide) hh).2.2.2]; decide)
  · cases hh : inL 1 9 k with
    | none => exact absurd hhc (by rw [inL_n hh]; decide)
    | some a =>
      obtain ⟨hhl, hhn, hhe, -⟩ := inL_s (by decide) (by decide) hh
      subst hhe
      refine lv_iload_n hx hb dX4_fade_10 rfl (lv_at hl 2 rfl) ?_
      refine lv_iconst (v := nI (1)) hx hb dX4_fade_11 (by decide) ?_
      refine lv_bipush (v := nI (9)) hx hb dX4_fade_12 (by decide) ?_
      refine cR_i (W.runS (As := [.int (d), .int (nI (1)), .int (nI (9))]) (rest := []) ⟨hx, hb, hml, hown, hts⟩ (k_isWithin l g d (nI 1) (nI 9)) (va_cwS 3 hts (gS w_ml_X4_49 w_sm_X4_isWithin w_ini_X4 w_co_X4_isWithin) rfl rfl rfl (by decide +kernel) (by rw [hR1, hR2]; exact ⟨Nat.le_of_ble_eq_true rfl, Nat.le_of_ble_eq_true rfl⟩)) (preS_rd va_P.nil hK) rfl rfl hl.1 rfl (lv_room (Nat.le_of_ble_eq_true rfl)) dX4_fade_14 ⟨by rw [hR3]; omega, by rw [hR4]; omega⟩) ?_
      refine bb_eq (tgt := 25) hx hb dX4_fade_17 (by decide) (fun hic => ?_) (fun hic => ?_)
      · cases hi : inL 1 9 d with
        | none =>
          refine lv_iconst (v := bI (false)) hx hb dX4_fade_25 (by decide) ?_
          subst hQQ
          exact W.zret hx hb hr (nar_b _) (fun t9 ht _ => ⟨⟨_, x, rfl, by unfold fadeS; rw [hh, hi], hpT ht hP, hD⟩, hS.F ht⟩) hS.2.2 dX4_fade_26
        | some e => exact absurd hic (by rw [(inL_s (by decide) (by decide) hi).2.2.2]; decide)
      · cases hi : inL 1 9 d with
        | none => exact absurd hic (by rw [inL_n hi]; decide)
        | some e =>
          obtain ⟨hil, hin, hie, -⟩ := inL_s (by decide) (by decide) hi
          subst hie
          refine lv_iload_n hx hb dX4_fade_20 rfl (lv_at hl 1 rfl) ?_
          refine lv_iload_n hx hb dX4_fade_21 rfl (lv_at hl 2 rfl) ?_
          refine bn_le (tgt := 27) hx hb (by omega) (by omega) dX4_fade_22 (by decide) (fun c5 => ?_) (fun c5 => ?_)
          · refine lv_aload_n hx hb dX4_fade_27 rfl (lv_at hl 0 rfl) ?_
            refine va_get (D := g.1) (ci := 4) (v := .ref (xF x 0)) (C := RX4) (T := TX4) (N := 8) hx hb hts hiX4 hown hK.1 hP 0 rfl rfl 1 (by decide) (hts _ w_fl_X4_19) (fun _ h9 => h9) rfl dX4_fade_28 ?_
            refine lv_iload_n hx hb dX4_fade_31 rfl (lv_at hl 1 rfl) ?_
            refine lv_iload_n hx hb dX4_fade_32 rfl (lv_at hl 2 rfl) ?_
            have hP3 : va_P g.1 vwCl (wXh g x ++ (wF g (xF x) (xW x) ++ (wO g (xO x) (xR x) (xS x) ++ (wC g (xC x) (xH x) ++ bw g (xB x))))) _ := hP
            have hD3 : va_D A (wXh g x ++ (wF g (xF x) (xW x) ++ (wO g (xO x) (xR x) (xS x) ++ (wC g (xC x) (xH x) ++ bw g (xB x))))) := hD
            refine cW_v (w1 := wF g (xF x) (wtU a e (xW x) 8)) (va_runV (As := [.int (nI (a)), .int (nI (e))]) (rest := []) ⟨hx, hb, hml, hown, hts⟩ (k_setTo l g (xF x) (xW x) a e (by omega) (by omega) _) (cwV 2 hts (gV w_ml_X4_72 w_im_X2_setTo w_sel_X2_setTo w_ini_X2 w_co_X2_setTo) rfl rfl rfl (by decide +kernel) (by rw [hR1, hR2]; exact ⟨Nat.le_of_ble_eq_true rfl, Nat.le_of_ble_eq_true rfl⟩)) (preV_wr (P_mid hP3) hK (D_mid hD3) (va_recv hK.1 (P_mid hP3) (ci := 2) (q0 := 0) rfl rfl)) rfl rfl hl.1 rfl (lv_room (Nat.le_of_ble_eq_true rfl)) dX4_fade_33 ⟨by rw [hR3]; omega, by rw [hR4]; omega⟩) hP3 hD3 hS hA rfl (fun H locs hP hD hS => ?_)
            have hP : va_P g.1 vwCl (wX g (xsW x (wtU a e (xW x) 8))) H := hP
            have hD : va_D A (wX g (xsW x (wtU a e (xW x) 8))) := hD
            refine lv_iconst (v := bI (true)) hx hb dX4_fade_36 (by decide) ?_
            subst hQQ
            exact W.zret hx hb hr (nar_b _) (fun t9 ht _ => ⟨⟨_, xsW x (wtU a e (xW x) 8), rfl, by unfold fadeS; rw [hh, hi]; show _ = ite _ _ _; rw [if_pos c5], hpT ht hP, hD⟩, hS.F ht⟩) hS.2.2 dX4_fade_37
          · refine lv_iconst (v := bI (false)) hx hb dX4_fade_25 (by decide) ?_
            subst hQQ
            exact W.zret hx hb hr (nar_b _) (fun t9 ht _ => ⟨⟨_, x, rfl, by unfold fadeS; rw [hh, hi]; show _ = ite _ _ _; rw [if_neg (by omega)], hpT ht hP, hD⟩, hS.F ht⟩) hS.2.2 dX4_fade_26

