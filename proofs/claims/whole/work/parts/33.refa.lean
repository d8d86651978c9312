set_option maxHeartbeats 4000000 in
set_option maxRecDepth 100000 in
theorem m_quiet (l : Launch) (g : GG) (ma : Nat → Nat) (P : PT) (S : ST) (x : FT) (hx9 : Xok x) (hRl : Rel x P) (hR0 : Rel0 P) (k : Int32) (sz : Nat) : Mi l yX5_quiet wsX5_quiet 1 22 0 0 [.ref (ma 0), .int (k)] g (wM g ma P S) sz ma S (fun r u => r = (quietS x k).1 ∧ Rel (quietS x k).2 u ∧ Rel0 u) := by
  refine Met.ofW (cc := cX5_quiet) (maxL := 2) (ret := (some .boolean)) (by decide) rfl ?_
  intro p e s m args below meth c s₁ BB hml hv
  obtain ⟨hargs, hsz, hP, hK, hD0⟩ := hv
  have hx := BB.exec
  have hb := BB.bytes
  have hr := BB.returns
  have hts : ∀ w ∈ BIG, w.before args s = true := fun w h => atoms_spec (ws := wsX5_quiet) BB.pre w (List.mem_cons_of_mem _ h)
  have hown : s.vm.findClass RX5 = some m.cls := findClass_of_methodNamed BB.named
  have hlocks := BB.notSynchronized
  obtain ⟨RR, hRR⟩ : ∃ RR, RR = (headSpec wsX5_quiet ⟨1, 0, 0, 22⟩).room := ⟨_, rfl⟩
  have hR1 : RR.frames = 1 := by rw [hRR]; rfl
  have hR2 : RR.locals = 22 := by rw [hRR]; rfl
  have hR3 : RR.cells = 0 := by rw [hRR]; rfl
  have hR4 : RR.slots = 0 := by rw [hRR]; rfl
  have hl := lv_entry ([.ref (ma 0), .int (k)]) (n := 2) (Nat.le_of_ble_eq_true rfl)
  have hent : entryFrame m args 2 = F0 m 0 ((lg_sl ([.ref (ma 0), .int (k)]) ++ List.replicate (2 - (lg_sl ([.ref (ma 0), .int (k)])).length) Slot.unset).toArray) [] := by rw [hargs, lg_entry_eq]
  rw [hent]
  generalize (lg_sl ([.ref (ma 0), .int (k)]) ++ List.replicate (2 - (lg_sl ([.ref (ma 0), .int (k)])).length) Slot.unset).toArray = ls at hl ⊢
  have hl : lv_has ls 2 [(0, .ref (ma 0)), (1, .int (k))] := hl
  subst hsz
  have hD := hD0.self (sz := s.heap.size)
  generalize hAe : va_A (wM g ma P S) s.heap.size = A at hD ⊢
  have hA : ∀ q : Nat, s.heap.size ≤ q → A q := fun q h => by rw [← hAe]; exact Or.inr h
  have hS : va_S A s.heap s.heap [] := va_S.rf
  refine q_ab (R := RR) hRR ?_
  generalize hQQ : MQ below _ args s _ _ _ = QQ
  refine lv_iload_n hx hb dX5_quiet_0 rfl (lv_at hl 1 rfl) ?_
  refine lv_iconst (v := nI (0)) hx hb dX5_quiet_1 (by decide) ?_
  refine lv_sipush (v := nI (1000)) hx hb dX5_quiet_2 (by decide) ?_
  refine cR_i (W.runS (As := [.int (k), .int (nI (0)), .int (nI (1000))]) (rest := []) ⟨hx, hb, hml, hown, hts⟩ (m_isIn l g k (nI 0) (nI 1000)) (va_cwS 3 hts (gS w_ml_X5_79 w_sm_X5_isIn w_ini_X5 w_co_X5_isIn) rfl rfl rfl (by decide +kernel) (by rw [hR1, hR2]; exact ⟨Nat.le_of_ble_eq_true rfl, Nat.le_of_ble_eq_true rfl⟩)) (preS_rd va_P.nil hK) rfl rfl hl.1 rfl (lv_room (Nat.le_of_ble_eq_true rfl)) dX5_quiet_5 ⟨by rw [hR3]; omega, by rw [hR4]; omega⟩) ?_
  refine bb_ne (tgt := 13) hx hb dX5_quiet_8 (by decide) (fun hhc => ?_) (fun hhc => ?_)
  · cases hh : inL 0 1000 k with
    | none => exact absurd hhc (by rw [inL_n hh]; decide)
    | some a =>
      obtain ⟨hhl, hhn, hhe, -⟩ := inL_s (by decide) (by decide) hh
      subst hhe
      refine lv_aload_n hx hb dX5_quiet_13 rfl (lv_at hl 0 rfl) ?_
      refine lv_iload_n hx hb dX5_quiet_14 rfl (lv_at hl 1 rfl) ?_
      refine va_put (D := g.1) (ci := 5) (v := .int (nI (a))) (ty := .int) (C := RX5) (T := TX5) (N := 23) hx hb hts hiX5 tyX5 tyX5_ok nmX5 hown hK.1 hP hD hS 0 rfl rfl 12 (by decide) (hts _ w_fl_X5_45) (fun _ h9 => h9) rfl (by decide +kernel) rfl rfl (Nat.le_of_ble_eq_true rfl) dX5_quiet_15 (fun H locs hP hD hS => ?_)
      have hP : va_P g.1 vwCl (wM g ma (upQ P a) S) H := hP
      have hD : va_D A (wM g ma (upQ P a) S) := hD
      refine lv_iconst (v := bI (true)) hx hb dX5_quiet_18 (by decide) ?_
      subst hQQ
      exact W.zret hx hb hr (nar_b _) (fun t9 ht _ => ⟨⟨_, upQ P a, rfl, by unfold quietS; rw [hh]; exact ⟨rfl, Rel_Q hRl a, hR0⟩, hpT ht hP⟩, hS.F ht⟩) hS.2.2 dX5_quiet_19
  · cases hh : inL 0 1000 k with
    | none =>
      refine lv_iconst (v := bI (false)) hx hb dX5_quiet_11 (by decide) ?_
      subst hQQ
      exact W.zret hx hb hr (nar_b _) (fun t9 ht _ => ⟨⟨_, P, rfl, by unfold quietS; rw [hh]; exact ⟨rfl, hRl, hR0⟩, hpT ht hP⟩, hS.F ht⟩) hS.2.2 dX5_quiet_12
    | some a => exact absurd hhc (by rw [(inL_s (by decide) (by decide) hh).2.2.2]; decide)

set_option maxHeartbeats 4000000 in
set_option maxRecDepth 100000 in
theorem m_cost (l : Launch) (g : GG) (ma : Nat → Nat) (P : PT) (S : ST) (x : FT) (hx9 : Xok x) (hRl : Rel x P) (hR0 : Rel0 P) (k d : Int32) (sz : Nat) : Mi l yX5_cost wsX5_cost 1 22 0 0 [.ref (ma 0), .int (k), .int (d)] g (wM g ma P S) sz ma S (fun r u => r = (costS x k d).1 ∧ Rel (costS x k d).2 u ∧ Rel0 u) := by
  refine Met.ofW (cc := cX5_cost) (maxL := 3) (ret := (some .boolean)) (by decide) rfl ?_
  intro p e s m args below meth c s₁ BB hml hv
  obtain ⟨hargs, hsz, hP, hK, hD0⟩ := hv
  have hx := BB.exec
  have hb := BB.bytes
  have hr := BB.returns
  have hts : ∀ w ∈ BIG, w.before args s = true := fun w h => atoms_spec (ws := wsX5_cost) BB.pre w (List.mem_cons_of_mem _ h)
  have hown : s.vm.findClass RX5 = some m.cls := findClass_of_methodNamed BB.named
  have hlocks := BB.notSynchronized
  obtain ⟨RR, hRR⟩ : ∃ RR, RR = (headSpec wsX5_cost ⟨1, 0, 0, 22⟩).room := ⟨_, rfl⟩
  have hR1 : RR.frames = 1 := by rw [hRR]; rfl
  have hR2 : RR.locals = 22 := by rw [hRR]; rfl
  have hR3 : RR.cells = 0 := by rw [hRR]; rfl
  have hR4 : RR.slots = 0 := by rw [hRR]; rfl
  have hl := lv_entry ([.ref (ma 0), .int (k), .int (d)]) (n := 3) (Nat.le_of_ble_eq_true rfl)
  have hent : entryFrame m args 3 = F0 m 0 ((lg_sl ([.ref (ma 0), .int (k), .int (d)]) ++ List.replicate (3 - (lg_sl ([.ref (ma 0), .int (k), .int (d)])).length) Slot.unset).toArray) [] := by rw [hargs, lg_entry_eq]
  rw [hent]
  generalize (lg_sl ([.ref (ma 0), .int (k), .int (d)]) ++ List.replicate (3 - (lg_sl ([.ref (ma 0), .int (k), .int (d)])).length) Slot.unset).toArray = ls at hl ⊢
  have hl : lv_has ls 3 [(0, .ref (ma 0)), (1, .int (k)), (2, .int (d))] := hl
  subst hsz
  have hD := hD0.self (sz := s.heap.size)
  generalize hAe : va_A (wM g ma P S) s.heap.size = A at hD ⊢
  have hA : ∀ q : Nat, s.heap.size ≤ q → A q := fun q h => by rw [← hAe]; exact Or.inr h
  have hS : va_S A s.heap s.heap [] := va_S.rf
  refine q_ab (R := RR) hRR ?_
  generalize hQQ : MQ below _ args s _ _ _ = QQ
  refine lv_iload_n hx hb dX5_cost_0 rfl (lv_at hl 1 rfl) ?_
  refine lv_iconst (v := nI (0)) hx hb dX5_cost_1 (by decide) ?_
  refine lv_sipush (v := nI (1000)) hx hb dX5_cost_2 (by decide) ?_
  refine cR_i (W.runS (As := [.int (k), .int (nI (0)), .int (nI (1000))]) (rest := []) ⟨hx, hb, hml, hown, hts⟩ (m_isIn l g k (nI 0) (nI 1000)) (va_cwS 3 hts (gS w_ml_X5_79 w_sm_X5_isIn w_ini_X5 w_co_X5_isIn) rfl rfl rfl (by decide +kernel) (by rw [hR1, hR2]; exact ⟨Nat.le_of_ble_eq_true rfl, Nat.le_of_ble_eq_true rfl⟩)) (preS_rd va_P.nil hK) rfl rfl hl.1 rfl (lv_room (Nat.le_of_ble_eq_true rfl)) dX5_cost_5 ⟨by rw [hR3]; omega, by rw [hR4]; omega⟩) ?_
  refine bb_eq (tgt := 22) hx hb dX5_cost_8 (by decide) (fun hhc => ?_) (fun hhc => ?_)
  · cases hh : inL 0 1000 k with
    | none =>
      refine lv_iconst (v := bI (false)) hx hb dX5_cost_22 (by decide) ?_
      subst hQQ
      exact W.zret hx hb hr (nar_b _) (fun t9 ht _ => ⟨⟨_, P, rfl, by unfold costS; rw [hh]; exact ⟨rfl, hRl, hR0⟩, hpT ht hP⟩, hS.F ht⟩) hS.2.2 dX5_cost_23
    | some a => exact absurd hhc (by rw [(inL_s (by decide) (by decide) hh).2.2.2]; decide)
  · cases hh : inL 0 1000 k with
    | none => exact absurd hhc (by rw [inL_n hh]; decide)
    | some a =>
      obtain ⟨hhl, hhn, hhe, -⟩ := inL_s (by decide) (by decide) hh
      subst hhe
      refine lv_iload_n hx hb dX5_cost_11 rfl (lv_at hl 2 rfl) ?_
      refine lv_iconst (v := nI (0)) hx hb dX5_cost_12 (by decide) ?_
      refine lv_sipush (v := nI (1000)) hx hb dX5_cost_13 (by decide) ?_
      refine cR_i (W.runS (As := [.int (d), .int (nI (0)), .int (nI (1000))]) (rest := []) ⟨hx, hb, hml, hown, hts⟩ (m_isIn l g d (nI 0) (nI 1000)) (va_cwS 3 hts (gS w_ml_X5_79 w_sm_X5_isIn w_ini_X5 w_co_X5_isIn) rfl rfl rfl (by decide +kernel) (by rw [hR1, hR2]; exact ⟨Nat.le_of_ble_eq_true rfl, Nat.le_of_ble_eq_true rfl⟩)) (preS_rd va_P.nil hK) rfl rfl hl.1 rfl (lv_room (Nat.le_of_ble_eq_true rfl)) dX5_cost_16 ⟨by rw [hR3]; omega, by rw [hR4]; omega⟩) ?_
      refine bb_ne (tgt := 24) hx hb dX5_cost_19 (by decide) (fun hic => ?_) (fun hic => ?_)
      · cases hi : inL 0 1000 d with
        | none => exact absurd hic (by rw [inL_n hi]; decide)
        | some e1 =>
          obtain ⟨hil, hin, hie, -⟩ := inL_s (by decide) (by decide) hi
          subst hie
          refine lv_aload_n hx hb dX5_cost_24 rfl (lv_at hl 0 rfl) ?_
          refine lv_iload_n hx hb dX5_cost_25 rfl (lv_at hl 1 rfl) ?_
          refine va_put (D := g.1) (ci := 5) (v := .int (nI (a))) (ty := .int) (C := RX5) (T := TX5) (N := 23) hx hb hts hiX5 tyX5 tyX5_ok nmX5 hown hK.1 hP hD hS 0 rfl rfl 13 (by decide) (hts _ w_fl_X5_48) (fun _ h9 => h9) rfl (by decide +kernel) rfl rfl (Nat.le_of_ble_eq_true rfl) dX5_cost_26 (fun H locs hP hD hS => ?_)
          have hP : va_P g.1 vwCl (wM g ma (upE P a) S) H := hP
          have hD : va_D A (wM g ma (upE P a) S) := hD
          refine lv_aload_n hx hb dX5_cost_29 rfl (lv_at hl 0 rfl) ?_
          refine lv_iload_n hx hb dX5_cost_30 rfl (lv_at hl 2 rfl) ?_
          refine va_put (D := g.1) (ci := 5) (v := .int (nI (e1))) (ty := .int) (C := RX5) (T := TX5) (N := 23) hx hb hts hiX5 tyX5 tyX5_ok nmX5 hown hK.1 hP hD hS 0 rfl rfl 14 (by decide) (hts _ w_fl_X5_51) (fun _ h9 => h9) rfl (by decide +kernel) rfl rfl (Nat.le_of_ble_eq_true rfl) dX5_cost_31 (fun H locs hP hD hS => ?_)
          have hP : va_P g.1 vwCl (wM g ma (upL (upE P a) e1) S) H := hP
          have hD : va_D A (wM g ma (upL (upE P a) e1) S) := hD
          refine lv_iconst (v := bI (true)) hx hb dX5_cost_34 (by decide) ?_
          subst hQQ
          exact W.zret hx hb hr (nar_b _) (fun t9 ht _ => ⟨⟨_, upL (upE P a) e1, rfl, by unfold costS; rw [hh]; dsimp only; rw [hi]; exact ⟨rfl, Rel_EL hRl a e1, hR0⟩, hpT ht hP⟩, hS.F ht⟩) hS.2.2 dX5_cost_35
      · cases hi : inL 0 1000 d with
        | none =>
          refine lv_iconst (v := bI (false)) hx hb dX5_cost_22 (by decide) ?_
          subst hQQ
          exact W.zret hx hb hr (nar_b _) (fun t9 ht _ => ⟨⟨_, P, rfl, by unfold costS; rw [hh]; dsimp only; rw [hi]; exact ⟨rfl, hRl, hR0⟩, hpT ht hP⟩, hS.F ht⟩) hS.2.2 dX5_cost_23
        | some e1 => exact absurd hic (by rw [(inL_s (by decide) (by decide) hi).2.2.2]; decide)

set_option maxHeartbeats 4000000 in
set_option maxRecDepth 100000 in
theorem m_holiday (l : Launch) (g : GG) (ma : Nat → Nat) (P : PT) (S : ST) (x : FT) (hx9 : Xok x) (hRl : Rel x P) (hR0 : Rel0 P) (k : Int32) (on : Bool) (sz : Nat) : Mi l yX5_holiday wsX5_holiday 2 42 0 0 [.ref (ma 0), .int (k), .int (bI (on))] g (wM g ma P S) sz ma S (fun r u => r = (holS x k on).1 ∧ Rel (holS x k on).2 u ∧ Rel0 u) := by
  refine Met.ofW (cc := cX5_holiday) (maxL := 3) (ret := (some .boolean)) (by decide) rfl ?_
  intro p e s m args below meth c s₁ BB hml hv
  obtain ⟨hargs, hsz, hP, hK, hD0⟩ := hv
  have hx := BB.exec
  have hb := BB.bytes
  have hr := BB.returns
  have hts : ∀ w ∈ BIG, w.before args s = true := fun w h => atoms_spec (ws := wsX5_holiday) BB.pre w (List.mem_cons_of_mem _ h)
  have hown : s.vm.findClass RX5 = some m.cls := findClass_of_methodNamed BB.named
  have hlocks := BB.notSynchronized
  obtain ⟨RR, hRR⟩ : ∃ RR, RR = (headSpec wsX5_holiday ⟨2, 0, 0, 42⟩).room := ⟨_, rfl⟩
  have hR1 : RR.frames = 2 := by rw [hRR]; rfl
  have hR2 : RR.locals = 42 := by rw [hRR]; rfl
  have hR3 : RR.cells = 0 := by rw [hRR]; rfl
  have hR4 : RR.slots = 0 := by rw [hRR]; rfl
  have hl := lv_entry ([.ref (ma 0), .int (k), .int (bI (on))]) (n := 3) (Nat.le_of_ble_eq_true rfl)
  have hent : entryFrame m args 3 = F0 m 0 ((lg_sl ([.ref (ma 0), .int (k), .int (bI (on))]) ++ List.replicate (3 - (lg_sl ([.ref (ma 0), .int (k), .int (bI (on))])).length) Slot.unset).toArray) [] := by rw [hargs, lg_entry_eq]
  rw [hent]
  generalize (lg_sl ([.ref (ma 0), .int (k), .int (bI (on))]) ++ List.replicate (3 - (lg_sl ([.ref (ma 0), .int (k), .int (bI (on))])).length) Slot.unset).toArray = ls at hl ⊢
  have hl : lv_has ls 3 [(0, .ref (ma 0)), (1, .int (k)), (2, .int (bI (on)))] := hl
  subst hsz
  have hD := hD0.self (sz := s.heap.size)
  generalize hAe : va_A (wM g ma P S) s.heap.size = A at hD ⊢
  have hA : ∀ q : Nat, s.heap.size ≤ q → A q := fun q h => by rw [← hAe]; exact Or.inr h
  have hS : va_S A s.heap s.heap [] := va_S.rf
  refine q_ab (R := RR) hRR ?_
  generalize hQQ : MQ below _ args s _ _ _ = QQ
  refine lv_iload_n hx hb dX5_holiday_0 rfl (lv_at hl 1 rfl) ?_
  refine cR_i (W.runS (As := [.int (k)]) (rest := []) ⟨hx, hb, hml, hown, hts⟩ (m_isDay l g k) (va_cwS 1 hts (gS w_ml_X5_91 w_sm_X5_isDay w_ini_X5 w_co_X5_isDay) rfl rfl rfl (by decide +kernel) (by rw [hR1, hR2]; exact ⟨Nat.le_of_ble_eq_true rfl, Nat.le_of_ble_eq_true rfl⟩)) (preS_rd va_P.nil hK) rfl rfl hl.1 rfl (lv_room (Nat.le_of_ble_eq_true rfl)) dX5_holiday_1 ⟨by rw [hR3]; omega, by rw [hR4]; omega⟩) ?_
  refine bb_ne (tgt := 9) hx hb dX5_holiday_4 (by decide) (fun hhc => ?_) (fun hhc => ?_)
  · cases hh : inL 0 416 k with
    | none => exact absurd hhc (by rw [inL_n hh]; decide)
    | some a =>
      obtain ⟨hhl, hhn, hhe, -⟩ := inL_s (by decide) (by decide) hh
      subst hhe
      refine lv_aload_n hx hb dX5_holiday_9 rfl (lv_at hl 0 rfl) ?_
      refine va_get (D := g.1) (ci := 5) (v := .ref (ma 9)) (C := RX5) (T := TX5) (N := 23) hx hb hts hiX5 hown hK.1 hP 0 rfl rfl 11 (by decide) (hts _ w_fl_X5_41) (fun _ h9 => h9) rfl dX5_holiday_10 ?_
      refine lv_iload_n hx hb dX5_holiday_13 rfl (lv_at hl 1 rfl) ?_
      refine lv_iload_n hx hb dX5_holiday_14 rfl (lv_at hl 2 rfl) ?_
      refine n_zastE (f := aHo P) (x := on) (k := a) hx hb hK.1 hP hD hS 9 1 rfl rfl (by omega) (by decide) dX5_holiday_15 (fun H locs hP hD hS => ?_)
      have hP : va_P g.1 vwCl (wM g ma (uaHo P (va_up (aHo P) a on)) S) H := hP
      have hD : va_D A (wM g ma (uaHo P (va_up (aHo P) a on)) S) := hD
      refine lv_iconst (v := bI (true)) hx hb dX5_holiday_16 (by decide) ?_
      subst hQQ
      exact W.zret hx hb hr (nar_b _) (fun t9 ht _ => ⟨⟨_, uaHo P (va_up (aHo P) a on), rfl, by unfold holS; rw [hh]; exact ⟨rfl, Rel_H hRl a on, hR0⟩, hpT ht hP⟩, hS.F ht⟩) hS.2.2 dX5_holiday_17
  · cases hh : inL 0 416 k with
    | none =>
      refine lv_iconst (v := bI (false)) hx hb dX5_holiday_7 (by decide) ?_
      subst hQQ
      exact W.zret hx hb hr (nar_b _) (fun t9 ht _ => ⟨⟨_, P, rfl, by unfold holS; rw [hh]; exact ⟨rfl, hRl, hR0⟩, hpT ht hP⟩, hS.F ht⟩) hS.2.2 dX5_holiday_8
    | some a => exact absurd hhc (by rw [(inL_s (by decide) (by decide) hh).2.2.2]; decide)

set_option maxHeartbeats 4000000 in
set_option maxRecDepth 100000 in
theorem m_fade (l : Launch) (g : GG) (ma : Nat → Nat) (P : PT) (S : ST) (x : FT) (hx9 : Xok x) (hRl : Rel x P) (hR0 : Rel0 P) (k d : Int32) (sz : Nat) : Mi l yX5_fade wsX5_fade 1 22 0 0 [.ref (ma 0), .int (k), .int (d)] g (wM g ma P S) sz ma S (fun r u => r = (fadeS x k d).1 ∧ Rel (fadeS x k d).2 u ∧ Rel0 u) := by
  refine Met.ofW (cc := cX5_fade) (maxL := 3) (ret := (some .boolean)) (by decide) rfl ?_
  intro p e s m args below meth c s₁ BB hml hv
  obtain ⟨hargs, hsz, hP, hK, hD0⟩ := hv
  have hx := BB.exec
  have hb := BB.bytes
  have hr := BB.returns
  have hts : ∀ w ∈ BIG, w.before args s = true := fun w h => atoms_spec (ws := wsX5_fade) BB.pre w (List.mem_cons_of_mem _ h)
  have hown : s.vm.findClass RX5 = some m.cls := findClass_of_methodNamed BB.named
  have hlocks := BB.notSynchronized
  obtain ⟨RR, hRR⟩ : ∃ RR, RR = (headSpec wsX5_fade ⟨1, 0, 0, 22⟩).room := ⟨_, rfl⟩
  have hR1 : RR.frames = 1 := by rw [hRR]; rfl
  have hR2 : RR.locals = 22 := by rw [hRR]; rfl
  have hR3 : RR.cells = 0 := by rw [hRR]; rfl
  have hR4 : RR.slots = 0 := by rw [hRR]; rfl
  have hl := lv_entry ([.ref (ma 0), .int (k), .int (d)]) (n := 3) (Nat.le_of_ble_eq_true rfl)
  have hent : entryFrame m args 3 = F0 m 0 ((lg_sl ([.ref (ma 0), .int (k), .int (d)]) ++ List.replicate (3 - (lg_sl ([.ref (ma 0), .int (k), .int (d)])).length) Slot.unset).toArray) [] := by rw [hargs, lg_entry_eq]
  rw [hent]
  generalize (lg_sl ([.ref (ma 0), .int (k), .int (d)]) ++ List.replicate (3 - (lg_sl ([.ref (ma 0), .int (k), .int (d)])).length) Slot.unset).toArray = ls at hl ⊢
  have hl : lv_has ls 3 [(0, .ref (ma 0)), (1, .int (k)), (2, .int (d))] := hl
  subst hsz
  have hD := hD0.self (sz := s.heap.size)
  generalize hAe : va_A (wM g ma P S) s.heap.size = A at hD ⊢
  have hA : ∀ q : Nat, s.heap.size ≤ q → A q := fun q h => by rw [← hAe]; exact Or.inr h
  have hS : va_S A s.heap s.heap [] := va_S.rf
  refine q_ab (R := RR) hRR ?_
  generalize hQQ : MQ below _ args s _ _ _ = QQ
  refine lv_iload_n hx hb dX5_fade_0 rfl (lv_at hl 1 rfl) ?_
  refine lv_iconst (v := nI (1)) hx hb dX5_fade_1 (by decide) ?_
  refine lv_iload_n hx hb dX5_fade_2 rfl (lv_at hl 2 rfl) ?_
  refine cR_i (W.runS (As := [.int (k), .int (nI (1)), .int (d)]) (rest := []) ⟨hx, hb, hml, hown, hts⟩ (m_isIn l g k (nI 1) d) (va_cwS 3 hts (gS w_ml_X5_79 w_sm_X5_isIn w_ini_X5 w_co_X5_isIn) rfl rfl rfl (by decide +kernel) (by rw [hR1, hR2]; exact ⟨Nat.le_of_ble_eq_true rfl, Nat.le_of_ble_eq_true rfl⟩)) (preS_rd va_P.nil hK) rfl rfl hl.1 rfl (lv_room (Nat.le_of_ble_eq_true rfl)) dX5_fade_3 ⟨by rw [hR3]; omega, by rw [hR4]; omega⟩) ?_
  refine bb_eq (tgt := 15) hx hb dX5_fade_6 (by decide) (fun c1 => ?_) (fun c1 => ?_)
  · refine lv_iconst (v := bI (false)) hx hb dX5_fade_15 (by decide) ?_
    subst hQQ
    exact W.zret hx hb hr (nar_b _) (fun t9 ht _ => ⟨⟨_, P, rfl, by rw [fade_n (fun q => absurd c1 (by rw [decide_eq_true ⟨q.1, q.2.1⟩]; decide))]; exact ⟨rfl, hRl, hR0⟩, hpT ht hP⟩, hS.F ht⟩) hS.2.2 dX5_fade_16
  · refine lv_iload_n hx hb dX5_fade_9 rfl (lv_at hl 2 rfl) ?_
    refine lv_bipush (v := nI (9)) hx hb dX5_fade_10 (by decide) ?_
    refine lv_icmp_le (tgt := 17) hx hb dX5_fade_12 (by decide) (fun c2 => ?_) (fun c2 => ?_)
    · have c1 := of_decide_eq_true c1
      obtain ⟨a, e1, ha1, ha2, ha3, ek, ed, ha4, ha5⟩ := fade_y c1.1 c1.2 c2
      subst ek ed
      refine lv_aload_n hx hb dX5_fade_17 rfl (lv_at hl 0 rfl) ?_
      refine lv_iload_n hx hb dX5_fade_18 rfl (lv_at hl 1 rfl) ?_
      refine va_put (D := g.1) (ci := 5) (v := .int (nI (a))) (ty := .int) (C := RX5) (T := TX5) (N := 23) hx hb hts hiX5 tyX5 tyX5_ok nmX5 hown hK.1 hP hD hS 0 rfl rfl 9 (by decide) (hts _ w_fl_X5_34) (fun _ h9 => h9) rfl (by decide +kernel) rfl rfl (Nat.le_of_ble_eq_true rfl) dX5_fade_19 (fun H locs hP hD hS => ?_)
      have hP : va_P g.1 vwCl (wM g ma (upO P a) S) H := hP
      have hD : va_D A (wM g ma (upO P a) S) := hD
      refine lv_aload_n hx hb dX5_fade_22 rfl (lv_at hl 0 rfl) ?_
      refine lv_iload_n hx hb dX5_fade_23 rfl (lv_at hl 2 rfl) ?_
      refine va_put (D := g.1) (ci := 5) (v := .int (nI (e1))) (ty := .int) (C := RX5) (T := TX5) (N := 23) hx hb hts hiX5 tyX5 tyX5_ok nmX5 hown hK.1 hP hD hS 0 rfl rfl 10 (by decide) (hts _ w_fl_X5_38) (fun _ h9 => h9) rfl (by decide +kernel) rfl rfl (Nat.le_of_ble_eq_true rfl) dX5_fade_24 (fun H locs hP hD hS => ?_)
      have hP : va_P g.1 vwCl (wM g ma (upU (upO P a) e1) S) H := hP
      have hD : va_D A (wM g ma (upU (upO P a) e1) S) := hD
      refine lv_iconst (v := bI (true)) hx hb dX5_fade_27 (by decide) ?_
      subst hQQ
      exact W.zret hx hb hr (nar_b _) (fun t9 ht _ => ⟨⟨_, upU (upO P a) e1, rfl, by unfold fadeS; rw [ha1]; dsimp only; rw [ha2]; dsimp only; rw [if_pos ha3]; exact ⟨rfl, Rel_W hRl a e1, hR0⟩, hpT ht hP⟩, hS.F ht⟩) hS.2.2 dX5_fade_28
    · refine lv_iconst (v := bI (false)) hx hb dX5_fade_15 (by decide) ?_
      subst hQQ
      exact W.zret hx hb hr (nar_b _) (fun t9 ht _ => ⟨⟨_, P, rfl, by rw [fade_n (fun q => c2 q.2.2)]; exact ⟨rfl, hRl, hR0⟩, hpT ht hP⟩, hS.F ht⟩) hS.2.2 dX5_fade_16

