set_option maxHeartbeats 4000000 in
set_option maxRecDepth 100000 in
theorem k_Cal_init (l : Launch) (g : GG) (q : Nat) (sz : Nat) : Nv l yX1_init wsX1_init 1 12 1 417 [.ref (q)] g ([(q, .inr (1, [.null]))]) sz q (fun u => wC g u (fun _ => false)) := by
  refine Met.ofW (cc := cX1_init) (maxL := 1) (ret := none) (by decide) rfl ?_
  intro p e s m args below meth c s₁ BB hml hv
  obtain ⟨hargs, hsz, hP, hK, hD0⟩ := hv
  have hx := BB.exec
  have hb := BB.bytes
  have hr := BB.returns
  have hts : ∀ w ∈ BIG, w.before args s = true := fun w h => atoms_spec (ws := wsX1_init) BB.pre w (List.mem_cons_of_mem _ h)
  have hown : s.vm.findClass RX1 = some m.cls := findClass_of_methodNamed BB.named
  have hlocks := BB.notSynchronized
  have hin : meth.name = "<init>" := (name_of_methodNamed BB.named BB.method).1
  obtain ⟨RR, hRR⟩ : ∃ RR, RR = (headSpec wsX1_init ⟨1, 1, 417, 12⟩).room := ⟨_, rfl⟩
  have hR1 : RR.frames = 1 := by rw [hRR]; rfl
  have hR2 : RR.locals = 12 := by rw [hRR]; rfl
  have hR3 : RR.cells = 1 := by rw [hRR]; rfl
  have hR4 : RR.slots = 417 := by rw [hRR]; rfl
  have hl := lv_entry ([.ref (q)]) (n := 1) (Nat.le_of_ble_eq_true rfl)
  have hent : entryFrame m args 1 = F0 m 0 ((lg_sl ([.ref (q)]) ++ List.replicate (1 - (lg_sl ([.ref (q)])).length) Slot.unset).toArray) [] := by rw [hargs, lg_entry_eq]
  rw [hent]
  generalize (lg_sl ([.ref (q)]) ++ List.replicate (1 - (lg_sl ([.ref (q)])).length) Slot.unset).toArray = ls at hl ⊢
  have hl : lv_has ls 1 [(0, .ref (q))] := hl
  subst hsz
  have hD := hD0.self (sz := s.heap.size)
  generalize hAe : va_A ([(q, .inr (1, [.null]))]) s.heap.size = A at hD ⊢
  have hA : ∀ q : Nat, s.heap.size ≤ q → A q := fun q h => by rw [← hAe]; exact Or.inr h
  have hS : va_S A s.heap s.heap [] := va_S.rf
  refine q_ab (R := RR) hRR ?_
  generalize hQQ : MQ below _ args s _ _ _ = QQ
  refine lv_aload_n hx hb dX1_init_0 rfl (lv_at hl 0 rfl) ?_
  refine W.objInit hx hb hown (hts _ w_ml_X1_3) (hts _ w_im_objectInit) (hts _ w_co_objectInit) rfl (by rw [hml]; exact hl.1) rfl dX1_init_1 (by rw [hR1]; exact Nat.le_of_ble_eq_true rfl) (by rw [hR2]; exact Nat.le_of_ble_eq_true rfl) ?_
  refine W.eq (g2 := F0 m 4 ls []) rfl ?_
  refine lv_aload_n hx hb dX1_init_4 rfl (lv_at hl 0 rfl) ?_
  refine lv_sipush (v := nI (417)) hx hb dX1_init_5 (by decide) ?_
  refine n_newa (atype := .boolean) (N := 417) (a0 := (417, .inl (fun _ => bI false))) (ty := .boolean) hx hb rfl (hts _ w_ac_boolean) hK.1 hP hD hS hA 1 rfl ra_z (fun _ => rfl) (by decide) (by decide) (by rw [hR3]; omega) (by rw [hR4]; omega) dX1_init_8 (fun a1 H hP hD hS => ?_)
  have hP : va_P g.1 vwCl ([(q, .inr (1, [.null])), (a1, .inl (g.2 1, 417, .inl (fun _ => bI false)))]) H := hP
  have hD : va_D A ([(q, .inr (1, [.null])), (a1, .inl (g.2 1, 417, .inl (fun _ => bI false)))]) := hD
  refine va_putF (D := g.1) (ci := 1) (v := .ref (a1)) (ty := .array .boolean) (C := RX1) (T := TX1) (N := 1) hx hb hts hiX1 tyX1 tyX1_ok nmX1 hown hK.1 hP hD hS 0 rfl rfl 0 (by decide) (hts _ w_fl_X1_9) (fun _ h9 => h9) rfl hin rfl (by decide +kernel) rfl rfl (Nat.le_of_ble_eq_true rfl) dX1_init_10 (fun H locs hP hD hS => ?_)
  have hP : va_P g.1 vwCl ([(q, .inr (1, [.ref (a1)])), (a1, .inl (g.2 1, 417, .inl (fun _ => bI false)))]) H := hP
  have hD : va_D A ([(q, .inr (1, [.ref (a1)])), (a1, .inl (g.2 1, 417, .inl (fun _ => bI false)))]) := hD
  subst hQQ
  exact W.vret hx hb hr (fun t9 ht _ => ⟨⟨ad [q, a1], rfl, rfl, hpT ht hP, hD⟩, hS.F ht⟩) hS.2.2 dX1_init_13

set_option maxHeartbeats 4000000 in
set_option maxRecDepth 100000 in
theorem k_Fad_init (l : Launch) (g : GG) (q : Nat) (sz : Nat) : Nv l yX2_init wsX2_init 1 25 1 8 [.ref (q)] g ([(q, .inr (2, [.null]))]) sz q (fun u => wF g u (wtU 1 2 (fun _ => 0) 8)) := by
  refine Met.ofW (cc := cX2_init) (maxL := 1) (ret := none) (by decide) rfl ?_
  intro p e s m args below meth c s₁ BB hml hv
  obtain ⟨hargs, hsz, hP, hK, hD0⟩ := hv
  have hx := BB.exec
  have hb := BB.bytes
  have hr := BB.returns
  have hts : ∀ w ∈ BIG, w.before args s = true := fun w h => atoms_spec (ws := wsX2_init) BB.pre w (List.mem_cons_of_mem _ h)
  have hown : s.vm.findClass RX2 = some m.cls := findClass_of_methodNamed BB.named
  have hlocks := BB.notSynchronized
  have hin : meth.name = "<init>" := (name_of_methodNamed BB.named BB.method).1
  obtain ⟨RR, hRR⟩ : ∃ RR, RR = (headSpec wsX2_init ⟨1, 1, 8, 25⟩).room := ⟨_, rfl⟩
  have hR1 : RR.frames = 1 := by rw [hRR]; rfl
  have hR2 : RR.locals = 25 := by rw [hRR]; rfl
  have hR3 : RR.cells = 1 := by rw [hRR]; rfl
  have hR4 : RR.slots = 8 := by rw [hRR]; rfl
  have hl := lv_entry ([.ref (q)]) (n := 1) (Nat.le_of_ble_eq_true rfl)
  have hent : entryFrame m args 1 = F0 m 0 ((lg_sl ([.ref (q)]) ++ List.replicate (1 - (lg_sl ([.ref (q)])).length) Slot.unset).toArray) [] := by rw [hargs, lg_entry_eq]
  rw [hent]
  generalize (lg_sl ([.ref (q)]) ++ List.replicate (1 - (lg_sl ([.ref (q)])).length) Slot.unset).toArray = ls at hl ⊢
  have hl : lv_has ls 1 [(0, .ref (q))] := hl
  subst hsz
  have hD := hD0.self (sz := s.heap.size)
  generalize hAe : va_A ([(q, .inr (2, [.null]))]) s.heap.size = A at hD ⊢
  have hA : ∀ q : Nat, s.heap.size ≤ q → A q := fun q h => by rw [← hAe]; exact Or.inr h
  have hS : va_S A s.heap s.heap [] := va_S.rf
  refine q_ab (R := RR) hRR ?_
  generalize hQQ : MQ below _ args s _ _ _ = QQ
  refine lv_aload_n hx hb dX2_init_0 rfl (lv_at hl 0 rfl) ?_
  refine W.objInit hx hb hown (hts _ w_ml_X2_3) (hts _ w_im_objectInit) (hts _ w_co_objectInit) rfl (by rw [hml]; exact hl.1) rfl dX2_init_1 (by rw [hR1]; exact Nat.le_of_ble_eq_true rfl) (by rw [hR2]; exact Nat.le_of_ble_eq_true rfl) ?_
  refine W.eq (g2 := F0 m 4 ls []) rfl ?_
  refine lv_aload_n hx hb dX2_init_4 rfl (lv_at hl 0 rfl) ?_
  refine lv_bipush (v := nI (8)) hx hb dX2_init_5 (by decide) ?_
  refine n_newa (atype := .int) (N := 8) (a0 := (8, .inl (fun _ => nI 0))) (ty := .int) hx hb rfl (hts _ w_ac_int) hK.1 hP hD hS hA 0 rfl ra_i (fun _ => rfl) (by decide) (by decide) (by rw [hR3]; omega) (by rw [hR4]; omega) dX2_init_7 (fun a1 H hP hD hS => ?_)
  have hP : va_P g.1 vwCl ([(q, .inr (2, [.null])), (a1, .inl (g.2 0, 8, .inl (fun _ => nI 0)))]) H := hP
  have hD : va_D A ([(q, .inr (2, [.null])), (a1, .inl (g.2 0, 8, .inl (fun _ => nI 0)))]) := hD
  refine va_putF (D := g.1) (ci := 2) (v := .ref (a1)) (ty := .array .int) (C := RX2) (T := TX2) (N := 1) hx hb hts hiX2 tyX2 tyX2_ok nmX2 hown hK.1 hP hD hS 0 rfl rfl 0 (by decide) (hts _ w_fl_X2_9) (fun _ h9 => h9) rfl hin rfl (by decide +kernel) rfl rfl (Nat.le_of_ble_eq_true rfl) dX2_init_9 (fun H locs hP hD hS => ?_)
  have hP : va_P g.1 vwCl ([(q, .inr (2, [.ref (a1)])), (a1, .inl (g.2 0, 8, .inl (fun _ => nI 0)))]) H := hP
  have hD : va_D A ([(q, .inr (2, [.ref (a1)])), (a1, .inl (g.2 0, 8, .inl (fun _ => nI 0)))]) := hD
  refine lv_aload_n hx hb dX2_init_12 rfl (lv_at hl 0 rfl) ?_
  refine lv_iconst (v := nI (1)) hx hb dX2_init_13 (by decide) ?_
  refine lv_iconst (v := nI (2)) hx hb dX2_init_14 (by decide) ?_
  have hP : va_P g.1 vwCl (wF g (ad [q, a1]) (fun _ => 0)) H := hP
  have hD : va_D A (wF g (ad [q, a1]) (fun _ => 0)) := hD
  refine cW0_v (wc := wF g (ad [q, a1]) (fun _ => 0)) (w1 := wF g (ad [q, a1]) (wtU 1 2 (fun _ => 0) 8)) (va_runV (As := [.int (nI (1)), .int (nI (2))]) (rest := []) ⟨hx, hb, hml, hown, hts⟩ (k_setTo l g (ad [q, a1]) (fun _ => 0) 1 2 (by decide) (by decide) _) (cwV 2 hts (gV w_ml_X2_15 w_im_X2_setTo w_sel_X2_setTo w_ini_X2 w_co_X2_setTo) rfl rfl rfl (by decide +kernel) (by rw [hR1, hR2]; exact ⟨Nat.le_of_ble_eq_true rfl, Nat.le_of_ble_eq_true rfl⟩)) (preV_wr hP hK hD (va_recv hK.1 hP (ci := 2) (q0 := 0) rfl rfl)) rfl rfl hl.1 rfl (lv_room (Nat.le_of_ble_eq_true rfl)) dX2_init_15 ⟨by rw [hR3]; omega, by rw [hR4]; omega⟩) hP hD hS hA rfl (fun H locs hP hD hS => ?_)
  subst hQQ
  exact W.vret hx hb hr (fun t9 ht _ => ⟨⟨ad [q, a1], rfl, rfl, hpT ht hP, hD⟩, hS.F ht⟩) hS.2.2 dX2_init_18

set_option maxHeartbeats 4000000 in
set_option maxRecDepth 100000 in
theorem k_Out_init (l : Launch) (g : GG) (q : Nat) (sz : Nat) : Nv l yX3_init wsX3_init 1 12 2 425 [.ref (q)] g ([(q, .inr (3, [.null, .null]))]) sz q (fun u => wO g u (fun _ => 0) (fun _ => 0)) := by
  refine Met.ofW (cc := cX3_init) (maxL := 1) (ret := none) (by decide) rfl ?_
  intro p e s m args below meth c s₁ BB hml hv
  obtain ⟨hargs, hsz, hP, hK, hD0⟩ := hv
  have hx := BB.exec
  have hb := BB.bytes
  have hr := BB.returns
  have hts : ∀ w ∈ BIG, w.before args s = true := fun w h => atoms_spec (ws := wsX3_init) BB.pre w (List.mem_cons_of_mem _ h)
  have hown : s.vm.findClass RX3 = some m.cls := findClass_of_methodNamed BB.named
  have hlocks := BB.notSynchronized
  have hin : meth.name = "<init>" := (name_of_methodNamed BB.named BB.method).1
  obtain ⟨RR, hRR⟩ : ∃ RR, RR = (headSpec wsX3_init ⟨1, 2, 425, 12⟩).room := ⟨_, rfl⟩
  have hR1 : RR.frames = 1 := by rw [hRR]; rfl
  have hR2 : RR.locals = 12 := by rw [hRR]; rfl
  have hR3 : RR.cells = 2 := by rw [hRR]; rfl
  have hR4 : RR.slots = 425 := by rw [hRR]; rfl
  have hl := lv_entry ([.ref (q)]) (n := 1) (Nat.le_of_ble_eq_true rfl)
  have hent : entryFrame m args 1 = F0 m 0 ((lg_sl ([.ref (q)]) ++ List.replicate (1 - (lg_sl ([.ref (q)])).length) Slot.unset).toArray) [] := by rw [hargs, lg_entry_eq]
  rw [hent]
  generalize (lg_sl ([.ref (q)]) ++ List.replicate (1 - (lg_sl ([.ref (q)])).length) Slot.unset).toArray = ls at hl ⊢
  have hl : lv_has ls 1 [(0, .ref (q))] := hl
  subst hsz
  have hD := hD0.self (sz := s.heap.size)
  generalize hAe : va_A ([(q, .inr (3, [.null, .null]))]) s.heap.size = A at hD ⊢
  have hA : ∀ q : Nat, s.heap.size ≤ q → A q := fun q h => by rw [← hAe]; exact Or.inr h
  have hS : va_S A s.heap s.heap [] := va_S.rf
  refine q_ab (R := RR) hRR ?_
  generalize hQQ : MQ below _ args s _ _ _ = QQ
  refine lv_aload_n hx hb dX3_init_0 rfl (lv_at hl 0 rfl) ?_
  refine W.objInit hx hb hown (hts _ w_ml_X3_3) (hts _ w_im_objectInit) (hts _ w_co_objectInit) rfl (by rw [hml]; exact hl.1) rfl dX3_init_1 (by rw [hR1]; exact Nat.le_of_ble_eq_true rfl) (by rw [hR2]; exact Nat.le_of_ble_eq_true rfl) ?_
  refine W.eq (g2 := F0 m 4 ls []) rfl ?_
  refine lv_aload_n hx hb dX3_init_4 rfl (lv_at hl 0 rfl) ?_
  refine lv_bipush (v := nI (7)) hx hb dX3_init_5 (by decide) ?_
  refine n_newa (atype := .int) (N := 7) (a0 := (7, .inl (fun _ => nI 0))) (ty := .int) hx hb rfl (hts _ w_ac_int) hK.1 hP hD hS hA 0 rfl ra_i (fun _ => rfl) (by decide) (by decide) (by rw [hR3]; omega) (by rw [hR4]; omega) dX3_init_7 (fun a1 H hP hD hS => ?_)
  have hP : va_P g.1 vwCl ([(q, .inr (3, [.null, .null])), (a1, .inl (g.2 0, 7, .inl (fun _ => nI 0)))]) H := hP
  have hD : va_D A ([(q, .inr (3, [.null, .null])), (a1, .inl (g.2 0, 7, .inl (fun _ => nI 0)))]) := hD
  refine va_putF (D := g.1) (ci := 3) (v := .ref (a1)) (ty := .array .int) (C := RX3) (T := TX3) (N := 2) hx hb hts hiX3 tyX3 tyX3_ok nmX3 hown hK.1 hP hD hS 0 rfl rfl 0 (by decide) (hts _ w_fl_X3_9) (fun _ h9 => h9) rfl hin rfl (by decide +kernel) rfl rfl (Nat.le_of_ble_eq_true rfl) dX3_init_9 (fun H locs hP hD hS => ?_)
  have hP : va_P g.1 vwCl ([(q, .inr (3, [.ref (a1), .null])), (a1, .inl (g.2 0, 7, .inl (fun _ => nI 0)))]) H := hP
  have hD : va_D A ([(q, .inr (3, [.ref (a1), .null])), (a1, .inl (g.2 0, 7, .inl (fun _ => nI 0)))]) := hD
  refine lv_aload_n hx hb dX3_init_12 rfl (lv_at hl 0 rfl) ?_
  refine lv_sipush (v := nI (418)) hx hb dX3_init_13 (by decide) ?_
  refine n_newa (atype := .int) (N := 418) (a0 := (418, .inl (fun _ => nI 0))) (ty := .int) hx hb rfl (hts _ w_ac_int) hK.1 hP hD hS hA 0 rfl ra_i (fun _ => rfl) (by decide) (by decide) (by rw [hR3]; omega) (by rw [hR4]; omega) dX3_init_16 (fun a2 H hP hD hS => ?_)
  have hP : va_P g.1 vwCl ([(q, .inr (3, [.ref (a1), .null])), (a1, .inl (g.2 0, 7, .inl (fun _ => nI 0))), (a2, .inl (g.2 0, 418, .inl (fun _ => nI 0)))]) H := hP
  have hD : va_D A ([(q, .inr (3, [.ref (a1), .null])), (a1, .inl (g.2 0, 7, .inl (fun _ => nI 0))), (a2, .inl (g.2 0, 418, .inl (fun _ => nI 0)))]) := hD
  refine va_putF (D := g.1) (ci := 3) (v := .ref (a2)) (ty := .array .int) (C := RX3) (T := TX3) (N := 2) hx hb hts hiX3 tyX3 tyX3_ok nmX3 hown hK.1 hP hD hS 0 rfl rfl 1 (by decide) (hts _ w_fl_X3_15) (fun _ h9 => h9) rfl hin rfl (by decide +kernel) rfl rfl (Nat.le_of_ble_eq_true rfl) dX3_init_18 (fun H locs hP hD hS => ?_)
  have hP : va_P g.1 vwCl ([(q, .inr (3, [.ref (a1), .ref (a2)])), (a1, .inl (g.2 0, 7, .inl (fun _ => nI 0))), (a2, .inl (g.2 0, 418, .inl (fun _ => nI 0)))]) H := hP
  have hD : va_D A ([(q, .inr (3, [.ref (a1), .ref (a2)])), (a1, .inl (g.2 0, 7, .inl (fun _ => nI 0))), (a2, .inl (g.2 0, 418, .inl (fun _ => nI 0)))]) := hD
  subst hQQ
  exact W.vret hx hb hr (fun t9 ht _ => ⟨⟨ad [q, a1, a2], rfl, rfl, hpT ht hP, hD⟩, hS.F ht⟩) hS.2.2 dX3_init_21

