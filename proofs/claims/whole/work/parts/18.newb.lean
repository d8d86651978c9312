set_option maxHeartbeats 4000000 in
set_option maxRecDepth 100000 in
theorem k_Bin_init (l : Launch) (g : GG) (q st rm : Nat) (sz : Nat) : Nv l yX0_init wsX0_init 1 12 4 128 [.ref (q), .int (nI (st)), .int (nI (rm))] g ([(q, .inr (0, [.int 0, .int 0, .null, .null, .null, .null, .int 0, .int 0]))]) sz q (fun u => wB g (newB u st rm)) := by
  refine Met.ofW (cc := cX0_init) (maxL := 3) (ret := none) (by decide) rfl ?_
  intro p e s m args below meth c s₁ BB hml hv
  obtain ⟨hargs, hsz, hP, hK, hD0⟩ := hv
  have hx := BB.exec
  have hb := BB.bytes
  have hr := BB.returns
  have hts : ∀ w ∈ BIG, w.before args s = true := fun w h => atoms_spec (ws := wsX0_init) BB.pre w (List.mem_cons_of_mem _ h)
  have hown : s.vm.findClass RX0 = some m.cls := findClass_of_methodNamed BB.named
  have hlocks := BB.notSynchronized
  have hin : meth.name = "<init>" := (name_of_methodNamed BB.named BB.method).1
  obtain ⟨RR, hRR⟩ : ∃ RR, RR = (headSpec wsX0_init ⟨1, 4, 128, 12⟩).room := ⟨_, rfl⟩
  have hR1 : RR.frames = 1 := by rw [hRR]; rfl
  have hR2 : RR.locals = 12 := by rw [hRR]; rfl
  have hR3 : RR.cells = 4 := by rw [hRR]; rfl
  have hR4 : RR.slots = 128 := by rw [hRR]; rfl
  have hl := lv_entry ([.ref (q), .int (nI (st)), .int (nI (rm))]) (n := 3) (Nat.le_of_ble_eq_true rfl)
  have hent : entryFrame m args 3 = F0 m 0 ((lg_sl ([.ref (q), .int (nI (st)), .int (nI (rm))]) ++ List.replicate (3 - (lg_sl ([.ref (q), .int (nI (st)), .int (nI (rm))])).length) Slot.unset).toArray) [] := by rw [hargs, lg_entry_eq]
  rw [hent]
  generalize (lg_sl ([.ref (q), .int (nI (st)), .int (nI (rm))]) ++ List.replicate (3 - (lg_sl ([.ref (q), .int (nI (st)), .int (nI (rm))])).length) Slot.unset).toArray = ls at hl ⊢
  have hl : lv_has ls 3 [(0, .ref (q)), (1, .int (nI (st))), (2, .int (nI (rm)))] := hl
  subst hsz
  have hD := hD0.self (sz := s.heap.size)
  generalize hAe : va_A ([(q, .inr (0, [.int 0, .int 0, .null, .null, .null, .null, .int 0, .int 0]))]) s.heap.size = A at hD ⊢
  have hA : ∀ q : Nat, s.heap.size ≤ q → A q := fun q h => by rw [← hAe]; exact Or.inr h
  have hS : va_S A s.heap s.heap [] := va_S.rf
  refine q_ab (R := RR) hRR ?_
  generalize hQQ : MQ below _ args s _ _ _ = QQ
  refine lv_aload_n hx hb dX0_init_0 rfl (lv_at hl 0 rfl) ?_
  refine W.objInit hx hb hown (hts _ w_ml_X0_5) (hts _ w_im_objectInit) (hts _ w_co_objectInit) rfl (by rw [hml]; exact hl.1) rfl dX0_init_1 (by rw [hR1]; exact Nat.le_of_ble_eq_true rfl) (by rw [hR2]; exact Nat.le_of_ble_eq_true rfl) ?_
  refine W.eq (g2 := F0 m 4 ls []) rfl ?_
  refine lv_aload_n hx hb dX0_init_4 rfl (lv_at hl 0 rfl) ?_
  refine lv_iload_n hx hb dX0_init_5 rfl (lv_at hl 1 rfl) ?_
  refine va_putF (D := g.1) (ci := 0) (v := .int (nI (st))) (ty := .int) (C := RX0) (T := TX0) (N := 8) hx hb hts hiX0 tyX0 tyX0_ok nmX0 hown hK.1 hP hD hS 0 rfl rfl 0 (by decide) (hts _ w_fl_X0_11) (fun _ h9 => h9) rfl hin rfl (by decide +kernel) rfl rfl (Nat.le_of_ble_eq_true rfl) dX0_init_6 (fun H locs hP hD hS => ?_)
  have hP : va_P g.1 vwCl ([(q, .inr (0, [.int (nI (st)), .int 0, .null, .null, .null, .null, .int 0, .int 0]))]) H := hP
  have hD : va_D A ([(q, .inr (0, [.int (nI (st)), .int 0, .null, .null, .null, .null, .int 0, .int 0]))]) := hD
  refine lv_aload_n hx hb dX0_init_9 rfl (lv_at hl 0 rfl) ?_
  refine lv_iload_n hx hb dX0_init_10 rfl (lv_at hl 2 rfl) ?_
  refine va_putF (D := g.1) (ci := 0) (v := .int (nI (rm))) (ty := .int) (C := RX0) (T := TX0) (N := 8) hx hb hts hiX0 tyX0 tyX0_ok nmX0 hown hK.1 hP hD hS 0 rfl rfl 1 (by decide) (hts _ w_fl_X0_15) (fun _ h9 => h9) rfl hin rfl (by decide +kernel) rfl rfl (Nat.le_of_ble_eq_true rfl) dX0_init_11 (fun H locs hP hD hS => ?_)
  have hP : va_P g.1 vwCl ([(q, .inr (0, [.int (nI (st)), .int (nI (rm)), .null, .null, .null, .null, .int 0, .int 0]))]) H := hP
  have hD : va_D A ([(q, .inr (0, [.int (nI (st)), .int (nI (rm)), .null, .null, .null, .null, .int 0, .int 0]))]) := hD
  refine lv_aload_n hx hb dX0_init_14 rfl (lv_at hl 0 rfl) ?_
  refine lv_bipush (v := nI (32)) hx hb dX0_init_15 (by decide) ?_
  refine n_newa (atype := .int) (N := 32) (a0 := (32, .inl (fun _ => nI 0))) (ty := .int) hx hb rfl (hts _ w_ac_int) hK.1 hP hD hS hA 0 rfl ra_i (fun _ => rfl) (by decide) (by decide) (by rw [hR3]; omega) (by rw [hR4]; omega) dX0_init_17 (fun a1 H hP hD hS => ?_)
  have hP : va_P g.1 vwCl ([(q, .inr (0, [.int (nI (st)), .int (nI (rm)), .null, .null, .null, .null, .int 0, .int 0])), (a1, .inl (g.2 0, 32, .inl (fun _ => nI 0)))]) H := hP
  have hD : va_D A ([(q, .inr (0, [.int (nI (st)), .int (nI (rm)), .null, .null, .null, .null, .int 0, .int 0])), (a1, .inl (g.2 0, 32, .inl (fun _ => nI 0)))]) := hD
  refine va_putF (D := g.1) (ci := 0) (v := .ref (a1)) (ty := .array .int) (C := RX0) (T := TX0) (N := 8) hx hb hts hiX0 tyX0 tyX0_ok nmX0 hown hK.1 hP hD hS 0 rfl rfl 2 (by decide) (hts _ w_fl_X0_18) (fun _ h9 => h9) rfl hin rfl (by decide +kernel) rfl rfl (Nat.le_of_ble_eq_true rfl) dX0_init_19 (fun H locs hP hD hS => ?_)
  have hP : va_P g.1 vwCl ([(q, .inr (0, [.int (nI (st)), .int (nI (rm)), .ref (a1), .null, .null, .null, .int 0, .int 0])), (a1, .inl (g.2 0, 32, .inl (fun _ => nI 0)))]) H := hP
  have hD : va_D A ([(q, .inr (0, [.int (nI (st)), .int (nI (rm)), .ref (a1), .null, .null, .null, .int 0, .int 0])), (a1, .inl (g.2 0, 32, .inl (fun _ => nI 0)))]) := hD
  refine lv_aload_n hx hb dX0_init_22 rfl (lv_at hl 0 rfl) ?_
  refine lv_bipush (v := nI (32)) hx hb dX0_init_23 (by decide) ?_
  refine n_newa (atype := .int) (N := 32) (a0 := (32, .inl (fun _ => nI 0))) (ty := .int) hx hb rfl (hts _ w_ac_int) hK.1 hP hD hS hA 0 rfl ra_i (fun _ => rfl) (by decide) (by decide) (by rw [hR3]; omega) (by rw [hR4]; omega) dX0_init_25 (fun a2 H hP hD hS => ?_)
  have hP : va_P g.1 vwCl ([(q, .inr (0, [.int (nI (st)), .int (nI (rm)), .ref (a1), .null, .null, .null, .int 0, .int 0])), (a1, .inl (g.2 0, 32, .inl (fun _ => nI 0))), (a2, .inl (g.2 0, 32, .inl (fun _ => nI 0)))]) H := hP
  have hD : va_D A ([(q, .inr (0, [.int (nI (st)), .int (nI (rm)), .ref (a1), .null, .null, .null, .int 0, .int 0])), (a1, .inl (g.2 0, 32, .inl (fun _ => nI 0))), (a2, .inl (g.2 0, 32, .inl (fun _ => nI 0)))]) := hD
  refine va_putF (D := g.1) (ci := 0) (v := .ref (a2)) (ty := .array .int) (C := RX0) (T := TX0) (N := 8) hx hb hts hiX0 tyX0 tyX0_ok nmX0 hown hK.1 hP hD hS 0 rfl rfl 3 (by decide) (hts _ w_fl_X0_22) (fun _ h9 => h9) rfl hin rfl (by decide +kernel) rfl rfl (Nat.le_of_ble_eq_true rfl) dX0_init_27 (fun H locs hP hD hS => ?_)
  have hP : va_P g.1 vwCl ([(q, .inr (0, [.int (nI (st)), .int (nI (rm)), .ref (a1), .ref (a2), .null, .null, .int 0, .int 0])), (a1, .inl (g.2 0, 32, .inl (fun _ => nI 0))), (a2, .inl (g.2 0, 32, .inl (fun _ => nI 0)))]) H := hP
  have hD : va_D A ([(q, .inr (0, [.int (nI (st)), .int (nI (rm)), .ref (a1), .ref (a2), .null, .null, .int 0, .int 0])), (a1, .inl (g.2 0, 32, .inl (fun _ => nI 0))), (a2, .inl (g.2 0, 32, .inl (fun _ => nI 0)))]) := hD
  refine lv_aload_n hx hb dX0_init_30 rfl (lv_at hl 0 rfl) ?_
  refine lv_bipush (v := nI (32)) hx hb dX0_init_31 (by decide) ?_
  refine n_newa (atype := .boolean) (N := 32) (a0 := (32, .inl (fun _ => bI false))) (ty := .boolean) hx hb rfl (hts _ w_ac_boolean) hK.1 hP hD hS hA 1 rfl ra_z (fun _ => rfl) (by decide) (by decide) (by rw [hR3]; omega) (by rw [hR4]; omega) dX0_init_33 (fun a3 H hP hD hS => ?_)
  have hP : va_P g.1 vwCl ([(q, .inr (0, [.int (nI (st)), .int (nI (rm)), .ref (a1), .ref (a2), .null, .null, .int 0, .int 0])), (a1, .inl (g.2 0, 32, .inl (fun _ => nI 0))), (a2, .inl (g.2 0, 32, .inl (fun _ => nI 0))), (a3, .inl (g.2 1, 32, .inl (fun _ => bI false)))]) H := hP
  have hD : va_D A ([(q, .inr (0, [.int (nI (st)), .int (nI (rm)), .ref (a1), .ref (a2), .null, .null, .int 0, .int 0])), (a1, .inl (g.2 0, 32, .inl (fun _ => nI 0))), (a2, .inl (g.2 0, 32, .inl (fun _ => nI 0))), (a3, .inl (g.2 1, 32, .inl (fun _ => bI false)))]) := hD
  refine va_putF (D := g.1) (ci := 0) (v := .ref (a3)) (ty := .array .boolean) (C := RX0) (T := TX0) (N := 8) hx hb hts hiX0 tyX0 tyX0_ok nmX0 hown hK.1 hP hD hS 0 rfl rfl 4 (by decide) (hts _ w_fl_X0_25) (fun _ h9 => h9) rfl hin rfl (by decide +kernel) rfl rfl (Nat.le_of_ble_eq_true rfl) dX0_init_35 (fun H locs hP hD hS => ?_)
  have hP : va_P g.1 vwCl ([(q, .inr (0, [.int (nI (st)), .int (nI (rm)), .ref (a1), .ref (a2), .ref (a3), .null, .int 0, .int 0])), (a1, .inl (g.2 0, 32, .inl (fun _ => nI 0))), (a2, .inl (g.2 0, 32, .inl (fun _ => nI 0))), (a3, .inl (g.2 1, 32, .inl (fun _ => bI false)))]) H := hP
  have hD : va_D A ([(q, .inr (0, [.int (nI (st)), .int (nI (rm)), .ref (a1), .ref (a2), .ref (a3), .null, .int 0, .int 0])), (a1, .inl (g.2 0, 32, .inl (fun _ => nI 0))), (a2, .inl (g.2 0, 32, .inl (fun _ => nI 0))), (a3, .inl (g.2 1, 32, .inl (fun _ => bI false)))]) := hD
  refine lv_aload_n hx hb dX0_init_38 rfl (lv_at hl 0 rfl) ?_
  refine lv_bipush (v := nI (32)) hx hb dX0_init_39 (by decide) ?_
  refine n_newa (atype := .int) (N := 32) (a0 := (32, .inl (fun _ => gI (some 0)))) (ty := .int) hx hb rfl (hts _ w_ac_int) hK.1 hP hD hS hA 0 rfl ra_i (fun _ => rfl) (by decide) (by decide) (by rw [hR3]; omega) (by rw [hR4]; omega) dX0_init_41 (fun a4 H hP hD hS => ?_)
  have hP : va_P g.1 vwCl ([(q, .inr (0, [.int (nI (st)), .int (nI (rm)), .ref (a1), .ref (a2), .ref (a3), .null, .int 0, .int 0])), (a1, .inl (g.2 0, 32, .inl (fun _ => nI 0))), (a2, .inl (g.2 0, 32, .inl (fun _ => nI 0))), (a3, .inl (g.2 1, 32, .inl (fun _ => bI false))), (a4, .inl (g.2 0, 32, .inl (fun _ => gI (some 0))))]) H := hP
  have hD : va_D A ([(q, .inr (0, [.int (nI (st)), .int (nI (rm)), .ref (a1), .ref (a2), .ref (a3), .null, .int 0, .int 0])), (a1, .inl (g.2 0, 32, .inl (fun _ => nI 0))), (a2, .inl (g.2 0, 32, .inl (fun _ => nI 0))), (a3, .inl (g.2 1, 32, .inl (fun _ => bI false))), (a4, .inl (g.2 0, 32, .inl (fun _ => gI (some 0))))]) := hD
  refine va_putF (D := g.1) (ci := 0) (v := .ref (a4)) (ty := .array .int) (C := RX0) (T := TX0) (N := 8) hx hb hts hiX0 tyX0 tyX0_ok nmX0 hown hK.1 hP hD hS 0 rfl rfl 5 (by decide) (hts _ w_fl_X0_29) (fun _ h9 => h9) rfl hin rfl (by decide +kernel) rfl rfl (Nat.le_of_ble_eq_true rfl) dX0_init_43 (fun H locs hP hD hS => ?_)
  have hP : va_P g.1 vwCl ([(q, .inr (0, [.int (nI (st)), .int (nI (rm)), .ref (a1), .ref (a2), .ref (a3), .ref (a4), .int 0, .int 0])), (a1, .inl (g.2 0, 32, .inl (fun _ => nI 0))), (a2, .inl (g.2 0, 32, .inl (fun _ => nI 0))), (a3, .inl (g.2 1, 32, .inl (fun _ => bI false))), (a4, .inl (g.2 0, 32, .inl (fun _ => gI (some 0))))]) H := hP
  have hD : va_D A ([(q, .inr (0, [.int (nI (st)), .int (nI (rm)), .ref (a1), .ref (a2), .ref (a3), .ref (a4), .int 0, .int 0])), (a1, .inl (g.2 0, 32, .inl (fun _ => nI 0))), (a2, .inl (g.2 0, 32, .inl (fun _ => nI 0))), (a3, .inl (g.2 1, 32, .inl (fun _ => bI false))), (a4, .inl (g.2 0, 32, .inl (fun _ => gI (some 0))))]) := hD
  refine lv_aload_n hx hb dX0_init_46 rfl (lv_at hl 0 rfl) ?_
  refine lv_iconst (v := nI (0)) hx hb dX0_init_47 (by decide) ?_
  refine va_put (D := g.1) (ci := 0) (v := .int (nI (0))) (ty := .int) (C := RX0) (T := TX0) (N := 8) hx hb hts hiX0 tyX0 tyX0_ok nmX0 hown hK.1 hP hD hS 0 rfl rfl 6 (by decide) (hts _ w_fl_X0_32) (fun _ h9 => h9) rfl (by decide +kernel) rfl rfl (Nat.le_of_ble_eq_true rfl) dX0_init_48 (fun H locs hP hD hS => ?_)
  have hP : va_P g.1 vwCl ([(q, .inr (0, [.int (nI (st)), .int (nI (rm)), .ref (a1), .ref (a2), .ref (a3), .ref (a4), .int (nI (0)), .int 0])), (a1, .inl (g.2 0, 32, .inl (fun _ => nI 0))), (a2, .inl (g.2 0, 32, .inl (fun _ => nI 0))), (a3, .inl (g.2 1, 32, .inl (fun _ => bI false))), (a4, .inl (g.2 0, 32, .inl (fun _ => gI (some 0))))]) H := hP
  have hD : va_D A ([(q, .inr (0, [.int (nI (st)), .int (nI (rm)), .ref (a1), .ref (a2), .ref (a3), .ref (a4), .int (nI (0)), .int 0])), (a1, .inl (g.2 0, 32, .inl (fun _ => nI 0))), (a2, .inl (g.2 0, 32, .inl (fun _ => nI 0))), (a3, .inl (g.2 1, 32, .inl (fun _ => bI false))), (a4, .inl (g.2 0, 32, .inl (fun _ => gI (some 0))))]) := hD
  refine lv_aload_n hx hb dX0_init_51 rfl (lv_at hl 0 rfl) ?_
  refine lv_iconst (v := nI (0)) hx hb dX0_init_52 (by decide) ?_
  refine va_put (D := g.1) (ci := 0) (v := .int (nI (0))) (ty := .int) (C := RX0) (T := TX0) (N := 8) hx hb hts hiX0 tyX0 tyX0_ok nmX0 hown hK.1 hP hD hS 0 rfl rfl 7 (by decide) (hts _ w_fl_X0_35) (fun _ h9 => h9) rfl (by decide +kernel) rfl rfl (Nat.le_of_ble_eq_true rfl) dX0_init_53 (fun H locs hP hD hS => ?_)
  have hP : va_P g.1 vwCl ([(q, .inr (0, [.int (nI (st)), .int (nI (rm)), .ref (a1), .ref (a2), .ref (a3), .ref (a4), .int (nI (0)), .int (nI (0))])), (a1, .inl (g.2 0, 32, .inl (fun _ => nI 0))), (a2, .inl (g.2 0, 32, .inl (fun _ => nI 0))), (a3, .inl (g.2 1, 32, .inl (fun _ => bI false))), (a4, .inl (g.2 0, 32, .inl (fun _ => gI (some 0))))]) H := hP
  have hD : va_D A ([(q, .inr (0, [.int (nI (st)), .int (nI (rm)), .ref (a1), .ref (a2), .ref (a3), .ref (a4), .int (nI (0)), .int (nI (0))])), (a1, .inl (g.2 0, 32, .inl (fun _ => nI 0))), (a2, .inl (g.2 0, 32, .inl (fun _ => nI 0))), (a3, .inl (g.2 1, 32, .inl (fun _ => bI false))), (a4, .inl (g.2 0, 32, .inl (fun _ => gI (some 0))))]) := hD
  subst hQQ
  exact W.vret hx hb hr (fun t9 ht _ => ⟨⟨ad [q, a1, a2, a3, a4], rfl, rfl, hpT ht hP, hD⟩, hS.F ht⟩) hS.2.2 dX0_init_56

