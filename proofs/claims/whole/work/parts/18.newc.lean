set_option maxHeartbeats 4000000 in
set_option maxRecDepth 100000 in
theorem k_X_init (l : Launch) (g : GG) (q : Nat) (sz : Nat) : Nx l yX4_init wsX4_init 2 45 8 862 [.ref (q)] g ([(q, .inr (4, [.null, .null, .null, .null, .int 0, .int 0, .int 0, .int 0]))]) sz q := by
  refine Met.ofW (cc := cX4_init) (maxL := 1) (ret := none) (by decide) rfl ?_
  intro p e s m args below meth c s₁ BB hml hv
  obtain ⟨hargs, hsz, hP, hK, hD0⟩ := hv
  have hx := BB.exec
  have hb := BB.bytes
  have hr := BB.returns
  have hts : ∀ w ∈ BIG, w.before args s = true := fun w h => atoms_spec (ws := wsX4_init) BB.pre w (List.mem_cons_of_mem _ h)
  have hown : s.vm.findClass RX4 = some m.cls := findClass_of_methodNamed BB.named
  have hlocks := BB.notSynchronized
  have hin : meth.name = "<init>" := (name_of_methodNamed BB.named BB.method).1
  obtain ⟨RR, hRR⟩ : ∃ RR, RR = (headSpec wsX4_init ⟨2, 8, 862, 45⟩).room := ⟨_, rfl⟩
  have hR1 : RR.frames = 2 := by rw [hRR]; rfl
  have hR2 : RR.locals = 45 := by rw [hRR]; rfl
  have hR3 : RR.cells = 8 := by rw [hRR]; rfl
  have hR4 : RR.slots = 862 := by rw [hRR]; rfl
  have hl := lv_entry ([.ref (q)]) (n := 1) (Nat.le_of_ble_eq_true rfl)
  have hent : entryFrame m args 1 = F0 m 0 ((lg_sl ([.ref (q)]) ++ List.replicate (1 - (lg_sl ([.ref (q)])).length) Slot.unset).toArray) [] := by rw [hargs, lg_entry_eq]
  rw [hent]
  generalize (lg_sl ([.ref (q)]) ++ List.replicate (1 - (lg_sl ([.ref (q)])).length) Slot.unset).toArray = ls at hl ⊢
  have hl : lv_has ls 1 [(0, .ref (q))] := hl
  subst hsz
  have hD := hD0.self (sz := s.heap.size)
  generalize hAe : va_A ([(q, .inr (4, [.null, .null, .null, .null, .int 0, .int 0, .int 0, .int 0]))]) s.heap.size = A at hD ⊢
  have hA : ∀ q : Nat, s.heap.size ≤ q → A q := fun q h => by rw [← hAe]; exact Or.inr h
  have hS : va_S A s.heap s.heap [] := va_S.rf
  refine q_ab (R := RR) hRR ?_
  generalize hQQ : MQ below _ args s _ _ _ = QQ
  refine lv_aload_n hx hb dX4_init_0 rfl (lv_at hl 0 rfl) ?_
  refine W.objInit hx hb hown (hts _ w_ml_X4_1) (hts _ w_im_objectInit) (hts _ w_co_objectInit) rfl (by rw [hml]; exact hl.1) rfl dX4_init_1 (by rw [hR1]; exact Nat.le_of_ble_eq_true rfl) (by rw [hR2]; exact Nat.le_of_ble_eq_true rfl) ?_
  refine W.eq (g2 := F0 m 4 ls []) rfl ?_
  refine lv_aload_n hx hb dX4_init_4 rfl (lv_at hl 0 rfl) ?_
  refine va_new (ci := 1) (fs := [.null]) (C := RX1) (T := TX1) (N := 1) hx hb hts hiX1 tyX1 tyX1_ok hown (hts _ w_cl_X4_7) (hts _ w_ins_X1) (hts _ w_ini_X1) hK.1 hP hD hS hA rfl (fun j hj => by rcases (show j = 0 by omega) with rfl <;> rfl) (by rw [hR3]; omega) (by rw [hR4]; omega) dX4_init_5 (fun qc H hP hD hS => ?_)
  refine lv_dup hx hb dX4_init_8 rfl ?_
  have hP3 : va_P g.1 vwCl (([(q, .inr (4, [.null, .null, .null, .null, .int 0, .int 0, .int 0, .int 0]))] ++ ([] : va_W)) ++ ([(qc, .inr (1, [.null]))] ++ [])) _ := hP
  have hD3 : va_D A (([(q, .inr (4, [.null, .null, .null, .null, .int 0, .int 0, .int 0, .int 0]))] ++ ([] : va_W)) ++ ([(qc, .inr (1, [.null]))] ++ [])) := hD
  refine cN_v (q := qc) (w1 := fun u => wC g u (fun _ => false)) (va_runI (As := []) (rest := [.ref (qc), .ref (q)]) ⟨hx, hb, hml, hown, hts⟩ (k_Cal_init l g qc _) (cwI 0 hts (gI0 w_co_X1_init) rfl rfl rfl (hts _ w_ini_X1) (hts _ w_ml_X4_9) (hts _ w_im_X1_init) rfl (by decide +kernel) (by rw [hR1, hR2]; exact ⟨Nat.le_of_ble_eq_true rfl, Nat.le_of_ble_eq_true rfl⟩)) (preI_wr (P_mid hP3) hK (D_mid hD3)) rfl rfl hl.1 rfl (lv_room (Nat.le_of_ble_eq_true rfl)) dX4_init_9 ⟨by rw [hR3]; omega, by rw [hR4]; omega⟩) hP3 hD3 hS hA (fun uc H locs hu hPn hDn hSn => ?_)
  subst hu
  have hP := hPn
  have hD := hDn
  have hS := hSn
  have hP : va_P g.1 vwCl ([(q, .inr (4, [.null, .null, .null, .null, .int 0, .int 0, .int 0, .int 0]))] ++ wC g uc (fun _ => false)) H := hP
  have hD : va_D A ([(q, .inr (4, [.null, .null, .null, .null, .int 0, .int 0, .int 0, .int 0]))] ++ wC g uc (fun _ => false)) := hD
  refine va_putF (D := g.1) (ci := 4) (v := .ref (uc 0)) (ty := .object "FillForecast$Calendar") (C := RX4) (T := TX4) (N := 8) hx hb hts hiX4 tyX4 tyX4_ok nmX4 hown hK.1 hP hD hS 0 rfl rfl 0 (by decide) (hts _ w_fl_X4_10) (fun _ h9 => h9) rfl hin rfl (by decide +kernel) rfl rfl (Nat.le_of_ble_eq_true rfl) dX4_init_12 (fun H locs hP hD hS => ?_)
  have hP : va_P g.1 vwCl ([(q, .inr (4, [.ref (uc 0), .null, .null, .null, .int 0, .int 0, .int 0, .int 0]))] ++ wC g uc (fun _ => false)) H := hP
  have hD : va_D A ([(q, .inr (4, [.ref (uc 0), .null, .null, .null, .int 0, .int 0, .int 0, .int 0]))] ++ wC g uc (fun _ => false)) := hD
  refine lv_aload_n hx hb dX4_init_15 rfl (lv_at hl 0 rfl) ?_
  refine va_new (ci := 2) (fs := [.null]) (C := RX2) (T := TX2) (N := 1) hx hb hts hiX2 tyX2 tyX2_ok hown (hts _ w_cl_X4_16) (hts _ w_ins_X2) (hts _ w_ini_X2) hK.1 hP hD hS hA rfl (fun j hj => by rcases (show j = 0 by omega) with rfl <;> rfl) (by rw [hR3]; omega) (by rw [hR4]; omega) dX4_init_16 (fun qf H hP hD hS => ?_)
  refine lv_dup hx hb dX4_init_19 rfl ?_
  have hP3 : va_P g.1 vwCl (([(q, .inr (4, [.ref (uc 0), .null, .null, .null, .int 0, .int 0, .int 0, .int 0]))] ++ wC g uc (fun _ => false)) ++ ([(qf, .inr (2, [.null]))] ++ [])) _ := hP
  have hD3 : va_D A (([(q, .inr (4, [.ref (uc 0), .null, .null, .null, .int 0, .int 0, .int 0, .int 0]))] ++ wC g uc (fun _ => false)) ++ ([(qf, .inr (2, [.null]))] ++ [])) := hD
  refine cN_v (q := qf) (w1 := fun u => wF g u (wtU 1 2 (fun _ => 0) 8)) (va_runI (As := []) (rest := [.ref (qf), .ref (q)]) ⟨hx, hb, hml, hown, hts⟩ (k_Fad_init l g qf _) (cwI 0 hts (gI0 w_co_X2_init) rfl rfl rfl (hts _ w_ini_X2) (hts _ w_ml_X4_18) (hts _ w_im_X2_init) rfl (by decide +kernel) (by rw [hR1, hR2]; exact ⟨Nat.le_of_ble_eq_true rfl, Nat.le_of_ble_eq_true rfl⟩)) (preI_wr (P_mid hP3) hK (D_mid hD3)) rfl rfl hl.1 rfl (lv_room (Nat.le_of_ble_eq_true rfl)) dX4_init_20 ⟨by rw [hR3]; omega, by rw [hR4]; omega⟩) hP3 hD3 hS hA (fun uf H locs hu hPn hDn hSn => ?_)
  subst hu
  have hP := hPn
  have hD := hDn
  have hS := hSn
  have hP : va_P g.1 vwCl ([(q, .inr (4, [.ref (uc 0), .null, .null, .null, .int 0, .int 0, .int 0, .int 0]))] ++ (wC g uc (fun _ => false) ++ wF g uf (wtU 1 2 (fun _ => 0) 8))) H := hP
  have hD : va_D A ([(q, .inr (4, [.ref (uc 0), .null, .null, .null, .int 0, .int 0, .int 0, .int 0]))] ++ (wC g uc (fun _ => false) ++ wF g uf (wtU 1 2 (fun _ => 0) 8))) := hD
  refine va_putF (D := g.1) (ci := 4) (v := .ref (uf 0)) (ty := .object "FillForecast$Fading") (C := RX4) (T := TX4) (N := 8) hx hb hts hiX4 tyX4 tyX4_ok nmX4 hown hK.1 hP hD hS 0 rfl rfl 1 (by decide) (hts _ w_fl_X4_19) (fun _ h9 => h9) rfl hin rfl (by decide +kernel) rfl rfl (Nat.le_of_ble_eq_true rfl) dX4_init_23 (fun H locs hP hD hS => ?_)
  have hP : va_P g.1 vwCl ([(q, .inr (4, [.ref (uc 0), .ref (uf 0), .null, .null, .int 0, .int 0, .int 0, .int 0]))] ++ (wC g uc (fun _ => false) ++ wF g uf (wtU 1 2 (fun _ => 0) 8))) H := hP
  have hD : va_D A ([(q, .inr (4, [.ref (uc 0), .ref (uf 0), .null, .null, .int 0, .int 0, .int 0, .int 0]))] ++ (wC g uc (fun _ => false) ++ wF g uf (wtU 1 2 (fun _ => 0) 8))) := hD
  refine lv_aload_n hx hb dX4_init_26 rfl (lv_at hl 0 rfl) ?_
  refine va_new (ci := 3) (fs := [.null, .null]) (C := RX3) (T := TX3) (N := 2) hx hb hts hiX3 tyX3 tyX3_ok hown (hts _ w_cl_X4_23) (hts _ w_ins_X3) (hts _ w_ini_X3) hK.1 hP hD hS hA rfl (fun j hj => by rcases (show j = 0 ∨ j = 1 by omega) with rfl | rfl <;> rfl) (by rw [hR3]; omega) (by rw [hR4]; omega) dX4_init_27 (fun qo H hP hD hS => ?_)
  refine lv_dup hx hb dX4_init_30 rfl ?_
  have hP3 : va_P g.1 vwCl (([(q, .inr (4, [.ref (uc 0), .ref (uf 0), .null, .null, .int 0, .int 0, .int 0, .int 0]))] ++ (wC g uc (fun _ => false) ++ wF g uf (wtU 1 2 (fun _ => 0) 8))) ++ ([(qo, .inr (3, [.null, .null]))] ++ [])) _ := hP
  have hD3 : va_D A (([(q, .inr (4, [.ref (uc 0), .ref (uf 0), .null, .null, .int 0, .int 0, .int 0, .int 0]))] ++ (wC g uc (fun _ => false) ++ wF g uf (wtU 1 2 (fun _ => 0) 8))) ++ ([(qo, .inr (3, [.null, .null]))] ++ [])) := hD
  refine cN_v (q := qo) (w1 := fun u => wO g u (fun _ => 0) (fun _ => 0)) (va_runI (As := []) (rest := [.ref (qo), .ref (q)]) ⟨hx, hb, hml, hown, hts⟩ (k_Out_init l g qo _) (cwI 0 hts (gI0 w_co_X3_init) rfl rfl rfl (hts _ w_ini_X3) (hts _ w_ml_X4_25) (hts _ w_im_X3_init) rfl (by decide +kernel) (by rw [hR1, hR2]; exact ⟨Nat.le_of_ble_eq_true rfl, Nat.le_of_ble_eq_true rfl⟩)) (preI_wr (P_mid hP3) hK (D_mid hD3)) rfl rfl hl.1 rfl (lv_room (Nat.le_of_ble_eq_true rfl)) dX4_init_31 ⟨by rw [hR3]; omega, by rw [hR4]; omega⟩) hP3 hD3 hS hA (fun uo H locs hu hPn hDn hSn => ?_)
  subst hu
  have hP := hPn
  have hD := hDn
  have hS := hSn
  have hP : va_P g.1 vwCl ([(q, .inr (4, [.ref (uc 0), .ref (uf 0), .null, .null, .int 0, .int 0, .int 0, .int 0]))] ++ (wC g uc (fun _ => false) ++ (wF g uf (wtU 1 2 (fun _ => 0) 8) ++ wO g uo (fun _ => 0) (fun _ => 0)))) H := hP
  have hD : va_D A ([(q, .inr (4, [.ref (uc 0), .ref (uf 0), .null, .null, .int 0, .int 0, .int 0, .int 0]))] ++ (wC g uc (fun _ => false) ++ (wF g uf (wtU 1 2 (fun _ => 0) 8) ++ wO g uo (fun _ => 0) (fun _ => 0)))) := hD
  refine va_putF (D := g.1) (ci := 4) (v := .ref (uo 0)) (ty := .object "FillForecast$Outlook") (C := RX4) (T := TX4) (N := 8) hx hb hts hiX4 tyX4 tyX4_ok nmX4 hown hK.1 hP hD hS 0 rfl rfl 2 (by decide) (hts _ w_fl_X4_26) (fun _ h9 => h9) rfl hin rfl (by decide +kernel) rfl rfl (Nat.le_of_ble_eq_true rfl) dX4_init_34 (fun H locs hP hD hS => ?_)
  have hP : va_P g.1 vwCl ([(q, .inr (4, [.ref (uc 0), .ref (uf 0), .ref (uo 0), .null, .int 0, .int 0, .int 0, .int 0]))] ++ (wC g uc (fun _ => false) ++ (wF g uf (wtU 1 2 (fun _ => 0) 8) ++ wO g uo (fun _ => 0) (fun _ => 0)))) H := hP
  have hD : va_D A ([(q, .inr (4, [.ref (uc 0), .ref (uf 0), .ref (uo 0), .null, .int 0, .int 0, .int 0, .int 0]))] ++ (wC g uc (fun _ => false) ++ (wF g uf (wtU 1 2 (fun _ => 0) 8) ++ wO g uo (fun _ => 0) (fun _ => 0)))) := hD
  refine lv_aload_n hx hb dX4_init_37 rfl (lv_at hl 0 rfl) ?_
  refine lv_bipush (v := nI (8)) hx hb dX4_init_38 (by decide) ?_
  refine n_newq (N := 8) (C := "FillForecast$Bin") hx hb hown (hts _ w_cl_X4_30) hK.2.2 hK.1 hP hD hS hA 2 rfl (by decide) (by decide) (by rw [hR3]; omega) (by rw [hR4]; omega) dX4_init_40 (fun a8 H hP hD hS => ?_)
  have hP : va_P g.1 vwCl ([(q, .inr (4, [.ref (uc 0), .ref (uf 0), .ref (uo 0), .null, .int 0, .int 0, .int 0, .int 0]))] ++ (wC g uc (fun _ => false) ++ (wF g uf (wtU 1 2 (fun _ => 0) 8) ++ (wO g uo (fun _ => 0) (fun _ => 0) ++ [(a8, .inl (g.2 2, 8, .inr (.inr (.inr (.inr (fun _ => none))))))])))) H := hP
  have hD : va_D A ([(q, .inr (4, [.ref (uc 0), .ref (uf 0), .ref (uo 0), .null, .int 0, .int 0, .int 0, .int 0]))] ++ (wC g uc (fun _ => false) ++ (wF g uf (wtU 1 2 (fun _ => 0) 8) ++ (wO g uo (fun _ => 0) (fun _ => 0) ++ [(a8, .inl (g.2 2, 8, .inr (.inr (.inr (.inr (fun _ => none))))))])))) := hD
  refine va_putF (D := g.1) (ci := 4) (v := .ref (a8)) (ty := .array (.object "FillForecast$Bin")) (C := RX4) (T := TX4) (N := 8) hx hb hts hiX4 tyX4 tyX4_ok nmX4 hown hK.1 hP hD hS 0 rfl rfl 3 (by decide) (hts _ w_fl_X4_32) (fun _ h9 => h9) rfl hin rfl (by decide +kernel) rfl rfl (Nat.le_of_ble_eq_true rfl) dX4_init_43 (fun H locs hP hD hS => ?_)
  have hP : va_P g.1 vwCl ([(q, .inr (4, [.ref (uc 0), .ref (uf 0), .ref (uo 0), .ref (a8), .int 0, .int 0, .int 0, .int 0]))] ++ (wC g uc (fun _ => false) ++ (wF g uf (wtU 1 2 (fun _ => 0) 8) ++ (wO g uo (fun _ => 0) (fun _ => 0) ++ [(a8, .inl (g.2 2, 8, .inr (.inr (.inr (.inr (fun _ => none))))))])))) H := hP
  have hD : va_D A ([(q, .inr (4, [.ref (uc 0), .ref (uf 0), .ref (uo 0), .ref (a8), .int 0, .int 0, .int 0, .int 0]))] ++ (wC g uc (fun _ => false) ++ (wF g uf (wtU 1 2 (fun _ => 0) 8) ++ (wO g uo (fun _ => 0) (fun _ => 0) ++ [(a8, .inl (g.2 2, 8, .inr (.inr (.inr (.inr (fun _ => none))))))])))) := hD
  refine lv_aload_n hx hb dX4_init_46 rfl (lv_at hl 0 rfl) ?_
  refine lv_iconst (v := nI (0)) hx hb dX4_init_47 (by decide) ?_
  refine va_put (D := g.1) (ci := 4) (v := .int (nI (0))) (ty := .int) (C := RX4) (T := TX4) (N := 8) hx hb hts hiX4 tyX4 tyX4_ok nmX4 hown hK.1 hP hD hS 0 rfl rfl 4 (by decide) (hts _ w_fl_X4_36) (fun _ h9 => h9) rfl (by decide +kernel) rfl rfl (Nat.le_of_ble_eq_true rfl) dX4_init_48 (fun H locs hP hD hS => ?_)
  have hP : va_P g.1 vwCl ([(q, .inr (4, [.ref (uc 0), .ref (uf 0), .ref (uo 0), .ref (a8), .int (nI (0)), .int 0, .int 0, .int 0]))] ++ (wC g uc (fun _ => false) ++ (wF g uf (wtU 1 2 (fun _ => 0) 8) ++ (wO g uo (fun _ => 0) (fun _ => 0) ++ [(a8, .inl (g.2 2, 8, .inr (.inr (.inr (.inr (fun _ => none))))))])))) H := hP
  have hD : va_D A ([(q, .inr (4, [.ref (uc 0), .ref (uf 0), .ref (uo 0), .ref (a8), .int (nI (0)), .int 0, .int 0, .int 0]))] ++ (wC g uc (fun _ => false) ++ (wF g uf (wtU 1 2 (fun _ => 0) 8) ++ (wO g uo (fun _ => 0) (fun _ => 0) ++ [(a8, .inl (g.2 2, 8, .inr (.inr (.inr (.inr (fun _ => none))))))])))) := hD
  refine lv_aload_n hx hb dX4_init_51 rfl (lv_at hl 0 rfl) ?_
  refine lv_bipush (v := nI (72)) hx hb dX4_init_52 (by decide) ?_
  refine va_put (D := g.1) (ci := 4) (v := .int (nI (72))) (ty := .int) (C := RX4) (T := TX4) (N := 8) hx hb hts hiX4 tyX4 tyX4_ok nmX4 hown hK.1 hP hD hS 0 rfl rfl 5 (by decide) (hts _ w_fl_X4_40) (fun _ h9 => h9) rfl (by decide +kernel) rfl rfl (Nat.le_of_ble_eq_true rfl) dX4_init_54 (fun H locs hP hD hS => ?_)
  have hP : va_P g.1 vwCl ([(q, .inr (4, [.ref (uc 0), .ref (uf 0), .ref (uo 0), .ref (a8), .int (nI (0)), .int (nI (72)), .int 0, .int 0]))] ++ (wC g uc (fun _ => false) ++ (wF g uf (wtU 1 2 (fun _ => 0) 8) ++ (wO g uo (fun _ => 0) (fun _ => 0) ++ [(a8, .inl (g.2 2, 8, .inr (.inr (.inr (.inr (fun _ => none))))))])))) H := hP
  have hD : va_D A ([(q, .inr (4, [.ref (uc 0), .ref (uf 0), .ref (uo 0), .ref (a8), .int (nI (0)), .int (nI (72)), .int 0, .int 0]))] ++ (wC g uc (fun _ => false) ++ (wF g uf (wtU 1 2 (fun _ => 0) 8) ++ (wO g uo (fun _ => 0) (fun _ => 0) ++ [(a8, .inl (g.2 2, 8, .inr (.inr (.inr (.inr (fun _ => none))))))])))) := hD
  refine lv_aload_n hx hb dX4_init_57 rfl (lv_at hl 0 rfl) ?_
  refine lv_iconst (v := nI (1)) hx hb dX4_init_58 (by decide) ?_
  refine va_put (D := g.1) (ci := 4) (v := .int (nI (1))) (ty := .int) (C := RX4) (T := TX4) (N := 8) hx hb hts hiX4 tyX4 tyX4_ok nmX4 hown hK.1 hP hD hS 0 rfl rfl 6 (by decide) (hts _ w_fl_X4_43) (fun _ h9 => h9) rfl (by decide +kernel) rfl rfl (Nat.le_of_ble_eq_true rfl) dX4_init_59 (fun H locs hP hD hS => ?_)
  have hP : va_P g.1 vwCl ([(q, .inr (4, [.ref (uc 0), .ref (uf 0), .ref (uo 0), .ref (a8), .int (nI (0)), .int (nI (72)), .int (nI (1)), .int 0]))] ++ (wC g uc (fun _ => false) ++ (wF g uf (wtU 1 2 (fun _ => 0) 8) ++ (wO g uo (fun _ => 0) (fun _ => 0) ++ [(a8, .inl (g.2 2, 8, .inr (.inr (.inr (.inr (fun _ => none))))))])))) H := hP
  have hD : va_D A ([(q, .inr (4, [.ref (uc 0), .ref (uf 0), .ref (uo 0), .ref (a8), .int (nI (0)), .int (nI (72)), .int (nI (1)), .int 0]))] ++ (wC g uc (fun _ => false) ++ (wF g uf (wtU 1 2 (fun _ => 0) 8) ++ (wO g uo (fun _ => 0) (fun _ => 0) ++ [(a8, .inl (g.2 2, 8, .inr (.inr (.inr (.inr (fun _ => none))))))])))) := hD
  refine lv_aload_n hx hb dX4_init_62 rfl (lv_at hl 0 rfl) ?_
  refine lv_iconst (v := nI (1)) hx hb dX4_init_63 (by decide) ?_
  refine va_put (D := g.1) (ci := 4) (v := .int (nI (1))) (ty := .int) (C := RX4) (T := TX4) (N := 8) hx hb hts hiX4 tyX4 tyX4_ok nmX4 hown hK.1 hP hD hS 0 rfl rfl 7 (by decide) (hts _ w_fl_X4_46) (fun _ h9 => h9) rfl (by decide +kernel) rfl rfl (Nat.le_of_ble_eq_true rfl) dX4_init_64 (fun H locs hP hD hS => ?_)
  have hP : va_P g.1 vwCl ([(q, .inr (4, [.ref (uc 0), .ref (uf 0), .ref (uo 0), .ref (a8), .int (nI (0)), .int (nI (72)), .int (nI (1)), .int (nI (1))]))] ++ (wC g uc (fun _ => false) ++ (wF g uf (wtU 1 2 (fun _ => 0) 8) ++ (wO g uo (fun _ => 0) (fun _ => 0) ++ [(a8, .inl (g.2 2, 8, .inr (.inr (.inr (.inr (fun _ => none))))))])))) H := hP
  have hD : va_D A ([(q, .inr (4, [.ref (uc 0), .ref (uf 0), .ref (uo 0), .ref (a8), .int (nI (0)), .int (nI (72)), .int (nI (1)), .int (nI (1))]))] ++ (wC g uc (fun _ => false) ++ (wF g uf (wtU 1 2 (fun _ => 0) 8) ++ (wO g uo (fun _ => 0) (fun _ => 0) ++ [(a8, .inl (g.2 2, 8, .inr (.inr (.inr (.inr (fun _ => none))))))])))) := hD
  have hP : va_P g.1 vwCl (wX g (newX (ad [q, a8]) uc uf uo)) H := hP.sub [0, 8, 3, 4, 5, 6, 7, 1, 2] rfl
  have hD : va_D A (wX g (newX (ad [q, a8]) uc uf uo)) := hD.sub [0, 8, 3, 4, 5, 6, 7, 1, 2] (by decide) rfl
  subst hQQ
  exact W.vret hx hb hr (fun t9 ht _ => ⟨⟨newX (ad [q, a8]) uc uf uo, rfl, ⟨rfl, _, _, _, _, rfl⟩, hpT ht hP, hD⟩, hS.F ht⟩) hS.2.2 dX4_init_67

