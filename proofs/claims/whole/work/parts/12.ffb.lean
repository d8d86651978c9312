set_option maxHeartbeats 4000000 in
set_option maxRecDepth 100000 in
theorem k_lookAhead (l : Launch) (g : GG) (x : FT) (b : BinT) (hx9 : Xok x) (hbm : b ∈ xB x) (sz : Nat) : Wv l yX4_lookAhead wsX4_lookAhead 4 102 0 0 [.ref (xA x 0), .ref (bA b 0)] g (wX g x) sz (wX g (lkX x b)) := by
  refine Met.ofW (cc := cX4_lookAhead) (maxL := 3) (ret := none) (by decide) rfl ?_
  intro p e s m args below meth c s₁ BB hml hv
  obtain ⟨hargs, hsz, hP, hK, hD0⟩ := hv
  have hx := BB.exec
  have hb := BB.bytes
  have hr := BB.returns
  have hts : ∀ w ∈ BIG, w.before args s = true := fun w h => atoms_spec (ws := wsX4_lookAhead) BB.pre w (List.mem_cons_of_mem _ h)
  have hown : s.vm.findClass RX4 = some m.cls := findClass_of_methodNamed BB.named
  have hlocks := BB.notSynchronized
  obtain ⟨RR, hRR⟩ : ∃ RR, RR = (headSpec wsX4_lookAhead ⟨4, 0, 0, 102⟩).room := ⟨_, rfl⟩
  have hR1 : RR.frames = 4 := by rw [hRR]; rfl
  have hR2 : RR.locals = 102 := by rw [hRR]; rfl
  have hR3 : RR.cells = 0 := by rw [hRR]; rfl
  have hR4 : RR.slots = 0 := by rw [hRR]; rfl
  have hl := lv_entry ([.ref (xA x 0), .ref (bA b 0)]) (n := 3) (Nat.le_of_ble_eq_true rfl)
  have hent : entryFrame m args 3 = F0 m 0 ((lg_sl ([.ref (xA x 0), .ref (bA b 0)]) ++ List.replicate (3 - (lg_sl ([.ref (xA x 0), .ref (bA b 0)])).length) Slot.unset).toArray) [] := by rw [hargs, lg_entry_eq]
  rw [hent]
  generalize (lg_sl ([.ref (xA x 0), .ref (bA b 0)]) ++ List.replicate (3 - (lg_sl ([.ref (xA x 0), .ref (bA b 0)])).length) Slot.unset).toArray = ls at hl ⊢
  have hl : lv_has ls 3 [(0, .ref (xA x 0)), (1, .ref (bA b 0))] := hl
  subst hsz
  have hD := hD0.self (sz := s.heap.size)
  generalize hAe : va_A (wX g x) s.heap.size = A at hD ⊢
  have hA : ∀ q : Nat, s.heap.size ≤ q → A q := fun q h => by rw [← hAe]; exact Or.inr h
  have hS : va_S A s.heap s.heap [] := va_S.rf
  refine q_ab (R := RR) hRR ?_
  generalize hQQ : MQ below _ args s _ _ _ = QQ
  refine lv_iconst (v := nI (0)) hx hb dX4_lookAhead_0 (by decide) ?_
  refine lv_istore_n (lv' := [(2, .int (nI (0))), (0, .ref (xA x 0)), (1, .ref (bA b 0))]) hx hb dX4_lookAhead_1 rfl hl (by decide) rfl (fun ls hl => ?_)
  have loop : ∀ (k : Nat) (j : Nat) (H : Heap) (locs : List Loc) (ls : Array Slot), (j ≤ 7) → (7 < j + k) → va_P g.1 vwCl (wX g (xsRS x (ptU (rateV x b) (xR x) j) (xS x))) H → va_D A (wX g (xsRS x (ptU (rateV x b) (xR x) j) (xS x))) → va_S A s.heap H locs → lv_has ls 3 [(0, .ref (xA x 0)), (1, .ref (bA b 0)), (2, .int (nI (j)))] → W p l e RR s m args below meth c H locs 0 0 QQ (F0 m 2 ls []) := by
    intro k
    induction k with
    | zero => intro j H locs ls hj hk hP hD hS hl; exact absurd hk (by omega)
    | succ k ih =>
      intro j H locs ls hj hk hP hD hS hl
      refine lv_iload_n hx hb dX4_lookAhead_2 rfl (lv_at hl 2 rfl) ?_
      refine lv_bipush (v := nI (7)) hx hb dX4_lookAhead_3 (by decide) ?_
      refine bn_ge (tgt := 28) hx hb (by omega) (by omega) dX4_lookAhead_5 (by decide) (fun c1 => ?_) (fun c1 => ?_)
      · have hj : j = 7 := by omega
        subst hj
        refine lv_aload_n hx hb dX4_lookAhead_28 rfl (lv_at hl 0 rfl) ?_
        refine va_get (D := g.1) (ci := 4) (v := .ref (xO x 0)) (C := RX4) (T := TX4) (N := 8) hx hb hts hiX4 hown hK.1 hP 0 rfl rfl 2 (by decide) (hts _ w_fl_X4_26) (fun _ h9 => h9) rfl dX4_lookAhead_29 ?_
        refine lv_aload_n hx hb dX4_lookAhead_32 rfl (lv_at hl 0 rfl) ?_
        refine va_get (D := g.1) (ci := 4) (v := .ref (xC x 0)) (C := RX4) (T := TX4) (N := 8) hx hb hts hiX4 hown hK.1 hP 0 rfl rfl 0 (by decide) (hts _ w_fl_X4_10) (fun _ h9 => h9) rfl dX4_lookAhead_33 ?_
        have hP3 : va_P g.1 vwCl ((wXh g (xsRS x (ptU (rateV x b) (xR x) 7) (xS x)) ++ wF g (xF x) (xW x)) ++ ((wO g (xO x) (ptU (rateV x b) (xR x) 7) (xS x) ++ wC g (xC x) (xH x)) ++ bw g (xB x))) _ := hP
        have hD3 : va_D A ((wXh g (xsRS x (ptU (rateV x b) (xR x) 7) (xS x)) ++ wF g (xF x) (xW x)) ++ ((wO g (xO x) (ptU (rateV x b) (xR x) 7) (xS x) ++ wC g (xC x) (xH x)) ++ bw g (xB x))) := hD
        refine cW_v (w1 := (wO g (xO x) (ptU (rateV x b) (xR x) 7) (smU (ptU (rateV x b) (xR x) 7) (xH x) (xS x) 417) ++ wC g (xC x) (xH x))) (va_runV (As := [.ref (xC x 0)]) (rest := []) ⟨hx, hb, hml, hown, hts⟩ (k_sumUp l g (xO x) (xC x) (ptU (rateV x b) (xR x) 7) (xS x) (xH x) _) (cwV 1 hts (gV w_ml_X4_145 w_im_X3_sumUp w_sel_X3_sumUp w_ini_X3 w_co_X3_sumUp) rfl rfl rfl (by decide +kernel) (by rw [hR1, hR2]; exact ⟨Nat.le_of_ble_eq_true rfl, Nat.le_of_ble_eq_true rfl⟩)) (preV_wr (P_mid hP3) hK (D_mid hD3) (va_recv hK.1 (P_mid hP3) (ci := 3) (q0 := 0) rfl rfl)) rfl rfl hl.1 rfl (lv_room (Nat.le_of_ble_eq_true rfl)) dX4_lookAhead_36 ⟨by rw [hR3]; omega, by rw [hR4]; omega⟩) hP3 hD3 hS hA rfl (fun H locs hP hD hS => ?_)
        have hP : va_P g.1 vwCl (wX g (lkX x b)) H := hP
        have hD : va_D A (wX g (lkX x b)) := hD
        subst hQQ
        exact W.vret hx hb hr (fun t9 ht _ => ⟨⟨(), rfl, trivial, hpT ht hP⟩, hS.F ht⟩) hS.2.2 dX4_lookAhead_39
      · refine lv_aload_n hx hb dX4_lookAhead_8 rfl (lv_at hl 0 rfl) ?_
        refine va_get (D := g.1) (ci := 4) (v := .ref (xO x 0)) (C := RX4) (T := TX4) (N := 8) hx hb hts hiX4 hown hK.1 hP 0 rfl rfl 2 (by decide) (hts _ w_fl_X4_26) (fun _ h9 => h9) rfl dX4_lookAhead_9 ?_
        refine lv_iload_n hx hb dX4_lookAhead_12 rfl (lv_at hl 2 rfl) ?_
        refine lv_aload_n hx hb dX4_lookAhead_13 rfl (lv_at hl 0 rfl) ?_
        refine lv_aload_n hx hb dX4_lookAhead_14 rfl (lv_at hl 1 rfl) ?_
        refine lv_iload_n hx hb dX4_lookAhead_15 rfl (lv_at hl 2 rfl) ?_
        refine cR_i (W.runV (As := [.ref (bA b 0), .int (nI (j))]) (rest := [.int (nI (j)), .ref (xO x 0)]) ⟨hx, hb, hml, hown, hts⟩ (k_rateOn l g (xsRS x (ptU (rateV x b) (xR x) j) (xS x)) b j hx9 hbm c1) (cwV 2 hts (gV w_ml_X4_90 w_im_X4_rateOn w_sel_X4_rateOn w_ini_X4 w_co_X4_rateOn) rfl rfl rfl (by decide +kernel) (by rw [hR1, hR2]; exact ⟨Nat.le_of_ble_eq_true rfl, Nat.le_of_ble_eq_true rfl⟩)) (preV_rd hP hK (va_recv hK.1 hP (ci := 4) (q0 := 0) rfl rfl)) rfl rfl hl.1 rfl (lv_room (Nat.le_of_ble_eq_true rfl)) dX4_lookAhead_16 ⟨by rw [hR3]; omega, by rw [hR4]; omega⟩) ?_
        refine W.eq (g2 := F0 m 19 ls [.int (nI (rateV x b j)), .int (nI (j)), .ref (xO x 0)]) rfl ?_
        have hP3 : va_P g.1 vwCl ((wXh g (xsRS x (ptU (rateV x b) (xR x) j) (xS x)) ++ wF g (xF x) (xW x)) ++ (wO g (xO x) (ptU (rateV x b) (xR x) j) (xS x) ++ (wC g (xC x) (xH x) ++ bw g (xB x)))) _ := hP
        have hD3 : va_D A ((wXh g (xsRS x (ptU (rateV x b) (xR x) j) (xS x)) ++ wF g (xF x) (xW x)) ++ (wO g (xO x) (ptU (rateV x b) (xR x) j) (xS x) ++ (wC g (xC x) (xH x) ++ bw g (xB x)))) := hD
        refine cW_v (w1 := wO g (xO x) (va_up (ptU (rateV x b) (xR x) j) j (rateV x b j)) (xS x)) (va_runV (As := [.int (nI (j)), .int (nI (rateV x b j))]) (rest := []) ⟨hx, hb, hml, hown, hts⟩ (k_setRate l g (xO x) (ptU (rateV x b) (xR x) j) (xS x) j (rateV x b j) c1 _) (cwV 2 hts (gV w_ml_X4_142 w_im_X3_setRate w_sel_X3_setRate w_ini_X3 w_co_X3_setRate) rfl rfl rfl (by decide +kernel) (by rw [hR1, hR2]; exact ⟨Nat.le_of_ble_eq_true rfl, Nat.le_of_ble_eq_true rfl⟩)) (preV_wr (P_mid hP3) hK (D_mid hD3) (va_recv hK.1 (P_mid hP3) (ci := 3) (q0 := 0) rfl rfl)) rfl rfl hl.1 rfl (lv_room (Nat.le_of_ble_eq_true rfl)) dX4_lookAhead_19 ⟨by rw [hR3]; omega, by rw [hR4]; omega⟩) hP3 hD3 hS hA rfl (fun H locs hP hD hS => ?_)
        rw [ptU_s] at hP hD
        have hP : va_P g.1 vwCl (wX g (xsRS x (ptU (rateV x b) (xR x) (j + 1)) (xS x))) H := hP
        have hD : va_D A (wX g (xsRS x (ptU (rateV x b) (xR x) (j + 1)) (xS x))) := hD
        refine lv_iinc (v := nI (j + 1)) (lv' := [(2, .int (nI (j + 1))), (0, .ref (xA x 0)), (1, .ref (bA b 0))]) hx hb dX4_lookAhead_22 hl (k := 2) rfl (nI_1 _) (by decide) rfl (fun ls hl => ?_)
        refine lv_goto (tgt := 2) hx hb dX4_lookAhead_25 (by decide) ?_
        exact ih (j + 1) H locs ls (by omega) (by omega) hP hD hS (lv_sub hl [1, 2, 0] rfl)
  have e0 : wX g (xsRS x (ptU (rateV x b) (xR x) 0) (xS x)) = wX g x := by rw [ptU_0]; rfl
  exact loop 8 0 _ _ ls (by omega) (by omega) (by rw [e0]; exact hP) (by rw [e0]; exact hD) hS (lv_sub hl [1, 2, 0] rfl)

set_option maxHeartbeats 4000000 in
set_option maxRecDepth 100000 in
theorem k_centsOn (l : Launch) (g : GG) (x : FT) (b : BinT) (hx9 : Xok x) (hbm : b ∈ xB x) (hs : ∀ d, d < 418 → xS x d ≤ 20000000) (hm : ∀ d, d < 417 → xS x d ≤ xS x (d + 1)) (d : Nat) (hd : d < 417) : Rl l yX4_centsOn wsX4_centsOn 4 90 [.ref (xA x 0), .ref (bA b 0), .int (nI (d))] g (wX g x) (lN (ctV x b d)) := by
  refine Met.ofW (cc := cX4_centsOn) (maxL := 5) (ret := (some .long)) (by decide) rfl ?_
  intro p e s m args below meth c s₁ BB hml hv
  obtain ⟨hargs, hP, hK⟩ := hv
  have hx := BB.exec
  have hb := BB.bytes
  have hr := BB.returns
  have hts : ∀ w ∈ BIG, w.before args s = true := fun w h => atoms_spec (ws := wsX4_centsOn) BB.pre w (List.mem_cons_of_mem _ h)
  have hown : s.vm.findClass RX4 = some m.cls := findClass_of_methodNamed BB.named
  have hlocks := BB.notSynchronized
  obtain ⟨RR, hRR⟩ : ∃ RR, RR = (headSpec wsX4_centsOn ⟨4, 0, 0, 90⟩).room := ⟨_, rfl⟩
  have hR1 : RR.frames = 4 := by rw [hRR]; rfl
  have hR2 : RR.locals = 90 := by rw [hRR]; rfl
  have hR3 : RR.cells = 0 := by rw [hRR]; rfl
  have hR4 : RR.slots = 0 := by rw [hRR]; rfl
  have hl := lv_entry ([.ref (xA x 0), .ref (bA b 0), .int (nI (d))]) (n := 5) (Nat.le_of_ble_eq_true rfl)
  have hent : entryFrame m args 5 = F0 m 0 ((lg_sl ([.ref (xA x 0), .ref (bA b 0), .int (nI (d))]) ++ List.replicate (5 - (lg_sl ([.ref (xA x 0), .ref (bA b 0), .int (nI (d))])).length) Slot.unset).toArray) [] := by rw [hargs, lg_entry_eq]
  rw [hent]
  generalize (lg_sl ([.ref (xA x 0), .ref (bA b 0), .int (nI (d))]) ++ List.replicate (5 - (lg_sl ([.ref (xA x 0), .ref (bA b 0), .int (nI (d))])).length) Slot.unset).toArray = ls at hl ⊢
  have hl : lv_has ls 5 [(0, .ref (xA x 0)), (1, .ref (bA b 0)), (2, .int (nI (d)))] := hl
  refine q_ab (R := RR) hRR ?_
  generalize hQQ : MQ below _ args s _ _ _ = QQ
  obtain ⟨h8, hB, hW, hq9, he9, hl9⟩ := id hx9
  obtain ⟨⟨hbn, hbp, -, hba⟩, -, -, hbs, -⟩ := hB b hbm
  have hPo := va_P.app (wX_O hP) (wX_B hP hbm)
  refine lv_aload_n hx hb dX4_centsOn_0 rfl (lv_at hl 0 rfl) ?_
  refine va_get (D := g.1) (ci := 4) (v := .ref (xO x 0)) (C := RX4) (T := TX4) (N := 8) hx hb hts hiX4 hown hK.1 hP 0 rfl rfl 2 (by decide) (hts _ w_fl_X4_26) (fun _ h9 => h9) rfl dX4_centsOn_1 ?_
  refine lv_aload_n hx hb dX4_centsOn_4 rfl (lv_at hl 1 rfl) ?_
  refine lv_iload_n hx hb dX4_centsOn_5 rfl (lv_at hl 2 rfl) ?_
  refine lv_bipush (v := nI (24)) hx hb dX4_centsOn_6 (by decide) ?_
  refine n_imul hx hb dX4_centsOn_8 ?_
  refine cR_l (W.runV (As := [.ref (bA b 0), .int (nI (d * 24))]) (rest := []) ⟨hx, hb, hml, hown, hts⟩ (k_shareAtO l g (xO x) (xR x) (xS x) b hbn hbp hba hs hm (d * 24) (by omega)) (cwV 2 hts (gV w_ml_X4_103 w_im_X3_shareAt w_sel_X3_shareAt w_ini_X3 w_co_X3_shareAt) rfl rfl rfl (by decide +kernel) (by rw [hR1, hR2]; exact ⟨Nat.le_of_ble_eq_true rfl, Nat.le_of_ble_eq_true rfl⟩)) (preV_rd hPo hK (va_recv hK.1 hPo (ci := 3) (q0 := 0) rfl rfl)) rfl rfl hl.1 rfl (lv_room (Nat.le_of_ble_eq_true rfl)) dX4_centsOn_9 ⟨by rw [hR3]; omega, by rw [hR4]; omega⟩) ?_
  have hlt : shA b (xS x) (d * 24) < 2 ^ 40 := shA_lt hba hs hm (by omega)
  refine lv_lstore_n (lv' := [(3, .long (lN (shA b (xS x) (d * 24)))), (0, .ref (xA x 0)), (1, .ref (bA b 0)), (2, .int (nI (d)))]) hx hb dX4_centsOn_12 rfl hl (by decide) rfl (fun ls hl => ?_)
  refine lv_lload_n hx hb dX4_centsOn_13 rfl (lv_at hl 0 rfl) ?_
  refine lv_ldc2 (v := 1000) hx hb hown (hts _ w_ct_X4_114) dX4_centsOn_14 ?_
  refine tp_l (y := lN 1000) (by decide) ?_
  refine W.lcmp hx hb dX4_centsOn_17 ?_
  refine bl_ge (tgt := 35) hx hb (by omega) (by omega) dX4_centsOn_18 (by decide) (fun c1 => ?_) (fun c1 => ?_)
  · refine lv_lload_n hx hb dX4_centsOn_35 rfl (lv_at hl 0 rfl) ?_
    refine lv_ldc2 (v := 1000) hx hb hown (hts _ w_ct_X4_114) dX4_centsOn_36 ?_
    refine tp_l (y := lN 1000) (by decide) ?_
    refine n_lsub hx hb (by omega) dX4_centsOn_39 ?_
    refine lv_aload_n hx hb dX4_centsOn_40 rfl (lv_at hl 1 rfl) ?_
    refine va_get (D := g.1) (ci := 4) (v := .int (nI (xL x))) (C := RX4) (T := TX4) (N := 8) hx hb hts hiX4 hown hK.1 hP 0 rfl rfl 7 (by decide) (hts _ w_fl_X4_46) (fun _ h9 => h9) rfl dX4_centsOn_41 ?_
    refine n_i2l hx hb (by omega) dX4_centsOn_44 ?_
    refine n_lmul hx hb dX4_centsOn_45 ?_
    subst hQQ
    exact W.lret hx hb hr (fun t9 ht _ => rdL (by unfold ctV; rw [if_neg (by omega)]) ht) (fun q h => absurd h List.not_mem_nil) dX4_centsOn_46
  · refine lv_ldc2 (v := 1000) hx hb hown (hts _ w_ct_X4_114) dX4_centsOn_21 ?_
    refine tp_l (y := lN 1000) (by decide) ?_
    refine lv_lload_n hx hb dX4_centsOn_24 rfl (lv_at hl 0 rfl) ?_
    refine n_lsub hx hb (by omega) dX4_centsOn_25 ?_
    refine lv_aload_n hx hb dX4_centsOn_26 rfl (lv_at hl 1 rfl) ?_
    refine va_get (D := g.1) (ci := 4) (v := .int (nI (xE x))) (C := RX4) (T := TX4) (N := 8) hx hb hts hiX4 hown hK.1 hP 0 rfl rfl 6 (by decide) (hts _ w_fl_X4_43) (fun _ h9 => h9) rfl dX4_centsOn_27 ?_
    refine n_i2l hx hb (by omega) dX4_centsOn_30 ?_
    refine n_lmul hx hb dX4_centsOn_31 ?_
    refine lv_goto (tgt := 46) hx hb dX4_centsOn_32 (by decide) ?_
    subst hQQ
    exact W.lret hx hb hr (fun t9 ht _ => rdL (by unfold ctV; rw [if_pos c1]) ht) (fun q h => absurd h List.not_mem_nil) dX4_centsOn_46
