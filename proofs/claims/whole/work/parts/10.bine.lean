set_option maxHeartbeats 4000000 in
set_option maxRecDepth 100000 in
theorem k_shareBy (l : Launch) (g : GG) (oa : Nat → Nat) (rt sm : Nat → Nat) (b : BinT) (hn : bN b ≤ 32) (hpl : ∀ i, i < bN b → bPl b i < 20000) (ham : ∀ i, i < bN b → shB b i ≤ 1500) (hs : ∀ d, d < 418 → sm d ≤ 20000000) (hm : ∀ d, d < 417 → sm d ≤ sm (d + 1)) (o : Option Nat) (h : Nat) (hh : h < 10000) (ho : ∀ i, o = some i → i < bN b ∧ hrB b i ≤ h) : Rl l yX3_shareBy wsX3_shareBy 2 42 [.ref (oa 0), .ref (bA b 0), .int (gI o), .int (nI (h))] g (wO g oa rt sm ++ wB g b) (lN (shY b sm o h)) := by
  refine Met.ofW (cc := cX3_shareBy) (maxL := 7) (ret := (some .long)) (by decide) rfl ?_
  intro p e s m args below meth c s₁ BB hml hv
  obtain ⟨hargs, hP, hK⟩ := hv
  have hx := BB.exec
  have hb := BB.bytes
  have hr := BB.returns
  have hts : ∀ w ∈ BIG, w.before args s = true := fun w h => atoms_spec (ws := wsX3_shareBy) BB.pre w (List.mem_cons_of_mem _ h)
  have hown : s.vm.findClass RX3 = some m.cls := findClass_of_methodNamed BB.named
  have hlocks := BB.notSynchronized
  obtain ⟨RR, hRR⟩ : ∃ RR, RR = (headSpec wsX3_shareBy ⟨2, 0, 0, 42⟩).room := ⟨_, rfl⟩
  have hR1 : RR.frames = 2 := by rw [hRR]; rfl
  have hR2 : RR.locals = 42 := by rw [hRR]; rfl
  have hR3 : RR.cells = 0 := by rw [hRR]; rfl
  have hR4 : RR.slots = 0 := by rw [hRR]; rfl
  have hl := lv_entry ([.ref (oa 0), .ref (bA b 0), .int (gI o), .int (nI (h))]) (n := 7) (Nat.le_of_ble_eq_true rfl)
  have hent : entryFrame m args 7 = F0 m 0 ((lg_sl ([.ref (oa 0), .ref (bA b 0), .int (gI o), .int (nI (h))]) ++ List.replicate (7 - (lg_sl ([.ref (oa 0), .ref (bA b 0), .int (gI o), .int (nI (h))])).length) Slot.unset).toArray) [] := by rw [hargs, lg_entry_eq]
  rw [hent]
  generalize (lg_sl ([.ref (oa 0), .ref (bA b 0), .int (gI o), .int (nI (h))]) ++ List.replicate (7 - (lg_sl ([.ref (oa 0), .ref (bA b 0), .int (gI o), .int (nI (h))])).length) Slot.unset).toArray = ls at hl ⊢
  have hl : lv_has ls 7 [(0, .ref (oa 0)), (1, .ref (bA b 0)), (2, .int (gI o)), (3, .int (nI (h)))] := hl
  refine q_ab (R := RR) hRR ?_
  generalize hQQ : MQ below _ args s _ _ _ = QQ
  have hPo := P_left hP
  have hPb := P_right hP
  have hg1 : gup sm h < 2 ^ 40 := gup_lt hh hs hm
  refine lv_iload_n hx hb dX3_shareBy_0 rfl (lv_at hl 2 rfl) ?_
  refine lv_iconst (v := (-1)) hx hb dX3_shareBy_1 (by decide) ?_
  cases o with
  | none =>
    have hl : lv_has ls 7 [(0, .ref (oa 0)), (1, .ref (bA b 0)), (2, .int (-1)), (3, .int (nI (h)))] := hl
    have hg0 := gup_le (sm := sm) (Nat.zero_le h) hh hm
    refine lv_icmp_ne (tgt := 9) hx hb dX3_shareBy_2 (by decide) (fun c1 => ?_) (fun c1 => ?_)
    · exact absurd rfl c1
    · refine lv_iconst (v := nI (0)) hx hb dX3_shareBy_5 (by decide) ?_
      refine lv_goto (tgt := 14) hx hb dX3_shareBy_6 (by decide) ?_
      refine lv_istore (lv' := [(4, .int (nI (0))), (0, .ref (oa 0)), (1, .ref (bA b 0)), (2, .int (-1)), (3, .int (nI (h)))]) hx hb dX3_shareBy_14 hl (by decide) rfl (fun ls hl => ?_)
      refine lv_iload_n hx hb dX3_shareBy_16 rfl (lv_at hl 3 rfl) ?_
      refine lv_iconst (v := (-1)) hx hb dX3_shareBy_17 (by decide) ?_
      refine lv_icmp_ne (tgt := 25) hx hb dX3_shareBy_18 (by decide) (fun c2 => ?_) (fun c2 => ?_)
      · exact absurd rfl c2
      · refine lv_lconst (v := lN 0) hx hb dX3_shareBy_21 (by decide) ?_
        refine lv_goto (tgt := 31) hx hb dX3_shareBy_22 (by decide) ?_
        refine lv_lstore (lv' := [(5, .long (lN (0))), (4, .int (nI (0))), (0, .ref (oa 0)), (1, .ref (bA b 0)), (2, .int (-1)), (3, .int (nI (h)))]) hx hb dX3_shareBy_31 hl (by decide) rfl (fun ls hl => ?_)
        refine lv_ldc2 (v := 24) hx hb hown (hts _ w_ct_X3_45) dX3_shareBy_33 ?_
        refine tp_l (y := lN 24) (by decide) ?_
        refine lv_lload hx hb dX3_shareBy_36 (lv_at hl 0 rfl) ?_
        refine n_lmul hx hb dX3_shareBy_38 ?_
        refine lv_aload_n hx hb dX3_shareBy_39 rfl (lv_at hl 2 rfl) ?_
        refine lv_iload_n hx hb dX3_shareBy_40 rfl (lv_at hl 5 rfl) ?_
        refine cR_l (W.runV (As := [.int (nI (h))]) (rest := [.long (lN (24 * 0))]) ⟨hx, hb, hml, hown, hts⟩ (k_gainUpTo l g oa rt sm h hh hs hm) (cwV 1 hts (gV w_ml_X3_47 w_im_X3_gainUpTo w_sel_X3_gainUpTo w_ini_X3 w_co_X3_gainUpTo) rfl rfl rfl (by decide +kernel) (by rw [hR1, hR2]; exact ⟨Nat.le_of_ble_eq_true rfl, Nat.le_of_ble_eq_true rfl⟩)) (preV_rd hPo hK (va_recv hK.1 hPo (ci := 3) (q0 := 0) rfl rfl)) rfl rfl hl.1 rfl (lv_room (Nat.le_of_ble_eq_true rfl)) dX3_shareBy_41 ⟨by rw [hR3]; omega, by rw [hR4]; omega⟩) ?_
        refine n_ladd hx hb dX3_shareBy_44 ?_
        refine lv_aload_n hx hb dX3_shareBy_45 rfl (lv_at hl 2 rfl) ?_
        refine lv_iload hx hb dX3_shareBy_46 (lv_at hl 1 rfl) ?_
        refine cR_l (W.runV (As := [.int (nI (0))]) (rest := [.long (lN ((24 * 0) + (gup sm h)))]) ⟨hx, hb, hml, hown, hts⟩ (k_gainUpTo l g oa rt sm 0 (by omega) hs hm) (cwV 1 hts (gV w_ml_X3_47 w_im_X3_gainUpTo w_sel_X3_gainUpTo w_ini_X3 w_co_X3_gainUpTo) rfl rfl rfl (by decide +kernel) (by rw [hR1, hR2]; exact ⟨Nat.le_of_ble_eq_true rfl, Nat.le_of_ble_eq_true rfl⟩)) (preV_rd hPo hK (va_recv hK.1 hPo (ci := 3) (q0 := 0) rfl rfl)) rfl rfl hl.1 rfl (lv_room (Nat.le_of_ble_eq_true rfl)) dX3_shareBy_48 ⟨by rw [hR3]; omega, by rw [hR4]; omega⟩) ?_
        refine n_lsub hx hb (by omega) dX3_shareBy_51 ?_
        refine lv_ldc2 (v := 24) hx hb hown (hts _ w_ct_X3_45) dX3_shareBy_52 ?_
        refine tp_l (y := lN 24) (by decide) ?_
        refine n_ldiv hx hb (by omega) (by omega) (by omega) dX3_shareBy_55 ?_
        subst hQQ
        exact W.lret hx hb hr (fun t9 ht _ => rdL (rfl) ht) (fun q h => absurd h List.not_mem_nil) dX3_shareBy_56
  | some i =>
    have hl : lv_has ls 7 [(0, .ref (oa 0)), (1, .ref (bA b 0)), (2, .int (nI (i))), (3, .int (nI (h)))] := hl
    obtain ⟨hi, hih⟩ := ho i rfl
    have hpi := hpl i hi
    have hsi := ham i hi
    have hne : nI i ≠ -1 := nI_m1 (by omega)
    have hg0 := gup_le (sm := sm) hih hh hm
    refine lv_icmp_ne (tgt := 9) hx hb dX3_shareBy_2 (by decide) (fun c1 => ?_) (fun c1 => ?_)
    · refine lv_aload_n hx hb dX3_shareBy_9 rfl (lv_at hl 1 rfl) ?_
      refine lv_iload_n hx hb dX3_shareBy_10 rfl (lv_at hl 2 rfl) ?_
      refine cR_i (W.runV (As := [.int (nI (i))]) (rest := []) ⟨hx, hb, hml, hown, hts⟩ (k_hourAt l g b i (by omega) (by omega)) (cwV 1 hts (gV w_ml_X3_39 w_im_X0_hourAt w_sel_X0_hourAt w_ini_X0 w_co_X0_hourAt) rfl rfl rfl (by decide +kernel) (by rw [hR1, hR2]; exact ⟨Nat.le_of_ble_eq_true rfl, Nat.le_of_ble_eq_true rfl⟩)) (preV_rd hPb hK (va_recv hK.1 hPb (ci := 0) (q0 := 0) rfl rfl)) rfl rfl hl.1 rfl (lv_room (Nat.le_of_ble_eq_true rfl)) dX3_shareBy_11 ⟨by rw [hR3]; omega, by rw [hR4]; omega⟩) ?_
      refine lv_istore (lv' := [(4, .int (nI (hrB b i))), (0, .ref (oa 0)), (1, .ref (bA b 0)), (2, .int (nI (i))), (3, .int (nI (h)))]) hx hb dX3_shareBy_14 hl (by decide) rfl (fun ls hl => ?_)
      refine lv_iload_n hx hb dX3_shareBy_16 rfl (lv_at hl 3 rfl) ?_
      refine lv_iconst (v := (-1)) hx hb dX3_shareBy_17 (by decide) ?_
      refine lv_icmp_ne (tgt := 25) hx hb dX3_shareBy_18 (by decide) (fun c2 => ?_) (fun c2 => ?_)
      · refine lv_aload_n hx hb dX3_shareBy_25 rfl (lv_at hl 2 rfl) ?_
        refine lv_iload_n hx hb dX3_shareBy_26 rfl (lv_at hl 3 rfl) ?_
        refine cR_i (W.runV (As := [.int (nI (i))]) (rest := []) ⟨hx, hb, hml, hown, hts⟩ (k_shareAt l g b i (by omega) (by omega)) (cwV 1 hts (gV w_ml_X3_42 w_im_X0_shareAt w_sel_X0_shareAt w_ini_X0 w_co_X0_shareAt) rfl rfl rfl (by decide +kernel) (by rw [hR1, hR2]; exact ⟨Nat.le_of_ble_eq_true rfl, Nat.le_of_ble_eq_true rfl⟩)) (preV_rd hPb hK (va_recv hK.1 hPb (ci := 0) (q0 := 0) rfl rfl)) rfl rfl hl.1 rfl (lv_room (Nat.le_of_ble_eq_true rfl)) dX3_shareBy_27 ⟨by rw [hR3]; omega, by rw [hR4]; omega⟩) ?_
        refine n_i2l hx hb (by omega) dX3_shareBy_30 ?_
        refine lv_lstore (lv' := [(5, .long (lN (shB b i))), (4, .int (nI (hrB b i))), (0, .ref (oa 0)), (1, .ref (bA b 0)), (2, .int (nI (i))), (3, .int (nI (h)))]) hx hb dX3_shareBy_31 hl (by decide) rfl (fun ls hl => ?_)
        refine lv_ldc2 (v := 24) hx hb hown (hts _ w_ct_X3_45) dX3_shareBy_33 ?_
        refine tp_l (y := lN 24) (by decide) ?_
        refine lv_lload hx hb dX3_shareBy_36 (lv_at hl 0 rfl) ?_
        refine n_lmul hx hb dX3_shareBy_38 ?_
        refine lv_aload_n hx hb dX3_shareBy_39 rfl (lv_at hl 2 rfl) ?_
        refine lv_iload_n hx hb dX3_shareBy_40 rfl (lv_at hl 5 rfl) ?_
        refine cR_l (W.runV (As := [.int (nI (h))]) (rest := [.long (lN (24 * (shB b i)))]) ⟨hx, hb, hml, hown, hts⟩ (k_gainUpTo l g oa rt sm h hh hs hm) (cwV 1 hts (gV w_ml_X3_47 w_im_X3_gainUpTo w_sel_X3_gainUpTo w_ini_X3 w_co_X3_gainUpTo) rfl rfl rfl (by decide +kernel) (by rw [hR1, hR2]; exact ⟨Nat.le_of_ble_eq_true rfl, Nat.le_of_ble_eq_true rfl⟩)) (preV_rd hPo hK (va_recv hK.1 hPo (ci := 3) (q0 := 0) rfl rfl)) rfl rfl hl.1 rfl (lv_room (Nat.le_of_ble_eq_true rfl)) dX3_shareBy_41 ⟨by rw [hR3]; omega, by rw [hR4]; omega⟩) ?_
        refine n_ladd hx hb dX3_shareBy_44 ?_
        refine lv_aload_n hx hb dX3_shareBy_45 rfl (lv_at hl 2 rfl) ?_
        refine lv_iload hx hb dX3_shareBy_46 (lv_at hl 1 rfl) ?_
        refine cR_l (W.runV (As := [.int (nI (hrB b i))]) (rest := [.long (lN ((24 * (shB b i)) + (gup sm h)))]) ⟨hx, hb, hml, hown, hts⟩ (k_gainUpTo l g oa rt sm (hrB b i) (by omega) hs hm) (cwV 1 hts (gV w_ml_X3_47 w_im_X3_gainUpTo w_sel_X3_gainUpTo w_ini_X3 w_co_X3_gainUpTo) rfl rfl rfl (by decide +kernel) (by rw [hR1, hR2]; exact ⟨Nat.le_of_ble_eq_true rfl, Nat.le_of_ble_eq_true rfl⟩)) (preV_rd hPo hK (va_recv hK.1 hPo (ci := 3) (q0 := 0) rfl rfl)) rfl rfl hl.1 rfl (lv_room (Nat.le_of_ble_eq_true rfl)) dX3_shareBy_48 ⟨by rw [hR3]; omega, by rw [hR4]; omega⟩) ?_
        refine n_lsub hx hb (by omega) dX3_shareBy_51 ?_
        refine lv_ldc2 (v := 24) hx hb hown (hts _ w_ct_X3_45) dX3_shareBy_52 ?_
        refine tp_l (y := lN 24) (by decide) ?_
        refine n_ldiv hx hb (by omega) (by omega) (by omega) dX3_shareBy_55 ?_
        subst hQQ
        exact W.lret hx hb hr (fun t9 ht _ => rdL (rfl) ht) (fun q h => absurd h List.not_mem_nil) dX3_shareBy_56
      · exact absurd c2 hne
    · exact absurd c1 hne

set_option maxHeartbeats 4000000 in
set_option maxRecDepth 100000 in
theorem k_shareAtO (l : Launch) (g : GG) (oa : Nat → Nat) (rt sm : Nat → Nat) (b : BinT) (hn : bN b ≤ 32) (hpl : ∀ i, i < bN b → bPl b i < 20000) (ham : ∀ i, i < bN b → shB b i ≤ 1500) (hs : ∀ d, d < 418 → sm d ≤ 20000000) (hm : ∀ d, d < 417 → sm d ≤ sm (d + 1)) (h : Nat) (hh : h < 10000) : Rl l yX3_shareAt wsX3_shareAt 3 68 [.ref (oa 0), .ref (bA b 0), .int (nI (h))] g (wO g oa rt sm ++ wB g b) (lN (shA b sm h)) := by
  refine Met.ofW (cc := cX3_shareAt) (maxL := 3) (ret := (some .long)) (by decide) rfl ?_
  intro p e s m args below meth c s₁ BB hml hv
  obtain ⟨hargs, hP, hK⟩ := hv
  have hx := BB.exec
  have hb := BB.bytes
  have hr := BB.returns
  have hts : ∀ w ∈ BIG, w.before args s = true := fun w h => atoms_spec (ws := wsX3_shareAt) BB.pre w (List.mem_cons_of_mem _ h)
  have hown : s.vm.findClass RX3 = some m.cls := findClass_of_methodNamed BB.named
  have hlocks := BB.notSynchronized
  obtain ⟨RR, hRR⟩ : ∃ RR, RR = (headSpec wsX3_shareAt ⟨3, 0, 0, 68⟩).room := ⟨_, rfl⟩
  have hR1 : RR.frames = 3 := by rw [hRR]; rfl
  have hR2 : RR.locals = 68 := by rw [hRR]; rfl
  have hR3 : RR.cells = 0 := by rw [hRR]; rfl
  have hR4 : RR.slots = 0 := by rw [hRR]; rfl
  have hl := lv_entry ([.ref (oa 0), .ref (bA b 0), .int (nI (h))]) (n := 3) (Nat.le_of_ble_eq_true rfl)
  have hent : entryFrame m args 3 = F0 m 0 ((lg_sl ([.ref (oa 0), .ref (bA b 0), .int (nI (h))]) ++ List.replicate (3 - (lg_sl ([.ref (oa 0), .ref (bA b 0), .int (nI (h))])).length) Slot.unset).toArray) [] := by rw [hargs, lg_entry_eq]
  rw [hent]
  generalize (lg_sl ([.ref (oa 0), .ref (bA b 0), .int (nI (h))]) ++ List.replicate (3 - (lg_sl ([.ref (oa 0), .ref (bA b 0), .int (nI (h))])).length) Slot.unset).toArray = ls at hl ⊢
  have hl : lv_has ls 3 [(0, .ref (oa 0)), (1, .ref (bA b 0)), (2, .int (nI (h)))] := hl
  refine q_ab (R := RR) hRR ?_
  generalize hQQ : MQ below _ args s _ _ _ = QQ
  have hPb := P_right hP
  have hpl2 : ∀ i, i < bN b → bPl b i < 2 ^ 31 := fun i hi => Nat.lt_trans (hpl i hi) (by decide)
  refine lv_aload_n hx hb dX3_shareAt_0 rfl (lv_at hl 0 rfl) ?_
  refine lv_aload_n hx hb dX3_shareAt_1 rfl (lv_at hl 1 rfl) ?_
  refine lv_aload_n hx hb dX3_shareAt_2 rfl (lv_at hl 1 rfl) ?_
  refine lv_iload_n hx hb dX3_shareAt_3 rfl (lv_at hl 2 rfl) ?_
  refine cR_i (W.runS (As := [.int (nI (h))]) (rest := [.ref (bA b 0), .ref (bA b 0), .ref (oa 0)]) ⟨hx, hb, hml, hown, hts⟩ (k_placeOfEmptying l g h) (va_cwS 1 hts (gS w_ml_X3_24 w_sm_X0_placeOfEmptying w_ini_X0 w_co_X0_placeOfEmptying) rfl rfl rfl (by decide +kernel) (by rw [hR1, hR2]; exact ⟨Nat.le_of_ble_eq_true rfl, Nat.le_of_ble_eq_true rfl⟩)) (preS_rd va_P.nil hK) rfl rfl hl.1 rfl (lv_room (Nat.le_of_ble_eq_true rfl)) dX3_shareAt_4 ⟨by rw [hR3]; omega, by rw [hR4]; omega⟩) ?_
  refine cR_i (W.runV (As := [.int (nI (2 * h + 1))]) (rest := [.ref (bA b 0), .ref (oa 0)]) ⟨hx, hb, hml, hown, hts⟩ (k_latestUpTo l g b (2 * h + 1) hn hpl2 (by omega)) (cwV 1 hts (gV w_ml_X3_29 w_im_X0_latestUpTo w_sel_X0_latestUpTo w_ini_X0 w_co_X0_latestUpTo) rfl rfl rfl (by decide +kernel) (by rw [hR1, hR2]; exact ⟨Nat.le_of_ble_eq_true rfl, Nat.le_of_ble_eq_true rfl⟩)) (preV_rd hPb hK (va_recv hK.1 hPb (ci := 0) (q0 := 0) rfl rfl)) rfl rfl hl.1 rfl (lv_room (Nat.le_of_ble_eq_true rfl)) dX3_shareAt_7 ⟨by rw [hR3]; omega, by rw [hR4]; omega⟩) ?_
  refine W.eq (g2 := F0 m 10 ls [.int (gI (ltB b (2 * h + 1))), .ref (bA b 0), .ref (oa 0)]) rfl ?_
  refine lv_iload_n hx hb dX3_shareAt_10 rfl (lv_at hl 2 rfl) ?_
  refine cR_l (W.runV (As := [.ref (bA b 0), .int (gI (ltB b (2 * h + 1))), .int (nI (h))]) (rest := []) ⟨hx, hb, hml, hown, hts⟩ (k_shareBy l g oa rt sm b hn hpl ham hs hm (ltB b (2 * h + 1)) h hh (ltB_ok (Nat.le_refl _))) (cwV 3 hts (gV w_ml_X3_32 w_im_X3_shareBy w_sel_X3_shareBy w_ini_X3 w_co_X3_shareBy) rfl rfl rfl (by decide +kernel) (by rw [hR1, hR2]; exact ⟨Nat.le_of_ble_eq_true rfl, Nat.le_of_ble_eq_true rfl⟩)) (preV_rd hP hK (va_recv hK.1 hP (ci := 3) (q0 := 0) rfl rfl)) rfl rfl hl.1 rfl (lv_room (Nat.le_of_ble_eq_true rfl)) dX3_shareAt_11 ⟨by rw [hR3]; omega, by rw [hR4]; omega⟩) ?_
  subst hQQ
  exact W.lret hx hb hr (fun t9 ht _ => rdL (rfl) ht) (fun q h => absurd h List.not_mem_nil) dX3_shareAt_14

set_option maxHeartbeats 4000000 in
set_option maxRecDepth 100000 in
theorem k_shareBefore (l : Launch) (g : GG) (oa : Nat → Nat) (rt sm : Nat → Nat) (b : BinT) (hn : bN b ≤ 32) (hpl : ∀ i, i < bN b → bPl b i < 20000) (ham : ∀ i, i < bN b → shB b i ≤ 1500) (hs : ∀ d, d < 418 → sm d ≤ 20000000) (hm : ∀ d, d < 417 → sm d ≤ sm (d + 1)) (i : Nat) (hi : i < bN b) (h1 : 1 ≤ bPl b i) : Rl l yX3_shareBefore wsX3_shareBefore 3 68 [.ref (oa 0), .ref (bA b 0), .int (nI (i))] g (wO g oa rt sm ++ wB g b) (lN (shE b sm i)) := by
  refine Met.ofW (cc := cX3_shareBefore) (maxL := 3) (ret := (some .long)) (by decide) rfl ?_
  intro p e s m args below meth c s₁ BB hml hv
  obtain ⟨hargs, hP, hK⟩ := hv
  have hx := BB.exec
  have hb := BB.bytes
  have hr := BB.returns
  have hts : ∀ w ∈ BIG, w.before args s = true := fun w h => atoms_spec (ws := wsX3_shareBefore) BB.pre w (List.mem_cons_of_mem _ h)
  have hown : s.vm.findClass RX3 = some m.cls := findClass_of_methodNamed BB.named
  have hlocks := BB.notSynchronized
  obtain ⟨RR, hRR⟩ : ∃ RR, RR = (headSpec wsX3_shareBefore ⟨3, 0, 0, 68⟩).room := ⟨_, rfl⟩
  have hR1 : RR.frames = 3 := by rw [hRR]; rfl
  have hR2 : RR.locals = 68 := by rw [hRR]; rfl
  have hR3 : RR.cells = 0 := by rw [hRR]; rfl
  have hR4 : RR.slots = 0 := by rw [hRR]; rfl
  have hl := lv_entry ([.ref (oa 0), .ref (bA b 0), .int (nI (i))]) (n := 3) (Nat.le_of_ble_eq_true rfl)
  have hent : entryFrame m args 3 = F0 m 0 ((lg_sl ([.ref (oa 0), .ref (bA b 0), .int (nI (i))]) ++ List.replicate (3 - (lg_sl ([.ref (oa 0), .ref (bA b 0), .int (nI (i))])).length) Slot.unset).toArray) [] := by rw [hargs, lg_entry_eq]
  rw [hent]
  generalize (lg_sl ([.ref (oa 0), .ref (bA b 0), .int (nI (i))]) ++ List.replicate (3 - (lg_sl ([.ref (oa 0), .ref (bA b 0), .int (nI (i))])).length) Slot.unset).toArray = ls at hl ⊢
  have hl : lv_has ls 3 [(0, .ref (oa 0)), (1, .ref (bA b 0)), (2, .int (nI (i)))] := hl
  refine q_ab (R := RR) hRR ?_
  generalize hQQ : MQ below _ args s _ _ _ = QQ
  have hPb := P_right hP
  have hpl2 : ∀ i, i < bN b → bPl b i < 2 ^ 31 := fun i hi => Nat.lt_trans (hpl i hi) (by decide)
  have hpi := hpl i hi
  have hhi : hrB b i < 10000 := by unfold hrB; omega
  refine lv_aload_n hx hb dX3_shareBefore_0 rfl (lv_at hl 0 rfl) ?_
  refine lv_aload_n hx hb dX3_shareBefore_1 rfl (lv_at hl 1 rfl) ?_
  refine lv_aload_n hx hb dX3_shareBefore_2 rfl (lv_at hl 1 rfl) ?_
  refine lv_aload_n hx hb dX3_shareBefore_3 rfl (lv_at hl 1 rfl) ?_
  refine lv_iload_n hx hb dX3_shareBefore_4 rfl (lv_at hl 2 rfl) ?_
  refine cR_i (W.runV (As := [.int (nI (i))]) (rest := [.ref (bA b 0), .ref (bA b 0), .ref (oa 0)]) ⟨hx, hb, hml, hown, hts⟩ (k_placeAt l g b i (by omega)) (cwV 1 hts (gV w_ml_X3_36 w_im_X0_placeAt w_sel_X0_placeAt w_ini_X0 w_co_X0_placeAt) rfl rfl rfl (by decide +kernel) (by rw [hR1, hR2]; exact ⟨Nat.le_of_ble_eq_true rfl, Nat.le_of_ble_eq_true rfl⟩)) (preV_rd hPb hK (va_recv hK.1 hPb (ci := 0) (q0 := 0) rfl rfl)) rfl rfl hl.1 rfl (lv_room (Nat.le_of_ble_eq_true rfl)) dX3_shareBefore_5 ⟨by rw [hR3]; omega, by rw [hR4]; omega⟩) ?_
  refine lv_iconst (v := nI (1)) hx hb dX3_shareBefore_8 (by decide) ?_
  refine n_isub hx hb (by omega) dX3_shareBefore_9 ?_
  refine cR_i (W.runV (As := [.int (nI ((bPl b i) - 1))]) (rest := [.ref (bA b 0), .ref (oa 0)]) ⟨hx, hb, hml, hown, hts⟩ (k_latestUpTo l g b (bPl b i - 1) hn hpl2 (by omega)) (cwV 1 hts (gV w_ml_X3_29 w_im_X0_latestUpTo w_sel_X0_latestUpTo w_ini_X0 w_co_X0_latestUpTo) rfl rfl rfl (by decide +kernel) (by rw [hR1, hR2]; exact ⟨Nat.le_of_ble_eq_true rfl, Nat.le_of_ble_eq_true rfl⟩)) (preV_rd hPb hK (va_recv hK.1 hPb (ci := 0) (q0 := 0) rfl rfl)) rfl rfl hl.1 rfl (lv_room (Nat.le_of_ble_eq_true rfl)) dX3_shareBefore_10 ⟨by rw [hR3]; omega, by rw [hR4]; omega⟩) ?_
  refine W.eq (g2 := F0 m 13 ls [.int (gI (ltB b (bPl b i - 1))), .ref (bA b 0), .ref (oa 0)]) rfl ?_
  refine lv_aload_n hx hb dX3_shareBefore_13 rfl (lv_at hl 1 rfl) ?_
  refine lv_iload_n hx hb dX3_shareBefore_14 rfl (lv_at hl 2 rfl) ?_
  refine cR_i (W.runV (As := [.int (nI (i))]) (rest := [.int (gI (ltB b (bPl b i - 1))), .ref (bA b 0), .ref (oa 0)]) ⟨hx, hb, hml, hown, hts⟩ (k_hourAt l g b i (by omega) (by omega)) (cwV 1 hts (gV w_ml_X3_39 w_im_X0_hourAt w_sel_X0_hourAt w_ini_X0 w_co_X0_hourAt) rfl rfl rfl (by decide +kernel) (by rw [hR1, hR2]; exact ⟨Nat.le_of_ble_eq_true rfl, Nat.le_of_ble_eq_true rfl⟩)) (preV_rd hPb hK (va_recv hK.1 hPb (ci := 0) (q0 := 0) rfl rfl)) rfl rfl hl.1 rfl (lv_room (Nat.le_of_ble_eq_true rfl)) dX3_shareBefore_15 ⟨by rw [hR3]; omega, by rw [hR4]; omega⟩) ?_
  refine cR_l (W.runV (As := [.ref (bA b 0), .int (gI (ltB b (bPl b i - 1))), .int (nI (hrB b i))]) (rest := []) ⟨hx, hb, hml, hown, hts⟩ (k_shareBy l g oa rt sm b hn hpl ham hs hm (ltB b (bPl b i - 1)) (hrB b i) hhi (ltB_ok (by unfold hrB; omega))) (cwV 3 hts (gV w_ml_X3_32 w_im_X3_shareBy w_sel_X3_shareBy w_ini_X3 w_co_X3_shareBy) rfl rfl rfl (by decide +kernel) (by rw [hR1, hR2]; exact ⟨Nat.le_of_ble_eq_true rfl, Nat.le_of_ble_eq_true rfl⟩)) (preV_rd hP hK (va_recv hK.1 hP (ci := 3) (q0 := 0) rfl rfl)) rfl rfl hl.1 rfl (lv_room (Nat.le_of_ble_eq_true rfl)) dX3_shareBefore_18 ⟨by rw [hR3]; omega, by rw [hR4]; omega⟩) ?_
  subst hQQ
  exact W.lret hx hb hr (fun t9 ht _ => rdL (rfl) ht) (fun q h => absurd h List.not_mem_nil) dX3_shareBefore_21
