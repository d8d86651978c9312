set_option maxHeartbeats 4000000 in
set_option maxRecDepth 100000 in
theorem k_over (l : Launch) (g : GG) (x : FT) (hx9 : Xok x) (h0 : xS x 0 = 0) (t k : Int32) (sz : Nat) : Ai l yX4_over wsX4_over 5 124 0 0 [.ref (xA x 0), .int (t), .int (k)] g (x) sz (fun r u => r = gI (ovO x t k) ∧ alX u x) := by
  refine Met.ofW (cc := cX4_over) (maxL := 5) (ret := (some .int)) (by decide) rfl ?_
  intro p e s m args below meth c s₁ BB hml hv
  obtain ⟨hargs, hsz, hP, hK, hD0⟩ := hv
  have hx := BB.exec
  have hb := BB.bytes
  have hr := BB.returns
  have hts : ∀ w ∈ BIG, w.before args s = true := fun w h => atoms_spec (ws := wsX4_over) BB.pre w (List.mem_cons_of_mem _ h)
  have hown : s.vm.findClass RX4 = some m.cls := findClass_of_methodNamed BB.named
  have hlocks := BB.notSynchronized
  obtain ⟨RR, hRR⟩ : ∃ RR, RR = (headSpec wsX4_over ⟨5, 0, 0, 124⟩).room := ⟨_, rfl⟩
  have hR1 : RR.frames = 5 := by rw [hRR]; rfl
  have hR2 : RR.locals = 124 := by rw [hRR]; rfl
  have hR3 : RR.cells = 0 := by rw [hRR]; rfl
  have hR4 : RR.slots = 0 := by rw [hRR]; rfl
  have hl := lv_entry ([.ref (xA x 0), .int (t), .int (k)]) (n := 5) (Nat.le_of_ble_eq_true rfl)
  have hent : entryFrame m args 5 = F0 m 0 ((lg_sl ([.ref (xA x 0), .int (t), .int (k)]) ++ List.replicate (5 - (lg_sl ([.ref (xA x 0), .int (t), .int (k)])).length) Slot.unset).toArray) [] := by rw [hargs, lg_entry_eq]
  rw [hent]
  generalize (lg_sl ([.ref (xA x 0), .int (t), .int (k)]) ++ List.replicate (5 - (lg_sl ([.ref (xA x 0), .int (t), .int (k)])).length) Slot.unset).toArray = ls at hl ⊢
  have hl : lv_has ls 5 [(0, .ref (xA x 0)), (1, .int (t)), (2, .int (k))] := hl
  subst hsz
  have hD := hD0.self (sz := s.heap.size)
  generalize hAe : va_A (wX g x) s.heap.size = A at hD ⊢
  have hA : ∀ q : Nat, s.heap.size ≤ q → A q := fun q h => by rw [← hAe]; exact Or.inr h
  have hS : va_S A s.heap s.heap [] := va_S.rf
  refine q_ab (R := RR) hRR ?_
  generalize hQQ : MQ below _ args s _ _ _ = QQ
  obtain ⟨h8, hB, hW, hq9, he9, hl9⟩ := id hx9
  refine lv_iload_n hx hb dX4_over_0 rfl (lv_at hl 1 rfl) ?_
  refine cR_i (W.runS (As := [.int (t)]) (rest := []) ⟨hx, hb, hml, hown, hts⟩ (k_isHour l g t) (va_cwS 1 hts (gS w_ml_X4_60 w_sm_X4_isHour w_ini_X4 w_co_X4_isHour) rfl rfl rfl (by decide +kernel) (by rw [hR1, hR2]; exact ⟨Nat.le_of_ble_eq_true rfl, Nat.le_of_ble_eq_true rfl⟩)) (preS_rd va_P.nil hK) rfl rfl hl.1 rfl (lv_room (Nat.le_of_ble_eq_true rfl)) dX4_over_1 ⟨by rw [hR3]; omega, by rw [hR4]; omega⟩) ?_
  refine bb_ne (tgt := 9) hx hb dX4_over_4 (by decide) (fun hhc => ?_) (fun hhc => ?_)
  · cases hh : inL 0 9999 t with
    | none => exact absurd hhc (by rw [inL_n hh]; decide)
    | some h =>
      obtain ⟨hhl, hhn, hhe, -⟩ := inL_s (by decide) (by decide) hh
      subst hhe
      refine lv_iconst (v := nI (0)) hx hb dX4_over_9 (by decide) ?_
      refine lv_istore_n (lv' := [(3, .int (nI (0))), (0, .ref (xA x 0)), (1, .int (nI (h))), (2, .int (k))]) hx hb dX4_over_10 rfl hl (by decide) rfl (fun ls hl => ?_)
      refine lv_iconst (v := nI (0)) hx hb dX4_over_11 (by decide) ?_
      refine lv_istore (lv' := [(4, .int (nI (0))), (3, .int (nI (0))), (0, .ref (xA x 0)), (1, .int (nI (h))), (2, .int (k))]) hx hb dX4_over_12 hl (by decide) rfl (fun ls hl => ?_)
      have loop : ∀ (k9 : Nat) (j : Nat) (f : Nat) (ra : Nat → Nat) (va : Nat → Nat) (H : Heap) (locs : List Loc) (ls : Array Slot), (j ≤ (xB x).length) → (f ≤ j) → ((xB x).length < j + k9) → (va 0 = 0) → (kth (ovP x h) k ((xB x).length - j) j f = kth (ovP x h) k (xB x).length 0 0) → va_P g.1 vwCl (wX g (xsRS x ra va)) H → va_D A (wX g (xsRS x ra va)) → va_S A s.heap H locs → lv_has ls 5 [(0, .ref (xA x 0)), (1, .int (nI (h))), (2, .int (k)), (3, .int (nI (f))), (4, .int (nI (j)))] → W p l e RR s m args below meth c H locs 0 0 QQ (F0 m 14 ls []) := by
        intro k9
        induction k9 with
        | zero => intro j f ra va H locs ls hj hf hk hva he hP hD hS hl; exact absurd hk (by omega)
        | succ k9 ih =>
          intro j f ra va H locs ls hj hf hk hva he hP hD hS hl
          refine lv_iload hx hb dX4_over_14 (lv_at hl 4 rfl) ?_
          refine lv_aload_n hx hb dX4_over_16 rfl (lv_at hl 0 rfl) ?_
          refine va_get (D := g.1) (ci := 4) (v := .int (nI ((xB x).length))) (C := RX4) (T := TX4) (N := 8) hx hb hts hiX4 hown hK.1 hP 0 rfl rfl 4 (by decide) (hts _ w_fl_X4_36) (fun _ h9 => h9) rfl dX4_over_17 ?_
          refine bn_ge (tgt := 73) hx hb (by omega) (by omega) dX4_over_20 (by decide) (fun c1 => ?_) (fun c1 => ?_)
          · refine lv_iconst (v := (-1)) hx hb dX4_over_73 (by decide) ?_
            subst hQQ
            exact W.iret hx hb hr (fun t9 ht _ => ⟨⟨_, (xsRS x ra va), rfl, ⟨by rw [ovO, hh]; show _ = gI (kth (ovP x h) k (xB x).length 0 0); rw [← he, show (xB x).length - j = 0 by omega]; rfl, ⟨ra, va, rfl, hva⟩⟩, hpT ht hP, hD⟩, hS.F ht⟩) hS.2.2 dX4_over_74
          · rw [show (xB x).length - j = ((xB x).length - (j + 1)) + 1 by omega, kth] at he
            obtain ⟨b, hb2⟩ : ∃ b, (xB x)[j]? = some b := ⟨_, List.getElem?_eq_getElem c1⟩
            have hgd : (xB x).getD j bin0 = b := by rw [List.getD_eq_getElem?_getD, hb2]; rfl
            have hov : ovP x h j = decide (1000 ≤ shA b (rsum x b) h) := by unfold ovP; rw [hgd]
            rw [hov] at he
            have hbm := List.mem_of_getElem? hb2
            have hBk := hB b hbm
            obtain ⟨⟨hbn, hbp, -, hba⟩, -⟩ := id hBk
            have hrf : bRef (xB x) j = some (bA b 0) := by unfold bRef; rw [hb2]; rfl
            refine lv_aload_n hx hb dX4_over_23 rfl (lv_at hl 0 rfl) ?_
            refine lv_aload_n hx hb dX4_over_24 rfl (lv_at hl 0 rfl) ?_
            refine va_get (D := g.1) (ci := 4) (v := .ref (xA x 1)) (C := RX4) (T := TX4) (N := 8) hx hb hts hiX4 hown hK.1 hP 0 rfl rfl 3 (by decide) (hts _ w_fl_X4_32) (fun _ h9 => h9) rfl dX4_over_25 ?_
            refine lv_iload hx hb dX4_over_28 (lv_at hl 4 rfl) ?_
            refine n_aldr (k := j) (r := bA b 0) hx hb hK.1 hP 1 2 rfl rfl (by omega) (by decide) (hrf) dX4_over_30 ?_
            refine cW0_v (wc := wX g (xsRS x ra va)) (w1 := wX g (lkX (xsRS x ra va) b)) (va_runV (As := [.ref (bA b 0)]) (rest := []) ⟨hx, hb, hml, hown, hts⟩ (k_lookAhead l g (xsRS x ra va) b hx9 hbm _) (cwV 1 hts (gV w_ml_X4_99 w_im_X4_lookAhead w_sel_X4_lookAhead w_ini_X4 w_co_X4_lookAhead) rfl rfl rfl (by decide +kernel) (by rw [hR1, hR2]; exact ⟨Nat.le_of_ble_eq_true rfl, Nat.le_of_ble_eq_true rfl⟩)) (preV_wr hP hK hD (va_recv hK.1 hP (ci := 4) (q0 := 0) rfl rfl)) rfl rfl hl.1 rfl (lv_room (Nat.le_of_ble_eq_true rfl)) dX4_over_31 ⟨by rw [hR3]; omega, by rw [hR4]; omega⟩) hP hD hS hA rfl (fun H locs hP hD hS => ?_)
            obtain ⟨hs, hm⟩ := lkX_le (x := (xsRS x ra va)) hx9 hbm hva
            have hPo := va_P.app (wX_O hP) (wX_B (x := lkX (xsRS x ra va) b) hP hbm)
            refine lv_aload_n hx hb dX4_over_34 rfl (lv_at hl 0 rfl) ?_
            refine va_get (D := g.1) (ci := 4) (v := .ref (xO x 0)) (C := RX4) (T := TX4) (N := 8) hx hb hts hiX4 hown hK.1 hP 0 rfl rfl 2 (by decide) (hts _ w_fl_X4_26) (fun _ h9 => h9) rfl dX4_over_35 ?_
            refine lv_aload_n hx hb dX4_over_38 rfl (lv_at hl 0 rfl) ?_
            refine va_get (D := g.1) (ci := 4) (v := .ref (xA x 1)) (C := RX4) (T := TX4) (N := 8) hx hb hts hiX4 hown hK.1 hP 0 rfl rfl 3 (by decide) (hts _ w_fl_X4_32) (fun _ h9 => h9) rfl dX4_over_39 ?_
            refine lv_iload hx hb dX4_over_42 (lv_at hl 4 rfl) ?_
            refine n_aldr (k := j) (r := bA b 0) hx hb hK.1 hP 1 2 rfl rfl (by omega) (by decide) (hrf) dX4_over_44 ?_
            refine lv_iload_n hx hb dX4_over_45 rfl (lv_at hl 1 rfl) ?_
            refine cR_l (W.runV (As := [.ref (bA b 0), .int (nI (h))]) (rest := []) ⟨hx, hb, hml, hown, hts⟩ (k_shareAtO l g (xO x) (xR (lkX (xsRS x ra va) b)) (xS (lkX (xsRS x ra va) b)) b hbn hbp hba hs hm h (by omega)) (cwV 2 hts (gV w_ml_X4_103 w_im_X3_shareAt w_sel_X3_shareAt w_ini_X3 w_co_X3_shareAt) rfl rfl rfl (by decide +kernel) (by rw [hR1, hR2]; exact ⟨Nat.le_of_ble_eq_true rfl, Nat.le_of_ble_eq_true rfl⟩)) (preV_rd hPo hK (va_recv hK.1 hPo (ci := 3) (q0 := 0) rfl rfl)) rfl rfl hl.1 rfl (lv_room (Nat.le_of_ble_eq_true rfl)) dX4_over_46 ⟨by rw [hR3]; omega, by rw [hR4]; omega⟩) ?_
            have hlt := shA_lt (sm := xS (lkX (xsRS x ra va) b)) hba hs hm (show h < 10000 by omega)
            rw [lkX_shA (x := (xsRS x ra va)) hva (by omega)] at hlt
            refine tp_l (y := lN (shA b (rsum x b) h)) (by rw [lkX_shA (x := (xsRS x ra va)) hva (by omega)]; rfl) ?_
            have hlt : shA b (rsum x b) h < 2 ^ 40 := hlt
            refine lv_ldc2 (v := 1000) hx hb hown (hts _ w_ct_X4_114) dX4_over_49 ?_
            refine tp_l (y := lN 1000) (by decide) ?_
            refine W.lcmp hx hb dX4_over_52 ?_
            refine bl_lt (tgt := 67) hx hb (by omega) (by omega) dX4_over_53 (by decide) (fun c2 => ?_) (fun c2 => ?_)
            · rw [if_neg (by rw [decide_eq_false (by omega)]; decide)] at he
              refine lv_iinc (v := nI (j + 1)) (lv' := [(4, .int (nI (j + 1))), (0, .ref (xA x 0)), (1, .int (nI (h))), (2, .int (k)), (3, .int (nI (f)))]) hx hb dX4_over_67 hl (k := 4) rfl (nI_1 _) (by decide) rfl (fun ls hl => ?_)
              refine lv_goto (tgt := 14) hx hb dX4_over_70 (by decide) ?_
              exact ih (j + 1) (f) _ _ H locs ls (by omega) (by omega) (by omega) (by rw [smU_0]; exact hva) he hP hD hS (lv_sub hl [1, 2, 3, 4, 0] rfl)
            · rw [if_pos (decide_eq_true c2)] at he
              refine lv_iload_n hx hb dX4_over_56 rfl (lv_at hl 3 rfl) ?_
              refine lv_iload_n hx hb dX4_over_57 rfl (lv_at hl 2 rfl) ?_
              refine lv_icmp_ne (tgt := 64) hx hb dX4_over_58 (by decide) (fun c3 => ?_) (fun c3 => ?_)
              · rw [if_neg c3] at he
                refine lv_iinc (v := nI (f + 1)) (lv' := [(3, .int (nI (f + 1))), (0, .ref (xA x 0)), (1, .int (nI (h))), (2, .int (k)), (4, .int (nI (j)))]) hx hb dX4_over_64 hl (k := 3) rfl (nI_1 _) (by decide) rfl (fun ls hl => ?_)
                refine lv_iinc (v := nI (j + 1)) (lv' := [(4, .int (nI (j + 1))), (3, .int (nI (f + 1))), (0, .ref (xA x 0)), (1, .int (nI (h))), (2, .int (k))]) hx hb dX4_over_67 hl (k := 4) rfl (nI_1 _) (by decide) rfl (fun ls hl => ?_)
                refine lv_goto (tgt := 14) hx hb dX4_over_70 (by decide) ?_
                exact ih (j + 1) (f + 1) _ _ H locs ls (by omega) (by omega) (by omega) (by rw [smU_0]; exact hva) he hP hD hS (lv_sub hl [2, 3, 4, 1, 0] rfl)
              · rw [if_pos c3] at he
                refine lv_iload hx hb dX4_over_61 (lv_at hl 4 rfl) ?_
                subst hQQ
                exact W.iret hx hb hr (fun t9 ht _ => ⟨⟨_, lkX (xsRS x ra va) b, rfl, ⟨by rw [ovO, hh]; show _ = gI (kth (ovP x h) k (xB x).length 0 0); rw [← he]; rfl, ⟨_, _, rfl, by rw [smU_0]; exact hva⟩⟩, hpT ht hP, hD⟩, hS.F ht⟩) hS.2.2 dX4_over_63
      exact loop ((xB x).length + 1) 0 0 (xR x) (xS x) _ _ ls (Nat.zero_le _) (Nat.le_refl _) (by omega) h0 rfl hP hD hS (lv_sub hl [2, 3, 4, 1, 0] rfl)
  · cases hh : inL 0 9999 t with
    | none =>
      refine lv_iconst (v := (-1)) hx hb dX4_over_7 (by decide) ?_
      subst hQQ
      exact W.iret hx hb hr (fun t9 ht _ => ⟨⟨_, x, rfl, ⟨by rw [ovO, hh]; rfl, alX_rf h0⟩, hpT ht hP, hD⟩, hS.F ht⟩) hS.2.2 dX4_over_8
    | some h => exact absurd hhc (by rw [(inL_s (by decide) (by decide) hh).2.2.2]; decide)

set_option maxHeartbeats 4000000 in
set_option maxRecDepth 100000 in
theorem k_check (l : Launch) (g : GG) (x : FT) (hx9 : Xok x) (h0 : xS x 0 = 0) (k t : Int32) (sz : Nat) : Al l yX4_check wsX4_check 5 124 0 0 [.ref (xA x 0), .int (k), .int (t)] g (x) sz (fun r u => r = chkV x k t ∧ alX u x) := by
  refine Met.ofW (cc := cX4_check) (maxL := 7) (ret := (some .long)) (by decide) rfl ?_
  intro p e s m args below meth c s₁ BB hml hv
  obtain ⟨hargs, hsz, hP, hK, hD0⟩ := hv
  have hx := BB.exec
  have hb := BB.bytes
  have hr := BB.returns
  have hts : ∀ w ∈ BIG, w.before args s = true := fun w h => atoms_spec (ws := wsX4_check) BB.pre w (List.mem_cons_of_mem _ h)
  have hown : s.vm.findClass RX4 = some m.cls := findClass_of_methodNamed BB.named
  have hlocks := BB.notSynchronized
  obtain ⟨RR, hRR⟩ : ∃ RR, RR = (headSpec wsX4_check ⟨5, 0, 0, 124⟩).room := ⟨_, rfl⟩
  have hR1 : RR.frames = 5 := by rw [hRR]; rfl
  have hR2 : RR.locals = 124 := by rw [hRR]; rfl
  have hR3 : RR.cells = 0 := by rw [hRR]; rfl
  have hR4 : RR.slots = 0 := by rw [hRR]; rfl
  have hl := lv_entry ([.ref (xA x 0), .int (k), .int (t)]) (n := 7) (Nat.le_of_ble_eq_true rfl)
  have hent : entryFrame m args 7 = F0 m 0 ((lg_sl ([.ref (xA x 0), .int (k), .int (t)]) ++ List.replicate (7 - (lg_sl ([.ref (xA x 0), .int (k), .int (t)])).length) Slot.unset).toArray) [] := by rw [hargs, lg_entry_eq]
  rw [hent]
  generalize (lg_sl ([.ref (xA x 0), .int (k), .int (t)]) ++ List.replicate (7 - (lg_sl ([.ref (xA x 0), .int (k), .int (t)])).length) Slot.unset).toArray = ls at hl ⊢
  have hl : lv_has ls 7 [(0, .ref (xA x 0)), (1, .int (k)), (2, .int (t))] := hl
  subst hsz
  have hD := hD0.self (sz := s.heap.size)
  generalize hAe : va_A (wX g x) s.heap.size = A at hD ⊢
  have hA : ∀ q : Nat, s.heap.size ≤ q → A q := fun q h => by rw [← hAe]; exact Or.inr h
  have hS : va_S A s.heap s.heap [] := va_S.rf
  refine q_ab (R := RR) hRR ?_
  generalize hQQ : MQ below _ args s _ _ _ = QQ
  obtain ⟨h8, hB, hW, hq9, he9, hl9⟩ := id hx9
  refine lv_aload_n hx hb dX4_check_0 rfl (lv_at hl 0 rfl) ?_
  refine lv_iload_n hx hb dX4_check_1 rfl (lv_at hl 1 rfl) ?_
  cases hbk : binAt (xB x) k with
  | none =>
    refine cR_q (W.runV (As := [.int (k)]) (rest := []) ⟨hx, hb, hml, hown, hts⟩ (k_binOf_n l g x k h8 hbk) (cwV 1 hts (gV w_ml_X4_56 w_im_X4_binOf w_sel_X4_binOf w_ini_X4 w_co_X4_binOf) rfl rfl rfl (by decide +kernel) (by rw [hR1, hR2]; exact ⟨Nat.le_of_ble_eq_true rfl, Nat.le_of_ble_eq_true rfl⟩)) (preV_rd hP hK (va_recv hK.1 hP (ci := 4) (q0 := 0) rfl rfl)) rfl rfl hl.1 rfl (lv_room (Nat.le_of_ble_eq_true rfl)) dX4_check_2 ⟨by rw [hR3]; omega, by rw [hR4]; omega⟩) ?_
    refine W.eq (g2 := F0 m 5 ls [.null]) rfl ?_
    refine lv_astore_nN (lv' := [(3, .null), (0, .ref (xA x 0)), (1, .int (k)), (2, .int (t))]) hx hb dX4_check_5 rfl hl (by decide) rfl (fun ls hl => ?_)
    refine lv_aload_nN hx hb dX4_check_6 rfl (lv_at hl 0 rfl) ?_
    refine lv_ifnonnullN hx hb dX4_check_7 ?_
    refine lv_iconst (v := (-1)) hx hb dX4_check_10 (by decide) ?_
    refine lv_goto (tgt := 19) hx hb dX4_check_11 (by decide) ?_
    refine lv_istore (lv' := [(4, .int (-1)), (3, .null), (0, .ref (xA x 0)), (1, .int (k)), (2, .int (t))]) hx hb dX4_check_19 hl (by decide) rfl (fun ls hl => ?_)
    refine lv_aload_nN hx hb dX4_check_21 rfl (lv_at hl 1 rfl) ?_
    refine lv_ifnullN (tgt := 31) hx hb dX4_check_22 (by decide) ?_
    refine lv_ldc2 (v := (-9223372036854775808)) hx hb hown (hts _ w_ct_X4_124) dX4_check_31 ?_
    subst hQQ
    exact W.lret hx hb hr (fun t9 ht _ => ⟨⟨_, x, rfl, ⟨by unfold chkV; rw [hbk]; rfl, alX_rf h0⟩, hpT ht hP, hD⟩, hS.F ht⟩) hS.2.2 dX4_check_34
  | some b =>
    have hbm : b ∈ xB x := by obtain ⟨j, -, -, hj, -⟩ := binAt_s h8 hbk; exact List.mem_of_getElem? hj
    have hBk := hB b hbm
    obtain ⟨⟨hbn, hbp, hbo, hba⟩, hbw, hbg, hbs, hbr, hc1, hc2, hc3, hbam⟩ := id hBk
    have hPb := wX_B hP hbm
    have hPm := va_P.app hPb (va_P.app (wX_C hP) (wX_F hP))
    have hpl2 : ∀ i, i < bN b → bPl b i < 2 ^ 31 := fun i hi => Nat.lt_trans (hbp i hi) (by decide)
    refine cR_q (W.runV (As := [.int (k)]) (rest := []) ⟨hx, hb, hml, hown, hts⟩ (k_binOf_s l g x k b h8 hbk) (cwV 1 hts (gV w_ml_X4_56 w_im_X4_binOf w_sel_X4_binOf w_ini_X4 w_co_X4_binOf) rfl rfl rfl (by decide +kernel) (by rw [hR1, hR2]; exact ⟨Nat.le_of_ble_eq_true rfl, Nat.le_of_ble_eq_true rfl⟩)) (preV_rd hP hK (va_recv hK.1 hP (ci := 4) (q0 := 0) rfl rfl)) rfl rfl hl.1 rfl (lv_room (Nat.le_of_ble_eq_true rfl)) dX4_check_2 ⟨by rw [hR3]; omega, by rw [hR4]; omega⟩) ?_
    refine W.eq (g2 := F0 m 5 ls [.ref (bA b 0)]) rfl ?_
    refine lv_astore_n (lv' := [(3, .ref (bA b 0)), (0, .ref (xA x 0)), (1, .int (k)), (2, .int (t))]) hx hb dX4_check_5 rfl hl (by decide) rfl (fun ls hl => ?_)
    refine lv_aload_n hx hb dX4_check_6 rfl (lv_at hl 0 rfl) ?_
    refine lv_ifnonnull (tgt := 14) hx hb dX4_check_7 (by decide) ?_
    refine lv_aload_n hx hb dX4_check_14 rfl (lv_at hl 0 rfl) ?_
    refine lv_iload_n hx hb dX4_check_15 rfl (lv_at hl 3 rfl) ?_
    refine cR_i (W.runV (As := [.int (t)]) (rest := []) ⟨hx, hb, hml, hown, hts⟩ (k_indexOfEmptying l g b t hbn hpl2) (cwV 1 hts (gV w_ml_X4_119 w_im_X0_indexOfEmptying w_sel_X0_indexOfEmptying w_ini_X0 w_co_X0_indexOfEmptying) rfl rfl rfl (by decide +kernel) (by rw [hR1, hR2]; exact ⟨Nat.le_of_ble_eq_true rfl, Nat.le_of_ble_eq_true rfl⟩)) (preV_rd hPb hK (va_recv hK.1 hPb (ci := 0) (q0 := 0) rfl rfl)) rfl rfl hl.1 rfl (lv_room (Nat.le_of_ble_eq_true rfl)) dX4_check_16 ⟨by rw [hR3]; omega, by rw [hR4]; omega⟩) ?_
    refine lv_istore (lv' := [(4, .int (gI (kth (fun i => !rowB b i) t (bN b) 0 0))), (3, .ref (bA b 0)), (0, .ref (xA x 0)), (1, .int (k)), (2, .int (t))]) hx hb dX4_check_19 hl (by decide) rfl (fun ls hl => ?_)
    refine lv_aload_n hx hb dX4_check_21 rfl (lv_at hl 1 rfl) ?_
    refine lv_ifnull hx hb dX4_check_22 ?_
    refine lv_iload hx hb dX4_check_25 (lv_at hl 0 rfl) ?_
    refine lv_iconst (v := (-1)) hx hb dX4_check_27 (by decide) ?_
    cases hkt : kth (fun i => !rowB b i) t (bN b) 0 0 with
    | none =>
      rw [hkt] at hl
      have hl : lv_has ls 7 [(4, .int (-1)), (3, .ref (bA b 0)), (0, .ref (xA x 0)), (1, .int (k)), (2, .int (t))] := hl
      refine lv_icmp_ne (tgt := 35) hx hb dX4_check_28 (by decide) (fun c3 => ?_) (fun c3 => ?_)
      · exact absurd rfl c3
      · refine lv_ldc2 (v := (-9223372036854775808)) hx hb hown (hts _ w_ct_X4_124) dX4_check_31 ?_
        subst hQQ
        exact W.lret hx hb hr (fun t9 ht _ => ⟨⟨_, x, rfl, ⟨by unfold chkV; rw [hbk]; show _ = (match (kth (fun i => !rowB b i) t (bN b) 0 0).map (fun i => (b, i)) with | none => (-9223372036854775808 : Int64) | some q => lN (bAm q.1 q.2) - lN (shE q.1 (rsum x q.1) q.2 * bRm q.1 / 1000)); rw [hkt]; rfl, alX_rf h0⟩, hpT ht hP, hD⟩, hS.F ht⟩) hS.2.2 dX4_check_34
    | some i =>
      rw [hkt] at hl
      obtain ⟨⟨-, hin⟩, hrw⟩ := kth_in hkt
      have hin : i < bN b := by omega
      have hpi := hbp i hin
      have hrw2 : rowB b i = false := by simpa using hrw
      have hodd : bPl b i % 2 ≠ 0 := of_decide_eq_false hrw2
      have hne : nI i ≠ -1 := nI_m1 (by omega)
      have hhi : hrB b i < 10000 := by unfold hrB; omega
      have hl : lv_has ls 7 [(4, .int (nI (i))), (3, .ref (bA b 0)), (0, .ref (xA x 0)), (1, .int (k)), (2, .int (t))] := hl
      refine lv_icmp_ne (tgt := 35) hx hb dX4_check_28 (by decide) (fun c3 => ?_) (fun c3 => ?_)
      · refine lv_aload_n hx hb dX4_check_35 rfl (lv_at hl 2 rfl) ?_
        refine lv_aload_n hx hb dX4_check_36 rfl (lv_at hl 1 rfl) ?_
        refine cW0_v (wc := wX g x) (w1 := wX g (lkX x b)) (va_runV (As := [.ref (bA b 0)]) (rest := []) ⟨hx, hb, hml, hown, hts⟩ (k_lookAhead l g x b hx9 hbm _) (cwV 1 hts (gV w_ml_X4_99 w_im_X4_lookAhead w_sel_X4_lookAhead w_ini_X4 w_co_X4_lookAhead) rfl rfl rfl (by decide +kernel) (by rw [hR1, hR2]; exact ⟨Nat.le_of_ble_eq_true rfl, Nat.le_of_ble_eq_true rfl⟩)) (preV_wr hP hK hD (va_recv hK.1 hP (ci := 4) (q0 := 0) rfl rfl)) rfl rfl hl.1 rfl (lv_room (Nat.le_of_ble_eq_true rfl)) dX4_check_37 ⟨by rw [hR3]; omega, by rw [hR4]; omega⟩) hP hD hS hA rfl (fun H locs hP hD hS => ?_)
        obtain ⟨hs, hm⟩ := lkX_le hx9 hbm h0
        have hPo := va_P.app (wX_O hP) (wX_B (x := lkX x b) hP hbm)
        refine lv_aload_n hx hb dX4_check_40 rfl (lv_at hl 2 rfl) ?_
        refine va_get (D := g.1) (ci := 4) (v := .ref (xO x 0)) (C := RX4) (T := TX4) (N := 8) hx hb hts hiX4 hown hK.1 hP 0 rfl rfl 2 (by decide) (hts _ w_fl_X4_26) (fun _ h9 => h9) rfl dX4_check_41 ?_
        refine lv_aload_n hx hb dX4_check_44 rfl (lv_at hl 1 rfl) ?_
        refine lv_iload hx hb dX4_check_45 (lv_at hl 0 rfl) ?_
        refine cR_l (W.runV (As := [.ref (bA b 0), .int (nI (i))]) (rest := []) ⟨hx, hb, hml, hown, hts⟩ (k_shareBefore l g (xO x) (xR (lkX x b)) (xS (lkX x b)) b hbn hbp hba hs hm i hin (by omega)) (cwV 2 hts (gV w_ml_X4_126 w_im_X3_shareBefore w_sel_X3_shareBefore w_ini_X3 w_co_X3_shareBefore) rfl rfl rfl (by decide +kernel) (by rw [hR1, hR2]; exact ⟨Nat.le_of_ble_eq_true rfl, Nat.le_of_ble_eq_true rfl⟩)) (preV_rd hPo hK (va_recv hK.1 hPo (ci := 3) (q0 := 0) rfl rfl)) rfl rfl hl.1 rfl (lv_room (Nat.le_of_ble_eq_true rfl)) dX4_check_47 ⟨by rw [hR3]; omega, by rw [hR4]; omega⟩) ?_
        have hlt := shE_lt (sm := xS (lkX x b)) (i := i) hba hs hm hhi
        refine tp_l (y := lN (shE b (rsum x b) i)) (by rw [lkX_shE h0 hhi]) ?_
        rw [lkX_shE h0 hhi] at hlt
        obtain ⟨hrm1, hrm2⟩ := hbr
        have hPb2 := wX_B (x := lkX x b) hP hbm
        have hmul : shE b (rsum x b) i * bRm b < 2 ^ 60 := Nat.lt_of_le_of_lt (Nat.mul_le_mul (Nat.le_of_lt hlt) hrm2) (by decide)
        refine lv_lstore (lv' := [(5, .long (lN (shE b (rsum x b) i))), (4, .int (nI (i))), (3, .ref (bA b 0)), (0, .ref (xA x 0)), (1, .int (k)), (2, .int (t))]) hx hb dX4_check_50 hl (by decide) rfl (fun ls hl => ?_)
        refine lv_aload_n hx hb dX4_check_52 rfl (lv_at hl 2 rfl) ?_
        refine lv_iload hx hb dX4_check_53 (lv_at hl 1 rfl) ?_
        refine cR_i (W.runV (As := [.int (nI (i))]) (rest := []) ⟨hx, hb, hml, hown, hts⟩ (k_amountAt l g b i (by omega)) (cwV 1 hts (gV w_ml_X4_129 w_im_X0_amountAt w_sel_X0_amountAt w_ini_X0 w_co_X0_amountAt) rfl rfl rfl (by decide +kernel) (by rw [hR1, hR2]; exact ⟨Nat.le_of_ble_eq_true rfl, Nat.le_of_ble_eq_true rfl⟩)) (preV_rd hPb2 hK (va_recv hK.1 hPb2 (ci := 0) (q0 := 0) rfl rfl)) rfl rfl hl.1 rfl (lv_room (Nat.le_of_ble_eq_true rfl)) dX4_check_55 ⟨by rw [hR3]; omega, by rw [hR4]; omega⟩) ?_
        have ham := hbam i hin
        refine n_i2l hx hb (by omega) dX4_check_58 ?_
        refine lv_lload hx hb dX4_check_59 (lv_at hl 0 rfl) ?_
        refine lv_aload_n hx hb dX4_check_61 rfl (lv_at hl 2 rfl) ?_
        refine cR_i (W.runV (As := []) (rest := [.long (lN (shE b (rsum x b) i)), .long (lN (bAm b i))]) ⟨hx, hb, hml, hown, hts⟩ (k_roomInKilograms l g b) (cwV 0 hts (gV w_ml_X4_132 w_im_X0_roomInKilograms w_sel_X0_roomInKilograms w_ini_X0 w_co_X0_roomInKilograms) rfl rfl rfl (by decide +kernel) (by rw [hR1, hR2]; exact ⟨Nat.le_of_ble_eq_true rfl, Nat.le_of_ble_eq_true rfl⟩)) (preV_rd hPb2 hK (va_recv hK.1 hPb2 (ci := 0) (q0 := 0) rfl rfl)) rfl rfl hl.1 rfl (lv_room (Nat.le_of_ble_eq_true rfl)) dX4_check_62 ⟨by rw [hR3]; omega, by rw [hR4]; omega⟩) ?_
        refine n_i2l hx hb (by omega) dX4_check_65 ?_
        refine n_lmul hx hb dX4_check_66 ?_
        refine lv_ldc2 (v := 1000) hx hb hown (hts _ w_ct_X4_114) dX4_check_67 ?_
        refine tp_l (y := lN 1000) (by decide) ?_
        refine n_ldiv hx hb (by omega) (by omega) (by omega) dX4_check_70 ?_
        refine lv_lsub hx hb dX4_check_71 ?_
        subst hQQ
        exact W.lret hx hb hr (fun t9 ht _ => ⟨⟨_, lkX x b, rfl, ⟨by unfold chkV; rw [hbk]; show _ = (match (kth (fun i => !rowB b i) t (bN b) 0 0).map (fun i => (b, i)) with | none => (-9223372036854775808 : Int64) | some q => lN (bAm q.1 q.2) - lN (shE q.1 (rsum x q.1) q.2 * bRm q.1 / 1000)); rw [hkt]; rfl, alX_lk h0⟩, hpT ht hP, hD⟩, hS.F ht⟩) hS.2.2 dX4_check_72
      · exact absurd c3 hne
