set_option maxHeartbeats 4000000 in
set_option maxRecDepth 100000 in
theorem k_day (l : Launch) (g : GG) (x : FT) (hx9 : Xok x) (h0 : xS x 0 = 0) (k t d : Int32) (sz : Nat) : Ai l yX4_day wsX4_day 5 124 0 0 [.ref (xA x 0), .int (k), .int (t), .int (d)] g (x) sz (fun r u => r = gI (dayO x k t d) ∧ alX u x) := by
  refine Met.ofW (cc := cX4_day) (maxL := 11) (ret := (some .int)) (by decide) rfl ?_
  intro p e s m args below meth c s₁ BB hml hv
  obtain ⟨hargs, hsz, hP, hK, hD0⟩ := hv
  have hx := BB.exec
  have hb := BB.bytes
  have hr := BB.returns
  have hts : ∀ w ∈ BIG, w.before args s = true := fun w h => atoms_spec (ws := wsX4_day) BB.pre w (List.mem_cons_of_mem _ h)
  have hown : s.vm.findClass RX4 = some m.cls := findClass_of_methodNamed BB.named
  have hlocks := BB.notSynchronized
  obtain ⟨RR, hRR⟩ : ∃ RR, RR = (headSpec wsX4_day ⟨5, 0, 0, 124⟩).room := ⟨_, rfl⟩
  have hR1 : RR.frames = 5 := by rw [hRR]; rfl
  have hR2 : RR.locals = 124 := by rw [hRR]; rfl
  have hR3 : RR.cells = 0 := by rw [hRR]; rfl
  have hR4 : RR.slots = 0 := by rw [hRR]; rfl
  have hl := lv_entry ([.ref (xA x 0), .int (k), .int (t), .int (d)]) (n := 11) (Nat.le_of_ble_eq_true rfl)
  have hent : entryFrame m args 11 = F0 m 0 ((lg_sl ([.ref (xA x 0), .int (k), .int (t), .int (d)]) ++ List.replicate (11 - (lg_sl ([.ref (xA x 0), .int (k), .int (t), .int (d)])).length) Slot.unset).toArray) [] := by rw [hargs, lg_entry_eq]
  rw [hent]
  generalize (lg_sl ([.ref (xA x 0), .int (k), .int (t), .int (d)]) ++ List.replicate (11 - (lg_sl ([.ref (xA x 0), .int (k), .int (t), .int (d)])).length) Slot.unset).toArray = ls at hl ⊢
  have hl : lv_has ls 11 [(0, .ref (xA x 0)), (1, .int (k)), (2, .int (t)), (3, .int (d))] := hl
  subst hsz
  have hD := hD0.self (sz := s.heap.size)
  generalize hAe : va_A (wX g x) s.heap.size = A at hD ⊢
  have hA : ∀ q : Nat, s.heap.size ≤ q → A q := fun q h => by rw [← hAe]; exact Or.inr h
  have hS : va_S A s.heap s.heap [] := va_S.rf
  refine q_ab (R := RR) hRR ?_
  generalize hQQ : MQ below _ args s _ _ _ = QQ
  obtain ⟨h8, hB, hW, hq9, he9, hl9⟩ := id hx9
  refine lv_aload_n hx hb dX4_day_0 rfl (lv_at hl 0 rfl) ?_
  refine lv_iload_n hx hb dX4_day_1 rfl (lv_at hl 1 rfl) ?_
  cases hbk : binAt (xB x) k with
  | none =>
    refine cR_q (W.runV (As := [.int (k)]) (rest := []) ⟨hx, hb, hml, hown, hts⟩ (k_binOf_n l g x k h8 hbk) (cwV 1 hts (gV w_ml_X4_56 w_im_X4_binOf w_sel_X4_binOf w_ini_X4 w_co_X4_binOf) rfl rfl rfl (by decide +kernel) (by rw [hR1, hR2]; exact ⟨Nat.le_of_ble_eq_true rfl, Nat.le_of_ble_eq_true rfl⟩)) (preV_rd hP hK (va_recv hK.1 hP (ci := 4) (q0 := 0) rfl rfl)) rfl rfl hl.1 rfl (lv_room (Nat.le_of_ble_eq_true rfl)) dX4_day_2 ⟨by rw [hR3]; omega, by rw [hR4]; omega⟩) ?_
    refine W.eq (g2 := F0 m 5 ls [.null]) rfl ?_
    refine lv_astoreN (lv' := [(4, .null), (0, .ref (xA x 0)), (1, .int (k)), (2, .int (t)), (3, .int (d))]) hx hb dX4_day_5 hl (by decide) rfl (fun ls hl => ?_)
    refine lv_aloadN hx hb dX4_day_7 (lv_at hl 0 rfl) ?_
    refine lv_ifnullN (tgt := 31) hx hb dX4_day_9 (by decide) ?_
    refine lv_iconst (v := (-1)) hx hb dX4_day_31 (by decide) ?_
    subst hQQ
    exact W.iret hx hb hr (fun t9 ht _ => ⟨⟨_, x, rfl, ⟨by rw [dayO, hbk]; rfl, alX_rf h0⟩, hpT ht hP, hD⟩, hS.F ht⟩) hS.2.2 dX4_day_32
  | some b =>
    have hbm : b ∈ xB x := by obtain ⟨j, -, -, hj, -⟩ := binAt_s h8 hbk; exact List.mem_of_getElem? hj
    have hBk := hB b hbm
    obtain ⟨⟨hbn, hbp, hbo, hba⟩, hbw, hbg, hbs, hbr, hc1, hc2, hc3, hbam⟩ := id hBk
    have hPb := wX_B hP hbm
    have hPm := va_P.app hPb (va_P.app (wX_C hP) (wX_F hP))
    have hpl2 : ∀ i, i < bN b → bPl b i < 2 ^ 31 := fun i hi => Nat.lt_trans (hbp i hi) (by decide)
    refine cR_q (W.runV (As := [.int (k)]) (rest := []) ⟨hx, hb, hml, hown, hts⟩ (k_binOf_s l g x k b h8 hbk) (cwV 1 hts (gV w_ml_X4_56 w_im_X4_binOf w_sel_X4_binOf w_ini_X4 w_co_X4_binOf) rfl rfl rfl (by decide +kernel) (by rw [hR1, hR2]; exact ⟨Nat.le_of_ble_eq_true rfl, Nat.le_of_ble_eq_true rfl⟩)) (preV_rd hP hK (va_recv hK.1 hP (ci := 4) (q0 := 0) rfl rfl)) rfl rfl hl.1 rfl (lv_room (Nat.le_of_ble_eq_true rfl)) dX4_day_2 ⟨by rw [hR3]; omega, by rw [hR4]; omega⟩) ?_
    refine W.eq (g2 := F0 m 5 ls [.ref (bA b 0)]) rfl ?_
    refine lv_astore (lv' := [(4, .ref (bA b 0)), (0, .ref (xA x 0)), (1, .int (k)), (2, .int (t)), (3, .int (d))]) hx hb dX4_day_5 hl (by decide) rfl (fun ls hl => ?_)
    refine lv_aload hx hb dX4_day_7 (lv_at hl 0 rfl) ?_
    refine lv_ifnull hx hb dX4_day_9 ?_
    refine lv_iload_n hx hb dX4_day_12 rfl (lv_at hl 3 rfl) ?_
    refine cR_i (W.runS (As := [.int (t)]) (rest := []) ⟨hx, hb, hml, hown, hts⟩ (k_isDay l g t) (va_cwS 1 hts (gS w_ml_X4_75 w_sm_X4_isDay w_ini_X4 w_co_X4_isDay) rfl rfl rfl (by decide +kernel) (by rw [hR1, hR2]; exact ⟨Nat.le_of_ble_eq_true rfl, Nat.le_of_ble_eq_true rfl⟩)) (preS_rd va_P.nil hK) rfl rfl hl.1 rfl (lv_room (Nat.le_of_ble_eq_true rfl)) dX4_day_13 ⟨by rw [hR3]; omega, by rw [hR4]; omega⟩) ?_
    refine bb_eq (tgt := 31) hx hb dX4_day_16 (by decide) (fun hhc => ?_) (fun hhc => ?_)
    · cases hh : inL 0 416 t with
      | none =>
        refine lv_iconst (v := (-1)) hx hb dX4_day_31 (by decide) ?_
        subst hQQ
        exact W.iret hx hb hr (fun t9 ht _ => ⟨⟨_, x, rfl, ⟨by rw [dayO, hbk]; show _ = gI ((inL 0 416 t).bind _); rw [hh]; rfl, alX_rf h0⟩, hpT ht hP, hD⟩, hS.F ht⟩) hS.2.2 dX4_day_32
      | some i => exact absurd hhc (by rw [(inL_s (by decide) (by decide) hh).2.2.2]; decide)
    · cases hh : inL 0 416 t with
      | none => exact absurd hhc (by rw [inL_n hh]; decide)
      | some i =>
        obtain ⟨hhl, hhn, hhe, -⟩ := inL_s (by decide) (by decide) hh
        subst hhe
        refine lv_iload_n hx hb dX4_day_19 rfl (lv_at hl 4 rfl) ?_
        refine cR_i (W.runS (As := [.int (d)]) (rest := []) ⟨hx, hb, hml, hown, hts⟩ (k_isDay l g d) (va_cwS 1 hts (gS w_ml_X4_75 w_sm_X4_isDay w_ini_X4 w_co_X4_isDay) rfl rfl rfl (by decide +kernel) (by rw [hR1, hR2]; exact ⟨Nat.le_of_ble_eq_true rfl, Nat.le_of_ble_eq_true rfl⟩)) (preS_rd va_P.nil hK) rfl rfl hl.1 rfl (lv_room (Nat.le_of_ble_eq_true rfl)) dX4_day_20 ⟨by rw [hR3]; omega, by rw [hR4]; omega⟩) ?_
        refine bb_eq (tgt := 31) hx hb dX4_day_23 (by decide) (fun hic => ?_) (fun hic => ?_)
        · cases hi : inL 0 416 d with
          | none =>
            refine lv_iconst (v := (-1)) hx hb dX4_day_31 (by decide) ?_
            subst hQQ
            exact W.iret hx hb hr (fun t9 ht _ => ⟨⟨_, x, rfl, ⟨by rw [dayO, hbk]; show _ = gI ((inL 0 416 (nI i)).bind _); rw [hh]; show _ = gI ((inL 0 416 d).bind _); rw [hi]; rfl, alX_rf h0⟩, hpT ht hP, hD⟩, hS.F ht⟩) hS.2.2 dX4_day_32
          | some j => exact absurd hic (by rw [(inL_s (by decide) (by decide) hi).2.2.2]; decide)
        · cases hi : inL 0 416 d with
          | none => exact absurd hic (by rw [inL_n hi]; decide)
          | some j =>
            obtain ⟨hil, hin, hie, -⟩ := inL_s (by decide) (by decide) hi
            subst hie
            refine lv_iload_n hx hb dX4_day_26 rfl (lv_at hl 3 rfl) ?_
            refine lv_iload_n hx hb dX4_day_27 rfl (lv_at hl 4 rfl) ?_
            refine bn_le (tgt := 33) hx hb (by omega) (by omega) dX4_day_28 (by decide) (fun c5 => ?_) (fun c5 => ?_)
            · refine lv_aload_n hx hb dX4_day_33 rfl (lv_at hl 1 rfl) ?_
              refine lv_aload hx hb dX4_day_34 (lv_at hl 0 rfl) ?_
              refine cW0_v (wc := wX g x) (w1 := wX g (lkX x b)) (va_runV (As := [.ref (bA b 0)]) (rest := []) ⟨hx, hb, hml, hown, hts⟩ (k_lookAhead l g x b hx9 hbm _) (cwV 1 hts (gV w_ml_X4_99 w_im_X4_lookAhead w_sel_X4_lookAhead w_ini_X4 w_co_X4_lookAhead) rfl rfl rfl (by decide +kernel) (by rw [hR1, hR2]; exact ⟨Nat.le_of_ble_eq_true rfl, Nat.le_of_ble_eq_true rfl⟩)) (preV_wr hP hK hD (va_recv hK.1 hP (ci := 4) (q0 := 0) rfl rfl)) rfl rfl hl.1 rfl (lv_room (Nat.le_of_ble_eq_true rfl)) dX4_day_36 ⟨by rw [hR3]; omega, by rw [hR4]; omega⟩) hP hD hS hA rfl (fun H locs hP hD hS => ?_)
              obtain ⟨hs, hm⟩ := lkX_le hx9 hbm h0
              have hPo := va_P.app (wX_O hP) (wX_B (x := lkX x b) hP hbm)
              refine lv_iload_n hx hb dX4_day_39 rfl (lv_at hl 3 rfl) ?_
              refine lv_istore (lv' := [(5, .int (nI (i))), (4, .ref (bA b 0)), (0, .ref (xA x 0)), (1, .int (k)), (2, .int (nI (i))), (3, .int (nI (j)))]) hx hb dX4_day_40 hl (by decide) rfl (fun ls hl => ?_)
              refine lv_aload_n hx hb dX4_day_42 rfl (lv_at hl 2 rfl) ?_
              refine lv_aload hx hb dX4_day_43 (lv_at hl 1 rfl) ?_
              refine lv_iload_n hx hb dX4_day_45 rfl (lv_at hl 4 rfl) ?_
              refine cR_l (W.runV (As := [.ref (bA b 0), .int (nI (i))]) (rest := []) ⟨hx, hb, hml, hown, hts⟩ (k_centsOn l g (lkX x b) b hx9 hbm hs hm i (by omega)) (cwV 2 hts (gV w_ml_X4_116 w_im_X4_centsOn w_sel_X4_centsOn w_ini_X4 w_co_X4_centsOn) rfl rfl rfl (by decide +kernel) (by rw [hR1, hR2]; exact ⟨Nat.le_of_ble_eq_true rfl, Nat.le_of_ble_eq_true rfl⟩)) (preV_rd hP hK (va_recv hK.1 hP (ci := 4) (q0 := 0) rfl rfl)) rfl rfl hl.1 rfl (lv_room (Nat.le_of_ble_eq_true rfl)) dX4_day_46 ⟨by rw [hR3]; omega, by rw [hR4]; omega⟩) ?_
              refine tp_l (y := lN (ctN x b i)) (by rw [ctN_eq h0 (by omega)]) ?_
              have hct : ∀ d, d < 417 → ctN x b d < 2 ^ 60 := fun d hd => ctN_lt hx9 hbm h0 hd
              refine lv_lstore (lv' := [(6, .long (lN (ctN x b i))), (5, .int (nI (i))), (4, .ref (bA b 0)), (0, .ref (xA x 0)), (1, .int (k)), (2, .int (nI (i))), (3, .int (nI (j)))]) hx hb dX4_day_49 hl (by decide) rfl (fun ls hl => ?_)
              refine lv_iload_n hx hb dX4_day_51 rfl (lv_at hl 5 rfl) ?_
              refine lv_iconst (v := nI (1)) hx hb dX4_day_52 (by decide) ?_
              refine n_iadd hx hb dX4_day_53 ?_
              refine lv_istore (lv' := [(8, .int (nI (i + 1))), (6, .long (lN (ctN x b i))), (5, .int (nI (i))), (4, .ref (bA b 0)), (0, .ref (xA x 0)), (1, .int (k)), (2, .int (nI (i))), (3, .int (nI (j)))]) hx hb dX4_day_54 hl (by decide) rfl (fun ls hl => ?_)
              have loop : ∀ (k9 : Nat) (n : Nat) (ls : Array Slot), (n ≤ j - i) → (j - i < n + k9) → lv_has ls 11 [(0, .ref (xA x 0)), (2, .int (nI (i))), (3, .int (nI (j))), (4, .ref (bA b 0)), (5, .int (nI (bestD (ctN x b) i n))), (6, .long (lN (ctN x b (bestD (ctN x b) i n)))), (8, .int (nI (i + 1 + n)))] → W p l e RR s m args below meth c H locs 0 0 QQ (F0 m 56 ls []) := by
                intro k9
                induction k9 with
                | zero => intro n ls hn hk hl; exact absurd hk (by omega)
                | succ k9 ih =>
                  intro n ls hn hk hl
                  have hbd := bestD_in (f := ctN x b) (a := i) n
                  have hcb := hct (bestD (ctN x b) i n) (by omega)
                  refine lv_iload hx hb dX4_day_56 (lv_at hl 6 rfl) ?_
                  refine lv_iload_n hx hb dX4_day_58 rfl (lv_at hl 2 rfl) ?_
                  refine bn_gt (tgt := 94) hx hb (by omega) (by omega) dX4_day_59 (by decide) (fun c6 => ?_) (fun c6 => ?_)
                  · refine lv_iload hx hb dX4_day_94 (lv_at hl 4 rfl) ?_
                    subst hQQ
                    exact W.iret hx hb hr (fun t9 ht _ => ⟨⟨_, lkX x b, rfl, ⟨by rw [dayO, hbk]; show _ = gI ((inL 0 416 (nI i)).bind _); rw [hh]; show _ = gI ((inL 0 416 (nI j)).bind _); rw [hi]; show _ = gI (ite _ _ _); rw [if_pos c5, show j - i = n by omega]; rfl, alX_lk h0⟩, hpT ht hP, hD⟩, hS.F ht⟩) hS.2.2 dX4_day_96
                  · refine lv_aload_n hx hb dX4_day_62 rfl (lv_at hl 0 rfl) ?_
                    refine lv_aload hx hb dX4_day_63 (lv_at hl 3 rfl) ?_
                    refine lv_iload hx hb dX4_day_65 (lv_at hl 6 rfl) ?_
                    refine cR_l (W.runV (As := [.ref (bA b 0), .int (nI (i + 1 + n))]) (rest := []) ⟨hx, hb, hml, hown, hts⟩ (k_centsOn l g (lkX x b) b hx9 hbm hs hm (i + 1 + n) (by omega)) (cwV 2 hts (gV w_ml_X4_116 w_im_X4_centsOn w_sel_X4_centsOn w_ini_X4 w_co_X4_centsOn) rfl rfl rfl (by decide +kernel) (by rw [hR1, hR2]; exact ⟨Nat.le_of_ble_eq_true rfl, Nat.le_of_ble_eq_true rfl⟩)) (preV_rd hP hK (va_recv hK.1 hP (ci := 4) (q0 := 0) rfl rfl)) rfl rfl hl.1 rfl (lv_room (Nat.le_of_ble_eq_true rfl)) dX4_day_67 ⟨by rw [hR3]; omega, by rw [hR4]; omega⟩) ?_
                    refine tp_l (y := lN (ctN x b (i + 1 + n))) (by rw [ctN_eq h0 (by omega)]) ?_
                    have hcn := hct (i + 1 + n) (by omega)
                    refine lv_lstore (lv' := [(9, .long (lN (ctN x b (i + 1 + n)))), (0, .ref (xA x 0)), (2, .int (nI (i))), (3, .int (nI (j))), (4, .ref (bA b 0)), (5, .int (nI (bestD (ctN x b) i n))), (6, .long (lN (ctN x b (bestD (ctN x b) i n)))), (8, .int (nI (i + 1 + n)))]) hx hb dX4_day_70 hl (by decide) rfl (fun ls hl => ?_)
                    refine lv_lload hx hb dX4_day_72 (lv_at hl 0 rfl) ?_
                    refine lv_lload hx hb dX4_day_74 (lv_at hl 6 rfl) ?_
                    refine W.lcmp hx hb dX4_day_76 ?_
                    refine bl_ge (tgt := 88) hx hb (by omega) (by omega) dX4_day_77 (by decide) (fun c7 => ?_) (fun c7 => ?_)
                    · refine lv_iinc (v := nI (i + 1 + n + 1)) (lv' := [(8, .int (nI (i + 1 + n + 1))), (9, .long (lN (ctN x b (i + 1 + n)))), (0, .ref (xA x 0)), (2, .int (nI (i))), (3, .int (nI (j))), (4, .ref (bA b 0)), (5, .int (nI (bestD (ctN x b) i n))), (6, .long (lN (ctN x b (bestD (ctN x b) i n))))]) hx hb dX4_day_88 hl (k := 7) rfl (nI_1 _) (by decide) rfl (fun ls hl => ?_)
                      refine lv_goto (tgt := 56) hx hb dX4_day_91 (by decide) ?_
                      exact ih (n + 1) ls (by omega) (by omega) (by rw [bestD, if_neg (by omega)]; exact lv_sub hl [2, 3, 4, 5, 6, 7, 0] rfl)
                    · refine lv_iload hx hb dX4_day_80 (lv_at hl 7 rfl) ?_
                      refine lv_istore (lv' := [(5, .int (nI (i + 1 + n))), (9, .long (lN (ctN x b (i + 1 + n)))), (0, .ref (xA x 0)), (2, .int (nI (i))), (3, .int (nI (j))), (4, .ref (bA b 0)), (6, .long (lN (ctN x b (bestD (ctN x b) i n)))), (8, .int (nI (i + 1 + n)))]) hx hb dX4_day_82 hl (by decide) rfl (fun ls hl => ?_)
                      refine lv_lload hx hb dX4_day_84 (lv_at hl 1 rfl) ?_
                      refine lv_lstore (lv' := [(6, .long (lN (ctN x b (i + 1 + n)))), (5, .int (nI (i + 1 + n))), (9, .long (lN (ctN x b (i + 1 + n)))), (0, .ref (xA x 0)), (2, .int (nI (i))), (3, .int (nI (j))), (4, .ref (bA b 0)), (8, .int (nI (i + 1 + n)))]) hx hb dX4_day_86 hl (by decide) rfl (fun ls hl => ?_)
                      refine lv_iinc (v := nI (i + 1 + n + 1)) (lv' := [(8, .int (nI (i + 1 + n + 1))), (6, .long (lN (ctN x b (i + 1 + n)))), (5, .int (nI (i + 1 + n))), (9, .long (lN (ctN x b (i + 1 + n)))), (0, .ref (xA x 0)), (2, .int (nI (i))), (3, .int (nI (j))), (4, .ref (bA b 0))]) hx hb dX4_day_88 hl (k := 7) rfl (nI_1 _) (by decide) rfl (fun ls hl => ?_)
                      refine lv_goto (tgt := 56) hx hb dX4_day_91 (by decide) ?_
                      exact ih (n + 1) ls (by omega) (by omega) (by rw [bestD, if_pos c7]; exact lv_sub hl [4, 5, 6, 7, 2, 1, 0] rfl)
              exact loop (j - i + 1) 0 ls (Nat.zero_le _) (by omega) (lv_sub hl [4, 6, 7, 3, 2, 1, 0] rfl)
            · refine lv_iconst (v := (-1)) hx hb dX4_day_31 (by decide) ?_
              subst hQQ
              exact W.iret hx hb hr (fun t9 ht _ => ⟨⟨_, x, rfl, ⟨by rw [dayO, hbk]; show _ = gI ((inL 0 416 (nI i)).bind _); rw [hh]; show _ = gI ((inL 0 416 (nI j)).bind _); rw [hi]; show _ = gI (ite _ _ _); rw [if_neg (by omega)]; rfl, alX_rf h0⟩, hpT ht hP, hD⟩, hS.F ht⟩) hS.2.2 dX4_day_32

