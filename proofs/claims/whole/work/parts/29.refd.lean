set_option maxHeartbeats 4000000 in
set_option maxRecDepth 100000 in
theorem m_day (l : Launch) (g : GG) (ma : Nat → Nat) (P : PT) (S : ST) (x : FT) (hx9 : Xok x) (hRl : Rel x P) (hs0 : sM S 0 = 0) (k t d : Int32) (sz : Nat) : Ei l yX5_day wsX5_day 5 125 0 0 [.ref (ma 0), .int (k), .int (t), .int (d)] g (wM g ma P S) sz ma P (gI (dayO x k t d)) (fun u => sM u 0 = 0) := by
  refine Met.ofW (cc := cX5_day) (maxL := 6) (ret := (some .int)) (by decide) rfl ?_
  intro p e s m args below meth c s₁ BB hml hv
  obtain ⟨hargs, hsz, hP, hK, hD0⟩ := hv
  have hx := BB.exec
  have hb := BB.bytes
  have hr := BB.returns
  have hts : ∀ w ∈ BIG, w.before args s = true := fun w h => atoms_spec (ws := wsX5_day) BB.pre w (List.mem_cons_of_mem _ h)
  have hown : s.vm.findClass RX5 = some m.cls := findClass_of_methodNamed BB.named
  have hlocks := BB.notSynchronized
  obtain ⟨RR, hRR⟩ : ∃ RR, RR = (headSpec wsX5_day ⟨5, 0, 0, 125⟩).room := ⟨_, rfl⟩
  have hR1 : RR.frames = 5 := by rw [hRR]; rfl
  have hR2 : RR.locals = 125 := by rw [hRR]; rfl
  have hR3 : RR.cells = 0 := by rw [hRR]; rfl
  have hR4 : RR.slots = 0 := by rw [hRR]; rfl
  have hl := lv_entry ([.ref (ma 0), .int (k), .int (t), .int (d)]) (n := 6) (Nat.le_of_ble_eq_true rfl)
  have hent : entryFrame m args 6 = F0 m 0 ((lg_sl ([.ref (ma 0), .int (k), .int (t), .int (d)]) ++ List.replicate (6 - (lg_sl ([.ref (ma 0), .int (k), .int (t), .int (d)])).length) Slot.unset).toArray) [] := by rw [hargs, lg_entry_eq]
  rw [hent]
  generalize (lg_sl ([.ref (ma 0), .int (k), .int (t), .int (d)]) ++ List.replicate (6 - (lg_sl ([.ref (ma 0), .int (k), .int (t), .int (d)])).length) Slot.unset).toArray = ls at hl ⊢
  have hl : lv_has ls 6 [(0, .ref (ma 0)), (1, .int (k)), (2, .int (t)), (3, .int (d))] := hl
  subst hsz
  have hD := hD0.self (sz := s.heap.size)
  generalize hAe : va_A (wM g ma P S) s.heap.size = A at hD ⊢
  have hA : ∀ q : Nat, s.heap.size ≤ q → A q := fun q h => by rw [← hAe]; exact Or.inr h
  have hS : va_S A s.heap s.heap [] := va_S.rf
  refine q_ab (R := RR) hRR ?_
  generalize hQQ : MQ below _ args s _ _ _ = QQ
  have h8 := hx9.1
  have hpB := hRl.1
  refine lv_aload_n hx hb dX5_day_0 rfl (lv_at hl 0 rfl) ?_
  refine lv_iload_n hx hb dX5_day_1 rfl (lv_at hl 1 rfl) ?_
  cases hbk : binAt (xB x) k with
  | none =>
    refine cR_i (W.runV (As := [.int (k)]) (rest := []) ⟨hx, hb, hml, hown, hts⟩ (m_isBin_n l g ma P S x k hpB h8 hbk) (cwV 1 hts (gV w_ml_X5_83 w_im_X5_isBin w_sel_X5_isBin w_ini_X5 w_co_X5_isBin) rfl rfl rfl (by decide +kernel) (by rw [hR1, hR2]; exact ⟨Nat.le_of_ble_eq_true rfl, Nat.le_of_ble_eq_true rfl⟩)) (preV_rd hP hK (va_recv hK.1 hP (ci := 5) (q0 := 0) rfl rfl)) rfl rfl hl.1 rfl (lv_room (Nat.le_of_ble_eq_true rfl)) dX5_day_2 ⟨by rw [hR3]; omega, by rw [hR4]; omega⟩) ?_
    refine bb_eq (tgt := 27) hx hb dX5_day_5 (by decide) (fun cb => ?_) (fun cb => ?_)
    · refine lv_iconst (v := (-1)) hx hb dX5_day_27 (by decide) ?_
      subst hQQ
      exact W.iret hx hb hr (fun t9 ht _ => ⟨⟨_, S, rfl, ⟨by rw [dayO, hbk]; rfl, hs0⟩, hpT ht hP⟩, hS.F ht⟩) hS.2.2 dX5_day_28
    · exact absurd cb (by decide)
  | some b =>
    obtain ⟨j, hjl, ek, hbj, -⟩ := binAt_s h8 hbk
    subst ek
    have hbm := List.mem_of_getElem? hbj
    have hBk := hx9.2.1 b hbm
    have hR := hRl.2.1 j b hbj
    obtain ⟨⟨hbn, hbp, hbo, hba⟩, hbw, hbg, hbs, hbr, hc1, hc2, hc3, hbam⟩ := id hBk
    refine cR_i (W.runV (As := [.int (nI (j))]) (rest := []) ⟨hx, hb, hml, hown, hts⟩ (m_isBin_s l g ma P S j (by omega) (by omega)) (cwV 1 hts (gV w_ml_X5_83 w_im_X5_isBin w_sel_X5_isBin w_ini_X5 w_co_X5_isBin) rfl rfl rfl (by decide +kernel) (by rw [hR1, hR2]; exact ⟨Nat.le_of_ble_eq_true rfl, Nat.le_of_ble_eq_true rfl⟩)) (preV_rd hP hK (va_recv hK.1 hP (ci := 5) (q0 := 0) rfl rfl)) rfl rfl hl.1 rfl (lv_room (Nat.le_of_ble_eq_true rfl)) dX5_day_2 ⟨by rw [hR3]; omega, by rw [hR4]; omega⟩) ?_
    refine bb_eq (tgt := 27) hx hb dX5_day_5 (by decide) (fun cb => ?_) (fun cb => ?_)
    · exact absurd cb (by decide)
    · refine lv_iload_n hx hb dX5_day_8 rfl (lv_at hl 2 rfl) ?_
      refine cR_i (W.runS (As := [.int (t)]) (rest := []) ⟨hx, hb, hml, hown, hts⟩ (m_isDay l g t) (va_cwS 1 hts (gS w_ml_X5_91 w_sm_X5_isDay w_ini_X5 w_co_X5_isDay) rfl rfl rfl (by decide +kernel) (by rw [hR1, hR2]; exact ⟨Nat.le_of_ble_eq_true rfl, Nat.le_of_ble_eq_true rfl⟩)) (preS_rd va_P.nil hK) rfl rfl hl.1 rfl (lv_room (Nat.le_of_ble_eq_true rfl)) dX5_day_9 ⟨by rw [hR3]; omega, by rw [hR4]; omega⟩) ?_
      refine bb_eq (tgt := 27) hx hb dX5_day_12 (by decide) (fun hhc => ?_) (fun hhc => ?_)
      · cases hh : inL 0 416 t with
        | none =>
          refine lv_iconst (v := (-1)) hx hb dX5_day_27 (by decide) ?_
          subst hQQ
          exact W.iret hx hb hr (fun t9 ht _ => ⟨⟨_, S, rfl, ⟨by rw [dayO, hbk]; show _ = gI ((inL 0 416 t).bind _); rw [hh]; rfl, hs0⟩, hpT ht hP⟩, hS.F ht⟩) hS.2.2 dX5_day_28
        | some i => exact absurd hhc (by rw [(inL_s (by decide) (by decide) hh).2.2.2]; decide)
      · cases hh : inL 0 416 t with
        | none => exact absurd hhc (by rw [inL_n hh]; decide)
        | some i =>
          obtain ⟨hhl, hhn, hhe, -⟩ := inL_s (by decide) (by decide) hh
          subst hhe
          refine lv_iload_n hx hb dX5_day_15 rfl (lv_at hl 3 rfl) ?_
          refine cR_i (W.runS (As := [.int (d)]) (rest := []) ⟨hx, hb, hml, hown, hts⟩ (m_isDay l g d) (va_cwS 1 hts (gS w_ml_X5_91 w_sm_X5_isDay w_ini_X5 w_co_X5_isDay) rfl rfl rfl (by decide +kernel) (by rw [hR1, hR2]; exact ⟨Nat.le_of_ble_eq_true rfl, Nat.le_of_ble_eq_true rfl⟩)) (preS_rd va_P.nil hK) rfl rfl hl.1 rfl (lv_room (Nat.le_of_ble_eq_true rfl)) dX5_day_16 ⟨by rw [hR3]; omega, by rw [hR4]; omega⟩) ?_
          refine bb_eq (tgt := 27) hx hb dX5_day_19 (by decide) (fun hic => ?_) (fun hic => ?_)
          · cases hi : inL 0 416 d with
            | none =>
              refine lv_iconst (v := (-1)) hx hb dX5_day_27 (by decide) ?_
              subst hQQ
              exact W.iret hx hb hr (fun t9 ht _ => ⟨⟨_, S, rfl, ⟨by rw [dayO, hbk]; show _ = gI ((inL 0 416 (nI i)).bind _); rw [hh]; show _ = gI ((inL 0 416 d).bind _); rw [hi]; rfl, hs0⟩, hpT ht hP⟩, hS.F ht⟩) hS.2.2 dX5_day_28
            | some ee => exact absurd hic (by rw [(inL_s (by decide) (by decide) hi).2.2.2]; decide)
          · cases hi : inL 0 416 d with
            | none => exact absurd hic (by rw [inL_n hi]; decide)
            | some ee =>
              obtain ⟨hil, hin, hie, -⟩ := inL_s (by decide) (by decide) hi
              subst hie
              refine lv_iload_n hx hb dX5_day_22 rfl (lv_at hl 2 rfl) ?_
              refine lv_iload_n hx hb dX5_day_23 rfl (lv_at hl 3 rfl) ?_
              refine bn_le (tgt := 29) hx hb (by omega) (by omega) dX5_day_24 (by decide) (fun c5 => ?_) (fun c5 => ?_)
              · refine lv_aload_n hx hb dX5_day_29 rfl (lv_at hl 0 rfl) ?_
                refine lv_iload_n hx hb dX5_day_30 rfl (lv_at hl 1 rfl) ?_
                refine cE_v (wc := wM g ma P S) (w1 := fun u => wM g ma (P) u) (va_runV (As := [.int (nI (j))]) (rest := []) ⟨hx, hb, hml, hown, hts⟩ (m_prepare l g ma P S x hx9 hRl j b hbj hs0 _) (cwV 1 hts (gV w_ml_X5_123 w_im_X5_prepare w_sel_X5_prepare w_ini_X5 w_co_X5_prepare) rfl rfl rfl (by decide +kernel) (by rw [hR1, hR2]; exact ⟨Nat.le_of_ble_eq_true rfl, Nat.le_of_ble_eq_true rfl⟩)) (preV_wr hP hK hD (va_recv hK.1 hP (ci := 5) (q0 := 0) rfl rfl)) rfl rfl hl.1 rfl (lv_room (Nat.le_of_ble_eq_true rfl)) dX5_day_31 ⟨by rw [hR3]; omega, by rw [hR4]; omega⟩) hP hD hS hA (fun _ => rfl) (fun T H locs hT hP hD hS => ?_)
                obtain ⟨hLy, hTM⟩ := hT
                have hN := hLy.1
                have hT0 : sM T 0 = 0 := by rw [hTM 0 (by omega)]; rfl
                have hct : ∀ d, d < 417 → ctN x b d < 2 ^ 60 := fun d hd => ctN_lt2 hx9 hbm hd
                refine lv_iload_n hx hb dX5_day_34 rfl (lv_at hl 2 rfl) ?_
                refine lv_istore (lv' := [(4, .int (nI (i))), (0, .ref (ma 0)), (1, .int (nI (j))), (2, .int (nI (i))), (3, .int (nI (ee)))]) hx hb dX5_day_35 hl (by decide) rfl (fun ls hl => ?_)
                refine lv_iload_n hx hb dX5_day_37 rfl (lv_at hl 3 rfl) ?_
                refine lv_iconst (v := nI (1)) hx hb dX5_day_38 (by decide) ?_
                refine n_iadd hx hb dX5_day_39 ?_
                refine lv_istore (lv' := [(5, .int (nI (i + 1))), (4, .int (nI (i))), (0, .ref (ma 0)), (1, .int (nI (j))), (2, .int (nI (i))), (3, .int (nI (ee)))]) hx hb dX5_day_40 hl (by decide) rfl (fun ls hl => ?_)
                have loop : ∀ (k9 : Nat) (n : Nat) (ls : Array Slot), (n ≤ ee - i) → (ee - i < n + k9) → lv_has ls 6 [(0, .ref (ma 0)), (2, .int (nI (i))), (3, .int (nI (ee))), (4, .int (nI (bestD (ctN x b) i n))), (5, .int (nI (i + 1 + n)))] → W p l e RR s m args below meth c H locs 0 0 QQ (F0 m 42 ls []) := by
                  intro k9
                  induction k9 with
                  | zero => intro n ls hn hk hl; exact absurd hk (by omega)
                  | succ k9 ih =>
                    intro n ls hn hk hl
                    have hbd := bestD_in (f := ctN x b) (a := i) n
                    have hcb := hct (bestD (ctN x b) i n) (by omega)
                    refine lv_iload hx hb dX5_day_42 (lv_at hl 4 rfl) ?_
                    refine lv_iload_n hx hb dX5_day_44 rfl (lv_at hl 2 rfl) ?_
                    refine bn_gt (tgt := 79) hx hb (by omega) (by omega) dX5_day_45 (by decide) (fun c6 => ?_) (fun c6 => ?_)
                    · refine lv_iload hx hb dX5_day_79 (lv_at hl 3 rfl) ?_
                      subst hQQ
                      exact W.iret hx hb hr (fun t9 ht _ => ⟨⟨_, T, rfl, ⟨by rw [dayO, hbk]; show _ = gI ((inL 0 416 (nI i)).bind _); rw [hh]; show _ = gI ((inL 0 416 (nI ee)).bind _); rw [hi]; show _ = gI (ite _ _ _); rw [if_pos c5, show ee - i = n by omega]; rfl, hT0⟩, hpT ht hP⟩, hS.F ht⟩) hS.2.2 dX5_day_81
                    · have hcn := hct (i + 1 + n) (by omega)
                      refine lv_aload_n hx hb dX5_day_48 rfl (lv_at hl 0 rfl) ?_
                      refine lv_iload hx hb dX5_day_49 (lv_at hl 4 rfl) ?_
                      refine cR_l (W.runV (As := [.int (nI (i + 1 + n))]) (rest := []) ⟨hx, hb, hml, hown, hts⟩ (m_costOn l g ma P T x hx9 hRl b hbm hLy hTM (i + 1 + n) (by omega)) (cwV 1 hts (gV w_ml_X5_139 w_im_X5_costOn w_sel_X5_costOn w_ini_X5 w_co_X5_costOn) rfl rfl rfl (by decide +kernel) (by rw [hR1, hR2]; exact ⟨Nat.le_of_ble_eq_true rfl, Nat.le_of_ble_eq_true rfl⟩)) (preV_rd hP hK (va_recv hK.1 hP (ci := 5) (q0 := 0) rfl rfl)) rfl rfl hl.1 rfl (lv_room (Nat.le_of_ble_eq_true rfl)) dX5_day_51 ⟨by rw [hR3]; omega, by rw [hR4]; omega⟩) ?_
                      refine lv_aload_n hx hb dX5_day_54 rfl (lv_at hl 0 rfl) ?_
                      refine lv_iload hx hb dX5_day_55 (lv_at hl 3 rfl) ?_
                      refine cR_l (W.runV (As := [.int (nI (bestD (ctN x b) i n))]) (rest := [.long (lN (ctN x b (i + 1 + n)))]) ⟨hx, hb, hml, hown, hts⟩ (m_costOn l g ma P T x hx9 hRl b hbm hLy hTM (bestD (ctN x b) i n) (by omega)) (cwV 1 hts (gV w_ml_X5_139 w_im_X5_costOn w_sel_X5_costOn w_ini_X5 w_co_X5_costOn) rfl rfl rfl (by decide +kernel) (by rw [hR1, hR2]; exact ⟨Nat.le_of_ble_eq_true rfl, Nat.le_of_ble_eq_true rfl⟩)) (preV_rd hP hK (va_recv hK.1 hP (ci := 5) (q0 := 0) rfl rfl)) rfl rfl hl.1 rfl (lv_room (Nat.le_of_ble_eq_true rfl)) dX5_day_57 ⟨by rw [hR3]; omega, by rw [hR4]; omega⟩) ?_
                      refine W.lcmp hx hb dX5_day_60 ?_
                      refine bl_ge (tgt := 69) hx hb (by omega) (by omega) dX5_day_61 (by decide) (fun c7 => ?_) (fun c7 => ?_)
                      · refine lv_iload hx hb dX5_day_69 (lv_at hl 3 rfl) ?_
                        refine lv_istore (lv' := [(4, .int (nI (bestD (ctN x b) i n))), (0, .ref (ma 0)), (2, .int (nI (i))), (3, .int (nI (ee))), (5, .int (nI (i + 1 + n)))]) hx hb dX5_day_71 hl (by decide) rfl (fun ls hl => ?_)
                        refine lv_iinc (v := nI (i + 1 + n + 1)) (lv' := [(5, .int (nI (i + 1 + n + 1))), (4, .int (nI (bestD (ctN x b) i n))), (0, .ref (ma 0)), (2, .int (nI (i))), (3, .int (nI (ee)))]) hx hb dX5_day_73 hl (k := 4) rfl (nI_1 _) (by decide) rfl (fun ls hl => ?_)
                        refine lv_goto (tgt := 42) hx hb dX5_day_76 (by decide) ?_
                        exact ih (n + 1) ls (by omega) (by omega) (by rw [bestD, if_neg (by omega)]; exact lv_sub hl [2, 3, 4, 1, 0] rfl)
                      · refine lv_iload hx hb dX5_day_64 (lv_at hl 4 rfl) ?_
                        refine lv_goto (tgt := 71) hx hb dX5_day_66 (by decide) ?_
                        refine lv_istore (lv' := [(4, .int (nI (i + 1 + n))), (0, .ref (ma 0)), (2, .int (nI (i))), (3, .int (nI (ee))), (5, .int (nI (i + 1 + n)))]) hx hb dX5_day_71 hl (by decide) rfl (fun ls hl => ?_)
                        refine lv_iinc (v := nI (i + 1 + n + 1)) (lv' := [(5, .int (nI (i + 1 + n + 1))), (4, .int (nI (i + 1 + n))), (0, .ref (ma 0)), (2, .int (nI (i))), (3, .int (nI (ee)))]) hx hb dX5_day_73 hl (k := 4) rfl (nI_1 _) (by decide) rfl (fun ls hl => ?_)
                        refine lv_goto (tgt := 42) hx hb dX5_day_76 (by decide) ?_
                        exact ih (n + 1) ls (by omega) (by omega) (by rw [bestD, if_pos c7]; exact lv_sub hl [2, 3, 4, 1, 0] rfl)
                exact loop (ee - i + 1) 0 ls (Nat.zero_le _) (by omega) (lv_sub hl [2, 4, 5, 1, 0] rfl)
              · refine lv_iconst (v := (-1)) hx hb dX5_day_27 (by decide) ?_
                subst hQQ
                exact W.iret hx hb hr (fun t9 ht _ => ⟨⟨_, S, rfl, ⟨by rw [dayO, hbk]; show _ = gI ((inL 0 416 (nI i)).bind _); rw [hh]; show _ = gI ((inL 0 416 (nI ee)).bind _); rw [hi]; show _ = gI (ite _ _ _); rw [if_neg (by omega)]; rfl, hs0⟩, hpT ht hP⟩, hS.F ht⟩) hS.2.2 dX5_day_28

set_option maxHeartbeats 4000000 in
set_option maxRecDepth 100000 in
theorem m_over (l : Launch) (g : GG) (ma : Nat → Nat) (P : PT) (S : ST) (x : FT) (hx9 : Xok x) (hRl : Rel x P) (hs0 : sM S 0 = 0) (t k : Int32) (sz : Nat) : Ei l yX5_over wsX5_over 6 147 0 0 [.ref (ma 0), .int (t), .int (k)] g (wM g ma P S) sz ma P (gI (ovO x t k)) (fun u => sM u 0 = 0) := by
  refine Met.ofW (cc := cX5_over) (maxL := 5) (ret := (some .int)) (by decide) rfl ?_
  intro p e s m args below meth c s₁ BB hml hv
  obtain ⟨hargs, hsz, hP, hK, hD0⟩ := hv
  have hx := BB.exec
  have hb := BB.bytes
  have hr := BB.returns
  have hts : ∀ w ∈ BIG, w.before args s = true := fun w h => atoms_spec (ws := wsX5_over) BB.pre w (List.mem_cons_of_mem _ h)
  have hown : s.vm.findClass RX5 = some m.cls := findClass_of_methodNamed BB.named
  have hlocks := BB.notSynchronized
  obtain ⟨RR, hRR⟩ : ∃ RR, RR = (headSpec wsX5_over ⟨6, 0, 0, 147⟩).room := ⟨_, rfl⟩
  have hR1 : RR.frames = 6 := by rw [hRR]; rfl
  have hR2 : RR.locals = 147 := by rw [hRR]; rfl
  have hR3 : RR.cells = 0 := by rw [hRR]; rfl
  have hR4 : RR.slots = 0 := by rw [hRR]; rfl
  have hl := lv_entry ([.ref (ma 0), .int (t), .int (k)]) (n := 5) (Nat.le_of_ble_eq_true rfl)
  have hent : entryFrame m args 5 = F0 m 0 ((lg_sl ([.ref (ma 0), .int (t), .int (k)]) ++ List.replicate (5 - (lg_sl ([.ref (ma 0), .int (t), .int (k)])).length) Slot.unset).toArray) [] := by rw [hargs, lg_entry_eq]
  rw [hent]
  generalize (lg_sl ([.ref (ma 0), .int (t), .int (k)]) ++ List.replicate (5 - (lg_sl ([.ref (ma 0), .int (t), .int (k)])).length) Slot.unset).toArray = ls at hl ⊢
  have hl : lv_has ls 5 [(0, .ref (ma 0)), (1, .int (t)), (2, .int (k))] := hl
  subst hsz
  have hD := hD0.self (sz := s.heap.size)
  generalize hAe : va_A (wM g ma P S) s.heap.size = A at hD ⊢
  have hA : ∀ q : Nat, s.heap.size ≤ q → A q := fun q h => by rw [← hAe]; exact Or.inr h
  have hS : va_S A s.heap s.heap [] := va_S.rf
  refine q_ab (R := RR) hRR ?_
  generalize hQQ : MQ below _ args s _ _ _ = QQ
  have h8 := hx9.1
  have hpB := hRl.1
  refine lv_iconst (v := nI (0)) hx hb dX5_over_0 (by decide) ?_
  refine lv_istore_n (lv' := [(3, .int (nI (0))), (0, .ref (ma 0)), (1, .int (t)), (2, .int (k))]) hx hb dX5_over_1 rfl hl (by decide) rfl (fun ls hl => ?_)
  refine lv_iconst (v := nI (0)) hx hb dX5_over_2 (by decide) ?_
  refine lv_istore (lv' := [(4, .int (nI (0))), (3, .int (nI (0))), (0, .ref (ma 0)), (1, .int (t)), (2, .int (k))]) hx hb dX5_over_3 hl (by decide) rfl (fun ls hl => ?_)
  cases hh : inL 0 9999 t with
  | none =>
    refine lv_iload hx hb dX5_over_5 (lv_at hl 0 rfl) ?_
    refine lv_aload_n hx hb dX5_over_7 rfl (lv_at hl 2 rfl) ?_
    refine va_get (D := g.1) (ci := 5) (v := .int (nI (pB P))) (C := RX5) (T := TX5) (N := 23) hx hb hts hiX5 hown hK.1 hP 0 rfl rfl 0 (by decide) (hts _ w_fl_X5_76) (fun _ h9 => h9) rfl dX5_over_8 ?_
    refine bn_ge (tgt := 52) hx hb (by omega) (by omega) dX5_over_11 (by decide) (fun c1 => ?_) (fun c1 => ?_)
    · refine lv_iconst (v := (-1)) hx hb dX5_over_52 (by decide) ?_
      subst hQQ
      exact W.iret hx hb hr (fun t9 ht _ => ⟨⟨_, S, rfl, ⟨by rw [ovO, hh]; rfl, hs0⟩, hpT ht hP⟩, hS.F ht⟩) hS.2.2 dX5_over_53
    · refine lv_iload_n hx hb dX5_over_14 rfl (lv_at hl 3 rfl) ?_
      refine cR_i (W.runS (As := [.int (t)]) (rest := []) ⟨hx, hb, hml, hown, hts⟩ (m_isHour l g t) (va_cwS 1 hts (gS w_ml_X5_87 w_sm_X5_isHour w_ini_X5 w_co_X5_isHour) rfl rfl rfl (by decide +kernel) (by rw [hR1, hR2]; exact ⟨Nat.le_of_ble_eq_true rfl, Nat.le_of_ble_eq_true rfl⟩)) (preS_rd va_P.nil hK) rfl rfl hl.1 rfl (lv_room (Nat.le_of_ble_eq_true rfl)) dX5_over_15 ⟨by rw [hR3]; omega, by rw [hR4]; omega⟩) ?_
      refine bb_eq (tgt := 52) hx hb dX5_over_18 (by decide) (fun c2 => ?_) (fun c2 => ?_)
      · refine lv_iconst (v := (-1)) hx hb dX5_over_52 (by decide) ?_
        subst hQQ
        exact W.iret hx hb hr (fun t9 ht _ => ⟨⟨_, S, rfl, ⟨by rw [ovO, hh]; rfl, hs0⟩, hpT ht hP⟩, hS.F ht⟩) hS.2.2 dX5_over_53
      · exact absurd c2 (by rw [inL_n hh]; decide)
  | some h =>
    obtain ⟨hhl, hhn, hhe, hhd⟩ := inL_s (by decide) (by decide) hh
    subst hhe
    have loop : ∀ (k9 : Nat) (q : Nat) (f : Nat) (T : ST) (H : Heap) (locs : List Loc) (ls : Array Slot), (q ≤ (xB x).length) → (f ≤ q) → ((xB x).length < q + k9) → (sM T 0 = 0) → (kth (ovP x h) k ((xB x).length - q) q f = kth (ovP x h) k (xB x).length 0 0) → va_P g.1 vwCl (wM g ma P T) H → va_D A (wM g ma P T) → va_S A s.heap H locs → lv_has ls 5 [(0, .ref (ma 0)), (1, .int (nI (h))), (2, .int (k)), (3, .int (nI (f))), (4, .int (nI (q)))] → W p l e RR s m args below meth c H locs 0 0 QQ (F0 m 5 ls []) := by
      intro k9
      induction k9 with
      | zero => intro q f T H locs ls hq hf hk hT0 he hP hD hS hl; exact absurd hk (by omega)
      | succ k9 ih =>
        intro q f T H locs ls hq hf hk hT0 he hP hD hS hl
        refine lv_iload hx hb dX5_over_5 (lv_at hl 4 rfl) ?_
        refine lv_aload_n hx hb dX5_over_7 rfl (lv_at hl 0 rfl) ?_
        refine va_get (D := g.1) (ci := 5) (v := .int (nI (pB P))) (C := RX5) (T := TX5) (N := 23) hx hb hts hiX5 hown hK.1 hP 0 rfl rfl 0 (by decide) (hts _ w_fl_X5_76) (fun _ h9 => h9) rfl dX5_over_8 ?_
        refine tp_i (y := nI (xB x).length) (by rw [hpB]) ?_
        refine bn_ge (tgt := 52) hx hb (by omega) (by omega) dX5_over_11 (by decide) (fun c1 => ?_) (fun c1 => ?_)
        · refine lv_iconst (v := (-1)) hx hb dX5_over_52 (by decide) ?_
          subst hQQ
          exact W.iret hx hb hr (fun t9 ht _ => ⟨⟨_, T, rfl, ⟨by rw [ovO, hh]; show _ = gI (kth (ovP x h) k (xB x).length 0 0); rw [← he, show (xB x).length - q = 0 by omega]; rfl, hT0⟩, hpT ht hP⟩, hS.F ht⟩) hS.2.2 dX5_over_53
        · rw [show (xB x).length - q = ((xB x).length - (q + 1)) + 1 by omega, kth] at he
          obtain ⟨b, hbj⟩ : ∃ b, (xB x)[q]? = some b := ⟨_, List.getElem?_eq_getElem c1⟩
          have hbm := List.mem_of_getElem? hbj
          have hgd : (xB x).getD q bin0 = b := by rw [List.getD_eq_getElem?_getD, hbj]; rfl
          have hov : ovP x h q = decide (1000 ≤ shA b (rsum x b) h) := by unfold ovP; rw [hgd]
          rw [hov] at he
          have hbat : binAt (xB x) (nI q) = some b := by unfold binAt; rw [if_pos (nI_pos' (by omega)), nI_clamp (by omega)]; exact hbj
          have hex : expO x (nI q) (nI h) = some (shA b (rsum x b) h) := by unfold expO; rw [hbat]; show (inL 0 9999 (nI h)).map _ = _; rw [hh]; rfl
          have hlt := shR_lt (h := h) hx9 hbm (by omega)
          refine lv_iload_n hx hb dX5_over_14 rfl (lv_at hl 1 rfl) ?_
          refine cR_i (W.runS (As := [.int (nI (h))]) (rest := []) ⟨hx, hb, hml, hown, hts⟩ (m_isHour l g (nI h)) (va_cwS 1 hts (gS w_ml_X5_87 w_sm_X5_isHour w_ini_X5 w_co_X5_isHour) rfl rfl rfl (by decide +kernel) (by rw [hR1, hR2]; exact ⟨Nat.le_of_ble_eq_true rfl, Nat.le_of_ble_eq_true rfl⟩)) (preS_rd va_P.nil hK) rfl rfl hl.1 rfl (lv_room (Nat.le_of_ble_eq_true rfl)) dX5_over_15 ⟨by rw [hR3]; omega, by rw [hR4]; omega⟩) ?_
          refine bb_eq (tgt := 52) hx hb dX5_over_18 (by decide) (fun c2 => ?_) (fun c2 => ?_)
          · exact absurd c2 (by rw [hhd]; decide)
          · refine lv_aload_n hx hb dX5_over_21 rfl (lv_at hl 0 rfl) ?_
            refine lv_iload hx hb dX5_over_22 (lv_at hl 4 rfl) ?_
            refine lv_iload_n hx hb dX5_over_24 rfl (lv_at hl 1 rfl) ?_
            refine cE_l (wc := wM g ma P T) (w1 := fun u => wM g ma (P) u) (va_runV (As := [.int (nI (q)), .int (nI (h))]) (rest := []) ⟨hx, hb, hml, hown, hts⟩ (m_expected l g ma P T x hx9 hRl hT0 (nI q) (nI h) _) (cwV 2 hts (gV w_ml_X5_134 w_im_X5_expected w_sel_X5_expected w_ini_X5 w_co_X5_expected) rfl rfl rfl (by decide +kernel) (by rw [hR1, hR2]; exact ⟨Nat.le_of_ble_eq_true rfl, Nat.le_of_ble_eq_true rfl⟩)) (preV_wr hP hK hD (va_recv hK.1 hP (ci := 5) (q0 := 0) rfl rfl)) rfl rfl hl.1 rfl (lv_room (Nat.le_of_ble_eq_true rfl)) dX5_over_25 ⟨by rw [hR3]; omega, by rw [hR4]; omega⟩) hP hD hS hA (fun _ => rfl) (fun Y H locs hY hP hD hS => ?_)
            refine tp_l (y := lN (shA b (rsum x b) h)) (by rw [hex]; rfl) ?_
            refine lv_ldc2 (v := 1000) hx hb hown (hts _ w_ct_X5_137) dX5_over_28 ?_
            refine tp_l (y := lN 1000) (by decide) ?_
            refine W.lcmp hx hb dX5_over_31 ?_
            refine bl_lt (tgt := 46) hx hb (by omega) (by omega) dX5_over_32 (by decide) (fun c3 => ?_) (fun c3 => ?_)
            · rw [if_neg (by rw [decide_eq_false (by omega)]; decide)] at he
              refine lv_iinc (v := nI (q + 1)) (lv' := [(4, .int (nI (q + 1))), (0, .ref (ma 0)), (1, .int (nI (h))), (2, .int (k)), (3, .int (nI (f)))]) hx hb dX5_over_46 hl (k := 4) rfl (nI_1 _) (by decide) rfl (fun ls hl => ?_)
              refine lv_goto (tgt := 5) hx hb dX5_over_49 (by decide) ?_
              exact ih (q + 1) (f) Y H locs ls (by omega) (by omega) (by omega) hY he hP hD hS (lv_sub hl [1, 2, 3, 4, 0] rfl)
            · rw [if_pos (decide_eq_true c3)] at he
              refine lv_iload_n hx hb dX5_over_35 rfl (lv_at hl 3 rfl) ?_
              refine lv_iload_n hx hb dX5_over_36 rfl (lv_at hl 2 rfl) ?_
              refine lv_icmp_ne (tgt := 43) hx hb dX5_over_37 (by decide) (fun c4 => ?_) (fun c4 => ?_)
              · rw [if_neg c4] at he
                refine lv_iinc (v := nI (f + 1)) (lv' := [(3, .int (nI (f + 1))), (0, .ref (ma 0)), (1, .int (nI (h))), (2, .int (k)), (4, .int (nI (q)))]) hx hb dX5_over_43 hl (k := 3) rfl (nI_1 _) (by decide) rfl (fun ls hl => ?_)
                refine lv_iinc (v := nI (q + 1)) (lv' := [(4, .int (nI (q + 1))), (3, .int (nI (f + 1))), (0, .ref (ma 0)), (1, .int (nI (h))), (2, .int (k))]) hx hb dX5_over_46 hl (k := 4) rfl (nI_1 _) (by decide) rfl (fun ls hl => ?_)
                refine lv_goto (tgt := 5) hx hb dX5_over_49 (by decide) ?_
                exact ih (q + 1) (f + 1) Y H locs ls (by omega) (by omega) (by omega) hY he hP hD hS (lv_sub hl [2, 3, 4, 1, 0] rfl)
              · rw [if_pos c4] at he
                refine lv_iload hx hb dX5_over_40 (lv_at hl 4 rfl) ?_
                subst hQQ
                exact W.iret hx hb hr (fun t9 ht _ => ⟨⟨_, Y, rfl, ⟨by rw [ovO, hh]; show _ = gI (kth (ovP x h) k (xB x).length 0 0); rw [← he]; rfl, hY⟩, hpT ht hP⟩, hS.F ht⟩) hS.2.2 dX5_over_42
    exact loop ((xB x).length + 1) 0 0 S _ _ ls (Nat.zero_le _) (Nat.le_refl _) (by omega) hs0 rfl hP hD hS (lv_sub hl [2, 3, 4, 1, 0] rfl)
