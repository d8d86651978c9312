set_option maxHeartbeats 4000000 in
set_option maxRecDepth 100000 in
theorem k_row (l : Launch) (g : GG) (x : FT) (hx9 : Xok x) (k t d : Int32) (sz : Nat) : Ai l yX4_row wsX4_row 5 112 0 0 [.ref (xA x 0), .int (k), .int (t), .int (d)] g (x) sz (fun r u => (r, u) = rowS true x k t d) := by
  refine Met.ofW (cc := cX4_row) (maxL := 5) (ret := (some .int)) (by decide) rfl ?_
  intro p e s m args below meth c s₁ BB hml hv
  obtain ⟨hargs, hsz, hP, hK, hD0⟩ := hv
  have hx := BB.exec
  have hb := BB.bytes
  have hr := BB.returns
  have hts : ∀ w ∈ BIG, w.before args s = true := fun w h => atoms_spec (ws := wsX4_row) BB.pre w (List.mem_cons_of_mem _ h)
  have hown : s.vm.findClass RX4 = some m.cls := findClass_of_methodNamed BB.named
  have hlocks := BB.notSynchronized
  obtain ⟨RR, hRR⟩ : ∃ RR, RR = (headSpec wsX4_row ⟨5, 0, 0, 112⟩).room := ⟨_, rfl⟩
  have hR1 : RR.frames = 5 := by rw [hRR]; rfl
  have hR2 : RR.locals = 112 := by rw [hRR]; rfl
  have hR3 : RR.cells = 0 := by rw [hRR]; rfl
  have hR4 : RR.slots = 0 := by rw [hRR]; rfl
  have hl := lv_entry ([.ref (xA x 0), .int (k), .int (t), .int (d)]) (n := 5) (Nat.le_of_ble_eq_true rfl)
  have hent : entryFrame m args 5 = F0 m 0 ((lg_sl ([.ref (xA x 0), .int (k), .int (t), .int (d)]) ++ List.replicate (5 - (lg_sl ([.ref (xA x 0), .int (k), .int (t), .int (d)])).length) Slot.unset).toArray) [] := by rw [hargs, lg_entry_eq]
  rw [hent]
  generalize (lg_sl ([.ref (xA x 0), .int (k), .int (t), .int (d)]) ++ List.replicate (5 - (lg_sl ([.ref (xA x 0), .int (k), .int (t), .int (d)])).length) Slot.unset).toArray = ls at hl ⊢
  have hl : lv_has ls 5 [(0, .ref (xA x 0)), (1, .int (k)), (2, .int (t)), (3, .int (d))] := hl
  subst hsz
  have hD := hD0.self (sz := s.heap.size)
  generalize hAe : va_A (wX g x) s.heap.size = A at hD ⊢
  have hA : ∀ q : Nat, s.heap.size ≤ q → A q := fun q h => by rw [← hAe]; exact Or.inr h
  have hS : va_S A s.heap s.heap [] := va_S.rf
  refine q_ab (R := RR) hRR ?_
  generalize hQQ : MQ below _ args s _ _ _ = QQ
  obtain ⟨h8, hB, hW, hq9, he9, hl9⟩ := id hx9
  refine lv_aload_n hx hb dX4_row_0 rfl (lv_at hl 0 rfl) ?_
  refine lv_iload_n hx hb dX4_row_1 rfl (lv_at hl 1 rfl) ?_
  cases hbk : binAt (xB x) k with
  | none =>
    refine cR_q (W.runV (As := [.int (k)]) (rest := []) ⟨hx, hb, hml, hown, hts⟩ (k_binOf_n l g x k h8 hbk) (cwV 1 hts (gV w_ml_X4_56 w_im_X4_binOf w_sel_X4_binOf w_ini_X4 w_co_X4_binOf) rfl rfl rfl (by decide +kernel) (by rw [hR1, hR2]; exact ⟨Nat.le_of_ble_eq_true rfl, Nat.le_of_ble_eq_true rfl⟩)) (preV_rd hP hK (va_recv hK.1 hP (ci := 4) (q0 := 0) rfl rfl)) rfl rfl hl.1 rfl (lv_room (Nat.le_of_ble_eq_true rfl)) dX4_row_2 ⟨by rw [hR3]; omega, by rw [hR4]; omega⟩) ?_
    refine W.eq (g2 := F0 m 5 ls [.null]) rfl ?_
    refine lv_astoreN (lv' := [(4, .null), (0, .ref (xA x 0)), (1, .int (k)), (2, .int (t)), (3, .int (d))]) hx hb dX4_row_5 hl (by decide) rfl (fun ls hl => ?_)
    refine lv_aloadN hx hb dX4_row_7 (lv_at hl 0 rfl) ?_
    refine lv_ifnullN (tgt := 30) hx hb dX4_row_9 (by decide) ?_
    refine lv_iconst (v := (-1)) hx hb dX4_row_30 (by decide) ?_
    subst hQQ
    exact W.iret hx hb hr (fun t9 ht _ => ⟨⟨_, x, rfl, by rw [rowS_0 hbk], hpT ht hP, hD⟩, hS.F ht⟩) hS.2.2 dX4_row_31
  | some b =>
    have hbm : b ∈ xB x := by obtain ⟨j, -, -, hj, -⟩ := binAt_s h8 hbk; exact List.mem_of_getElem? hj
    have hBk := hB b hbm
    obtain ⟨⟨hbn, hbp, hbo, hba⟩, hbw, hbg, hbs, hbr, hc1, hc2, hc3, hbam⟩ := id hBk
    have hPb := wX_B hP hbm
    have hPm := va_P.app hPb (va_P.app (wX_C hP) (wX_F hP))
    have hpl2 : ∀ i, i < bN b → bPl b i < 2 ^ 31 := fun i hi => Nat.lt_trans (hbp i hi) (by decide)
    refine cR_q (W.runV (As := [.int (k)]) (rest := []) ⟨hx, hb, hml, hown, hts⟩ (k_binOf_s l g x k b h8 hbk) (cwV 1 hts (gV w_ml_X4_56 w_im_X4_binOf w_sel_X4_binOf w_ini_X4 w_co_X4_binOf) rfl rfl rfl (by decide +kernel) (by rw [hR1, hR2]; exact ⟨Nat.le_of_ble_eq_true rfl, Nat.le_of_ble_eq_true rfl⟩)) (preV_rd hP hK (va_recv hK.1 hP (ci := 4) (q0 := 0) rfl rfl)) rfl rfl hl.1 rfl (lv_room (Nat.le_of_ble_eq_true rfl)) dX4_row_2 ⟨by rw [hR3]; omega, by rw [hR4]; omega⟩) ?_
    refine W.eq (g2 := F0 m 5 ls [.ref (bA b 0)]) rfl ?_
    refine lv_astore (lv' := [(4, .ref (bA b 0)), (0, .ref (xA x 0)), (1, .int (k)), (2, .int (t)), (3, .int (d))]) hx hb dX4_row_5 hl (by decide) rfl (fun ls hl => ?_)
    refine lv_aload hx hb dX4_row_7 (lv_at hl 0 rfl) ?_
    refine lv_ifnull hx hb dX4_row_9 ?_
    refine lv_iload_n hx hb dX4_row_12 rfl (lv_at hl 3 rfl) ?_
    refine cR_i (W.runS (As := [.int (t)]) (rest := []) ⟨hx, hb, hml, hown, hts⟩ (k_isHour l g t) (va_cwS 1 hts (gS w_ml_X4_60 w_sm_X4_isHour w_ini_X4 w_co_X4_isHour) rfl rfl rfl (by decide +kernel) (by rw [hR1, hR2]; exact ⟨Nat.le_of_ble_eq_true rfl, Nat.le_of_ble_eq_true rfl⟩)) (preS_rd va_P.nil hK) rfl rfl hl.1 rfl (lv_room (Nat.le_of_ble_eq_true rfl)) dX4_row_13 ⟨by rw [hR3]; omega, by rw [hR4]; omega⟩) ?_
    refine bb_eq (tgt := 30) hx hb dX4_row_16 (by decide) (fun hhc => ?_) (fun hhc => ?_)
    · cases hh : inL 0 9999 t with
      | none =>
        refine lv_iconst (v := (-1)) hx hb dX4_row_30 (by decide) ?_
        subst hQQ
        exact W.iret hx hb hr (fun t9 ht _ => ⟨⟨_, x, rfl, by rw [rowS_1 hh], hpT ht hP, hD⟩, hS.F ht⟩) hS.2.2 dX4_row_31
      | some h => exact absurd hhc (by rw [(inL_s (by decide) (by decide) hh).2.2.2]; decide)
    · cases hh : inL 0 9999 t with
      | none => exact absurd hhc (by rw [inL_n hh]; decide)
      | some h =>
        obtain ⟨hhl, hhn, hhe, -⟩ := inL_s (by decide) (by decide) hh
        subst hhe
        refine lv_iload_n hx hb dX4_row_19 rfl (lv_at hl 4 rfl) ?_
        refine lv_iconst (v := nI (0)) hx hb dX4_row_20 (by decide) ?_
        refine lv_sipush (v := nI (1500)) hx hb dX4_row_21 (by decide) ?_
        refine cR_i (W.runS (As := [.int (d), .int (nI (0)), .int (nI (1500))]) (rest := []) ⟨hx, hb, hml, hown, hts⟩ (k_isWithin l g d (nI 0) (nI 1500)) (va_cwS 3 hts (gS w_ml_X4_49 w_sm_X4_isWithin w_ini_X4 w_co_X4_isWithin) rfl rfl rfl (by decide +kernel) (by rw [hR1, hR2]; exact ⟨Nat.le_of_ble_eq_true rfl, Nat.le_of_ble_eq_true rfl⟩)) (preS_rd va_P.nil hK) rfl rfl hl.1 rfl (lv_room (Nat.le_of_ble_eq_true rfl)) dX4_row_24 ⟨by rw [hR3]; omega, by rw [hR4]; omega⟩) ?_
        refine bb_ne (tgt := 32) hx hb dX4_row_27 (by decide) (fun hic => ?_) (fun hic => ?_)
        · cases hi : inL 0 1500 d with
          | none => exact absurd hic (by rw [inL_n hi]; decide)
          | some v =>
            obtain ⟨hil, hin, hie, -⟩ := inL_s (by decide) (by decide) hi
            subst hie
            obtain ⟨j, hj, ek, hj2, -⟩ := binAt_s h8 hbk
            subst ek
            obtain ⟨i1, i2, i3⟩ := ixB_ok (b := b) (q := 2 * h) hbo
            have hJb : Jok b := ⟨hbn, hbp, hbo, hba⟩
            have hs3 : rowS true x (nI j) (nI h) (nI v) = ((putB true b (2 * h) v).1, xsB x ((xB x).set j (putB true b (2 * h) v).2)) := rowS_3 (row := true) (x := x) (by omega) hbk hh hi
            refine lv_aload hx hb dX4_row_32 (lv_at hl 0 rfl) ?_
            refine lv_iload_n hx hb dX4_row_34 rfl (lv_at hl 3 rfl) ?_
            refine lv_iload_n hx hb dX4_row_35 rfl (lv_at hl 4 rfl) ?_
            rw [wX_split hj2] at hP hD
            by_cases c7 : ixB b (2 * h) < bN b ∧ bPl b (ixB b (2 * h)) = 2 * h
            · have hP3 : va_P g.1 vwCl (wXl g x j ++ (wB g b ++ bw g ((xB x).drop (j + 1)))) _ := hP
              have hD3 : va_D A (wXl g x j ++ (wB g b ++ bw g ((xB x).drop (j + 1)))) := hD
              refine cW_i (w1 := wB g (jB (amB b (ixB b (2 * h)) v) (bN (amB b (ixB b (2 * h)) v)))) (va_runV (As := [.int (nI (h)), .int (nI (v))]) (rest := []) ⟨hx, hb, hml, hown, hts⟩ (k_putRow_t l g b h v (2 * h) (ixB b (2 * h)) (by omega) rfl hJb i1 i2 i3 hc1 c7.1 c7.2 (Jok_am hJb (fun e => hin)) _) (cwV 2 hts (gV w_ml_X4_64 w_im_X0_putRow w_sel_X0_putRow w_ini_X0 w_co_X0_putRow) rfl rfl rfl (by decide +kernel) (by rw [hR1, hR2]; exact ⟨Nat.le_of_ble_eq_true rfl, Nat.le_of_ble_eq_true rfl⟩)) (preV_wr (P_mid hP3) hK (D_mid hD3) (va_recv hK.1 (P_mid hP3) (ci := 0) (q0 := 0) rfl rfl)) rfl rfl hl.1 rfl (lv_room (Nat.le_of_ble_eq_true rfl)) dX4_row_36 ⟨by rw [hR3]; omega, by rw [hR4]; omega⟩) hP3 hD3 hS hA rfl (fun H locs hP hD hS => ?_)
              rw [← wX_set (c := (jB (amB b (ixB b (2 * h)) v) (bN (amB b (ixB b (2 * h)) v)))) hj2 rfl] at hP hD
              subst hQQ
              exact W.iret hx hb hr (fun t9 ht _ => ⟨⟨_, xsB x ((xB x).set j (jB (amB b (ixB b (2 * h)) v) (bN (amB b (ixB b (2 * h)) v)))), rfl, by rw [hs3, putB_t c7]; rfl, hpT ht hP, hD⟩, hS.F ht⟩) hS.2.2 dX4_row_39
            · by_cases c8 : fullB true b = true
              · have hP3 : va_P g.1 vwCl (wXl g x j ++ (wB g b ++ bw g ((xB x).drop (j + 1)))) _ := hP
                have hD3 : va_D A (wXl g x j ++ (wB g b ++ bw g ((xB x).drop (j + 1)))) := hD
                refine cW_i (w1 := wB g b) (va_runV (As := [.int (nI (h)), .int (nI (v))]) (rest := []) ⟨hx, hb, hml, hown, hts⟩ (k_putRow_f l g b h v (2 * h) (ixB b (2 * h)) (by omega) rfl hJb i1 i2 i3 hc1 c7 (of_decide_eq_true c8) _) (cwV 2 hts (gV w_ml_X4_64 w_im_X0_putRow w_sel_X0_putRow w_ini_X0 w_co_X0_putRow) rfl rfl rfl (by decide +kernel) (by rw [hR1, hR2]; exact ⟨Nat.le_of_ble_eq_true rfl, Nat.le_of_ble_eq_true rfl⟩)) (preV_wr (P_mid hP3) hK (D_mid hD3) (va_recv hK.1 (P_mid hP3) (ci := 0) (q0 := 0) rfl rfl)) rfl rfl hl.1 rfl (lv_room (Nat.le_of_ble_eq_true rfl)) dX4_row_36 ⟨by rw [hR3]; omega, by rw [hR4]; omega⟩) hP3 hD3 hS hA rfl (fun H locs hP hD hS => ?_)
                rw [← wX_set (c := b) hj2 rfl] at hP hD
                subst hQQ
                exact W.iret hx hb hr (fun t9 ht _ => ⟨⟨_, xsB x ((xB x).set j b), rfl, by rw [hs3, putB_f c7 c8], hpT ht hP, hD⟩, hS.F ht⟩) hS.2.2 dX4_row_39
              · have c9 : bR b < 24 := by have := of_decide_eq_false (Bool.eq_false_iff.mpr c8); omega
                have hJ2 : Jok (amB (opB b (ixB b (2 * h)) (2 * h)) (ixB b (2 * h)) v) := Jok_op hJb (by omega) (by omega) i1 i2 (fun e => by
                  have := i3 e
                  rcases Nat.lt_or_ge (2 * h) (bPl b (ixB b (2 * h))) with z | z
                  · exact z
                  · exact absurd ⟨e, by omega⟩ c7) (fun e => by omega)
                have hP3 : va_P g.1 vwCl (wXl g x j ++ (wB g b ++ bw g ((xB x).drop (j + 1)))) _ := hP
                have hD3 : va_D A (wXl g x j ++ (wB g b ++ bw g ((xB x).drop (j + 1)))) := hD
                refine cW_i (w1 := wB g (jB (amB (bsR (opB b (ixB b (2 * h)) (2 * h)) (bR b + 1)) (ixB b (2 * h)) v) (bN (amB (bsR (opB b (ixB b (2 * h)) (2 * h)) (bR b + 1)) (ixB b (2 * h)) v)))) (va_runV (As := [.int (nI (h)), .int (nI (v))]) (rest := []) ⟨hx, hb, hml, hown, hts⟩ (k_putRow_n l g b h v (2 * h) (ixB b (2 * h)) (by omega) rfl hJb i1 i2 i3 hc1 c7 c9 (by omega) hJ2 _) (cwV 2 hts (gV w_ml_X4_64 w_im_X0_putRow w_sel_X0_putRow w_ini_X0 w_co_X0_putRow) rfl rfl rfl (by decide +kernel) (by rw [hR1, hR2]; exact ⟨Nat.le_of_ble_eq_true rfl, Nat.le_of_ble_eq_true rfl⟩)) (preV_wr (P_mid hP3) hK (D_mid hD3) (va_recv hK.1 (P_mid hP3) (ci := 0) (q0 := 0) rfl rfl)) rfl rfl hl.1 rfl (lv_room (Nat.le_of_ble_eq_true rfl)) dX4_row_36 ⟨by rw [hR3]; omega, by rw [hR4]; omega⟩) hP3 hD3 hS hA rfl (fun H locs hP hD hS => ?_)
                rw [← wX_set (c := (jB (amB (bsR (opB b (ixB b (2 * h)) (2 * h)) (bR b + 1)) (ixB b (2 * h)) v) (bN (amB (bsR (opB b (ixB b (2 * h)) (2 * h)) (bR b + 1)) (ixB b (2 * h)) v)))) hj2 rfl] at hP hD
                subst hQQ
                exact W.iret hx hb hr (fun t9 ht _ => ⟨⟨_, xsB x ((xB x).set j (jB (amB (bsR (opB b (ixB b (2 * h)) (2 * h)) (bR b + 1)) (ixB b (2 * h)) v) (bN (amB (bsR (opB b (ixB b (2 * h)) (2 * h)) (bR b + 1)) (ixB b (2 * h)) v)))), rfl, by rw [hs3, putB_n c7 c8]; rfl, hpT ht hP, hD⟩, hS.F ht⟩) hS.2.2 dX4_row_39
        · cases hi : inL 0 1500 d with
          | none =>
            refine lv_iconst (v := (-1)) hx hb dX4_row_30 (by decide) ?_
            subst hQQ
            exact W.iret hx hb hr (fun t9 ht _ => ⟨⟨_, x, rfl, by rw [rowS_2 (row := true) hi], hpT ht hP, hD⟩, hS.F ht⟩) hS.2.2 dX4_row_31
          | some v => exact absurd hic (by rw [(inL_s (by decide) (by decide) hi).2.2.2]; decide)

set_option maxHeartbeats 4000000 in
set_option maxRecDepth 100000 in
theorem k_emptied (l : Launch) (g : GG) (x : FT) (hx9 : Xok x) (k t d : Int32) (sz : Nat) : Ai l yX4_emptied wsX4_emptied 5 112 0 0 [.ref (xA x 0), .int (k), .int (t), .int (d)] g (x) sz (fun r u => (r, u) = rowS false x k t d) := by
  refine Met.ofW (cc := cX4_emptied) (maxL := 5) (ret := (some .int)) (by decide) rfl ?_
  intro p e s m args below meth c s₁ BB hml hv
  obtain ⟨hargs, hsz, hP, hK, hD0⟩ := hv
  have hx := BB.exec
  have hb := BB.bytes
  have hr := BB.returns
  have hts : ∀ w ∈ BIG, w.before args s = true := fun w h => atoms_spec (ws := wsX4_emptied) BB.pre w (List.mem_cons_of_mem _ h)
  have hown : s.vm.findClass RX4 = some m.cls := findClass_of_methodNamed BB.named
  have hlocks := BB.notSynchronized
  obtain ⟨RR, hRR⟩ : ∃ RR, RR = (headSpec wsX4_emptied ⟨5, 0, 0, 112⟩).room := ⟨_, rfl⟩
  have hR1 : RR.frames = 5 := by rw [hRR]; rfl
  have hR2 : RR.locals = 112 := by rw [hRR]; rfl
  have hR3 : RR.cells = 0 := by rw [hRR]; rfl
  have hR4 : RR.slots = 0 := by rw [hRR]; rfl
  have hl := lv_entry ([.ref (xA x 0), .int (k), .int (t), .int (d)]) (n := 5) (Nat.le_of_ble_eq_true rfl)
  have hent : entryFrame m args 5 = F0 m 0 ((lg_sl ([.ref (xA x 0), .int (k), .int (t), .int (d)]) ++ List.replicate (5 - (lg_sl ([.ref (xA x 0), .int (k), .int (t), .int (d)])).length) Slot.unset).toArray) [] := by rw [hargs, lg_entry_eq]
  rw [hent]
  generalize (lg_sl ([.ref (xA x 0), .int (k), .int (t), .int (d)]) ++ List.replicate (5 - (lg_sl ([.ref (xA x 0), .int (k), .int (t), .int (d)])).length) Slot.unset).toArray = ls at hl ⊢
  have hl : lv_has ls 5 [(0, .ref (xA x 0)), (1, .int (k)), (2, .int (t)), (3, .int (d))] := hl
  subst hsz
  have hD := hD0.self (sz := s.heap.size)
  generalize hAe : va_A (wX g x) s.heap.size = A at hD ⊢
  have hA : ∀ q : Nat, s.heap.size ≤ q → A q := fun q h => by rw [← hAe]; exact Or.inr h
  have hS : va_S A s.heap s.heap [] := va_S.rf
  refine q_ab (R := RR) hRR ?_
  generalize hQQ : MQ below _ args s _ _ _ = QQ
  obtain ⟨h8, hB, hW, hq9, he9, hl9⟩ := id hx9
  refine lv_aload_n hx hb dX4_emptied_0 rfl (lv_at hl 0 rfl) ?_
  refine lv_iload_n hx hb dX4_emptied_1 rfl (lv_at hl 1 rfl) ?_
  cases hbk : binAt (xB x) k with
  | none =>
    refine cR_q (W.runV (As := [.int (k)]) (rest := []) ⟨hx, hb, hml, hown, hts⟩ (k_binOf_n l g x k h8 hbk) (cwV 1 hts (gV w_ml_X4_56 w_im_X4_binOf w_sel_X4_binOf w_ini_X4 w_co_X4_binOf) rfl rfl rfl (by decide +kernel) (by rw [hR1, hR2]; exact ⟨Nat.le_of_ble_eq_true rfl, Nat.le_of_ble_eq_true rfl⟩)) (preV_rd hP hK (va_recv hK.1 hP (ci := 4) (q0 := 0) rfl rfl)) rfl rfl hl.1 rfl (lv_room (Nat.le_of_ble_eq_true rfl)) dX4_emptied_2 ⟨by rw [hR3]; omega, by rw [hR4]; omega⟩) ?_
    refine W.eq (g2 := F0 m 5 ls [.null]) rfl ?_
    refine lv_astoreN (lv' := [(4, .null), (0, .ref (xA x 0)), (1, .int (k)), (2, .int (t)), (3, .int (d))]) hx hb dX4_emptied_5 hl (by decide) rfl (fun ls hl => ?_)
    refine lv_aloadN hx hb dX4_emptied_7 (lv_at hl 0 rfl) ?_
    refine lv_ifnullN (tgt := 29) hx hb dX4_emptied_9 (by decide) ?_
    refine lv_iconst (v := (-1)) hx hb dX4_emptied_29 (by decide) ?_
    subst hQQ
    exact W.iret hx hb hr (fun t9 ht _ => ⟨⟨_, x, rfl, by rw [rowS_0 hbk], hpT ht hP, hD⟩, hS.F ht⟩) hS.2.2 dX4_emptied_30
  | some b =>
    have hbm : b ∈ xB x := by obtain ⟨j, -, -, hj, -⟩ := binAt_s h8 hbk; exact List.mem_of_getElem? hj
    have hBk := hB b hbm
    obtain ⟨⟨hbn, hbp, hbo, hba⟩, hbw, hbg, hbs, hbr, hc1, hc2, hc3, hbam⟩ := id hBk
    have hPb := wX_B hP hbm
    have hPm := va_P.app hPb (va_P.app (wX_C hP) (wX_F hP))
    have hpl2 : ∀ i, i < bN b → bPl b i < 2 ^ 31 := fun i hi => Nat.lt_trans (hbp i hi) (by decide)
    refine cR_q (W.runV (As := [.int (k)]) (rest := []) ⟨hx, hb, hml, hown, hts⟩ (k_binOf_s l g x k b h8 hbk) (cwV 1 hts (gV w_ml_X4_56 w_im_X4_binOf w_sel_X4_binOf w_ini_X4 w_co_X4_binOf) rfl rfl rfl (by decide +kernel) (by rw [hR1, hR2]; exact ⟨Nat.le_of_ble_eq_true rfl, Nat.le_of_ble_eq_true rfl⟩)) (preV_rd hP hK (va_recv hK.1 hP (ci := 4) (q0 := 0) rfl rfl)) rfl rfl hl.1 rfl (lv_room (Nat.le_of_ble_eq_true rfl)) dX4_emptied_2 ⟨by rw [hR3]; omega, by rw [hR4]; omega⟩) ?_
    refine W.eq (g2 := F0 m 5 ls [.ref (bA b 0)]) rfl ?_
    refine lv_astore (lv' := [(4, .ref (bA b 0)), (0, .ref (xA x 0)), (1, .int (k)), (2, .int (t)), (3, .int (d))]) hx hb dX4_emptied_5 hl (by decide) rfl (fun ls hl => ?_)
    refine lv_aload hx hb dX4_emptied_7 (lv_at hl 0 rfl) ?_
    refine lv_ifnull hx hb dX4_emptied_9 ?_
    refine lv_iload_n hx hb dX4_emptied_12 rfl (lv_at hl 3 rfl) ?_
    refine cR_i (W.runS (As := [.int (t)]) (rest := []) ⟨hx, hb, hml, hown, hts⟩ (k_isHour l g t) (va_cwS 1 hts (gS w_ml_X4_60 w_sm_X4_isHour w_ini_X4 w_co_X4_isHour) rfl rfl rfl (by decide +kernel) (by rw [hR1, hR2]; exact ⟨Nat.le_of_ble_eq_true rfl, Nat.le_of_ble_eq_true rfl⟩)) (preS_rd va_P.nil hK) rfl rfl hl.1 rfl (lv_room (Nat.le_of_ble_eq_true rfl)) dX4_emptied_13 ⟨by rw [hR3]; omega, by rw [hR4]; omega⟩) ?_
    refine bb_eq (tgt := 29) hx hb dX4_emptied_16 (by decide) (fun hhc => ?_) (fun hhc => ?_)
    · cases hh : inL 0 9999 t with
      | none =>
        refine lv_iconst (v := (-1)) hx hb dX4_emptied_29 (by decide) ?_
        subst hQQ
        exact W.iret hx hb hr (fun t9 ht _ => ⟨⟨_, x, rfl, by rw [rowS_1 hh], hpT ht hP, hD⟩, hS.F ht⟩) hS.2.2 dX4_emptied_30
      | some h => exact absurd hhc (by rw [(inL_s (by decide) (by decide) hh).2.2.2]; decide)
    · cases hh : inL 0 9999 t with
      | none => exact absurd hhc (by rw [inL_n hh]; decide)
      | some h =>
        obtain ⟨hhl, hhn, hhe, -⟩ := inL_s (by decide) (by decide) hh
        subst hhe
        refine lv_iload_n hx hb dX4_emptied_19 rfl (lv_at hl 4 rfl) ?_
        refine lv_iconst (v := nI (0)) hx hb dX4_emptied_20 (by decide) ?_
        refine lv_ldc (v := 100000) hx hb hown (hts _ w_ct_X4_68) dX4_emptied_21 ?_
        refine tp_i (y := nI 100000) (by decide) ?_
        refine cR_i (W.runS (As := [.int (d), .int (nI (0)), .int (nI (100000))]) (rest := []) ⟨hx, hb, hml, hown, hts⟩ (k_isWithin l g d (nI 0) (nI 100000)) (va_cwS 3 hts (gS w_ml_X4_49 w_sm_X4_isWithin w_ini_X4 w_co_X4_isWithin) rfl rfl rfl (by decide +kernel) (by rw [hR1, hR2]; exact ⟨Nat.le_of_ble_eq_true rfl, Nat.le_of_ble_eq_true rfl⟩)) (preS_rd va_P.nil hK) rfl rfl hl.1 rfl (lv_room (Nat.le_of_ble_eq_true rfl)) dX4_emptied_23 ⟨by rw [hR3]; omega, by rw [hR4]; omega⟩) ?_
        refine bb_ne (tgt := 31) hx hb dX4_emptied_26 (by decide) (fun hic => ?_) (fun hic => ?_)
        · cases hi : inL 0 100000 d with
          | none => exact absurd hic (by rw [inL_n hi]; decide)
          | some v =>
            obtain ⟨hil, hin, hie, -⟩ := inL_s (by decide) (by decide) hi
            subst hie
            obtain ⟨j, hj, ek, hj2, -⟩ := binAt_s h8 hbk
            subst ek
            obtain ⟨i1, i2, i3⟩ := ixB_ok (b := b) (q := 2 * h + 1) hbo
            have hJb : Jok b := ⟨hbn, hbp, hbo, hba⟩
            have hs3 : rowS false x (nI j) (nI h) (nI v) = ((putB false b (2 * h + 1) v).1, xsB x ((xB x).set j (putB false b (2 * h + 1) v).2)) := rowS_3 (row := false) (x := x) (by omega) hbk hh hi
            refine lv_aload hx hb dX4_emptied_31 (lv_at hl 0 rfl) ?_
            refine lv_iload_n hx hb dX4_emptied_33 rfl (lv_at hl 3 rfl) ?_
            refine lv_iload_n hx hb dX4_emptied_34 rfl (lv_at hl 4 rfl) ?_
            rw [wX_split hj2] at hP hD
            by_cases c7 : ixB b (2 * h + 1) < bN b ∧ bPl b (ixB b (2 * h + 1)) = 2 * h + 1
            · have hP3 : va_P g.1 vwCl (wXl g x j ++ (wB g b ++ bw g ((xB x).drop (j + 1)))) _ := hP
              have hD3 : va_D A (wXl g x j ++ (wB g b ++ bw g ((xB x).drop (j + 1)))) := hD
              refine cW_i (w1 := wB g (jB (amB b (ixB b (2 * h + 1)) v) (bN (amB b (ixB b (2 * h + 1)) v)))) (va_runV (As := [.int (nI (h)), .int (nI (v))]) (rest := []) ⟨hx, hb, hml, hown, hts⟩ (k_putEmptying_t l g b h v (2 * h + 1) (ixB b (2 * h + 1)) (by omega) rfl hJb i1 i2 i3 hc1 c7.1 c7.2 (Jok_am hJb (fun e => by rw [show bPl b (ixB b (2 * h + 1)) = 2 * h + 1 from c7.2] at e; omega)) _) (cwV 2 hts (gV w_ml_X4_69 w_im_X0_putEmptying w_sel_X0_putEmptying w_ini_X0 w_co_X0_putEmptying) rfl rfl rfl (by decide +kernel) (by rw [hR1, hR2]; exact ⟨Nat.le_of_ble_eq_true rfl, Nat.le_of_ble_eq_true rfl⟩)) (preV_wr (P_mid hP3) hK (D_mid hD3) (va_recv hK.1 (P_mid hP3) (ci := 0) (q0 := 0) rfl rfl)) rfl rfl hl.1 rfl (lv_room (Nat.le_of_ble_eq_true rfl)) dX4_emptied_35 ⟨by rw [hR3]; omega, by rw [hR4]; omega⟩) hP3 hD3 hS hA rfl (fun H locs hP hD hS => ?_)
              rw [← wX_set (c := (jB (amB b (ixB b (2 * h + 1)) v) (bN (amB b (ixB b (2 * h + 1)) v)))) hj2 rfl] at hP hD
              subst hQQ
              exact W.iret hx hb hr (fun t9 ht _ => ⟨⟨_, xsB x ((xB x).set j (jB (amB b (ixB b (2 * h + 1)) v) (bN (amB b (ixB b (2 * h + 1)) v)))), rfl, by rw [hs3, putB_t c7]; rfl, hpT ht hP, hD⟩, hS.F ht⟩) hS.2.2 dX4_emptied_38
            · by_cases c8 : fullB false b = true
              · have hP3 : va_P g.1 vwCl (wXl g x j ++ (wB g b ++ bw g ((xB x).drop (j + 1)))) _ := hP
                have hD3 : va_D A (wXl g x j ++ (wB g b ++ bw g ((xB x).drop (j + 1)))) := hD
                refine cW_i (w1 := wB g b) (va_runV (As := [.int (nI (h)), .int (nI (v))]) (rest := []) ⟨hx, hb, hml, hown, hts⟩ (k_putEmptying_f l g b h v (2 * h + 1) (ixB b (2 * h + 1)) (by omega) rfl hJb i1 i2 i3 hc1 c7 (of_decide_eq_true c8) _) (cwV 2 hts (gV w_ml_X4_69 w_im_X0_putEmptying w_sel_X0_putEmptying w_ini_X0 w_co_X0_putEmptying) rfl rfl rfl (by decide +kernel) (by rw [hR1, hR2]; exact ⟨Nat.le_of_ble_eq_true rfl, Nat.le_of_ble_eq_true rfl⟩)) (preV_wr (P_mid hP3) hK (D_mid hD3) (va_recv hK.1 (P_mid hP3) (ci := 0) (q0 := 0) rfl rfl)) rfl rfl hl.1 rfl (lv_room (Nat.le_of_ble_eq_true rfl)) dX4_emptied_35 ⟨by rw [hR3]; omega, by rw [hR4]; omega⟩) hP3 hD3 hS hA rfl (fun H locs hP hD hS => ?_)
                rw [← wX_set (c := b) hj2 rfl] at hP hD
                subst hQQ
                exact W.iret hx hb hr (fun t9 ht _ => ⟨⟨_, xsB x ((xB x).set j b), rfl, by rw [hs3, putB_f c7 c8], hpT ht hP, hD⟩, hS.F ht⟩) hS.2.2 dX4_emptied_38
              · have c9 : bN b - bR b < 8 := by have := of_decide_eq_false (Bool.eq_false_iff.mpr c8); omega
                have hJ2 : Jok (amB (opB b (ixB b (2 * h + 1)) (2 * h + 1)) (ixB b (2 * h + 1)) v) := Jok_op hJb (by omega) (by omega) i1 i2 (fun e => by
                  have := i3 e
                  rcases Nat.lt_or_ge (2 * h + 1) (bPl b (ixB b (2 * h + 1))) with z | z
                  · exact z
                  · exact absurd ⟨e, by omega⟩ c7) (fun e => by omega)
                have hP3 : va_P g.1 vwCl (wXl g x j ++ (wB g b ++ bw g ((xB x).drop (j + 1)))) _ := hP
                have hD3 : va_D A (wXl g x j ++ (wB g b ++ bw g ((xB x).drop (j + 1)))) := hD
                refine cW_i (w1 := wB g (jB (amB (opB b (ixB b (2 * h + 1)) (2 * h + 1)) (ixB b (2 * h + 1)) v) (bN (amB (opB b (ixB b (2 * h + 1)) (2 * h + 1)) (ixB b (2 * h + 1)) v)))) (va_runV (As := [.int (nI (h)), .int (nI (v))]) (rest := []) ⟨hx, hb, hml, hown, hts⟩ (k_putEmptying_n l g b h v (2 * h + 1) (ixB b (2 * h + 1)) (by omega) rfl hJb i1 i2 i3 hc1 c7 c9 (by omega) hJ2 _) (cwV 2 hts (gV w_ml_X4_69 w_im_X0_putEmptying w_sel_X0_putEmptying w_ini_X0 w_co_X0_putEmptying) rfl rfl rfl (by decide +kernel) (by rw [hR1, hR2]; exact ⟨Nat.le_of_ble_eq_true rfl, Nat.le_of_ble_eq_true rfl⟩)) (preV_wr (P_mid hP3) hK (D_mid hD3) (va_recv hK.1 (P_mid hP3) (ci := 0) (q0 := 0) rfl rfl)) rfl rfl hl.1 rfl (lv_room (Nat.le_of_ble_eq_true rfl)) dX4_emptied_35 ⟨by rw [hR3]; omega, by rw [hR4]; omega⟩) hP3 hD3 hS hA rfl (fun H locs hP hD hS => ?_)
                rw [← wX_set (c := (jB (amB (opB b (ixB b (2 * h + 1)) (2 * h + 1)) (ixB b (2 * h + 1)) v) (bN (amB (opB b (ixB b (2 * h + 1)) (2 * h + 1)) (ixB b (2 * h + 1)) v)))) hj2 rfl] at hP hD
                subst hQQ
                exact W.iret hx hb hr (fun t9 ht _ => ⟨⟨_, xsB x ((xB x).set j (jB (amB (opB b (ixB b (2 * h + 1)) (2 * h + 1)) (ixB b (2 * h + 1)) v) (bN (amB (opB b (ixB b (2 * h + 1)) (2 * h + 1)) (ixB b (2 * h + 1)) v)))), rfl, by rw [hs3, putB_n c7 c8, show bN b + 1 - bR b = cntB false b + 1 from (by show bN b + 1 - bR b = bN b - bR b + 1; omega)]; rfl, hpT ht hP, hD⟩, hS.F ht⟩) hS.2.2 dX4_emptied_38
        · cases hi : inL 0 100000 d with
          | none =>
            refine lv_iconst (v := (-1)) hx hb dX4_emptied_29 (by decide) ?_
            subst hQQ
            exact W.iret hx hb hr (fun t9 ht _ => ⟨⟨_, x, rfl, by rw [rowS_2 (row := false) hi], hpT ht hP, hD⟩, hS.F ht⟩) hS.2.2 dX4_emptied_30
          | some v => exact absurd hic (by rw [(inL_s (by decide) (by decide) hi).2.2.2]; decide)
