set_option maxHeartbeats 4000000 in
set_option maxRecDepth 100000 in
theorem m_row (l : Launch) (g : GG) (ma : Nat → Nat) (P : PT) (S : ST) (x : FT) (hx9 : Xok x) (hRl : Rel x P) (hR0 : Rel0 P) (k t d : Int32) (sz : Nat) : Mi l yX5_row wsX5_row 2 42 0 0 [.ref (ma 0), .int (k), .int (t), .int (d)] g (wM g ma P S) sz ma S (fun r u => r = (rowS true x k t d).1 ∧ Rel (rowS true x k t d).2 u ∧ Rel0 u) := by
  refine Met.ofW (cc := cX5_row) (maxL := 5) (ret := (some .int)) (by decide) rfl ?_
  intro p e s m args below meth c s₁ BB hml hv
  obtain ⟨hargs, hsz, hP, hK, hD0⟩ := hv
  have hx := BB.exec
  have hb := BB.bytes
  have hr := BB.returns
  have hts : ∀ w ∈ BIG, w.before args s = true := fun w h => atoms_spec (ws := wsX5_row) BB.pre w (List.mem_cons_of_mem _ h)
  have hown : s.vm.findClass RX5 = some m.cls := findClass_of_methodNamed BB.named
  have hlocks := BB.notSynchronized
  obtain ⟨RR, hRR⟩ : ∃ RR, RR = (headSpec wsX5_row ⟨2, 0, 0, 42⟩).room := ⟨_, rfl⟩
  have hR1 : RR.frames = 2 := by rw [hRR]; rfl
  have hR2 : RR.locals = 42 := by rw [hRR]; rfl
  have hR3 : RR.cells = 0 := by rw [hRR]; rfl
  have hR4 : RR.slots = 0 := by rw [hRR]; rfl
  have hl := lv_entry ([.ref (ma 0), .int (k), .int (t), .int (d)]) (n := 5) (Nat.le_of_ble_eq_true rfl)
  have hent : entryFrame m args 5 = F0 m 0 ((lg_sl ([.ref (ma 0), .int (k), .int (t), .int (d)]) ++ List.replicate (5 - (lg_sl ([.ref (ma 0), .int (k), .int (t), .int (d)])).length) Slot.unset).toArray) [] := by rw [hargs, lg_entry_eq]
  rw [hent]
  generalize (lg_sl ([.ref (ma 0), .int (k), .int (t), .int (d)]) ++ List.replicate (5 - (lg_sl ([.ref (ma 0), .int (k), .int (t), .int (d)])).length) Slot.unset).toArray = ls at hl ⊢
  have hl : lv_has ls 5 [(0, .ref (ma 0)), (1, .int (k)), (2, .int (t)), (3, .int (d))] := hl
  subst hsz
  have hD := hD0.self (sz := s.heap.size)
  generalize hAe : va_A (wM g ma P S) s.heap.size = A at hD ⊢
  have hA : ∀ q : Nat, s.heap.size ≤ q → A q := fun q h => by rw [← hAe]; exact Or.inr h
  have hS : va_S A s.heap s.heap [] := va_S.rf
  refine q_ab (R := RR) hRR ?_
  generalize hQQ : MQ below _ args s _ _ _ = QQ
  have h8 := hx9.1
  have hpB := hRl.1
  refine lv_aload_n hx hb dX5_row_0 rfl (lv_at hl 0 rfl) ?_
  refine lv_iload_n hx hb dX5_row_1 rfl (lv_at hl 1 rfl) ?_
  cases hbk : binAt (xB x) k with
  | none =>
    refine cR_i (W.runV (As := [.int (k)]) (rest := []) ⟨hx, hb, hml, hown, hts⟩ (m_isBin_n l g ma P S x k hpB h8 hbk) (cwV 1 hts (gV w_ml_X5_83 w_im_X5_isBin w_sel_X5_isBin w_ini_X5 w_co_X5_isBin) rfl rfl rfl (by decide +kernel) (by rw [hR1, hR2]; exact ⟨Nat.le_of_ble_eq_true rfl, Nat.le_of_ble_eq_true rfl⟩)) (preV_rd hP hK (va_recv hK.1 hP (ci := 5) (q0 := 0) rfl rfl)) rfl rfl hl.1 rfl (lv_room (Nat.le_of_ble_eq_true rfl)) dX5_row_2 ⟨by rw [hR3]; omega, by rw [hR4]; omega⟩) ?_
    refine bb_eq (tgt := 26) hx hb dX5_row_5 (by decide) (fun cb => ?_) (fun cb => ?_)
    · refine lv_iconst (v := (-1)) hx hb dX5_row_26 (by decide) ?_
      subst hQQ
      exact W.iret hx hb hr (fun t9 ht _ => ⟨⟨_, P, rfl, by rw [rowS_0 (row := true) hbk]; exact ⟨rfl, hRl, hR0⟩, hpT ht hP⟩, hS.F ht⟩) hS.2.2 dX5_row_27
    · exact absurd cb (by decide)
  | some b =>
    obtain ⟨j, hjl, ek, hbj, -⟩ := binAt_s h8 hbk
    subst ek
    have hbm := List.mem_of_getElem? hbj
    have hBk := hx9.2.1 b hbm
    have hR := hRl.2.1 j b hbj
    obtain ⟨⟨hbn, hbp, hbo, hba⟩, hbw, hbg, hbs, hbr, hc1, hc2, hc3, hbam⟩ := id hBk
    refine cR_i (W.runV (As := [.int (nI (j))]) (rest := []) ⟨hx, hb, hml, hown, hts⟩ (m_isBin_s l g ma P S j (by omega) (by omega)) (cwV 1 hts (gV w_ml_X5_83 w_im_X5_isBin w_sel_X5_isBin w_ini_X5 w_co_X5_isBin) rfl rfl rfl (by decide +kernel) (by rw [hR1, hR2]; exact ⟨Nat.le_of_ble_eq_true rfl, Nat.le_of_ble_eq_true rfl⟩)) (preV_rd hP hK (va_recv hK.1 hP (ci := 5) (q0 := 0) rfl rfl)) rfl rfl hl.1 rfl (lv_room (Nat.le_of_ble_eq_true rfl)) dX5_row_2 ⟨by rw [hR3]; omega, by rw [hR4]; omega⟩) ?_
    refine bb_eq (tgt := 26) hx hb dX5_row_5 (by decide) (fun cb => ?_) (fun cb => ?_)
    · exact absurd cb (by decide)
    · have hCC := hR.1.2.2.1
      have hbd := hR.rh hBk
      refine lv_iload_n hx hb dX5_row_8 rfl (lv_at hl 2 rfl) ?_
      refine cR_i (W.runS (As := [.int (t)]) (rest := []) ⟨hx, hb, hml, hown, hts⟩ (m_isHour l g t) (va_cwS 1 hts (gS w_ml_X5_87 w_sm_X5_isHour w_ini_X5 w_co_X5_isHour) rfl rfl rfl (by decide +kernel) (by rw [hR1, hR2]; exact ⟨Nat.le_of_ble_eq_true rfl, Nat.le_of_ble_eq_true rfl⟩)) (preS_rd va_P.nil hK) rfl rfl hl.1 rfl (lv_room (Nat.le_of_ble_eq_true rfl)) dX5_row_9 ⟨by rw [hR3]; omega, by rw [hR4]; omega⟩) ?_
      refine bb_eq (tgt := 26) hx hb dX5_row_12 (by decide) (fun hhc => ?_) (fun hhc => ?_)
      · cases hh : inL 0 9999 t with
        | none =>
          refine lv_iconst (v := (-1)) hx hb dX5_row_26 (by decide) ?_
          subst hQQ
          exact W.iret hx hb hr (fun t9 ht _ => ⟨⟨_, P, rfl, by rw [rowS_1 (row := true) hh]; exact ⟨rfl, hRl, hR0⟩, hpT ht hP⟩, hS.F ht⟩) hS.2.2 dX5_row_27
        | some h => exact absurd hhc (by rw [(inL_s (by decide) (by decide) hh).2.2.2]; decide)
      · cases hh : inL 0 9999 t with
        | none => exact absurd hhc (by rw [inL_n hh]; decide)
        | some h =>
          obtain ⟨hhl, hhn, hhe, -⟩ := inL_s (by decide) (by decide) hh
          subst hhe
          refine lv_iload_n hx hb dX5_row_15 rfl (lv_at hl 3 rfl) ?_
          refine lv_iconst (v := nI (0)) hx hb dX5_row_16 (by decide) ?_
          refine lv_sipush (v := nI (1500)) hx hb dX5_row_17 (by decide) ?_
          refine cR_i (W.runS (As := [.int (d), .int (nI (0)), .int (nI (1500))]) (rest := []) ⟨hx, hb, hml, hown, hts⟩ (m_isIn l g d (nI 0) (nI 1500)) (va_cwS 3 hts (gS w_ml_X5_79 w_sm_X5_isIn w_ini_X5 w_co_X5_isIn) rfl rfl rfl (by decide +kernel) (by rw [hR1, hR2]; exact ⟨Nat.le_of_ble_eq_true rfl, Nat.le_of_ble_eq_true rfl⟩)) (preS_rd va_P.nil hK) rfl rfl hl.1 rfl (lv_room (Nat.le_of_ble_eq_true rfl)) dX5_row_20 ⟨by rw [hR3]; omega, by rw [hR4]; omega⟩) ?_
          refine bb_ne (tgt := 28) hx hb dX5_row_23 (by decide) (fun hic => ?_) (fun hic => ?_)
          · cases hi : inL 0 1500 d with
            | none => exact absurd hic (by rw [inL_n hi]; decide)
            | some v =>
              obtain ⟨hil, hin, hie, -⟩ := inL_s (by decide) (by decide) hi
              subst hie
              refine lv_iconst (v := nI (0)) hx hb dX5_row_28 (by decide) ?_
              refine lv_istore (lv' := [(4, .int (nI (0))), (0, .ref (ma 0)), (1, .int (nI (j))), (2, .int (nI (h))), (3, .int (nI (v)))]) hx hb dX5_row_29 hl (by decide) rfl (fun ls hl => ?_)
              have loop : ∀ (k9 : Nat) (q : Nat) (ls : Array Slot), (q ≤ bR b) → (bR b < q + k9) → (∀ r, r < q → aRh P (24 * j + r) ≠ h) → lv_has ls 5 [(0, .ref (ma 0)), (1, .int (nI (j))), (2, .int (nI (h))), (3, .int (nI (v))), (4, .int (nI (q)))] → W p l e RR s m args below meth c s.heap [] 0 0 QQ (F0 m 31 ls []) := by
                intro k9
                induction k9 with
                | zero => intro q ls hq hk hf hl; exact absurd hk (by omega)
                | succ k9 ih =>
                  intro q ls hq hk hf hl
                  refine lv_iload hx hb dX5_row_31 (lv_at hl 4 rfl) ?_
                  refine lv_aload_n hx hb dX5_row_33 rfl (lv_at hl 0 rfl) ?_
                  refine va_get (D := g.1) (ci := 5) (v := .ref (ma 3)) (C := RX5) (T := TX5) (N := 23) hx hb hts hiX5 hown hK.1 hP 0 rfl rfl 3 (by decide) (hts _ w_fl_X5_16) (fun _ h9 => h9) rfl dX5_row_34 ?_
                  refine lv_iload_n hx hb dX5_row_37 rfl (lv_at hl 1 rfl) ?_
                  refine n_iald (k := j) (v := nI (bR b)) hx hb hK.1 hP 3 0 rfl rfl (by omega) (by decide) (by show nI (aRc P j) = _; rw [hCC]) dX5_row_38 ?_
                  refine bn_ge (tgt := 84) hx hb (by omega) (by omega) dX5_row_39 (by decide) (fun c5 => ?_) (fun c5 => ?_)
                  · have hqe : q = bR b := by omega
                    rw [hqe] at hf
                    refine lv_aload_n hx hb dX5_row_84 rfl (lv_at hl 0 rfl) ?_
                    refine va_get (D := g.1) (ci := 5) (v := .ref (ma 3)) (C := RX5) (T := TX5) (N := 23) hx hb hts hiX5 hown hK.1 hP 0 rfl rfl 3 (by decide) (hts _ w_fl_X5_16) (fun _ h9 => h9) rfl dX5_row_85 ?_
                    refine lv_iload_n hx hb dX5_row_88 rfl (lv_at hl 1 rfl) ?_
                    refine n_iald (k := j) (v := nI (bR b)) hx hb hK.1 hP 3 0 rfl rfl (by omega) (by decide) (by show nI (aRc P j) = _; rw [hCC]) dX5_row_89 ?_
                    refine lv_bipush (v := nI (24)) hx hb dX5_row_90 (by decide) ?_
                    refine bn_ne (tgt := 97) hx hb (by omega) (by omega) dX5_row_92 (by decide) (fun c6 => ?_) (fun c6 => ?_)
                    · refine lv_aload_n hx hb dX5_row_97 rfl (lv_at hl 0 rfl) ?_
                      refine va_get (D := g.1) (ci := 5) (v := .ref (ma 4)) (C := RX5) (T := TX5) (N := 23) hx hb hts hiX5 hown hK.1 hP 0 rfl rfl 4 (by decide) (hts _ w_fl_X5_19) (fun _ h9 => h9) rfl dX5_row_98 ?_
                      refine lv_bipush (v := nI (24)) hx hb dX5_row_101 (by decide) ?_
                      refine lv_iload_n hx hb dX5_row_103 rfl (lv_at hl 1 rfl) ?_
                      refine n_imul hx hb dX5_row_104 ?_
                      refine lv_aload_n hx hb dX5_row_105 rfl (lv_at hl 0 rfl) ?_
                      refine va_get (D := g.1) (ci := 5) (v := .ref (ma 3)) (C := RX5) (T := TX5) (N := 23) hx hb hts hiX5 hown hK.1 hP 0 rfl rfl 3 (by decide) (hts _ w_fl_X5_16) (fun _ h9 => h9) rfl dX5_row_106 ?_
                      refine lv_iload_n hx hb dX5_row_109 rfl (lv_at hl 1 rfl) ?_
                      refine n_iald (k := j) (v := nI (bR b)) hx hb hK.1 hP 3 0 rfl rfl (by omega) (by decide) (by show nI (aRc P j) = _; rw [hCC]) dX5_row_110 ?_
                      refine n_iadd hx hb dX5_row_111 ?_
                      refine lv_iload_n hx hb dX5_row_112 rfl (lv_at hl 2 rfl) ?_
                      refine n_iastE (enc := nI) (f := aRh P) (x := h) (k := 24 * j + (bR b)) hx hb hK.1 hP hD hS 4 0 rfl rfl (by omega) (by decide) dX5_row_113 (fun H locs hP hD hS => ?_)
                      have hP : va_P g.1 vwCl (wM g ma (uaRh P (va_up (aRh P) (24 * j + (bR b)) (h))) S) H := hP
                      have hD : va_D A (wM g ma (uaRh P (va_up (aRh P) (24 * j + (bR b)) (h))) S) := hD
                      obtain ⟨P1, hP1⟩ : ∃ Q9 : PT, Q9 = uaRh P (va_up (aRh P) (24 * j + (bR b)) (h)) := ⟨_, rfl⟩
                      rw [← hP1] at hP hD
                      have hCC : aRc P1 j = bR b := by rw [hP1]; exact hCC
                      refine lv_aload_n hx hb dX5_row_114 rfl (lv_at hl 0 rfl) ?_
                      refine va_get (D := g.1) (ci := 5) (v := .ref (ma 5)) (C := RX5) (T := TX5) (N := 23) hx hb hts hiX5 hown hK.1 hP 0 rfl rfl 5 (by decide) (hts _ w_fl_X5_22) (fun _ h9 => h9) rfl dX5_row_115 ?_
                      refine lv_bipush (v := nI (24)) hx hb dX5_row_118 (by decide) ?_
                      refine lv_iload_n hx hb dX5_row_120 rfl (lv_at hl 1 rfl) ?_
                      refine n_imul hx hb dX5_row_121 ?_
                      refine lv_aload_n hx hb dX5_row_122 rfl (lv_at hl 0 rfl) ?_
                      refine va_get (D := g.1) (ci := 5) (v := .ref (ma 3)) (C := RX5) (T := TX5) (N := 23) hx hb hts hiX5 hown hK.1 hP 0 rfl rfl 3 (by decide) (hts _ w_fl_X5_16) (fun _ h9 => h9) rfl dX5_row_123 ?_
                      refine lv_iload_n hx hb dX5_row_126 rfl (lv_at hl 1 rfl) ?_
                      refine n_iald (k := j) (v := nI (bR b)) hx hb hK.1 hP 3 0 rfl rfl (by omega) (by decide) (by show nI (aRc P1 j) = _; rw [hCC]) dX5_row_127 ?_
                      refine n_iadd hx hb dX5_row_128 ?_
                      refine lv_iload_n hx hb dX5_row_129 rfl (lv_at hl 3 rfl) ?_
                      refine n_iastE (enc := nI) (f := aRs P1) (x := v) (k := 24 * j + (bR b)) hx hb hK.1 hP hD hS 5 0 rfl rfl (by omega) (by decide) dX5_row_130 (fun H locs hP hD hS => ?_)
                      have hP : va_P g.1 vwCl (wM g ma (uaRs P1 (va_up (aRs P1) (24 * j + (bR b)) (v))) S) H := hP
                      have hD : va_D A (wM g ma (uaRs P1 (va_up (aRs P1) (24 * j + (bR b)) (v))) S) := hD
                      obtain ⟨P2, hP2⟩ : ∃ Q9 : PT, Q9 = uaRs P1 (va_up (aRs P1) (24 * j + (bR b)) (v)) := ⟨_, rfl⟩
                      rw [← hP2] at hP hD
                      have hCC : aRc P2 j = bR b := by rw [hP2]; exact hCC
                      refine lv_aload_n hx hb dX5_row_131 rfl (lv_at hl 0 rfl) ?_
                      refine va_get (D := g.1) (ci := 5) (v := .ref (ma 3)) (C := RX5) (T := TX5) (N := 23) hx hb hts hiX5 hown hK.1 hP 0 rfl rfl 3 (by decide) (hts _ w_fl_X5_16) (fun _ h9 => h9) rfl dX5_row_132 ?_
                      refine lv_iload_n hx hb dX5_row_135 rfl (lv_at hl 1 rfl) ?_
                      refine lv_dup2_11 hx hb dX5_row_136 rfl rfl ?_
                      refine n_iald (k := j) (v := nI (bR b)) hx hb hK.1 hP 3 0 rfl rfl (by omega) (by decide) (by show nI (aRc P2 j) = _; rw [hCC]) dX5_row_137 ?_
                      refine lv_iconst (v := nI (1)) hx hb dX5_row_138 (by decide) ?_
                      refine n_iadd hx hb dX5_row_139 ?_
                      refine n_iastE (enc := nI) (f := aRc P2) (x := bR b + 1) (k := j) hx hb hK.1 hP hD hS 3 0 rfl rfl (by omega) (by decide) dX5_row_140 (fun H locs hP hD hS => ?_)
                      have hP : va_P g.1 vwCl (wM g ma (uaRc P2 (va_up (aRc P2) (j) (bR b + 1))) S) H := hP
                      have hD : va_D A (wM g ma (uaRc P2 (va_up (aRc P2) (j) (bR b + 1))) S) := hD
                      obtain ⟨P3, hP3⟩ : ∃ Q9 : PT, Q9 = uaRc P2 (va_up (aRc P2) (j) (bR b + 1)) := ⟨_, rfl⟩
                      rw [← hP3] at hP hD
                      have hCC : aRc P3 j = bR b + 1 := by rw [hP3]; show va_up _ j _ j = _; rw [va_up_self]
                      have hPe : P3 = nwR P j (bR b) h v := by rw [hP3, nwR_eq hP1 hP2]; rfl
                      refine lv_aload_n hx hb dX5_row_141 rfl (lv_at hl 0 rfl) ?_
                      refine va_get (D := g.1) (ci := 5) (v := .ref (ma 3)) (C := RX5) (T := TX5) (N := 23) hx hb hts hiX5 hown hK.1 hP 0 rfl rfl 3 (by decide) (hts _ w_fl_X5_16) (fun _ h9 => h9) rfl dX5_row_142 ?_
                      refine lv_iload_n hx hb dX5_row_145 rfl (lv_at hl 1 rfl) ?_
                      refine n_iald (k := j) (v := nI (bR b + 1)) hx hb hK.1 hP 3 0 rfl rfl (by omega) (by decide) (by show nI (aRc P3 j) = _; rw [hCC]) dX5_row_146 ?_
                      subst hQQ
                      exact W.iret hx hb hr (fun t9 ht _ => ⟨⟨_, P3, rfl, by rw [rowS_3 (row := true) (by omega) hbk hh hi]; obtain ⟨p1, p2, p3⟩ := ptR_n (v := v) hx9 hRl hR0 hbj hf c6; rw [← hPe] at p2 p3; exact ⟨p1.symm, p2, p3⟩, hpT ht hP⟩, hS.F ht⟩) hS.2.2 dX5_row_147
                    · refine lv_iconst (v := (-1)) hx hb dX5_row_95 (by decide) ?_
                      subst hQQ
                      exact W.iret hx hb hr (fun t9 ht _ => ⟨⟨_, P, rfl, by rw [rowS_3 (row := true) (by omega) hbk hh hi]; obtain ⟨p1, p2⟩ := ptR_f (v := v) hRl hbj hf c6; exact ⟨p1.symm, p2, hR0⟩, hpT ht hP⟩, hS.F ht⟩) hS.2.2 dX5_row_96
                  · have hb1 := (hbd q c5).1
                    refine lv_aload_n hx hb dX5_row_42 rfl (lv_at hl 0 rfl) ?_
                    refine va_get (D := g.1) (ci := 5) (v := .ref (ma 4)) (C := RX5) (T := TX5) (N := 23) hx hb hts hiX5 hown hK.1 hP 0 rfl rfl 4 (by decide) (hts _ w_fl_X5_19) (fun _ h9 => h9) rfl dX5_row_43 ?_
                    refine lv_bipush (v := nI (24)) hx hb dX5_row_46 (by decide) ?_
                    refine lv_iload_n hx hb dX5_row_48 rfl (lv_at hl 1 rfl) ?_
                    refine n_imul hx hb dX5_row_49 ?_
                    refine lv_iload hx hb dX5_row_50 (lv_at hl 4 rfl) ?_
                    refine n_iadd hx hb dX5_row_52 ?_
                    refine n_iald (k := (24 * j) + q) (v := nI (aRh P ((24 * j) + q))) hx hb hK.1 hP 4 0 rfl rfl (by omega) (by decide) (rfl) dX5_row_53 ?_
                    refine lv_iload_n hx hb dX5_row_54 rfl (lv_at hl 2 rfl) ?_
                    refine bn_ne (tgt := 78) hx hb (by omega) (by omega) dX5_row_55 (by decide) (fun c6 => ?_) (fun c6 => ?_)
                    · refine lv_iinc (v := nI (q + 1)) (lv' := [(4, .int (nI (q + 1))), (0, .ref (ma 0)), (1, .int (nI (j))), (2, .int (nI (h))), (3, .int (nI (v)))]) hx hb dX5_row_78 hl (k := 4) rfl (nI_1 _) (by decide) rfl (fun ls hl => ?_)
                      refine lv_goto (tgt := 31) hx hb dX5_row_81 (by decide) ?_
                      exact ih (q + 1) ls (by omega) (by omega) (fun r hr9 => (Nat.lt_or_ge r q).elim (hf r) (fun z9 => by rw [show r = q by omega]; exact c6)) (lv_sub hl [1, 2, 3, 4, 0] rfl)
                    · refine lv_aload_n hx hb dX5_row_58 rfl (lv_at hl 0 rfl) ?_
                      refine va_get (D := g.1) (ci := 5) (v := .ref (ma 5)) (C := RX5) (T := TX5) (N := 23) hx hb hts hiX5 hown hK.1 hP 0 rfl rfl 5 (by decide) (hts _ w_fl_X5_22) (fun _ h9 => h9) rfl dX5_row_59 ?_
                      refine lv_bipush (v := nI (24)) hx hb dX5_row_62 (by decide) ?_
                      refine lv_iload_n hx hb dX5_row_64 rfl (lv_at hl 1 rfl) ?_
                      refine n_imul hx hb dX5_row_65 ?_
                      refine lv_iload hx hb dX5_row_66 (lv_at hl 4 rfl) ?_
                      refine n_iadd hx hb dX5_row_68 ?_
                      refine lv_iload_n hx hb dX5_row_69 rfl (lv_at hl 3 rfl) ?_
                      refine n_iastE (enc := nI) (f := aRs P) (x := v) (k := 24 * j + q) hx hb hK.1 hP hD hS 5 0 rfl rfl (by omega) (by decide) dX5_row_70 (fun H locs hP hD hS => ?_)
                      have hP : va_P g.1 vwCl (wM g ma (uaRs P (va_up (aRs P) (24 * j + q) v)) S) H := hP
                      have hD : va_D A (wM g ma (uaRs P (va_up (aRs P) (24 * j + q) v)) S) := hD
                      refine lv_aload_n hx hb dX5_row_71 rfl (lv_at hl 0 rfl) ?_
                      refine va_get (D := g.1) (ci := 5) (v := .ref (ma 3)) (C := RX5) (T := TX5) (N := 23) hx hb hts hiX5 hown hK.1 hP 0 rfl rfl 3 (by decide) (hts _ w_fl_X5_16) (fun _ h9 => h9) rfl dX5_row_72 ?_
                      refine lv_iload_n hx hb dX5_row_75 rfl (lv_at hl 1 rfl) ?_
                      refine n_iald (k := j) (v := nI (bR b)) hx hb hK.1 hP 3 0 rfl rfl (by omega) (by decide) (by show nI (aRc P j) = _; rw [hCC]) dX5_row_76 ?_
                      subst hQQ
                      exact W.iret hx hb hr (fun t9 ht _ => ⟨⟨_, uaRs P (va_up (aRs P) (24 * j + q) v), rfl, by rw [rowS_3 (row := true) (by omega) hbk hh hi]; obtain ⟨p1, p2, p3⟩ := ptR_t (v := v) hx9 hRl hR0 hbj c5 c6; exact ⟨p1.symm, p2, p3⟩, hpT ht hP⟩, hS.F ht⟩) hS.2.2 dX5_row_77
              exact loop (bR b + 1) 0 ls (Nat.zero_le _) (by omega) (fun r hr9 => absurd hr9 (Nat.not_lt_zero _)) (lv_sub hl [1, 2, 3, 4, 0] rfl)
          · cases hi : inL 0 1500 d with
            | none =>
              refine lv_iconst (v := (-1)) hx hb dX5_row_26 (by decide) ?_
              subst hQQ
              exact W.iret hx hb hr (fun t9 ht _ => ⟨⟨_, P, rfl, by rw [rowS_2 (row := true) hi]; exact ⟨rfl, hRl, hR0⟩, hpT ht hP⟩, hS.F ht⟩) hS.2.2 dX5_row_27
            | some v => exact absurd hic (by rw [(inL_s (by decide) (by decide) hi).2.2.2]; decide)

