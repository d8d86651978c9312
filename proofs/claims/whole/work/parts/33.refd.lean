set_option maxHeartbeats 4000000 in
set_option maxRecDepth 100000 in
theorem m_emptied (l : Launch) (g : GG) (ma : Nat → Nat) (P : PT) (S : ST) (x : FT) (hx9 : Xok x) (hRl : Rel x P) (hR0 : Rel0 P) (k t d : Int32) (sz : Nat) : Mi l yX5_emptied wsX5_emptied 2 42 0 0 [.ref (ma 0), .int (k), .int (t), .int (d)] g (wM g ma P S) sz ma S (fun r u => r = (rowS false x k t d).1 ∧ Rel (rowS false x k t d).2 u ∧ Rel0 u) := by
  refine Met.ofW (cc := cX5_emptied) (maxL := 5) (ret := (some .int)) (by decide) rfl ?_
  intro p e s m args below meth c s₁ BB hml hv
  obtain ⟨hargs, hsz, hP, hK, hD0⟩ := hv
  have hx := BB.exec
  have hb := BB.bytes
  have hr := BB.returns
  have hts : ∀ w ∈ BIG, w.before args s = true := fun w h => atoms_spec (ws := wsX5_emptied) BB.pre w (List.mem_cons_of_mem _ h)
  have hown : s.vm.findClass RX5 = some m.cls := findClass_of_methodNamed BB.named
  have hlocks := BB.notSynchronized
  obtain ⟨RR, hRR⟩ : ∃ RR, RR = (headSpec wsX5_emptied ⟨2, 0, 0, 42⟩).room := ⟨_, rfl⟩
  have hR1 : RR.frames = 2 := by rw [hRR]; rfl
  have hR2 : RR.locals = 42 := by rw [hRR]; rfl
  have hR3 : RR.cells = 0 := by rw [hRR]; rfl
  have hR4 : RR.slots = 0 := by rw [hRR]; rfl
  have hl := lv_entry ([.ref (ma 0), .int (k), .int (t), .int (d)]) (n := 5) (Nat.le_of_ble_eq_true rfl)
  have hent : entryFrame m args 5 = F0 m 0 ((lg_sl ([.ref (ma 0), .int (k), .int (t), .int (d)]) ++ List.replicate (5 - (lg_sl ([.ref (ma 0), .int (k), .int (t), .int (d)])).length) Slot.unset).toArray) [] := by rw [hargs, lg_entry_eq]
  rw [hent]
  generalize (lg_sl ([.ref (ma 0), .int (k), .int (t), .int (d)]) ++ List.replicate (5 - (lg_sl ([.ref (ma 0), .int (k), .int (t), .int (d)])).length) Slot.unset).toArray = ls at hl ⊢
  have hl : lv_has ls 5 [(0, .ref (ma 0)), (1, .int (k)), (2, .int (t)), (3, .int (d))] := hl
  subst hsz
  have hD := hD0.self (sz := s.heap.size)
  generalize hAe : va_A (wM g ma P S) s.heap.size = A at hD ⊢
  have hA : ∀ q : Nat, s.heap.size ≤ q → A q := fun q h => by rw [← hAe]; exact Or.inr h
  have hS : va_S A s.heap s.heap [] := va_S.rf
  refine q_ab (R := RR) hRR ?_
  generalize hQQ : MQ below _ args s _ _ _ = QQ
  have h8 := hx9.1
  have hpB := hRl.1
  refine lv_aload_n hx hb dX5_emptied_0 rfl (lv_at hl 0 rfl) ?_
  refine lv_iload_n hx hb dX5_emptied_1 rfl (lv_at hl 1 rfl) ?_
  cases hbk : binAt (xB x) k with
  | none =>
    refine cR_i (W.runV (As := [.int (k)]) (rest := []) ⟨hx, hb, hml, hown, hts⟩ (m_isBin_n l g ma P S x k hpB h8 hbk) (cwV 1 hts (gV w_ml_X5_83 w_im_X5_isBin w_sel_X5_isBin w_ini_X5 w_co_X5_isBin) rfl rfl rfl (by decide +kernel) (by rw [hR1, hR2]; exact ⟨Nat.le_of_ble_eq_true rfl, Nat.le_of_ble_eq_true rfl⟩)) (preV_rd hP hK (va_recv hK.1 hP (ci := 5) (q0 := 0) rfl rfl)) rfl rfl hl.1 rfl (lv_room (Nat.le_of_ble_eq_true rfl)) dX5_emptied_2 ⟨by rw [hR3]; omega, by rw [hR4]; omega⟩) ?_
    refine bb_eq (tgt := 25) hx hb dX5_emptied_5 (by decide) (fun cb => ?_) (fun cb => ?_)
    · refine lv_iconst (v := (-1)) hx hb dX5_emptied_25 (by decide) ?_
      subst hQQ
      exact W.iret hx hb hr (fun t9 ht _ => ⟨⟨_, P, rfl, by rw [rowS_0 (row := false) hbk]; exact ⟨rfl, hRl, hR0⟩, hpT ht hP⟩, hS.F ht⟩) hS.2.2 dX5_emptied_26
    · exact absurd cb (by decide)
  | some b =>
    obtain ⟨j, hjl, ek, hbj, -⟩ := binAt_s h8 hbk
    subst ek
    have hbm := List.mem_of_getElem? hbj
    have hBk := hx9.2.1 b hbm
    have hR := hRl.2.1 j b hbj
    obtain ⟨⟨hbn, hbp, hbo, hba⟩, hbw, hbg, hbs, hbr, hc1, hc2, hc3, hbam⟩ := id hBk
    refine cR_i (W.runV (As := [.int (nI (j))]) (rest := []) ⟨hx, hb, hml, hown, hts⟩ (m_isBin_s l g ma P S j (by omega) (by omega)) (cwV 1 hts (gV w_ml_X5_83 w_im_X5_isBin w_sel_X5_isBin w_ini_X5 w_co_X5_isBin) rfl rfl rfl (by decide +kernel) (by rw [hR1, hR2]; exact ⟨Nat.le_of_ble_eq_true rfl, Nat.le_of_ble_eq_true rfl⟩)) (preV_rd hP hK (va_recv hK.1 hP (ci := 5) (q0 := 0) rfl rfl)) rfl rfl hl.1 rfl (lv_room (Nat.le_of_ble_eq_true rfl)) dX5_emptied_2 ⟨by rw [hR3]; omega, by rw [hR4]; omega⟩) ?_
    refine bb_eq (tgt := 25) hx hb dX5_emptied_5 (by decide) (fun cb => ?_) (fun cb => ?_)
    · exact absurd cb (by decide)
    · have hCC := hR.1.2.2.2
      have hbd := hR.eh hBk
      refine lv_iload_n hx hb dX5_emptied_8 rfl (lv_at hl 2 rfl) ?_
      refine cR_i (W.runS (As := [.int (t)]) (rest := []) ⟨hx, hb, hml, hown, hts⟩ (m_isHour l g t) (va_cwS 1 hts (gS w_ml_X5_87 w_sm_X5_isHour w_ini_X5 w_co_X5_isHour) rfl rfl rfl (by decide +kernel) (by rw [hR1, hR2]; exact ⟨Nat.le_of_ble_eq_true rfl, Nat.le_of_ble_eq_true rfl⟩)) (preS_rd va_P.nil hK) rfl rfl hl.1 rfl (lv_room (Nat.le_of_ble_eq_true rfl)) dX5_emptied_9 ⟨by rw [hR3]; omega, by rw [hR4]; omega⟩) ?_
      refine bb_eq (tgt := 25) hx hb dX5_emptied_12 (by decide) (fun hhc => ?_) (fun hhc => ?_)
      · cases hh : inL 0 9999 t with
        | none =>
          refine lv_iconst (v := (-1)) hx hb dX5_emptied_25 (by decide) ?_
          subst hQQ
          exact W.iret hx hb hr (fun t9 ht _ => ⟨⟨_, P, rfl, by rw [rowS_1 (row := false) hh]; exact ⟨rfl, hRl, hR0⟩, hpT ht hP⟩, hS.F ht⟩) hS.2.2 dX5_emptied_26
        | some h => exact absurd hhc (by rw [(inL_s (by decide) (by decide) hh).2.2.2]; decide)
      · cases hh : inL 0 9999 t with
        | none => exact absurd hhc (by rw [inL_n hh]; decide)
        | some h =>
          obtain ⟨hhl, hhn, hhe, -⟩ := inL_s (by decide) (by decide) hh
          subst hhe
          refine lv_iload_n hx hb dX5_emptied_15 rfl (lv_at hl 3 rfl) ?_
          refine lv_iconst (v := nI (0)) hx hb dX5_emptied_16 (by decide) ?_
          refine lv_ldc (v := 100000) hx hb hown (hts _ w_ct_X5_90) dX5_emptied_17 ?_
          refine tp_i (y := nI 100000) (by decide) ?_
          refine cR_i (W.runS (As := [.int (d), .int (nI (0)), .int (nI (100000))]) (rest := []) ⟨hx, hb, hml, hown, hts⟩ (m_isIn l g d (nI 0) (nI 100000)) (va_cwS 3 hts (gS w_ml_X5_79 w_sm_X5_isIn w_ini_X5 w_co_X5_isIn) rfl rfl rfl (by decide +kernel) (by rw [hR1, hR2]; exact ⟨Nat.le_of_ble_eq_true rfl, Nat.le_of_ble_eq_true rfl⟩)) (preS_rd va_P.nil hK) rfl rfl hl.1 rfl (lv_room (Nat.le_of_ble_eq_true rfl)) dX5_emptied_19 ⟨by rw [hR3]; omega, by rw [hR4]; omega⟩) ?_
          refine bb_ne (tgt := 27) hx hb dX5_emptied_22 (by decide) (fun hic => ?_) (fun hic => ?_)
          · cases hi : inL 0 100000 d with
            | none => exact absurd hic (by rw [inL_n hi]; decide)
            | some v =>
              obtain ⟨hil, hin, hie, -⟩ := inL_s (by decide) (by decide) hi
              subst hie
              refine lv_iconst (v := nI (0)) hx hb dX5_emptied_27 (by decide) ?_
              refine lv_istore (lv' := [(4, .int (nI (0))), (0, .ref (ma 0)), (1, .int (nI (j))), (2, .int (nI (h))), (3, .int (nI (v)))]) hx hb dX5_emptied_28 hl (by decide) rfl (fun ls hl => ?_)
              have loop : ∀ (k9 : Nat) (q : Nat) (ls : Array Slot), (q ≤ bN b - bR b) → (bN b - bR b < q + k9) → (∀ r, r < q → aEh P (8 * j + r) ≠ h) → lv_has ls 5 [(0, .ref (ma 0)), (1, .int (nI (j))), (2, .int (nI (h))), (3, .int (nI (v))), (4, .int (nI (q)))] → W p l e RR s m args below meth c s.heap [] 0 0 QQ (F0 m 30 ls []) := by
                intro k9
                induction k9 with
                | zero => intro q ls hq hk hf hl; exact absurd hk (by omega)
                | succ k9 ih =>
                  intro q ls hq hk hf hl
                  refine lv_iload hx hb dX5_emptied_30 (lv_at hl 4 rfl) ?_
                  refine lv_aload_n hx hb dX5_emptied_32 rfl (lv_at hl 0 rfl) ?_
                  refine va_get (D := g.1) (ci := 5) (v := .ref (ma 6)) (C := RX5) (T := TX5) (N := 23) hx hb hts hiX5 hown hK.1 hP 0 rfl rfl 6 (by decide) (hts _ w_fl_X5_25) (fun _ h9 => h9) rfl dX5_emptied_33 ?_
                  refine lv_iload_n hx hb dX5_emptied_36 rfl (lv_at hl 1 rfl) ?_
                  refine n_iald (k := j) (v := nI (bN b - bR b)) hx hb hK.1 hP 6 0 rfl rfl (by omega) (by decide) (by show nI (aEc P j) = _; rw [hCC]) dX5_emptied_37 ?_
                  refine bn_ge (tgt := 83) hx hb (by omega) (by omega) dX5_emptied_38 (by decide) (fun c5 => ?_) (fun c5 => ?_)
                  · have hqe : q = bN b - bR b := by omega
                    rw [hqe] at hf
                    refine lv_aload_n hx hb dX5_emptied_83 rfl (lv_at hl 0 rfl) ?_
                    refine va_get (D := g.1) (ci := 5) (v := .ref (ma 6)) (C := RX5) (T := TX5) (N := 23) hx hb hts hiX5 hown hK.1 hP 0 rfl rfl 6 (by decide) (hts _ w_fl_X5_25) (fun _ h9 => h9) rfl dX5_emptied_84 ?_
                    refine lv_iload_n hx hb dX5_emptied_87 rfl (lv_at hl 1 rfl) ?_
                    refine n_iald (k := j) (v := nI (bN b - bR b)) hx hb hK.1 hP 6 0 rfl rfl (by omega) (by decide) (by show nI (aEc P j) = _; rw [hCC]) dX5_emptied_88 ?_
                    refine lv_bipush (v := nI (8)) hx hb dX5_emptied_89 (by decide) ?_
                    refine bn_ne (tgt := 96) hx hb (by omega) (by omega) dX5_emptied_91 (by decide) (fun c6 => ?_) (fun c6 => ?_)
                    · refine lv_aload_n hx hb dX5_emptied_96 rfl (lv_at hl 0 rfl) ?_
                      refine va_get (D := g.1) (ci := 5) (v := .ref (ma 7)) (C := RX5) (T := TX5) (N := 23) hx hb hts hiX5 hown hK.1 hP 0 rfl rfl 7 (by decide) (hts _ w_fl_X5_28) (fun _ h9 => h9) rfl dX5_emptied_97 ?_
                      refine lv_bipush (v := nI (8)) hx hb dX5_emptied_100 (by decide) ?_
                      refine lv_iload_n hx hb dX5_emptied_102 rfl (lv_at hl 1 rfl) ?_
                      refine n_imul hx hb dX5_emptied_103 ?_
                      refine lv_aload_n hx hb dX5_emptied_104 rfl (lv_at hl 0 rfl) ?_
                      refine va_get (D := g.1) (ci := 5) (v := .ref (ma 6)) (C := RX5) (T := TX5) (N := 23) hx hb hts hiX5 hown hK.1 hP 0 rfl rfl 6 (by decide) (hts _ w_fl_X5_25) (fun _ h9 => h9) rfl dX5_emptied_105 ?_
                      refine lv_iload_n hx hb dX5_emptied_108 rfl (lv_at hl 1 rfl) ?_
                      refine n_iald (k := j) (v := nI (bN b - bR b)) hx hb hK.1 hP 6 0 rfl rfl (by omega) (by decide) (by show nI (aEc P j) = _; rw [hCC]) dX5_emptied_109 ?_
                      refine n_iadd hx hb dX5_emptied_110 ?_
                      refine lv_iload_n hx hb dX5_emptied_111 rfl (lv_at hl 2 rfl) ?_
                      refine n_iastE (enc := nI) (f := aEh P) (x := h) (k := 8 * j + (bN b - bR b)) hx hb hK.1 hP hD hS 7 0 rfl rfl (by omega) (by decide) dX5_emptied_112 (fun H locs hP hD hS => ?_)
                      have hP : va_P g.1 vwCl (wM g ma (uaEh P (va_up (aEh P) (8 * j + (bN b - bR b)) (h))) S) H := hP
                      have hD : va_D A (wM g ma (uaEh P (va_up (aEh P) (8 * j + (bN b - bR b)) (h))) S) := hD
                      obtain ⟨P1, hP1⟩ : ∃ Q9 : PT, Q9 = uaEh P (va_up (aEh P) (8 * j + (bN b - bR b)) (h)) := ⟨_, rfl⟩
                      rw [← hP1] at hP hD
                      have hCC : aEc P1 j = bN b - bR b := by rw [hP1]; exact hCC
                      refine lv_aload_n hx hb dX5_emptied_113 rfl (lv_at hl 0 rfl) ?_
                      refine va_get (D := g.1) (ci := 5) (v := .ref (ma 8)) (C := RX5) (T := TX5) (N := 23) hx hb hts hiX5 hown hK.1 hP 0 rfl rfl 8 (by decide) (hts _ w_fl_X5_31) (fun _ h9 => h9) rfl dX5_emptied_114 ?_
                      refine lv_bipush (v := nI (8)) hx hb dX5_emptied_117 (by decide) ?_
                      refine lv_iload_n hx hb dX5_emptied_119 rfl (lv_at hl 1 rfl) ?_
                      refine n_imul hx hb dX5_emptied_120 ?_
                      refine lv_aload_n hx hb dX5_emptied_121 rfl (lv_at hl 0 rfl) ?_
                      refine va_get (D := g.1) (ci := 5) (v := .ref (ma 6)) (C := RX5) (T := TX5) (N := 23) hx hb hts hiX5 hown hK.1 hP 0 rfl rfl 6 (by decide) (hts _ w_fl_X5_25) (fun _ h9 => h9) rfl dX5_emptied_122 ?_
                      refine lv_iload_n hx hb dX5_emptied_125 rfl (lv_at hl 1 rfl) ?_
                      refine n_iald (k := j) (v := nI (bN b - bR b)) hx hb hK.1 hP 6 0 rfl rfl (by omega) (by decide) (by show nI (aEc P1 j) = _; rw [hCC]) dX5_emptied_126 ?_
                      refine n_iadd hx hb dX5_emptied_127 ?_
                      refine lv_iload_n hx hb dX5_emptied_128 rfl (lv_at hl 3 rfl) ?_
                      refine n_iastE (enc := nI) (f := aKg P1) (x := v) (k := 8 * j + (bN b - bR b)) hx hb hK.1 hP hD hS 8 0 rfl rfl (by omega) (by decide) dX5_emptied_129 (fun H locs hP hD hS => ?_)
                      have hP : va_P g.1 vwCl (wM g ma (uaKg P1 (va_up (aKg P1) (8 * j + (bN b - bR b)) (v))) S) H := hP
                      have hD : va_D A (wM g ma (uaKg P1 (va_up (aKg P1) (8 * j + (bN b - bR b)) (v))) S) := hD
                      obtain ⟨P2, hP2⟩ : ∃ Q9 : PT, Q9 = uaKg P1 (va_up (aKg P1) (8 * j + (bN b - bR b)) (v)) := ⟨_, rfl⟩
                      rw [← hP2] at hP hD
                      have hCC : aEc P2 j = bN b - bR b := by rw [hP2]; exact hCC
                      refine lv_aload_n hx hb dX5_emptied_130 rfl (lv_at hl 0 rfl) ?_
                      refine va_get (D := g.1) (ci := 5) (v := .ref (ma 6)) (C := RX5) (T := TX5) (N := 23) hx hb hts hiX5 hown hK.1 hP 0 rfl rfl 6 (by decide) (hts _ w_fl_X5_25) (fun _ h9 => h9) rfl dX5_emptied_131 ?_
                      refine lv_iload_n hx hb dX5_emptied_134 rfl (lv_at hl 1 rfl) ?_
                      refine lv_dup2_11 hx hb dX5_emptied_135 rfl rfl ?_
                      refine n_iald (k := j) (v := nI (bN b - bR b)) hx hb hK.1 hP 6 0 rfl rfl (by omega) (by decide) (by show nI (aEc P2 j) = _; rw [hCC]) dX5_emptied_136 ?_
                      refine lv_iconst (v := nI (1)) hx hb dX5_emptied_137 (by decide) ?_
                      refine n_iadd hx hb dX5_emptied_138 ?_
                      refine n_iastE (enc := nI) (f := aEc P2) (x := bN b - bR b + 1) (k := j) hx hb hK.1 hP hD hS 6 0 rfl rfl (by omega) (by decide) dX5_emptied_139 (fun H locs hP hD hS => ?_)
                      have hP : va_P g.1 vwCl (wM g ma (uaEc P2 (va_up (aEc P2) (j) (bN b - bR b + 1))) S) H := hP
                      have hD : va_D A (wM g ma (uaEc P2 (va_up (aEc P2) (j) (bN b - bR b + 1))) S) := hD
                      obtain ⟨P3, hP3⟩ : ∃ Q9 : PT, Q9 = uaEc P2 (va_up (aEc P2) (j) (bN b - bR b + 1)) := ⟨_, rfl⟩
                      rw [← hP3] at hP hD
                      have hCC : aEc P3 j = bN b - bR b + 1 := by rw [hP3]; show va_up _ j _ j = _; rw [va_up_self]
                      have hPe : P3 = nwE P j (bN b - bR b) h v := by rw [hP3, nwE_eq hP1 hP2]; rfl
                      refine lv_aload_n hx hb dX5_emptied_140 rfl (lv_at hl 0 rfl) ?_
                      refine va_get (D := g.1) (ci := 5) (v := .ref (ma 6)) (C := RX5) (T := TX5) (N := 23) hx hb hts hiX5 hown hK.1 hP 0 rfl rfl 6 (by decide) (hts _ w_fl_X5_25) (fun _ h9 => h9) rfl dX5_emptied_141 ?_
                      refine lv_iload_n hx hb dX5_emptied_144 rfl (lv_at hl 1 rfl) ?_
                      refine n_iald (k := j) (v := nI (bN b - bR b + 1)) hx hb hK.1 hP 6 0 rfl rfl (by omega) (by decide) (by show nI (aEc P3 j) = _; rw [hCC]) dX5_emptied_145 ?_
                      subst hQQ
                      exact W.iret hx hb hr (fun t9 ht _ => ⟨⟨_, P3, rfl, by rw [rowS_3 (row := false) (by omega) hbk hh hi]; obtain ⟨p1, p2, p3⟩ := ptE_n (v := v) hx9 hRl hR0 hbj hf c6; rw [← hPe] at p2 p3; exact ⟨p1.symm, p2, p3⟩, hpT ht hP⟩, hS.F ht⟩) hS.2.2 dX5_emptied_146
                    · refine lv_iconst (v := (-1)) hx hb dX5_emptied_94 (by decide) ?_
                      subst hQQ
                      exact W.iret hx hb hr (fun t9 ht _ => ⟨⟨_, P, rfl, by rw [rowS_3 (row := false) (by omega) hbk hh hi]; obtain ⟨p1, p2⟩ := ptE_f (v := v) hRl hbj hf c6; exact ⟨p1.symm, p2, hR0⟩, hpT ht hP⟩, hS.F ht⟩) hS.2.2 dX5_emptied_95
                  · have hb1 := (hbd q c5).1
                    refine lv_aload_n hx hb dX5_emptied_41 rfl (lv_at hl 0 rfl) ?_
                    refine va_get (D := g.1) (ci := 5) (v := .ref (ma 7)) (C := RX5) (T := TX5) (N := 23) hx hb hts hiX5 hown hK.1 hP 0 rfl rfl 7 (by decide) (hts _ w_fl_X5_28) (fun _ h9 => h9) rfl dX5_emptied_42 ?_
                    refine lv_bipush (v := nI (8)) hx hb dX5_emptied_45 (by decide) ?_
                    refine lv_iload_n hx hb dX5_emptied_47 rfl (lv_at hl 1 rfl) ?_
                    refine n_imul hx hb dX5_emptied_48 ?_
                    refine lv_iload hx hb dX5_emptied_49 (lv_at hl 4 rfl) ?_
                    refine n_iadd hx hb dX5_emptied_51 ?_
                    refine n_iald (k := (8 * j) + q) (v := nI (aEh P ((8 * j) + q))) hx hb hK.1 hP 7 0 rfl rfl (by omega) (by decide) (rfl) dX5_emptied_52 ?_
                    refine lv_iload_n hx hb dX5_emptied_53 rfl (lv_at hl 2 rfl) ?_
                    refine bn_ne (tgt := 77) hx hb (by omega) (by omega) dX5_emptied_54 (by decide) (fun c6 => ?_) (fun c6 => ?_)
                    · refine lv_iinc (v := nI (q + 1)) (lv' := [(4, .int (nI (q + 1))), (0, .ref (ma 0)), (1, .int (nI (j))), (2, .int (nI (h))), (3, .int (nI (v)))]) hx hb dX5_emptied_77 hl (k := 4) rfl (nI_1 _) (by decide) rfl (fun ls hl => ?_)
                      refine lv_goto (tgt := 30) hx hb dX5_emptied_80 (by decide) ?_
                      exact ih (q + 1) ls (by omega) (by omega) (fun r hr9 => (Nat.lt_or_ge r q).elim (hf r) (fun z9 => by rw [show r = q by omega]; exact c6)) (lv_sub hl [1, 2, 3, 4, 0] rfl)
                    · refine lv_aload_n hx hb dX5_emptied_57 rfl (lv_at hl 0 rfl) ?_
                      refine va_get (D := g.1) (ci := 5) (v := .ref (ma 8)) (C := RX5) (T := TX5) (N := 23) hx hb hts hiX5 hown hK.1 hP 0 rfl rfl 8 (by decide) (hts _ w_fl_X5_31) (fun _ h9 => h9) rfl dX5_emptied_58 ?_
                      refine lv_bipush (v := nI (8)) hx hb dX5_emptied_61 (by decide) ?_
                      refine lv_iload_n hx hb dX5_emptied_63 rfl (lv_at hl 1 rfl) ?_
                      refine n_imul hx hb dX5_emptied_64 ?_
                      refine lv_iload hx hb dX5_emptied_65 (lv_at hl 4 rfl) ?_
                      refine n_iadd hx hb dX5_emptied_67 ?_
                      refine lv_iload_n hx hb dX5_emptied_68 rfl (lv_at hl 3 rfl) ?_
                      refine n_iastE (enc := nI) (f := aKg P) (x := v) (k := 8 * j + q) hx hb hK.1 hP hD hS 8 0 rfl rfl (by omega) (by decide) dX5_emptied_69 (fun H locs hP hD hS => ?_)
                      have hP : va_P g.1 vwCl (wM g ma (uaKg P (va_up (aKg P) (8 * j + q) v)) S) H := hP
                      have hD : va_D A (wM g ma (uaKg P (va_up (aKg P) (8 * j + q) v)) S) := hD
                      refine lv_aload_n hx hb dX5_emptied_70 rfl (lv_at hl 0 rfl) ?_
                      refine va_get (D := g.1) (ci := 5) (v := .ref (ma 6)) (C := RX5) (T := TX5) (N := 23) hx hb hts hiX5 hown hK.1 hP 0 rfl rfl 6 (by decide) (hts _ w_fl_X5_25) (fun _ h9 => h9) rfl dX5_emptied_71 ?_
                      refine lv_iload_n hx hb dX5_emptied_74 rfl (lv_at hl 1 rfl) ?_
                      refine n_iald (k := j) (v := nI (bN b - bR b)) hx hb hK.1 hP 6 0 rfl rfl (by omega) (by decide) (by show nI (aEc P j) = _; rw [hCC]) dX5_emptied_75 ?_
                      subst hQQ
                      exact W.iret hx hb hr (fun t9 ht _ => ⟨⟨_, uaKg P (va_up (aKg P) (8 * j + q) v), rfl, by rw [rowS_3 (row := false) (by omega) hbk hh hi]; obtain ⟨p1, p2, p3⟩ := ptE_t (v := v) hx9 hRl hR0 hbj c5 c6; exact ⟨p1.symm, p2, p3⟩, hpT ht hP⟩, hS.F ht⟩) hS.2.2 dX5_emptied_76
              exact loop (bN b - bR b + 1) 0 ls (Nat.zero_le _) (by omega) (fun r hr9 => absurd hr9 (Nat.not_lt_zero _)) (lv_sub hl [1, 2, 3, 4, 0] rfl)
          · cases hi : inL 0 100000 d with
            | none =>
              refine lv_iconst (v := (-1)) hx hb dX5_emptied_25 (by decide) ?_
              subst hQQ
              exact W.iret hx hb hr (fun t9 ht _ => ⟨⟨_, P, rfl, by rw [rowS_2 (row := false) hi]; exact ⟨rfl, hRl, hR0⟩, hpT ht hP⟩, hS.F ht⟩) hS.2.2 dX5_emptied_26
            | some v => exact absurd hic (by rw [(inL_s (by decide) (by decide) hi).2.2.2]; decide)
