set_option maxHeartbeats 4000000 in
set_option maxRecDepth 100000 in
theorem k_binOf_n (l : Launch) (g : GG) (x : FT) (k : Int32) (h8 : (xB x).length ≤ 8) (hk : binAt (xB x) k = none) : Rq l yX4_binOf wsX4_binOf 1 22 [.ref (xA x 0), .int (k)] g (wX g x) (none) := by
  refine Met.ofW (cc := cX4_binOf) (maxL := 2) (ret := (some (.object "FillForecast$Bin"))) (by decide) rfl ?_
  intro p e s m args below meth c s₁ BB hml hv
  obtain ⟨hargs, hP, hK⟩ := hv
  have hx := BB.exec
  have hb := BB.bytes
  have hr := BB.returns
  have hts : ∀ w ∈ BIG, w.before args s = true := fun w h => atoms_spec (ws := wsX4_binOf) BB.pre w (List.mem_cons_of_mem _ h)
  have hown : s.vm.findClass RX4 = some m.cls := findClass_of_methodNamed BB.named
  have hlocks := BB.notSynchronized
  obtain ⟨RR, hRR⟩ : ∃ RR, RR = (headSpec wsX4_binOf ⟨1, 0, 0, 22⟩).room := ⟨_, rfl⟩
  have hR1 : RR.frames = 1 := by rw [hRR]; rfl
  have hR2 : RR.locals = 22 := by rw [hRR]; rfl
  have hR3 : RR.cells = 0 := by rw [hRR]; rfl
  have hR4 : RR.slots = 0 := by rw [hRR]; rfl
  have hl := lv_entry ([.ref (xA x 0), .int (k)]) (n := 2) (Nat.le_of_ble_eq_true rfl)
  have hent : entryFrame m args 2 = F0 m 0 ((lg_sl ([.ref (xA x 0), .int (k)]) ++ List.replicate (2 - (lg_sl ([.ref (xA x 0), .int (k)])).length) Slot.unset).toArray) [] := by rw [hargs, lg_entry_eq]
  rw [hent]
  generalize (lg_sl ([.ref (xA x 0), .int (k)]) ++ List.replicate (2 - (lg_sl ([.ref (xA x 0), .int (k)])).length) Slot.unset).toArray = ls at hl ⊢
  have hl : lv_has ls 2 [(0, .ref (xA x 0)), (1, .int (k))] := hl
  refine q_ab (R := RR) hRR ?_
  generalize hQQ : MQ below _ args s _ _ _ = QQ
  refine lv_iload_n hx hb dX4_binOf_0 rfl (lv_at hl 1 rfl) ?_
  refine lv_iconst (v := nI (0)) hx hb dX4_binOf_1 (by decide) ?_
  refine lv_aload_n hx hb dX4_binOf_2 rfl (lv_at hl 0 rfl) ?_
  refine va_get (D := g.1) (ci := 4) (v := .int (nI ((xB x).length))) (C := RX4) (T := TX4) (N := 8) hx hb hts hiX4 hown hK.1 hP 0 rfl rfl 4 (by decide) (hts _ w_fl_X4_36) (fun _ h9 => h9) rfl dX4_binOf_3 ?_
  refine lv_iconst (v := nI (1)) hx hb dX4_binOf_6 (by decide) ?_
  refine lv_isub hx hb dX4_binOf_7 ?_
  refine cR_i (W.runS (As := [.int (k), .int (nI (0)), .int (nI ((xB x).length) - nI (1))]) (rest := []) ⟨hx, hb, hml, hown, hts⟩ (k_isWithin l g k (nI 0) (nI (xB x).length - nI 1)) (va_cwS 3 hts (gS w_ml_X4_49 w_sm_X4_isWithin w_ini_X4 w_co_X4_isWithin) rfl rfl rfl (by decide +kernel) (by rw [hR1, hR2]; exact ⟨Nat.le_of_ble_eq_true rfl, Nat.le_of_ble_eq_true rfl⟩)) (preS_rd va_P.nil hK) rfl rfl hl.1 rfl (lv_room (Nat.le_of_ble_eq_true rfl)) dX4_binOf_8 ⟨by rw [hR3]; omega, by rw [hR4]; omega⟩) ?_
  refine bb_eq (tgt := 23) hx hb dX4_binOf_11 (by decide) (fun c1 => ?_) (fun c1 => ?_)
  · refine lv_null hx hb dX4_binOf_23 ?_
    subst hQQ
    exact W.aret hx hb hr (Or.inl ⟨_, rfl⟩) (Or.inl rfl) (fun t9 ht _ => ⟨rfl, ht⟩) (fun q h => absurd h List.not_mem_nil) dX4_binOf_24
  · exact absurd c1 (by rw [binAt_n h8 hk]; decide)

set_option maxHeartbeats 4000000 in
set_option maxRecDepth 100000 in
theorem k_binOf_s (l : Launch) (g : GG) (x : FT) (k : Int32) (b : BinT) (h8 : (xB x).length ≤ 8) (hk : binAt (xB x) k = some b) : Rq l yX4_binOf wsX4_binOf 1 22 [.ref (xA x 0), .int (k)] g (wX g x) (some (bA b 0)) := by
  refine Met.ofW (cc := cX4_binOf) (maxL := 2) (ret := (some (.object "FillForecast$Bin"))) (by decide) rfl ?_
  intro p e s m args below meth c s₁ BB hml hv
  obtain ⟨hargs, hP, hK⟩ := hv
  have hx := BB.exec
  have hb := BB.bytes
  have hr := BB.returns
  have hts : ∀ w ∈ BIG, w.before args s = true := fun w h => atoms_spec (ws := wsX4_binOf) BB.pre w (List.mem_cons_of_mem _ h)
  have hown : s.vm.findClass RX4 = some m.cls := findClass_of_methodNamed BB.named
  have hlocks := BB.notSynchronized
  obtain ⟨RR, hRR⟩ : ∃ RR, RR = (headSpec wsX4_binOf ⟨1, 0, 0, 22⟩).room := ⟨_, rfl⟩
  have hR1 : RR.frames = 1 := by rw [hRR]; rfl
  have hR2 : RR.locals = 22 := by rw [hRR]; rfl
  have hR3 : RR.cells = 0 := by rw [hRR]; rfl
  have hR4 : RR.slots = 0 := by rw [hRR]; rfl
  have hl := lv_entry ([.ref (xA x 0), .int (k)]) (n := 2) (Nat.le_of_ble_eq_true rfl)
  have hent : entryFrame m args 2 = F0 m 0 ((lg_sl ([.ref (xA x 0), .int (k)]) ++ List.replicate (2 - (lg_sl ([.ref (xA x 0), .int (k)])).length) Slot.unset).toArray) [] := by rw [hargs, lg_entry_eq]
  rw [hent]
  generalize (lg_sl ([.ref (xA x 0), .int (k)]) ++ List.replicate (2 - (lg_sl ([.ref (xA x 0), .int (k)])).length) Slot.unset).toArray = ls at hl ⊢
  have hl : lv_has ls 2 [(0, .ref (xA x 0)), (1, .int (k))] := hl
  refine q_ab (R := RR) hRR ?_
  generalize hQQ : MQ below _ args s _ _ _ = QQ
  obtain ⟨j, hj, ek, hj2, hd⟩ := binAt_s h8 hk
  refine lv_iload_n hx hb dX4_binOf_0 rfl (lv_at hl 1 rfl) ?_
  refine lv_iconst (v := nI (0)) hx hb dX4_binOf_1 (by decide) ?_
  refine lv_aload_n hx hb dX4_binOf_2 rfl (lv_at hl 0 rfl) ?_
  refine va_get (D := g.1) (ci := 4) (v := .int (nI ((xB x).length))) (C := RX4) (T := TX4) (N := 8) hx hb hts hiX4 hown hK.1 hP 0 rfl rfl 4 (by decide) (hts _ w_fl_X4_36) (fun _ h9 => h9) rfl dX4_binOf_3 ?_
  refine lv_iconst (v := nI (1)) hx hb dX4_binOf_6 (by decide) ?_
  refine lv_isub hx hb dX4_binOf_7 ?_
  refine cR_i (W.runS (As := [.int (k), .int (nI (0)), .int (nI ((xB x).length) - nI (1))]) (rest := []) ⟨hx, hb, hml, hown, hts⟩ (k_isWithin l g k (nI 0) (nI (xB x).length - nI 1)) (va_cwS 3 hts (gS w_ml_X4_49 w_sm_X4_isWithin w_ini_X4 w_co_X4_isWithin) rfl rfl rfl (by decide +kernel) (by rw [hR1, hR2]; exact ⟨Nat.le_of_ble_eq_true rfl, Nat.le_of_ble_eq_true rfl⟩)) (preS_rd va_P.nil hK) rfl rfl hl.1 rfl (lv_room (Nat.le_of_ble_eq_true rfl)) dX4_binOf_8 ⟨by rw [hR3]; omega, by rw [hR4]; omega⟩) ?_
  refine bb_eq (tgt := 23) hx hb dX4_binOf_11 (by decide) (fun c1 => ?_) (fun c1 => ?_)
  · exact absurd c1 (by rw [hd]; decide)
  · refine lv_aload_n hx hb dX4_binOf_14 rfl (lv_at hl 0 rfl) ?_
    refine va_get (D := g.1) (ci := 4) (v := .ref (xA x 1)) (C := RX4) (T := TX4) (N := 8) hx hb hts hiX4 hown hK.1 hP 0 rfl rfl 3 (by decide) (hts _ w_fl_X4_32) (fun _ h9 => h9) rfl dX4_binOf_15 ?_
    refine lv_iload_n hx hb dX4_binOf_18 rfl (lv_at hl 1 rfl) ?_
    refine tp_i ek ?_
    refine n_aldr (k := j) (r := bA b 0) hx hb hK.1 hP 1 2 rfl rfl (by omega) (by decide) (by unfold bRef; rw [hj2]; rfl) dX4_binOf_19 ?_
    refine lv_goto (tgt := 24) hx hb dX4_binOf_20 (by decide) ?_
    subst hQQ
    exact W.aret hx hb hr (Or.inl ⟨_, rfl⟩) (Or.inr ⟨_, rfl⟩) (fun t9 ht _ => ⟨rfl, ht⟩) (fun q h => absurd h List.not_mem_nil) dX4_binOf_24

set_option maxHeartbeats 4000000 in
set_option maxRecDepth 100000 in
theorem k_streetRateOn (l : Launch) (g : GG) (x : FT) (st wd : Nat) (hx9 : Xok x) (hst : st < 4) (hwd : wd < 7) : Rd l yX4_streetRateOn wsX4_streetRateOn 2 52 [.ref (xA x 0), .int (nI (st)), .int (nI (wd))] g (wX g x) (nI (stV x st wd)) := by
  refine Met.ofW (cc := cX4_streetRateOn) (maxL := 8) (ret := (some .int)) (by decide) rfl ?_
  intro p e s m args below meth c s₁ BB hml hv
  obtain ⟨hargs, hP, hK⟩ := hv
  have hx := BB.exec
  have hb := BB.bytes
  have hr := BB.returns
  have hts : ∀ w ∈ BIG, w.before args s = true := fun w h => atoms_spec (ws := wsX4_streetRateOn) BB.pre w (List.mem_cons_of_mem _ h)
  have hown : s.vm.findClass RX4 = some m.cls := findClass_of_methodNamed BB.named
  have hlocks := BB.notSynchronized
  obtain ⟨RR, hRR⟩ : ∃ RR, RR = (headSpec wsX4_streetRateOn ⟨2, 0, 0, 52⟩).room := ⟨_, rfl⟩
  have hR1 : RR.frames = 2 := by rw [hRR]; rfl
  have hR2 : RR.locals = 52 := by rw [hRR]; rfl
  have hR3 : RR.cells = 0 := by rw [hRR]; rfl
  have hR4 : RR.slots = 0 := by rw [hRR]; rfl
  have hl := lv_entry ([.ref (xA x 0), .int (nI (st)), .int (nI (wd))]) (n := 8) (Nat.le_of_ble_eq_true rfl)
  have hent : entryFrame m args 8 = F0 m 0 ((lg_sl ([.ref (xA x 0), .int (nI (st)), .int (nI (wd))]) ++ List.replicate (8 - (lg_sl ([.ref (xA x 0), .int (nI (st)), .int (nI (wd))])).length) Slot.unset).toArray) [] := by rw [hargs, lg_entry_eq]
  rw [hent]
  generalize (lg_sl ([.ref (xA x 0), .int (nI (st)), .int (nI (wd))]) ++ List.replicate (8 - (lg_sl ([.ref (xA x 0), .int (nI (st)), .int (nI (wd))])).length) Slot.unset).toArray = ls at hl ⊢
  have hl : lv_has ls 8 [(0, .ref (xA x 0)), (1, .int (nI (st))), (2, .int (nI (wd)))] := hl
  refine q_ab (R := RR) hRR ?_
  generalize hQQ : MQ below _ args s _ _ _ = QQ
  obtain ⟨h8, hB, hW, -⟩ := id hx9
  refine lv_lconst (v := lN 0) hx hb dX4_streetRateOn_0 (by decide) ?_
  refine lv_lstore_n (lv' := [(3, .long (lN (0))), (0, .ref (xA x 0)), (1, .int (nI (st))), (2, .int (nI (wd)))]) hx hb dX4_streetRateOn_1 rfl hl (by decide) rfl (fun ls hl => ?_)
  refine lv_iconst (v := nI (0)) hx hb dX4_streetRateOn_2 (by decide) ?_
  refine lv_istore (lv' := [(5, .int (nI (0))), (3, .long (lN (0))), (0, .ref (xA x 0)), (1, .int (nI (st))), (2, .int (nI (wd)))]) hx hb dX4_streetRateOn_3 hl (by decide) rfl (fun ls hl => ?_)
  refine lv_iconst (v := nI (0)) hx hb dX4_streetRateOn_5 (by decide) ?_
  refine lv_istore (lv' := [(6, .int (nI (0))), (5, .int (nI (0))), (3, .long (lN (0))), (0, .ref (xA x 0)), (1, .int (nI (st))), (2, .int (nI (wd)))]) hx hb dX4_streetRateOn_6 hl (by decide) rfl (fun ls hl => ?_)
  have loop : ∀ (k : Nat) (j : Nat) (S : Nat) (T : Nat) (ls : Array Slot), (j ≤ (xB x).length) → ((xB x).length < j + k) → (S ≤ j * 36000) → (T ≤ j) → ((S + (stH (xH x) (xW x) st wd ((xB x).drop j)).1, T + (stH (xH x) (xW x) st wd ((xB x).drop j)).2) = stH (xH x) (xW x) st wd (xB x)) → lv_has ls 8 [(0, .ref (xA x 0)), (1, .int (nI (st))), (2, .int (nI (wd))), (3, .long (lN (S))), (5, .int (nI (T))), (6, .int (nI (j)))] → W p l e RR s m args below meth c s.heap [] 0 0 QQ (F0 m 8 ls []) := by
    intro k
    induction k with
    | zero => intro j S T ls hj hk hS1 hT1 he hl; exact absurd hk (by omega)
    | succ k ih =>
      intro j S T ls hj hk hS1 hT1 he hl
      refine lv_iload hx hb dX4_streetRateOn_8 (lv_at hl 5 rfl) ?_
      refine lv_aload_n hx hb dX4_streetRateOn_10 rfl (lv_at hl 0 rfl) ?_
      refine va_get (D := g.1) (ci := 4) (v := .int (nI ((xB x).length))) (C := RX4) (T := TX4) (N := 8) hx hb hts hiX4 hown hK.1 hP 0 rfl rfl 4 (by decide) (hts _ w_fl_X4_36) (fun _ h9 => h9) rfl dX4_streetRateOn_11 ?_
      refine bn_ge (tgt := 77) hx hb (by omega) (by omega) dX4_streetRateOn_14 (by decide) (fun c1 => ?_) (fun c1 => ?_)
      · rw [List.drop_eq_nil_of_le c1] at he
        have he : (S, T) = stH (xH x) (xW x) st wd (xB x) := he
        refine lv_iload hx hb dX4_streetRateOn_77 (lv_at hl 4 rfl) ?_
        refine bz_le (tgt := 91) hx hb (by omega) dX4_streetRateOn_79 (by decide) (fun c2 => ?_) (fun c2 => ?_)
        · refine lv_bipush (v := nI (100)) hx hb dX4_streetRateOn_91 (by decide) ?_
          subst hQQ
          exact W.iret hx hb hr (fun t9 ht _ => rdI (by unfold stV stQ; rw [← he, if_pos c2]) ht) (fun q h => absurd h List.not_mem_nil) dX4_streetRateOn_93
        · refine lv_lload_n hx hb dX4_streetRateOn_82 rfl (lv_at hl 3 rfl) ?_
          refine lv_iload hx hb dX4_streetRateOn_83 (lv_at hl 4 rfl) ?_
          refine n_i2l hx hb (by omega) dX4_streetRateOn_85 ?_
          refine n_ldiv hx hb (by omega) (by omega) (by omega) dX4_streetRateOn_86 ?_
          refine n_l2i hx hb dX4_streetRateOn_87 ?_
          refine lv_goto (tgt := 93) hx hb dX4_streetRateOn_88 (by decide) ?_
          subst hQQ
          exact W.iret hx hb hr (fun t9 ht _ => rdI (by unfold stV stQ; rw [← he, if_neg (by omega)]) ht) (fun q h => absurd h List.not_mem_nil) dX4_streetRateOn_93
      · obtain ⟨b, hb2⟩ : ∃ b, (xB x)[j]? = some b := ⟨_, List.getElem?_eq_getElem c1⟩
        have hbm := List.mem_of_getElem? hb2
        have hBk := hB b hbm
        obtain ⟨⟨hbn, hbp, -, -⟩, -, -, hbs, -⟩ := id hBk
        have hdr : (xB x).drop j = b :: (xB x).drop (j + 1) := by rw [List.drop_eq_getElem_cons c1, (List.getElem?_eq_some_iff.mp hb2).2]
        rw [hdr, stH] at he
        have hrf : bRef (xB x) j = some (bA b 0) := by unfold bRef; rw [hb2]; rfl
        have hPb := wX_B hP hbm
        have hPm := va_P.app hPb (va_P.app (wX_C hP) (wX_F hP))
        refine lv_aload_n hx hb dX4_streetRateOn_17 rfl (lv_at hl 0 rfl) ?_
        refine va_get (D := g.1) (ci := 4) (v := .ref (xA x 1)) (C := RX4) (T := TX4) (N := 8) hx hb hts hiX4 hown hK.1 hP 0 rfl rfl 3 (by decide) (hts _ w_fl_X4_32) (fun _ h9 => h9) rfl dX4_streetRateOn_18 ?_
        refine lv_iload hx hb dX4_streetRateOn_21 (lv_at hl 5 rfl) ?_
        refine n_aldr (k := j) (r := bA b 0) hx hb hK.1 hP 1 2 rfl rfl (by omega) (by decide) (hrf) dX4_streetRateOn_23 ?_
        refine cR_i (W.runV (As := []) (rest := []) ⟨hx, hb, hml, hown, hts⟩ (k_streetNumber l g b) (cwV 0 hts (gV w_ml_X4_136 w_im_X0_streetNumber w_sel_X0_streetNumber w_ini_X0 w_co_X0_streetNumber) rfl rfl rfl (by decide +kernel) (by rw [hR1, hR2]; exact ⟨Nat.le_of_ble_eq_true rfl, Nat.le_of_ble_eq_true rfl⟩)) (preV_rd hPb hK (va_recv hK.1 hPb (ci := 0) (q0 := 0) rfl rfl)) rfl rfl hl.1 rfl (lv_room (Nat.le_of_ble_eq_true rfl)) dX4_streetRateOn_24 ⟨by rw [hR3]; omega, by rw [hR4]; omega⟩) ?_
        refine lv_iload_n hx hb dX4_streetRateOn_27 rfl (lv_at hl 1 rfl) ?_
        refine bn_ne (tgt := 53) hx hb (by omega) (by omega) dX4_streetRateOn_28 (by decide) (fun c2 => ?_) (fun c2 => ?_)
        · rw [if_neg c2] at he
          refine lv_iconst (v := (-1)) hx hb dX4_streetRateOn_53 (by decide) ?_
          refine lv_istore (lv' := [(7, .int (-1)), (0, .ref (xA x 0)), (1, .int (nI (st))), (2, .int (nI (wd))), (3, .long (lN (S))), (5, .int (nI (T))), (6, .int (nI (j)))]) hx hb dX4_streetRateOn_54 hl (by decide) rfl (fun ls hl => ?_)
          refine lv_iload hx hb dX4_streetRateOn_56 (lv_at hl 0 rfl) ?_
          refine lv_iconst (v := (-1)) hx hb dX4_streetRateOn_58 (by decide) ?_
          refine lv_icmp_eq (tgt := 71) hx hb dX4_streetRateOn_59 (by decide) (fun c3 => ?_) (fun c3 => ?_)
          · refine lv_iinc (v := nI (j + 1)) (lv' := [(6, .int (nI (j + 1))), (7, .int (-1)), (0, .ref (xA x 0)), (1, .int (nI (st))), (2, .int (nI (wd))), (3, .long (lN (S))), (5, .int (nI (T)))]) hx hb dX4_streetRateOn_71 hl (k := 6) rfl (nI_1 _) (by decide) rfl (fun ls hl => ?_)
            refine lv_goto (tgt := 8) hx hb dX4_streetRateOn_74 (by decide) ?_
            exact ih (j + 1) (S) (T) ls (by omega) (by omega) (by omega) (by omega) he (lv_sub hl [2, 3, 4, 5, 6, 0] rfl)
          · exact absurd rfl c3
        · rw [if_pos c2] at he
          refine lv_aload_n hx hb dX4_streetRateOn_31 rfl (lv_at hl 0 rfl) ?_
          refine va_get (D := g.1) (ci := 4) (v := .ref (xA x 1)) (C := RX4) (T := TX4) (N := 8) hx hb hts hiX4 hown hK.1 hP 0 rfl rfl 3 (by decide) (hts _ w_fl_X4_32) (fun _ h9 => h9) rfl dX4_streetRateOn_32 ?_
          refine lv_iload hx hb dX4_streetRateOn_35 (lv_at hl 5 rfl) ?_
          refine n_aldr (k := j) (r := bA b 0) hx hb hK.1 hP 1 2 rfl rfl (by omega) (by decide) (hrf) dX4_streetRateOn_37 ?_
          refine lv_iload_n hx hb dX4_streetRateOn_38 rfl (lv_at hl 2 rfl) ?_
          refine lv_aload_n hx hb dX4_streetRateOn_39 rfl (lv_at hl 0 rfl) ?_
          refine va_get (D := g.1) (ci := 4) (v := .ref (xC x 0)) (C := RX4) (T := TX4) (N := 8) hx hb hts hiX4 hown hK.1 hP 0 rfl rfl 0 (by decide) (hts _ w_fl_X4_10) (fun _ h9 => h9) rfl dX4_streetRateOn_40 ?_
          refine lv_aload_n hx hb dX4_streetRateOn_43 rfl (lv_at hl 0 rfl) ?_
          refine va_get (D := g.1) (ci := 4) (v := .ref (xF x 0)) (C := RX4) (T := TX4) (N := 8) hx hb hts hiX4 hown hK.1 hP 0 rfl rfl 1 (by decide) (hts _ w_fl_X4_19) (fun _ h9 => h9) rfl dX4_streetRateOn_44 ?_
          refine cR_i (W.runV (As := [.int (nI (wd)), .ref (xC x 0), .ref (xF x 0)]) (rest := []) ⟨hx, hb, hml, hown, hts⟩ (k_meanOn l g b (xC x) (xF x) (xH x) (xW x) wd hwd hbn hbp hBk.gain hW) (cwV 3 hts (gV w_ml_X4_82 w_im_X0_meanOn w_sel_X0_meanOn w_ini_X0 w_co_X0_meanOn) rfl rfl rfl (by decide +kernel) (by rw [hR1, hR2]; exact ⟨Nat.le_of_ble_eq_true rfl, Nat.le_of_ble_eq_true rfl⟩)) (preV_rd hPm hK (va_recv hK.1 hPm (ci := 0) (q0 := 0) rfl rfl)) rfl rfl hl.1 rfl (lv_room (Nat.le_of_ble_eq_true rfl)) dX4_streetRateOn_47 ⟨by rw [hR3]; omega, by rw [hR4]; omega⟩) ?_
          refine W.eq (g2 := F0 m 50 ls [.int (gI (meanH (xH x) (xW x) b wd))]) rfl ?_
          refine lv_goto (tgt := 54) hx hb dX4_streetRateOn_50 (by decide) ?_
          refine lv_istore (lv' := [(7, .int (gI (meanH (xH x) (xW x) b wd))), (0, .ref (xA x 0)), (1, .int (nI (st))), (2, .int (nI (wd))), (3, .long (lN (S))), (5, .int (nI (T))), (6, .int (nI (j)))]) hx hb dX4_streetRateOn_54 hl (by decide) rfl (fun ls hl => ?_)
          refine lv_iload hx hb dX4_streetRateOn_56 (lv_at hl 0 rfl) ?_
          refine lv_iconst (v := (-1)) hx hb dX4_streetRateOn_58 (by decide) ?_
          refine lv_icmp_eq (tgt := 71) hx hb dX4_streetRateOn_59 (by decide) (fun c3 => ?_) (fun c3 => ?_)
          · have hm : meanH (xH x) (xW x) b wd = none := (gI_m1 (fun v hv => by have := meanX_le hBk hv; omega)).mp c3
            rw [hm] at he
            refine lv_iinc (v := nI (j + 1)) (lv' := [(6, .int (nI (j + 1))), (7, .int (gI (meanH (xH x) (xW x) b wd))), (0, .ref (xA x 0)), (1, .int (nI (st))), (2, .int (nI (wd))), (3, .long (lN (S))), (5, .int (nI (T)))]) hx hb dX4_streetRateOn_71 hl (k := 6) rfl (nI_1 _) (by decide) rfl (fun ls hl => ?_)
            refine lv_goto (tgt := 8) hx hb dX4_streetRateOn_74 (by decide) ?_
            exact ih (j + 1) (S) (T) ls (by omega) (by omega) (by omega) (by omega) he (lv_sub hl [2, 3, 4, 5, 6, 0] rfl)
          · obtain ⟨v, hv⟩ : ∃ v, meanH (xH x) (xW x) b wd = some v := by
              cases hv : meanH (xH x) (xW x) b wd with
              | none => exact absurd (by rw [hv]; rfl) c3
              | some v => exact ⟨v, rfl⟩
            have hv2 := meanX_le hBk hv
            rw [hv] at he
            refine lv_lload_n hx hb dX4_streetRateOn_62 rfl (lv_at hl 4 rfl) ?_
            refine lv_iload hx hb dX4_streetRateOn_63 (lv_at hl 0 rfl) ?_
            refine tp_i (y := nI v) (by rw [hv]; rfl) ?_
            refine n_i2l hx hb (by omega) dX4_streetRateOn_65 ?_
            refine n_ladd hx hb dX4_streetRateOn_66 ?_
            refine lv_lstore_n (lv' := [(3, .long (lN (S + v))), (7, .int (gI (meanH (xH x) (xW x) b wd))), (0, .ref (xA x 0)), (1, .int (nI (st))), (2, .int (nI (wd))), (5, .int (nI (T))), (6, .int (nI (j)))]) hx hb dX4_streetRateOn_67 rfl hl (by decide) rfl (fun ls hl => ?_)
            refine lv_iinc (v := nI (T + 1)) (lv' := [(5, .int (nI (T + 1))), (3, .long (lN (S + v))), (7, .int (gI (meanH (xH x) (xW x) b wd))), (0, .ref (xA x 0)), (1, .int (nI (st))), (2, .int (nI (wd))), (6, .int (nI (j)))]) hx hb dX4_streetRateOn_68 hl (k := 5) rfl (nI_1 _) (by decide) rfl (fun ls hl => ?_)
            refine lv_iinc (v := nI (j + 1)) (lv' := [(6, .int (nI (j + 1))), (5, .int (nI (T + 1))), (3, .long (lN (S + v))), (7, .int (gI (meanH (xH x) (xW x) b wd))), (0, .ref (xA x 0)), (1, .int (nI (st))), (2, .int (nI (wd)))]) hx hb dX4_streetRateOn_71 hl (k := 6) rfl (nI_1 _) (by decide) rfl (fun ls hl => ?_)
            refine lv_goto (tgt := 8) hx hb dX4_streetRateOn_74 (by decide) ?_
            exact ih (j + 1) (S + v) (T + 1) ls (by omega) (by omega) (by omega) (by omega) (by rw [← he]; exact Prod.ext (by show _ + _ = _ + (_ + _); omega) (by show _ + _ = _ + (_ + _); omega)) (lv_sub hl [4, 5, 6, 2, 1, 0] rfl)
  exact loop ((xB x).length + 1) 0 0 0 ls (Nat.zero_le _) (by omega) (by omega) (by omega) (by rw [List.drop_zero, Nat.zero_add, Nat.zero_add]) (lv_sub hl [3, 4, 5, 2, 1, 0] rfl)

set_option maxHeartbeats 4000000 in
set_option maxRecDepth 100000 in
theorem k_rateOn (l : Launch) (g : GG) (x : FT) (b : BinT) (wd : Nat) (hx9 : Xok x) (hbm : b ∈ xB x) (hwd : wd < 7) : Rd l yX4_rateOn wsX4_rateOn 3 79 [.ref (xA x 0), .ref (bA b 0), .int (nI (wd))] g (wX g x) (nI (rateV x b wd)) := by
  refine Met.ofW (cc := cX4_rateOn) (maxL := 4) (ret := (some .int)) (by decide) rfl ?_
  intro p e s m args below meth c s₁ BB hml hv
  obtain ⟨hargs, hP, hK⟩ := hv
  have hx := BB.exec
  have hb := BB.bytes
  have hr := BB.returns
  have hts : ∀ w ∈ BIG, w.before args s = true := fun w h => atoms_spec (ws := wsX4_rateOn) BB.pre w (List.mem_cons_of_mem _ h)
  have hown : s.vm.findClass RX4 = some m.cls := findClass_of_methodNamed BB.named
  have hlocks := BB.notSynchronized
  obtain ⟨RR, hRR⟩ : ∃ RR, RR = (headSpec wsX4_rateOn ⟨3, 0, 0, 79⟩).room := ⟨_, rfl⟩
  have hR1 : RR.frames = 3 := by rw [hRR]; rfl
  have hR2 : RR.locals = 79 := by rw [hRR]; rfl
  have hR3 : RR.cells = 0 := by rw [hRR]; rfl
  have hR4 : RR.slots = 0 := by rw [hRR]; rfl
  have hl := lv_entry ([.ref (xA x 0), .ref (bA b 0), .int (nI (wd))]) (n := 4) (Nat.le_of_ble_eq_true rfl)
  have hent : entryFrame m args 4 = F0 m 0 ((lg_sl ([.ref (xA x 0), .ref (bA b 0), .int (nI (wd))]) ++ List.replicate (4 - (lg_sl ([.ref (xA x 0), .ref (bA b 0), .int (nI (wd))])).length) Slot.unset).toArray) [] := by rw [hargs, lg_entry_eq]
  rw [hent]
  generalize (lg_sl ([.ref (xA x 0), .ref (bA b 0), .int (nI (wd))]) ++ List.replicate (4 - (lg_sl ([.ref (xA x 0), .ref (bA b 0), .int (nI (wd))])).length) Slot.unset).toArray = ls at hl ⊢
  have hl : lv_has ls 4 [(0, .ref (xA x 0)), (1, .ref (bA b 0)), (2, .int (nI (wd)))] := hl
  refine q_ab (R := RR) hRR ?_
  generalize hQQ : MQ below _ args s _ _ _ = QQ
  obtain ⟨h8, hB, hW, -⟩ := id hx9
  have hBk := hB b hbm
  obtain ⟨⟨hbn, hbp, -, -⟩, -, -, hbs, -⟩ := id hBk
  have hPb := wX_B hP hbm
  have hPm := va_P.app hPb (va_P.app (wX_C hP) (wX_F hP))
  refine lv_aload_n hx hb dX4_rateOn_0 rfl (lv_at hl 1 rfl) ?_
  refine lv_iload_n hx hb dX4_rateOn_1 rfl (lv_at hl 2 rfl) ?_
  refine lv_aload_n hx hb dX4_rateOn_2 rfl (lv_at hl 0 rfl) ?_
  refine va_get (D := g.1) (ci := 4) (v := .ref (xC x 0)) (C := RX4) (T := TX4) (N := 8) hx hb hts hiX4 hown hK.1 hP 0 rfl rfl 0 (by decide) (hts _ w_fl_X4_10) (fun _ h9 => h9) rfl dX4_rateOn_3 ?_
  refine lv_aload_n hx hb dX4_rateOn_6 rfl (lv_at hl 0 rfl) ?_
  refine va_get (D := g.1) (ci := 4) (v := .ref (xF x 0)) (C := RX4) (T := TX4) (N := 8) hx hb hts hiX4 hown hK.1 hP 0 rfl rfl 1 (by decide) (hts _ w_fl_X4_19) (fun _ h9 => h9) rfl dX4_rateOn_7 ?_
  refine cR_i (W.runV (As := [.int (nI (wd)), .ref (xC x 0), .ref (xF x 0)]) (rest := []) ⟨hx, hb, hml, hown, hts⟩ (k_meanOn l g b (xC x) (xF x) (xH x) (xW x) wd hwd hbn hbp hBk.gain hW) (cwV 3 hts (gV w_ml_X4_82 w_im_X0_meanOn w_sel_X0_meanOn w_ini_X0 w_co_X0_meanOn) rfl rfl rfl (by decide +kernel) (by rw [hR1, hR2]; exact ⟨Nat.le_of_ble_eq_true rfl, Nat.le_of_ble_eq_true rfl⟩)) (preV_rd hPm hK (va_recv hK.1 hPm (ci := 0) (q0 := 0) rfl rfl)) rfl rfl hl.1 rfl (lv_room (Nat.le_of_ble_eq_true rfl)) dX4_rateOn_10 ⟨by rw [hR3]; omega, by rw [hR4]; omega⟩) ?_
  refine W.eq (g2 := F0 m 13 ls [.int (gI (meanH (xH x) (xW x) b wd))]) rfl ?_
  refine lv_istore_n (lv' := [(3, .int (gI (meanH (xH x) (xW x) b wd))), (0, .ref (xA x 0)), (1, .ref (bA b 0)), (2, .int (nI (wd)))]) hx hb dX4_rateOn_13 rfl hl (by decide) rfl (fun ls hl => ?_)
  refine lv_iload_n hx hb dX4_rateOn_14 rfl (lv_at hl 0 rfl) ?_
  refine lv_iconst (v := (-1)) hx hb dX4_rateOn_15 (by decide) ?_
  refine lv_icmp_eq (tgt := 23) hx hb dX4_rateOn_16 (by decide) (fun c3 => ?_) (fun c3 => ?_)
  · have hm : meanH (xH x) (xW x) b wd = none := (gI_m1 (fun v hv => by have := meanX_le hBk hv; omega)).mp c3
    refine lv_aload_n hx hb dX4_rateOn_23 rfl (lv_at hl 1 rfl) ?_
    refine lv_aload_n hx hb dX4_rateOn_24 rfl (lv_at hl 2 rfl) ?_
    refine cR_i (W.runV (As := []) (rest := [.ref (xA x 0)]) ⟨hx, hb, hml, hown, hts⟩ (k_streetNumber l g b) (cwV 0 hts (gV w_ml_X4_136 w_im_X0_streetNumber w_sel_X0_streetNumber w_ini_X0 w_co_X0_streetNumber) rfl rfl rfl (by decide +kernel) (by rw [hR1, hR2]; exact ⟨Nat.le_of_ble_eq_true rfl, Nat.le_of_ble_eq_true rfl⟩)) (preV_rd hPb hK (va_recv hK.1 hPb (ci := 0) (q0 := 0) rfl rfl)) rfl rfl hl.1 rfl (lv_room (Nat.le_of_ble_eq_true rfl)) dX4_rateOn_25 ⟨by rw [hR3]; omega, by rw [hR4]; omega⟩) ?_
    refine lv_iload_n hx hb dX4_rateOn_28 rfl (lv_at hl 3 rfl) ?_
    refine cR_i (W.runV (As := [.int (nI (bSt b)), .int (nI (wd))]) (rest := []) ⟨hx, hb, hml, hown, hts⟩ (k_streetRateOn l g x (bSt b) wd hx9 hbs hwd) (cwV 2 hts (gV w_ml_X4_139 w_im_X4_streetRateOn w_sel_X4_streetRateOn w_ini_X4 w_co_X4_streetRateOn) rfl rfl rfl (by decide +kernel) (by rw [hR1, hR2]; exact ⟨Nat.le_of_ble_eq_true rfl, Nat.le_of_ble_eq_true rfl⟩)) (preV_rd hP hK (va_recv hK.1 hP (ci := 4) (q0 := 0) rfl rfl)) rfl rfl hl.1 rfl (lv_room (Nat.le_of_ble_eq_true rfl)) dX4_rateOn_29 ⟨by rw [hR3]; omega, by rw [hR4]; omega⟩) ?_
    subst hQQ
    exact W.iret hx hb hr (fun t9 ht _ => rdI (by unfold rateV rateH; rw [hm]) ht) (fun q h => absurd h List.not_mem_nil) dX4_rateOn_32
  · obtain ⟨v, hv⟩ : ∃ v, meanH (xH x) (xW x) b wd = some v := by
      cases hv : meanH (xH x) (xW x) b wd with
      | none => exact absurd (by rw [hv]; rfl) c3
      | some v => exact ⟨v, rfl⟩
    refine lv_iload_n hx hb dX4_rateOn_19 rfl (lv_at hl 0 rfl) ?_
    refine lv_goto (tgt := 32) hx hb dX4_rateOn_20 (by decide) ?_
    subst hQQ
    exact W.iret hx hb hr (fun t9 ht _ => rdI (by unfold rateV rateH; rw [hv]; rfl) ht) (fun q h => absurd h List.not_mem_nil) dX4_rateOn_32

