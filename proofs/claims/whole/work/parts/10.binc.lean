set_option maxHeartbeats 4000000 in
set_option maxRecDepth 100000 in
theorem k_hasRowWithin (l : Launch) (g : GG) (b : BinT) (lo hi : Int32) (hn : bN b ≤ 32) (hpl : ∀ i, i < bN b → bPl b i < 2 ^ 31) : Rz l yX0_hasRowWithin wsX0_hasRowWithin 1 22 [.ref (bA b 0), .int (lo), .int (hi)] g (wB g b) (bI ((List.range (bN b)).any (fun i => rowB b i && decide (lo ≤ nI (hrB b i) ∧ nI (hrB b i) ≤ hi)))) := by
  refine Met.ofW (cc := cX0_hasRowWithin) (maxL := 4) (ret := (some .boolean)) (by decide) rfl ?_
  intro p e s m args below meth c s₁ BB hml hv
  obtain ⟨hargs, hP, hK⟩ := hv
  have hx := BB.exec
  have hb := BB.bytes
  have hr := BB.returns
  have hts : ∀ w ∈ BIG, w.before args s = true := fun w h => atoms_spec (ws := wsX0_hasRowWithin) BB.pre w (List.mem_cons_of_mem _ h)
  have hown : s.vm.findClass RX0 = some m.cls := findClass_of_methodNamed BB.named
  have hlocks := BB.notSynchronized
  obtain ⟨RR, hRR⟩ : ∃ RR, RR = (headSpec wsX0_hasRowWithin ⟨1, 0, 0, 22⟩).room := ⟨_, rfl⟩
  have hR1 : RR.frames = 1 := by rw [hRR]; rfl
  have hR2 : RR.locals = 22 := by rw [hRR]; rfl
  have hR3 : RR.cells = 0 := by rw [hRR]; rfl
  have hR4 : RR.slots = 0 := by rw [hRR]; rfl
  have hl := lv_entry ([.ref (bA b 0), .int (lo), .int (hi)]) (n := 4) (Nat.le_of_ble_eq_true rfl)
  have hent : entryFrame m args 4 = F0 m 0 ((lg_sl ([.ref (bA b 0), .int (lo), .int (hi)]) ++ List.replicate (4 - (lg_sl ([.ref (bA b 0), .int (lo), .int (hi)])).length) Slot.unset).toArray) [] := by rw [hargs, lg_entry_eq]
  rw [hent]
  generalize (lg_sl ([.ref (bA b 0), .int (lo), .int (hi)]) ++ List.replicate (4 - (lg_sl ([.ref (bA b 0), .int (lo), .int (hi)])).length) Slot.unset).toArray = ls at hl ⊢
  have hl : lv_has ls 4 [(0, .ref (bA b 0)), (1, .int (lo)), (2, .int (hi))] := hl
  refine q_ab (R := RR) hRR ?_
  generalize hQQ : MQ below _ args s _ _ _ = QQ
  refine lv_iconst (v := nI (0)) hx hb dX0_hasRowWithin_0 (by decide) ?_
  refine lv_istore_n (lv' := [(3, .int (nI (0))), (0, .ref (bA b 0)), (1, .int (lo)), (2, .int (hi))]) hx hb dX0_hasRowWithin_1 rfl hl (by decide) rfl (fun ls hl => ?_)
  have loop : ∀ (k : Nat) (j : Nat) (ls : Array Slot), (j ≤ bN b) → (bN b < j + k) → (∀ i, i < j → (rowB b i && decide (lo ≤ nI (hrB b i) ∧ nI (hrB b i) ≤ hi)) = false) → lv_has ls 4 [(0, .ref (bA b 0)), (1, .int (lo)), (2, .int (hi)), (3, .int (nI (j)))] → W p l e RR s m args below meth c s.heap [] 0 0 QQ (F0 m 2 ls []) := by
    intro k
    induction k with
    | zero => intro j ls hj hk he hl; exact absurd hk (by omega)
    | succ k ih =>
      intro j ls hj hk he hl
      refine lv_iload_n hx hb dX0_hasRowWithin_2 rfl (lv_at hl 3 rfl) ?_
      refine lv_aload_n hx hb dX0_hasRowWithin_3 rfl (lv_at hl 0 rfl) ?_
      refine va_get (D := g.1) (ci := 0) (v := .int (nI (bN b))) (C := RX0) (T := TX0) (N := 8) hx hb hts hiX0 hown hK.1 hP 0 rfl rfl 6 (by decide) (hts _ w_fl_X0_32) (fun _ h9 => h9) rfl dX0_hasRowWithin_4 ?_
      refine bn_ge (tgt := 39) hx hb (by omega) (by omega) dX0_hasRowWithin_7 (by decide) (fun c1 => ?_) (fun c1 => ?_)
      · refine lv_iconst (v := bI (false)) hx hb dX0_hasRowWithin_39 (by decide) ?_
        subst hQQ
        exact W.zret hx hb hr (nar_b _) (fun t9 ht _ => rdI (by rw [any_f (fun i h => he i (by omega))]) ht) (fun q h => absurd h List.not_mem_nil) dX0_hasRowWithin_40
      · refine lv_aload_n hx hb dX0_hasRowWithin_10 rfl (lv_at hl 0 rfl) ?_
        refine lv_iload_n hx hb dX0_hasRowWithin_11 rfl (lv_at hl 3 rfl) ?_
        refine cR_i (W.runV (As := [.int (nI (j))]) (rest := []) ⟨hx, hb, hml, hown, hts⟩ (k_isRow l g b j (by omega) (hpl j c1)) (cwV 1 hts (gV w_ml_X0_38 w_im_X0_isRow w_sel_X0_isRow w_ini_X0 w_co_X0_isRow) rfl rfl rfl (by decide +kernel) (by rw [hR1, hR2]; exact ⟨Nat.le_of_ble_eq_true rfl, Nat.le_of_ble_eq_true rfl⟩)) (preV_rd hP hK (va_recv hK.1 hP (ci := 0) (q0 := 0) rfl rfl)) rfl rfl hl.1 rfl (lv_room (Nat.le_of_ble_eq_true rfl)) dX0_hasRowWithin_12 ⟨by rw [hR3]; omega, by rw [hR4]; omega⟩) ?_
        refine bb_eq (tgt := 33) hx hb dX0_hasRowWithin_15 (by decide) (fun c2 => ?_) (fun c2 => ?_)
        · refine lv_iinc (v := nI (j + 1)) (lv' := [(3, .int (nI (j + 1))), (0, .ref (bA b 0)), (1, .int (lo)), (2, .int (hi))]) hx hb dX0_hasRowWithin_33 hl (k := 3) rfl (nI_1 _) (by decide) rfl (fun ls hl => ?_)
          refine lv_goto (tgt := 2) hx hb dX0_hasRowWithin_36 (by decide) ?_
          exact ih (j + 1) ls (by omega) (by omega) (lt_s he (by rw [c2]; rfl)) (lv_sub hl [1, 2, 3, 0] rfl)
        · refine lv_aload_n hx hb dX0_hasRowWithin_18 rfl (lv_at hl 0 rfl) ?_
          refine lv_iload_n hx hb dX0_hasRowWithin_19 rfl (lv_at hl 3 rfl) ?_
          refine cR_i (W.runV (As := [.int (nI (j))]) (rest := []) ⟨hx, hb, hml, hown, hts⟩ (k_hourAt l g b j (by omega) (hpl j c1)) (cwV 1 hts (gV w_ml_X0_63 w_im_X0_hourAt w_sel_X0_hourAt w_ini_X0 w_co_X0_hourAt) rfl rfl rfl (by decide +kernel) (by rw [hR1, hR2]; exact ⟨Nat.le_of_ble_eq_true rfl, Nat.le_of_ble_eq_true rfl⟩)) (preV_rd hP hK (va_recv hK.1 hP (ci := 0) (q0 := 0) rfl rfl)) rfl rfl hl.1 rfl (lv_room (Nat.le_of_ble_eq_true rfl)) dX0_hasRowWithin_20 ⟨by rw [hR3]; omega, by rw [hR4]; omega⟩) ?_
          refine lv_iload_n hx hb dX0_hasRowWithin_23 rfl (lv_at hl 1 rfl) ?_
          refine lv_iload_n hx hb dX0_hasRowWithin_24 rfl (lv_at hl 2 rfl) ?_
          refine cR_i ((va_runSN (As := [.int (nI (hrB b j)), .int (lo), .int (hi)]) (rest := []) ⟨hx, hb, hml, hown, hts⟩ (k_isWithin l g (nI (hrB b j)) lo hi) ⟨va_cnB (host := "FillForecast") 3 hts (gI0 w_co_X4_isWithin) rfl rfl rfl hK.2.1 (hts _ w_ini_X4) (by decide +kernel) (by rw [hR1, hR2]; exact ⟨Nat.le_of_ble_eq_true rfl, Nat.le_of_ble_eq_true rfl⟩), hts _ w_sm_X4_isWithin, trivial⟩ (preS_rd (va_P.nil : va_P g.1 vwCl [] s.heap) hK) rfl rfl hl.1 rfl (lv_room (Nat.le_of_ble_eq_true rfl)) dX0_hasRowWithin_25 ⟨by rw [hR3]; omega, by rw [hR4]; omega⟩).run) ?_
          refine bb_eq (tgt := 33) hx hb dX0_hasRowWithin_28 (by decide) (fun c3 => ?_) (fun c3 => ?_)
          · refine lv_iinc (v := nI (j + 1)) (lv' := [(3, .int (nI (j + 1))), (0, .ref (bA b 0)), (1, .int (lo)), (2, .int (hi))]) hx hb dX0_hasRowWithin_33 hl (k := 3) rfl (nI_1 _) (by decide) rfl (fun ls hl => ?_)
            refine lv_goto (tgt := 2) hx hb dX0_hasRowWithin_36 (by decide) ?_
            exact ih (j + 1) ls (by omega) (by omega) (lt_s he (by rw [c3, Bool.and_false])) (lv_sub hl [1, 2, 3, 0] rfl)
          · refine lv_iconst (v := bI (true)) hx hb dX0_hasRowWithin_31 (by decide) ?_
            subst hQQ
            exact W.zret hx hb hr (nar_b _) (fun t9 ht _ => rdI (by rw [any_t c1 (by rw [c2, c3]; rfl)]) ht) (fun q h => absurd h List.not_mem_nil) dX0_hasRowWithin_32
  exact loop (bN b + 1) 0 ls (Nat.zero_le _) (by omega) lt_0 (lv_sub hl [1, 2, 3, 0] rfl)

set_option maxHeartbeats 4000000 in
set_option maxRecDepth 100000 in
theorem k_latestUpTo (l : Launch) (g : GG) (b : BinT) (q : Nat) (hn : bN b ≤ 32) (hpl : ∀ i, i < bN b → bPl b i < 2 ^ 31) (hq : q < 2 ^ 31) : Rd l yX0_latestUpTo wsX0_latestUpTo 0 0 [.ref (bA b 0), .int (nI (q))] g (wB g b) (gI (lst (fun i => decide (bPl b i ≤ q) && !bWr b i) (bN b))) := by
  refine Met.ofW (cc := cX0_latestUpTo) (maxL := 3) (ret := (some .int)) (by decide) rfl ?_
  intro p e s m args below meth c s₁ BB hml hv
  obtain ⟨hargs, hP, hK⟩ := hv
  have hx := BB.exec
  have hb := BB.bytes
  have hr := BB.returns
  have hts : ∀ w ∈ BIG, w.before args s = true := fun w h => atoms_spec (ws := wsX0_latestUpTo) BB.pre w (List.mem_cons_of_mem _ h)
  have hown : s.vm.findClass RX0 = some m.cls := findClass_of_methodNamed BB.named
  have hlocks := BB.notSynchronized
  obtain ⟨RR, hRR⟩ : ∃ RR, RR = (headSpec wsX0_latestUpTo ⟨0, 0, 0, 0⟩).room := ⟨_, rfl⟩
  have hR1 : RR.frames = 0 := by rw [hRR]; rfl
  have hR2 : RR.locals = 0 := by rw [hRR]; rfl
  have hR3 : RR.cells = 0 := by rw [hRR]; rfl
  have hR4 : RR.slots = 0 := by rw [hRR]; rfl
  have hl := lv_entry ([.ref (bA b 0), .int (nI (q))]) (n := 3) (Nat.le_of_ble_eq_true rfl)
  have hent : entryFrame m args 3 = F0 m 0 ((lg_sl ([.ref (bA b 0), .int (nI (q))]) ++ List.replicate (3 - (lg_sl ([.ref (bA b 0), .int (nI (q))])).length) Slot.unset).toArray) [] := by rw [hargs, lg_entry_eq]
  rw [hent]
  generalize (lg_sl ([.ref (bA b 0), .int (nI (q))]) ++ List.replicate (3 - (lg_sl ([.ref (bA b 0), .int (nI (q))])).length) Slot.unset).toArray = ls at hl ⊢
  have hl : lv_has ls 3 [(0, .ref (bA b 0)), (1, .int (nI (q)))] := hl
  refine q_ab (R := RR) hRR ?_
  generalize hQQ : MQ below _ args s _ _ _ = QQ
  refine lv_aload_n hx hb dX0_latestUpTo_0 rfl (lv_at hl 0 rfl) ?_
  refine va_get (D := g.1) (ci := 0) (v := .int (nI (bN b))) (C := RX0) (T := TX0) (N := 8) hx hb hts hiX0 hown hK.1 hP 0 rfl rfl 6 (by decide) (hts _ w_fl_X0_32) (fun _ h9 => h9) rfl dX0_latestUpTo_1 ?_
  refine lv_iconst (v := nI (1)) hx hb dX0_latestUpTo_4 (by decide) ?_
  refine lv_isub hx hb dX0_latestUpTo_5 ?_
  refine lv_istore_n (lv' := [(2, .int (nI (bN b) - nI (1))), (0, .ref (bA b 0)), (1, .int (nI (q)))]) hx hb dX0_latestUpTo_6 rfl hl (by decide) rfl (fun ls hl => ?_)
  have loop : ∀ (k : Nat) (j : Nat) (ls : Array Slot), (j ≤ bN b) → (j < k) → (lst (fun i => decide (bPl b i ≤ q) && !bWr b i) j = lst (fun i => decide (bPl b i ≤ q) && !bWr b i) (bN b)) → lv_has ls 3 [(0, .ref (bA b 0)), (1, .int (nI (q))), (2, .int (nI j - nI 1))] → W p l e RR s m args below meth c s.heap [] 0 0 QQ (F0 m 7 ls []) := by
    intro k
    induction k with
    | zero => intro j ls hj hk he hl; exact absurd hk (by omega)
    | succ k ih =>
      intro j ls hj hk he hl
      refine lv_iload_n hx hb dX0_latestUpTo_7 rfl (lv_at hl 2 rfl) ?_
      cases j with
      | zero =>
        refine lv_if_lt (tgt := 38) hx hb dX0_latestUpTo_8 (by decide) (fun c1 => ?_) (fun c1 => ?_)
        · refine lv_iconst (v := (-1)) hx hb dX0_latestUpTo_38 (by decide) ?_
          subst hQQ
          exact W.iret hx hb hr (fun t9 ht _ => rdI (by rw [← he]; rfl) ht) (fun q h => absurd h List.not_mem_nil) dX0_latestUpTo_39
        · exact absurd (by decide) c1
      | succ j =>
        have ej : nI (j + 1) - nI 1 = nI j := pk_sub (by omega)
        rw [ej] at hl
        have hl : lv_has ls 3 [(0, .ref (bA b 0)), (1, .int (nI (q))), (2, .int (nI (j)))] := hl
        refine tp_i ej ?_
        refine lv_if_lt (tgt := 38) hx hb dX0_latestUpTo_8 (by decide) (fun c1 => ?_) (fun c1 => ?_)
        · exact absurd c1 (nI_pos (by omega))
        · have hpj := hpl j hj
          rw [lst] at he
          refine lv_aload_n hx hb dX0_latestUpTo_11 rfl (lv_at hl 0 rfl) ?_
          refine va_get (D := g.1) (ci := 0) (v := .ref (bA b 1)) (C := RX0) (T := TX0) (N := 8) hx hb hts hiX0 hown hK.1 hP 0 rfl rfl 2 (by decide) (hts _ w_fl_X0_18) (fun _ h9 => h9) rfl dX0_latestUpTo_12 ?_
          refine lv_iload_n hx hb dX0_latestUpTo_15 rfl (lv_at hl 2 rfl) ?_
          refine n_iald (k := j) (v := nI (bPl b j)) hx hb hK.1 hP 1 0 rfl rfl (by omega) (by decide) (rfl) dX0_latestUpTo_16 ?_
          refine lv_iload_n hx hb dX0_latestUpTo_17 rfl (lv_at hl 1 rfl) ?_
          refine bn_gt (tgt := 32) hx hb (by omega) (by omega) dX0_latestUpTo_18 (by decide) (fun c2 => ?_) (fun c2 => ?_)
          · rw [if_neg (by rw [decide_eq_false (by omega), Bool.false_and]; decide)] at he
            refine lv_iinc (v := (nI j - nI 1)) (lv' := [(2, .int (nI j - nI 1)), (0, .ref (bA b 0)), (1, .int (nI (q)))]) hx hb dX0_latestUpTo_32 hl (k := 2) rfl (i_dec _) (by decide) rfl (fun ls hl => ?_)
            refine lv_goto (tgt := 7) hx hb dX0_latestUpTo_35 (by decide) ?_
            exact ih j ls (by omega) (by omega) he (lv_sub hl [1, 2, 0] rfl)
          · refine lv_aload_n hx hb dX0_latestUpTo_21 rfl (lv_at hl 0 rfl) ?_
            refine va_get (D := g.1) (ci := 0) (v := .ref (bA b 3)) (C := RX0) (T := TX0) (N := 8) hx hb hts hiX0 hown hK.1 hP 0 rfl rfl 4 (by decide) (hts _ w_fl_X0_25) (fun _ h9 => h9) rfl dX0_latestUpTo_22 ?_
            refine lv_iload_n hx hb dX0_latestUpTo_25 rfl (lv_at hl 2 rfl) ?_
            refine n_zald (k := j) (v := bI (bWr b j)) hx hb hK.1 hP 3 1 rfl rfl (by omega) (by decide) (rfl) dX0_latestUpTo_26 ?_
            refine bb_ne (tgt := 32) hx hb dX0_latestUpTo_27 (by decide) (fun c3 => ?_) (fun c3 => ?_)
            · rw [if_neg (by rw [c3]; simp)] at he
              refine lv_iinc (v := (nI j - nI 1)) (lv' := [(2, .int (nI j - nI 1)), (0, .ref (bA b 0)), (1, .int (nI (q)))]) hx hb dX0_latestUpTo_32 hl (k := 2) rfl (i_dec _) (by decide) rfl (fun ls hl => ?_)
              refine lv_goto (tgt := 7) hx hb dX0_latestUpTo_35 (by decide) ?_
              exact ih j ls (by omega) (by omega) he (lv_sub hl [1, 2, 0] rfl)
            · rw [if_pos (by rw [c3, decide_eq_true c2]; rfl)] at he
              refine lv_iload_n hx hb dX0_latestUpTo_30 rfl (lv_at hl 2 rfl) ?_
              subst hQQ
              exact W.iret hx hb hr (fun t9 ht _ => rdI (by rw [← he]; rfl) ht) (fun q h => absurd h List.not_mem_nil) dX0_latestUpTo_31
  exact loop (bN b + 1) (bN b) ls (Nat.le_refl _) (by omega) rfl (lv_sub hl [1, 2, 0] rfl)

set_option maxHeartbeats 4000000 in
set_option maxRecDepth 100000 in
theorem k_weekdayOf (l : Launch) (g : GG) (ca : Nat → Nat) (hol : Nat → Bool) (d : Nat) (hd : d < 417) : Rd l yX1_weekdayOf wsX1_weekdayOf 0 0 [.ref (ca 0), .int (nI (d))] g (wC g ca hol) (nI (wdy hol d)) := by
  refine Met.ofW (cc := cX1_weekdayOf) (maxL := 2) (ret := (some .int)) (by decide) rfl ?_
  intro p e s m args below meth c s₁ BB hml hv
  obtain ⟨hargs, hP, hK⟩ := hv
  have hx := BB.exec
  have hb := BB.bytes
  have hr := BB.returns
  have hts : ∀ w ∈ BIG, w.before args s = true := fun w h => atoms_spec (ws := wsX1_weekdayOf) BB.pre w (List.mem_cons_of_mem _ h)
  have hown : s.vm.findClass RX1 = some m.cls := findClass_of_methodNamed BB.named
  have hlocks := BB.notSynchronized
  obtain ⟨RR, hRR⟩ : ∃ RR, RR = (headSpec wsX1_weekdayOf ⟨0, 0, 0, 0⟩).room := ⟨_, rfl⟩
  have hR1 : RR.frames = 0 := by rw [hRR]; rfl
  have hR2 : RR.locals = 0 := by rw [hRR]; rfl
  have hR3 : RR.cells = 0 := by rw [hRR]; rfl
  have hR4 : RR.slots = 0 := by rw [hRR]; rfl
  have hl := lv_entry ([.ref (ca 0), .int (nI (d))]) (n := 2) (Nat.le_of_ble_eq_true rfl)
  have hent : entryFrame m args 2 = F0 m 0 ((lg_sl ([.ref (ca 0), .int (nI (d))]) ++ List.replicate (2 - (lg_sl ([.ref (ca 0), .int (nI (d))])).length) Slot.unset).toArray) [] := by rw [hargs, lg_entry_eq]
  rw [hent]
  generalize (lg_sl ([.ref (ca 0), .int (nI (d))]) ++ List.replicate (2 - (lg_sl ([.ref (ca 0), .int (nI (d))])).length) Slot.unset).toArray = ls at hl ⊢
  have hl : lv_has ls 2 [(0, .ref (ca 0)), (1, .int (nI (d)))] := hl
  refine q_ab (R := RR) hRR ?_
  generalize hQQ : MQ below _ args s _ _ _ = QQ
  refine lv_aload_n hx hb dX1_weekdayOf_0 rfl (lv_at hl 0 rfl) ?_
  refine va_get (D := g.1) (ci := 1) (v := .ref (ca 1)) (C := RX1) (T := TX1) (N := 1) hx hb hts hiX1 hown hK.1 hP 0 rfl rfl 0 (by decide) (hts _ w_fl_X1_9) (fun _ h9 => h9) rfl dX1_weekdayOf_1 ?_
  refine lv_iload_n hx hb dX1_weekdayOf_4 rfl (lv_at hl 1 rfl) ?_
  refine n_zald (k := d) (v := bI (hol d)) hx hb hK.1 hP 1 1 rfl rfl (by omega) (by decide) (rfl) dX1_weekdayOf_5 ?_
  refine bb_eq (tgt := 14) hx hb dX1_weekdayOf_6 (by decide) (fun c1 => ?_) (fun c1 => ?_)
  · refine lv_iload_n hx hb dX1_weekdayOf_14 rfl (lv_at hl 1 rfl) ?_
    refine lv_bipush (v := nI (7)) hx hb dX1_weekdayOf_15 (by decide) ?_
    refine n_irem hx hb (by omega) (by omega) (by omega) dX1_weekdayOf_17 ?_
    subst hQQ
    exact W.iret hx hb hr (fun t9 ht _ => rdI (by rw [wdy, c1]; rfl) ht) (fun q h => absurd h List.not_mem_nil) dX1_weekdayOf_18
  · refine lv_bipush (v := nI (6)) hx hb dX1_weekdayOf_9 (by decide) ?_
    refine lv_goto (tgt := 18) hx hb dX1_weekdayOf_11 (by decide) ?_
    subst hQQ
    exact W.iret hx hb hr (fun t9 ht _ => rdI (by rw [wdy, c1]; rfl) ht) (fun q h => absurd h List.not_mem_nil) dX1_weekdayOf_18

set_option maxHeartbeats 4000000 in
set_option maxRecDepth 100000 in
theorem k_weightOf (l : Launch) (g : GG) (fa : Nat → Nat) (wt : Nat → Nat) (a : Nat) (ha : a < 8) : Rd l yX2_weightOf wsX2_weightOf 0 0 [.ref (fa 0), .int (nI (a))] g (wF g fa wt) (nI (wt a)) := by
  refine Met.ofW (cc := cX2_weightOf) (maxL := 2) (ret := (some .int)) (by decide) rfl ?_
  intro p e s m args below meth c s₁ BB hml hv
  obtain ⟨hargs, hP, hK⟩ := hv
  have hx := BB.exec
  have hb := BB.bytes
  have hr := BB.returns
  have hts : ∀ w ∈ BIG, w.before args s = true := fun w h => atoms_spec (ws := wsX2_weightOf) BB.pre w (List.mem_cons_of_mem _ h)
  have hown : s.vm.findClass RX2 = some m.cls := findClass_of_methodNamed BB.named
  have hlocks := BB.notSynchronized
  obtain ⟨RR, hRR⟩ : ∃ RR, RR = (headSpec wsX2_weightOf ⟨0, 0, 0, 0⟩).room := ⟨_, rfl⟩
  have hR1 : RR.frames = 0 := by rw [hRR]; rfl
  have hR2 : RR.locals = 0 := by rw [hRR]; rfl
  have hR3 : RR.cells = 0 := by rw [hRR]; rfl
  have hR4 : RR.slots = 0 := by rw [hRR]; rfl
  have hl := lv_entry ([.ref (fa 0), .int (nI (a))]) (n := 2) (Nat.le_of_ble_eq_true rfl)
  have hent : entryFrame m args 2 = F0 m 0 ((lg_sl ([.ref (fa 0), .int (nI (a))]) ++ List.replicate (2 - (lg_sl ([.ref (fa 0), .int (nI (a))])).length) Slot.unset).toArray) [] := by rw [hargs, lg_entry_eq]
  rw [hent]
  generalize (lg_sl ([.ref (fa 0), .int (nI (a))]) ++ List.replicate (2 - (lg_sl ([.ref (fa 0), .int (nI (a))])).length) Slot.unset).toArray = ls at hl ⊢
  have hl : lv_has ls 2 [(0, .ref (fa 0)), (1, .int (nI (a)))] := hl
  refine q_ab (R := RR) hRR ?_
  generalize hQQ : MQ below _ args s _ _ _ = QQ
  refine lv_aload_n hx hb dX2_weightOf_0 rfl (lv_at hl 0 rfl) ?_
  refine va_get (D := g.1) (ci := 2) (v := .ref (fa 1)) (C := RX2) (T := TX2) (N := 1) hx hb hts hiX2 hown hK.1 hP 0 rfl rfl 0 (by decide) (hts _ w_fl_X2_9) (fun _ h9 => h9) rfl dX2_weightOf_1 ?_
  refine lv_iload_n hx hb dX2_weightOf_4 rfl (lv_at hl 1 rfl) ?_
  refine n_iald (k := a) (v := nI (wt a)) hx hb hK.1 hP 1 0 rfl rfl (by omega) (by decide) (rfl) dX2_weightOf_5 ?_
  subst hQQ
  exact W.iret hx hb hr (fun t9 ht _ => rdI (rfl) ht) (fun q h => absurd h List.not_mem_nil) dX2_weightOf_6

set_option maxHeartbeats 4000000 in
set_option maxRecDepth 100000 in
theorem k_gainFrom (l : Launch) (g : GG) (b : BinT) (i j : Nat) (hi : i < 32) (hj : j < 32) (hpi : bPl b i < 2 ^ 31) (hpj : bPl b j < 2 ^ 31) (hh : hrB b i < hrB b j) (hs : shB b i ≤ shB b j) (hs2 : shB b j ≤ 1500) : Rd l yX0_gainFrom wsX0_gainFrom 2 42 [.ref (bA b 0), .int (nI (i)), .int (nI (j))] g (wB g b) (nI ((shB b j - shB b i) * 24 / (hrB b j - hrB b i))) := by
  refine Met.ofW (cc := cX0_gainFrom) (maxL := 4) (ret := (some .int)) (by decide) rfl ?_
  intro p e s m args below meth c s₁ BB hml hv
  obtain ⟨hargs, hP, hK⟩ := hv
  have hx := BB.exec
  have hb := BB.bytes
  have hr := BB.returns
  have hts : ∀ w ∈ BIG, w.before args s = true := fun w h => atoms_spec (ws := wsX0_gainFrom) BB.pre w (List.mem_cons_of_mem _ h)
  have hown : s.vm.findClass RX0 = some m.cls := findClass_of_methodNamed BB.named
  have hlocks := BB.notSynchronized
  obtain ⟨RR, hRR⟩ : ∃ RR, RR = (headSpec wsX0_gainFrom ⟨2, 0, 0, 42⟩).room := ⟨_, rfl⟩
  have hR1 : RR.frames = 2 := by rw [hRR]; rfl
  have hR2 : RR.locals = 42 := by rw [hRR]; rfl
  have hR3 : RR.cells = 0 := by rw [hRR]; rfl
  have hR4 : RR.slots = 0 := by rw [hRR]; rfl
  have hl := lv_entry ([.ref (bA b 0), .int (nI (i)), .int (nI (j))]) (n := 4) (Nat.le_of_ble_eq_true rfl)
  have hent : entryFrame m args 4 = F0 m 0 ((lg_sl ([.ref (bA b 0), .int (nI (i)), .int (nI (j))]) ++ List.replicate (4 - (lg_sl ([.ref (bA b 0), .int (nI (i)), .int (nI (j))])).length) Slot.unset).toArray) [] := by rw [hargs, lg_entry_eq]
  rw [hent]
  generalize (lg_sl ([.ref (bA b 0), .int (nI (i)), .int (nI (j))]) ++ List.replicate (4 - (lg_sl ([.ref (bA b 0), .int (nI (i)), .int (nI (j))])).length) Slot.unset).toArray = ls at hl ⊢
  have hl : lv_has ls 4 [(0, .ref (bA b 0)), (1, .int (nI (i))), (2, .int (nI (j)))] := hl
  refine q_ab (R := RR) hRR ?_
  generalize hQQ : MQ below _ args s _ _ _ = QQ
  have hh2 : hrB b j < 2 ^ 30 := by unfold hrB; omega
  refine lv_aload_n hx hb dX0_gainFrom_0 rfl (lv_at hl 0 rfl) ?_
  refine lv_iload_n hx hb dX0_gainFrom_1 rfl (lv_at hl 2 rfl) ?_
  refine cR_i (W.runV (As := [.int (nI (j))]) (rest := []) ⟨hx, hb, hml, hown, hts⟩ (k_hourAt l g b j hj hpj) (cwV 1 hts (gV w_ml_X0_63 w_im_X0_hourAt w_sel_X0_hourAt w_ini_X0 w_co_X0_hourAt) rfl rfl rfl (by decide +kernel) (by rw [hR1, hR2]; exact ⟨Nat.le_of_ble_eq_true rfl, Nat.le_of_ble_eq_true rfl⟩)) (preV_rd hP hK (va_recv hK.1 hP (ci := 0) (q0 := 0) rfl rfl)) rfl rfl hl.1 rfl (lv_room (Nat.le_of_ble_eq_true rfl)) dX0_gainFrom_2 ⟨by rw [hR3]; omega, by rw [hR4]; omega⟩) ?_
  refine lv_aload_n hx hb dX0_gainFrom_5 rfl (lv_at hl 0 rfl) ?_
  refine lv_iload_n hx hb dX0_gainFrom_6 rfl (lv_at hl 1 rfl) ?_
  refine cR_i (W.runV (As := [.int (nI (i))]) (rest := [.int (nI (hrB b j))]) ⟨hx, hb, hml, hown, hts⟩ (k_hourAt l g b i hi hpi) (cwV 1 hts (gV w_ml_X0_63 w_im_X0_hourAt w_sel_X0_hourAt w_ini_X0 w_co_X0_hourAt) rfl rfl rfl (by decide +kernel) (by rw [hR1, hR2]; exact ⟨Nat.le_of_ble_eq_true rfl, Nat.le_of_ble_eq_true rfl⟩)) (preV_rd hP hK (va_recv hK.1 hP (ci := 0) (q0 := 0) rfl rfl)) rfl rfl hl.1 rfl (lv_room (Nat.le_of_ble_eq_true rfl)) dX0_gainFrom_7 ⟨by rw [hR3]; omega, by rw [hR4]; omega⟩) ?_
  refine n_isub hx hb (by omega) dX0_gainFrom_10 ?_
  refine lv_istore_n (lv' := [(3, .int (nI ((hrB b j) - (hrB b i)))), (0, .ref (bA b 0)), (1, .int (nI (i))), (2, .int (nI (j)))]) hx hb dX0_gainFrom_11 rfl hl (by decide) rfl (fun ls hl => ?_)
  refine lv_iload_n hx hb dX0_gainFrom_12 rfl (lv_at hl 0 rfl) ?_
  refine bz_le (tgt := 35) hx hb (by omega) dX0_gainFrom_13 (by decide) (fun c1 => ?_) (fun c1 => ?_)
  · exact absurd c1 (by omega)
  · refine lv_aload_n hx hb dX0_gainFrom_16 rfl (lv_at hl 1 rfl) ?_
    refine lv_iload_n hx hb dX0_gainFrom_17 rfl (lv_at hl 3 rfl) ?_
    refine cR_i (W.runV (As := [.int (nI (j))]) (rest := []) ⟨hx, hb, hml, hown, hts⟩ (k_shareAt l g b j hj hpj) (cwV 1 hts (gV w_ml_X0_80 w_im_X0_shareAt w_sel_X0_shareAt w_ini_X0 w_co_X0_shareAt) rfl rfl rfl (by decide +kernel) (by rw [hR1, hR2]; exact ⟨Nat.le_of_ble_eq_true rfl, Nat.le_of_ble_eq_true rfl⟩)) (preV_rd hP hK (va_recv hK.1 hP (ci := 0) (q0 := 0) rfl rfl)) rfl rfl hl.1 rfl (lv_room (Nat.le_of_ble_eq_true rfl)) dX0_gainFrom_18 ⟨by rw [hR3]; omega, by rw [hR4]; omega⟩) ?_
    refine lv_aload_n hx hb dX0_gainFrom_21 rfl (lv_at hl 1 rfl) ?_
    refine lv_iload_n hx hb dX0_gainFrom_22 rfl (lv_at hl 2 rfl) ?_
    refine cR_i (W.runV (As := [.int (nI (i))]) (rest := [.int (nI (shB b j))]) ⟨hx, hb, hml, hown, hts⟩ (k_shareAt l g b i hi hpi) (cwV 1 hts (gV w_ml_X0_80 w_im_X0_shareAt w_sel_X0_shareAt w_ini_X0 w_co_X0_shareAt) rfl rfl rfl (by decide +kernel) (by rw [hR1, hR2]; exact ⟨Nat.le_of_ble_eq_true rfl, Nat.le_of_ble_eq_true rfl⟩)) (preV_rd hP hK (va_recv hK.1 hP (ci := 0) (q0 := 0) rfl rfl)) rfl rfl hl.1 rfl (lv_room (Nat.le_of_ble_eq_true rfl)) dX0_gainFrom_23 ⟨by rw [hR3]; omega, by rw [hR4]; omega⟩) ?_
    refine n_isub hx hb (by omega) dX0_gainFrom_26 ?_
    refine lv_bipush (v := nI (24)) hx hb dX0_gainFrom_27 (by decide) ?_
    refine n_imul hx hb dX0_gainFrom_29 ?_
    refine lv_iload_n hx hb dX0_gainFrom_30 rfl (lv_at hl 0 rfl) ?_
    refine n_idiv hx hb (by omega) (by omega) (by omega) dX0_gainFrom_31 ?_
    refine lv_goto (tgt := 36) hx hb dX0_gainFrom_32 (by decide) ?_
    subst hQQ
    exact W.iret hx hb hr (fun t9 ht _ => rdI (rfl) ht) (fun q h => absurd h List.not_mem_nil) dX0_gainFrom_36

