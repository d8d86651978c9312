set_option maxHeartbeats 4000000 in
set_option maxRecDepth 100000 in
theorem k_judge (l : Launch) (g : GG) (b : BinT) (hn : bN b ≤ 32) (hpl : ∀ i, i < bN b → bPl b i < 20000) (hso : ∀ i j, i < j → j < bN b → bPl b i < bPl b j) (ham : ∀ i, i < bN b → shB b i ≤ 1500) (sz : Nat) : Wv l yX0_judge wsX0_judge 3 65 0 0 [.ref (bA b 0)] g (wB g b) sz (wB g (jB b (bN b))) := by
  refine Met.ofW (cc := cX0_judge) (maxL := 4) (ret := none) (by decide) rfl ?_
  intro p e s m args below meth c s₁ BB hml hv
  obtain ⟨hargs, hsz, hP, hK, hD0⟩ := hv
  have hx := BB.exec
  have hb := BB.bytes
  have hr := BB.returns
  have hts : ∀ w ∈ BIG, w.before args s = true := fun w h => atoms_spec (ws := wsX0_judge) BB.pre w (List.mem_cons_of_mem _ h)
  have hown : s.vm.findClass RX0 = some m.cls := findClass_of_methodNamed BB.named
  have hlocks := BB.notSynchronized
  obtain ⟨RR, hRR⟩ : ∃ RR, RR = (headSpec wsX0_judge ⟨3, 0, 0, 65⟩).room := ⟨_, rfl⟩
  have hR1 : RR.frames = 3 := by rw [hRR]; rfl
  have hR2 : RR.locals = 65 := by rw [hRR]; rfl
  have hR3 : RR.cells = 0 := by rw [hRR]; rfl
  have hR4 : RR.slots = 0 := by rw [hRR]; rfl
  have hl := lv_entry ([.ref (bA b 0)]) (n := 4) (Nat.le_of_ble_eq_true rfl)
  have hent : entryFrame m args 4 = F0 m 0 ((lg_sl ([.ref (bA b 0)]) ++ List.replicate (4 - (lg_sl ([.ref (bA b 0)])).length) Slot.unset).toArray) [] := by rw [hargs, lg_entry_eq]
  rw [hent]
  generalize (lg_sl ([.ref (bA b 0)]) ++ List.replicate (4 - (lg_sl ([.ref (bA b 0)])).length) Slot.unset).toArray = ls at hl ⊢
  have hl : lv_has ls 4 [(0, .ref (bA b 0))] := hl
  subst hsz
  have hD := hD0.self (sz := s.heap.size)
  generalize hAe : va_A (wB g b) s.heap.size = A at hD ⊢
  have hA : ∀ q : Nat, s.heap.size ≤ q → A q := fun q h => by rw [← hAe]; exact Or.inr h
  have hS : va_S A s.heap s.heap [] := va_S.rf
  refine q_ab (R := RR) hRR ?_
  generalize hQQ : MQ below _ args s _ _ _ = QQ
  refine lv_iconst (v := (-1)) hx hb dX0_judge_0 (by decide) ?_
  refine lv_istore_n (lv' := [(1, .int (-1)), (0, .ref (bA b 0))]) hx hb dX0_judge_1 rfl hl (by decide) rfl (fun ls hl => ?_)
  refine lv_iconst (v := nI (0)) hx hb dX0_judge_2 (by decide) ?_
  refine lv_istore_n (lv' := [(2, .int (nI (0))), (1, .int (-1)), (0, .ref (bA b 0))]) hx hb dX0_judge_3 rfl hl (by decide) rfl (fun ls hl => ?_)
  have loop : ∀ (k : Nat) (j : Nat) (H : Heap) (locs : List Loc) (ls : Array Slot), (j ≤ bN b) → (bN b < j + k) → va_P g.1 vwCl (wB g (jB b j)) H → va_D A (wB g (jB b j)) → va_S A s.heap H locs → lv_has ls 4 [(0, .ref (bA b 0)), (1, .int (gI (bef b j))), (2, .int (nI (j)))] → W p l e RR s m args below meth c H locs 0 0 QQ (F0 m 4 ls []) := by
    intro k
    induction k with
    | zero => intro j H locs ls hj hk hP hD hS hl; exact absurd hk (by omega)
    | succ k ih =>
      intro j H locs ls hj hk hP hD hS hl
      refine lv_iload_n hx hb dX0_judge_4 rfl (lv_at hl 2 rfl) ?_
      refine lv_aload_n hx hb dX0_judge_5 rfl (lv_at hl 0 rfl) ?_
      refine va_get (D := g.1) (ci := 0) (v := .int (nI (bN b))) (C := RX0) (T := TX0) (N := 8) hx hb hts hiX0 hown hK.1 hP 0 rfl rfl 6 (by decide) (hts _ w_fl_X0_32) (fun _ h9 => h9) rfl dX0_judge_6 ?_
      refine bn_ge (tgt := 105) hx hb (by omega) (by omega) dX0_judge_9 (by decide) (fun c1 => ?_) (fun c1 => ?_)
      · have hjn : j = bN b := by omega
        subst hjn
        subst hQQ
        exact W.vret hx hb hr (fun t9 ht _ => ⟨⟨(), rfl, trivial, hpT ht hP⟩, hS.F ht⟩) hS.2.2 dX0_judge_105
      · have hpj := hpl j c1
        have hsj := ham j c1
        refine lv_aload_n hx hb dX0_judge_12 rfl (lv_at hl 0 rfl) ?_
        refine lv_iload_n hx hb dX0_judge_13 rfl (lv_at hl 2 rfl) ?_
        refine cR_i (W.runV (As := [.int (nI (j))]) (rest := []) ⟨hx, hb, hml, hown, hts⟩ (k_isRow l g (jB b j) j (by omega) (Nat.lt_trans hpj (by decide))) (cwV 1 hts (gV w_ml_X0_38 w_im_X0_isRow w_sel_X0_isRow w_ini_X0 w_co_X0_isRow) rfl rfl rfl (by decide +kernel) (by rw [hR1, hR2]; exact ⟨Nat.le_of_ble_eq_true rfl, Nat.le_of_ble_eq_true rfl⟩)) (preV_rd hP hK (va_recv hK.1 hP (ci := 0) (q0 := 0) rfl rfl)) rfl rfl hl.1 rfl (lv_room (Nat.le_of_ble_eq_true rfl)) dX0_judge_14 ⟨by rw [hR3]; omega, by rw [hR4]; omega⟩) ?_
        refine bb_eq (tgt := 29) hx hb dX0_judge_17 (by decide) (fun c2 => ?_) (fun c2 => ?_)
        · have c2 : rowB b j = false := c2
          have hwf : wrgF b (bef b j) j = false := by unfold wrgF; split; rfl; rw [c2]; rfl
          have hgn : gnF b (bef b j) j = none := by unfold gnF; split; rfl; rw [c2]; rfl
          refine lv_iconst (v := bI (false)) hx hb dX0_judge_29 (by decide) ?_
          refine lv_istore_n (lv' := [(3, .int (bI (false))), (0, .ref (bA b 0)), (1, .int (gI (bef b j))), (2, .int (nI (j)))]) hx hb dX0_judge_30 rfl hl (by decide) rfl (fun ls hl => ?_)
          refine lv_aload_n hx hb dX0_judge_31 rfl (lv_at hl 1 rfl) ?_
          refine va_get (D := g.1) (ci := 0) (v := .ref (bA b 3)) (C := RX0) (T := TX0) (N := 8) hx hb hts hiX0 hown hK.1 hP 0 rfl rfl 4 (by decide) (hts _ w_fl_X0_25) (fun _ h9 => h9) rfl dX0_judge_32 ?_
          refine lv_iload_n hx hb dX0_judge_35 rfl (lv_at hl 3 rfl) ?_
          refine lv_iload_n hx hb dX0_judge_36 rfl (lv_at hl 0 rfl) ?_
          refine bb_eq (tgt := 57) hx hb dX0_judge_37 (by decide) (fun c5 => ?_) (fun c5 => ?_)
          · refine lv_iconst (v := bI (false)) hx hb dX0_judge_57 (by decide) ?_
            refine tp_i (y := bI (wrgF b (bef b j) j)) (by rw [hwf]) ?_
            refine n_zastE (f := jW b j) (x := wrgF b (bef b j) j) (k := j) hx hb hK.1 hP hD hS 3 1 rfl rfl (by omega) (by decide) dX0_judge_58 (fun H locs hP hD hS => ?_)
            have hP : va_P g.1 vwCl (wB g (bsGn (bsWr b (va_up (jW b j) j (wrgF b (bef b j) j))) (jG b j))) H := hP
            have hD : va_D A (wB g (bsGn (bsWr b (va_up (jW b j) j (wrgF b (bef b j) j))) (jG b j))) := hD
            rw [jW_s] at hP hD
            refine lv_aload_n hx hb dX0_judge_59 rfl (lv_at hl 1 rfl) ?_
            refine va_get (D := g.1) (ci := 0) (v := .ref (bA b 4)) (C := RX0) (T := TX0) (N := 8) hx hb hts hiX0 hown hK.1 hP 0 rfl rfl 5 (by decide) (hts _ w_fl_X0_29) (fun _ h9 => h9) rfl dX0_judge_60 ?_
            refine lv_iload_n hx hb dX0_judge_63 rfl (lv_at hl 3 rfl) ?_
            refine lv_iload_n hx hb dX0_judge_64 rfl (lv_at hl 0 rfl) ?_
            refine bb_eq (tgt := 86) hx hb dX0_judge_65 (by decide) (fun c6 => ?_) (fun c6 => ?_)
            · refine lv_iconst (v := (-1)) hx hb dX0_judge_86 (by decide) ?_
              refine tp_i (y := gI (gnF b (bef b j) j)) (by rw [hgn]; rfl) ?_
              refine n_iastE (enc := gI) (f := jG b j) (x := gnF b (bef b j) j) (k := j) hx hb hK.1 hP hD hS 4 0 rfl rfl (by omega) (by decide) dX0_judge_87 (fun H locs hP hD hS => ?_)
              have hP : va_P g.1 vwCl (wB g (bsGn (bsWr b (jW b (j + 1))) (va_up (jG b j) j (gnF b (bef b j) j)))) H := hP
              have hD : va_D A (wB g (bsGn (bsWr b (jW b (j + 1))) (va_up (jG b j) j (gnF b (bef b j) j)))) := hD
              rw [jG_s] at hP hD
              have hP : va_P g.1 vwCl (wB g (jB b (j + 1))) H := hP
              have hD : va_D A (wB g (jB b (j + 1))) := hD
              refine lv_aload_n hx hb dX0_judge_88 rfl (lv_at hl 1 rfl) ?_
              refine va_get (D := g.1) (ci := 0) (v := .ref (bA b 3)) (C := RX0) (T := TX0) (N := 8) hx hb hts hiX0 hown hK.1 hP 0 rfl rfl 4 (by decide) (hts _ w_fl_X0_25) (fun _ h9 => h9) rfl dX0_judge_89 ?_
              refine lv_iload_n hx hb dX0_judge_92 rfl (lv_at hl 3 rfl) ?_
              refine n_zald (k := j) (v := bI (jW b (j + 1) j)) hx hb hK.1 hP 3 1 rfl rfl (by omega) (by decide) (rfl) dX0_judge_93 ?_
              refine bb_ne (tgt := 99) hx hb dX0_judge_94 (by decide) (fun c8 => ?_) (fun c8 => ?_)
              · rw [jW_at] at c8
                exact absurd c8 (by rw [hwf]; decide)
              · rw [jW_at] at c8
                refine lv_iload_n hx hb dX0_judge_97 rfl (lv_at hl 3 rfl) ?_
                refine lv_istore_n (lv' := [(1, .int (nI (j))), (3, .int (bI (false))), (0, .ref (bA b 0)), (2, .int (nI (j)))]) hx hb dX0_judge_98 rfl hl (by decide) rfl (fun ls hl => ?_)
                refine lv_iinc (v := nI (j + 1)) (lv' := [(2, .int (nI (j + 1))), (1, .int (nI (j))), (3, .int (bI (false))), (0, .ref (bA b 0))]) hx hb dX0_judge_99 hl (k := 3) rfl (nI_1 _) (by decide) rfl (fun ls hl => ?_)
                refine lv_goto (tgt := 4) hx hb dX0_judge_102 (by decide) ?_
                exact ih (j + 1) H locs ls (by omega) (by omega) hP hD hS (by rw [bef, if_neg (by rw [hwf]; decide)]; exact lv_sub hl [3, 1, 0] rfl)
            · exact absurd c6 (by decide)
          · exact absurd c5 (by decide)
        · have c2 : rowB b j = true := c2
          refine lv_iload_n hx hb dX0_judge_20 rfl (lv_at hl 1 rfl) ?_
          refine lv_iconst (v := (-1)) hx hb dX0_judge_21 (by decide) ?_
          refine lv_icmp_eq (tgt := 29) hx hb dX0_judge_22 (by decide) (fun c3 => ?_) (fun c3 => ?_)
          · have hbn : bef b j = none := (gI_m1 (fun v hv => by have := bef_lt hv; omega)).mp c3
            have hwf : wrgF b (bef b j) j = false := by rw [hbn]; rfl
            have hgn : gnF b (bef b j) j = none := by rw [hbn]; rfl
            refine lv_iconst (v := bI (false)) hx hb dX0_judge_29 (by decide) ?_
            refine lv_istore_n (lv' := [(3, .int (bI (false))), (0, .ref (bA b 0)), (1, .int (gI (bef b j))), (2, .int (nI (j)))]) hx hb dX0_judge_30 rfl hl (by decide) rfl (fun ls hl => ?_)
            refine lv_aload_n hx hb dX0_judge_31 rfl (lv_at hl 1 rfl) ?_
            refine va_get (D := g.1) (ci := 0) (v := .ref (bA b 3)) (C := RX0) (T := TX0) (N := 8) hx hb hts hiX0 hown hK.1 hP 0 rfl rfl 4 (by decide) (hts _ w_fl_X0_25) (fun _ h9 => h9) rfl dX0_judge_32 ?_
            refine lv_iload_n hx hb dX0_judge_35 rfl (lv_at hl 3 rfl) ?_
            refine lv_iload_n hx hb dX0_judge_36 rfl (lv_at hl 0 rfl) ?_
            refine bb_eq (tgt := 57) hx hb dX0_judge_37 (by decide) (fun c5 => ?_) (fun c5 => ?_)
            · refine lv_iconst (v := bI (false)) hx hb dX0_judge_57 (by decide) ?_
              refine tp_i (y := bI (wrgF b (bef b j) j)) (by rw [hwf]) ?_
              refine n_zastE (f := jW b j) (x := wrgF b (bef b j) j) (k := j) hx hb hK.1 hP hD hS 3 1 rfl rfl (by omega) (by decide) dX0_judge_58 (fun H locs hP hD hS => ?_)
              have hP : va_P g.1 vwCl (wB g (bsGn (bsWr b (va_up (jW b j) j (wrgF b (bef b j) j))) (jG b j))) H := hP
              have hD : va_D A (wB g (bsGn (bsWr b (va_up (jW b j) j (wrgF b (bef b j) j))) (jG b j))) := hD
              rw [jW_s] at hP hD
              refine lv_aload_n hx hb dX0_judge_59 rfl (lv_at hl 1 rfl) ?_
              refine va_get (D := g.1) (ci := 0) (v := .ref (bA b 4)) (C := RX0) (T := TX0) (N := 8) hx hb hts hiX0 hown hK.1 hP 0 rfl rfl 5 (by decide) (hts _ w_fl_X0_29) (fun _ h9 => h9) rfl dX0_judge_60 ?_
              refine lv_iload_n hx hb dX0_judge_63 rfl (lv_at hl 3 rfl) ?_
              refine lv_iload_n hx hb dX0_judge_64 rfl (lv_at hl 0 rfl) ?_
              refine bb_eq (tgt := 86) hx hb dX0_judge_65 (by decide) (fun c6 => ?_) (fun c6 => ?_)
              · refine lv_iconst (v := (-1)) hx hb dX0_judge_86 (by decide) ?_
                refine tp_i (y := gI (gnF b (bef b j) j)) (by rw [hgn]; rfl) ?_
                refine n_iastE (enc := gI) (f := jG b j) (x := gnF b (bef b j) j) (k := j) hx hb hK.1 hP hD hS 4 0 rfl rfl (by omega) (by decide) dX0_judge_87 (fun H locs hP hD hS => ?_)
                have hP : va_P g.1 vwCl (wB g (bsGn (bsWr b (jW b (j + 1))) (va_up (jG b j) j (gnF b (bef b j) j)))) H := hP
                have hD : va_D A (wB g (bsGn (bsWr b (jW b (j + 1))) (va_up (jG b j) j (gnF b (bef b j) j)))) := hD
                rw [jG_s] at hP hD
                have hP : va_P g.1 vwCl (wB g (jB b (j + 1))) H := hP
                have hD : va_D A (wB g (jB b (j + 1))) := hD
                refine lv_aload_n hx hb dX0_judge_88 rfl (lv_at hl 1 rfl) ?_
                refine va_get (D := g.1) (ci := 0) (v := .ref (bA b 3)) (C := RX0) (T := TX0) (N := 8) hx hb hts hiX0 hown hK.1 hP 0 rfl rfl 4 (by decide) (hts _ w_fl_X0_25) (fun _ h9 => h9) rfl dX0_judge_89 ?_
                refine lv_iload_n hx hb dX0_judge_92 rfl (lv_at hl 3 rfl) ?_
                refine n_zald (k := j) (v := bI (jW b (j + 1) j)) hx hb hK.1 hP 3 1 rfl rfl (by omega) (by decide) (rfl) dX0_judge_93 ?_
                refine bb_ne (tgt := 99) hx hb dX0_judge_94 (by decide) (fun c8 => ?_) (fun c8 => ?_)
                · rw [jW_at] at c8
                  exact absurd c8 (by rw [hwf]; decide)
                · rw [jW_at] at c8
                  refine lv_iload_n hx hb dX0_judge_97 rfl (lv_at hl 3 rfl) ?_
                  refine lv_istore_n (lv' := [(1, .int (nI (j))), (3, .int (bI (false))), (0, .ref (bA b 0)), (2, .int (nI (j)))]) hx hb dX0_judge_98 rfl hl (by decide) rfl (fun ls hl => ?_)
                  refine lv_iinc (v := nI (j + 1)) (lv' := [(2, .int (nI (j + 1))), (1, .int (nI (j))), (3, .int (bI (false))), (0, .ref (bA b 0))]) hx hb dX0_judge_99 hl (k := 3) rfl (nI_1 _) (by decide) rfl (fun ls hl => ?_)
                  refine lv_goto (tgt := 4) hx hb dX0_judge_102 (by decide) ?_
                  exact ih (j + 1) H locs ls (by omega) (by omega) hP hD hS (by rw [bef, if_neg (by rw [hwf]; decide)]; exact lv_sub hl [3, 1, 0] rfl)
              · exact absurd c6 (by decide)
            · exact absurd c5 (by decide)
          · obtain ⟨a, hba⟩ : ∃ a, bef b j = some a := by
              cases hv : bef b j with
              | none => exact absurd (by rw [hv]; rfl) c3
              | some a => exact ⟨a, rfl⟩
            have haj := bef_lt hba
            have hpa := hpl a (by omega)
            have hsa := ham a (by omega)
            have hla := hso a j haj c1
            have hev : bPl b j % 2 = 0 := of_decide_eq_true c2
            have hh : hrB b a < hrB b j := by unfold hrB; omega
            rw [show gI (bef b j) = nI a by rw [hba]; rfl] at hl
            have hl : lv_has ls 4 [(0, .ref (bA b 0)), (1, .int (nI (a))), (2, .int (nI (j)))] := hl
            refine lv_iconst (v := bI (true)) hx hb dX0_judge_25 (by decide) ?_
            refine lv_goto (tgt := 30) hx hb dX0_judge_26 (by decide) ?_
            refine lv_istore_n (lv' := [(3, .int (bI (true))), (0, .ref (bA b 0)), (1, .int (nI (a))), (2, .int (nI (j)))]) hx hb dX0_judge_30 rfl hl (by decide) rfl (fun ls hl => ?_)
            refine lv_aload_n hx hb dX0_judge_31 rfl (lv_at hl 1 rfl) ?_
            refine va_get (D := g.1) (ci := 0) (v := .ref (bA b 3)) (C := RX0) (T := TX0) (N := 8) hx hb hts hiX0 hown hK.1 hP 0 rfl rfl 4 (by decide) (hts _ w_fl_X0_25) (fun _ h9 => h9) rfl dX0_judge_32 ?_
            refine lv_iload_n hx hb dX0_judge_35 rfl (lv_at hl 3 rfl) ?_
            refine lv_iload_n hx hb dX0_judge_36 rfl (lv_at hl 0 rfl) ?_
            refine bb_eq (tgt := 57) hx hb dX0_judge_37 (by decide) (fun c5 => ?_) (fun c5 => ?_)
            · exact absurd c5 (by decide)
            · refine lv_aload_n hx hb dX0_judge_40 rfl (lv_at hl 1 rfl) ?_
              refine lv_iload_n hx hb dX0_judge_41 rfl (lv_at hl 3 rfl) ?_
              refine cR_i (W.runV (As := [.int (nI (j))]) (rest := [.int (nI (j)), .ref (bA b 3)]) ⟨hx, hb, hml, hown, hts⟩ (k_shareAt l g (jB b j) j (by omega) (Nat.lt_trans hpj (by decide))) (cwV 1 hts (gV w_ml_X0_80 w_im_X0_shareAt w_sel_X0_shareAt w_ini_X0 w_co_X0_shareAt) rfl rfl rfl (by decide +kernel) (by rw [hR1, hR2]; exact ⟨Nat.le_of_ble_eq_true rfl, Nat.le_of_ble_eq_true rfl⟩)) (preV_rd hP hK (va_recv hK.1 hP (ci := 0) (q0 := 0) rfl rfl)) rfl rfl hl.1 rfl (lv_room (Nat.le_of_ble_eq_true rfl)) dX0_judge_42 ⟨by rw [hR3]; omega, by rw [hR4]; omega⟩) ?_
              refine lv_aload_n hx hb dX0_judge_45 rfl (lv_at hl 1 rfl) ?_
              refine lv_iload_n hx hb dX0_judge_46 rfl (lv_at hl 2 rfl) ?_
              refine cR_i (W.runV (As := [.int (nI (a))]) (rest := [.int (nI (shB b j)), .int (nI (j)), .ref (bA b 3)]) ⟨hx, hb, hml, hown, hts⟩ (k_shareAt l g (jB b j) a (by omega) (Nat.lt_trans hpa (by decide))) (cwV 1 hts (gV w_ml_X0_80 w_im_X0_shareAt w_sel_X0_shareAt w_ini_X0 w_co_X0_shareAt) rfl rfl rfl (by decide +kernel) (by rw [hR1, hR2]; exact ⟨Nat.le_of_ble_eq_true rfl, Nat.le_of_ble_eq_true rfl⟩)) (preV_rd hP hK (va_recv hK.1 hP (ci := 0) (q0 := 0) rfl rfl)) rfl rfl hl.1 rfl (lv_room (Nat.le_of_ble_eq_true rfl)) dX0_judge_47 ⟨by rw [hR3]; omega, by rw [hR4]; omega⟩) ?_
              refine W.eq (g2 := F0 m 50 ls [.int (nI (shB b a)), .int (nI (shB b j)), .int (nI (j)), .ref (bA b 3)]) rfl ?_
              refine bn_ge (tgt := 57) hx hb (by omega) (by omega) dX0_judge_50 (by decide) (fun c6 => ?_) (fun c6 => ?_)
              · have hwf : wrgF b (bef b j) j = false := by rw [hba, wrgF_some, c2, decide_eq_false (by omega)]; rfl
                have hgn : gnF b (bef b j) j = some ((shB b j - shB b a) * 24 / (hrB b j - hrB b a)) := by rw [hba, gnF_some, c2, decide_eq_false (by omega)]; rfl
                refine lv_iconst (v := bI (false)) hx hb dX0_judge_57 (by decide) ?_
                refine tp_i (y := bI (wrgF b (bef b j) j)) (by rw [hwf]) ?_
                refine n_zastE (f := jW b j) (x := wrgF b (bef b j) j) (k := j) hx hb hK.1 hP hD hS 3 1 rfl rfl (by omega) (by decide) dX0_judge_58 (fun H locs hP hD hS => ?_)
                have hP : va_P g.1 vwCl (wB g (bsGn (bsWr b (va_up (jW b j) j (wrgF b (bef b j) j))) (jG b j))) H := hP
                have hD : va_D A (wB g (bsGn (bsWr b (va_up (jW b j) j (wrgF b (bef b j) j))) (jG b j))) := hD
                rw [jW_s] at hP hD
                refine lv_aload_n hx hb dX0_judge_59 rfl (lv_at hl 1 rfl) ?_
                refine va_get (D := g.1) (ci := 0) (v := .ref (bA b 4)) (C := RX0) (T := TX0) (N := 8) hx hb hts hiX0 hown hK.1 hP 0 rfl rfl 5 (by decide) (hts _ w_fl_X0_29) (fun _ h9 => h9) rfl dX0_judge_60 ?_
                refine lv_iload_n hx hb dX0_judge_63 rfl (lv_at hl 3 rfl) ?_
                refine lv_iload_n hx hb dX0_judge_64 rfl (lv_at hl 0 rfl) ?_
                refine bb_eq (tgt := 86) hx hb dX0_judge_65 (by decide) (fun c7 => ?_) (fun c7 => ?_)
                · exact absurd c7 (by decide)
                · refine lv_aload_n hx hb dX0_judge_68 rfl (lv_at hl 1 rfl) ?_
                  refine va_get (D := g.1) (ci := 0) (v := .ref (bA b 3)) (C := RX0) (T := TX0) (N := 8) hx hb hts hiX0 hown hK.1 hP 0 rfl rfl 4 (by decide) (hts _ w_fl_X0_25) (fun _ h9 => h9) rfl dX0_judge_69 ?_
                  refine lv_iload_n hx hb dX0_judge_72 rfl (lv_at hl 3 rfl) ?_
                  refine n_zald (k := j) (v := bI (jW b (j + 1) j)) hx hb hK.1 hP 3 1 rfl rfl (by omega) (by decide) (rfl) dX0_judge_73 ?_
                  refine bb_ne (tgt := 86) hx hb dX0_judge_74 (by decide) (fun c8 => ?_) (fun c8 => ?_)
                  · rw [jW_at] at c8
                    exact absurd c8 (by rw [hwf]; decide)
                  · refine lv_aload_n hx hb dX0_judge_77 rfl (lv_at hl 1 rfl) ?_
                    refine lv_iload_n hx hb dX0_judge_78 rfl (lv_at hl 2 rfl) ?_
                    refine lv_iload_n hx hb dX0_judge_79 rfl (lv_at hl 3 rfl) ?_
                    refine cR_i (W.runV (As := [.int (nI (a)), .int (nI (j))]) (rest := [.int (nI (j)), .ref (bA b 4)]) ⟨hx, hb, hml, hown, hts⟩ (k_gainFrom l g (bsGn (bsWr b (jW b (j + 1))) (jG b j)) a j (by omega) (by omega) (Nat.lt_trans hpa (by decide)) (Nat.lt_trans hpj (by decide)) hh c6 hsj) (cwV 2 hts (gV w_ml_X0_83 w_im_X0_gainFrom w_sel_X0_gainFrom w_ini_X0 w_co_X0_gainFrom) rfl rfl rfl (by decide +kernel) (by rw [hR1, hR2]; exact ⟨Nat.le_of_ble_eq_true rfl, Nat.le_of_ble_eq_true rfl⟩)) (preV_rd hP hK (va_recv hK.1 hP (ci := 0) (q0 := 0) rfl rfl)) rfl rfl hl.1 rfl (lv_room (Nat.le_of_ble_eq_true rfl)) dX0_judge_80 ⟨by rw [hR3]; omega, by rw [hR4]; omega⟩) ?_
                    refine lv_goto (tgt := 87) hx hb dX0_judge_83 (by decide) ?_
                    refine tp_i (y := gI (gnF b (bef b j) j)) (by rw [hgn]; rfl) ?_
                    refine W.eq (g2 := F0 m 87 ls [.int (gI (gnF b (bef b j) j)), .int (nI (j)), .ref (bA b 4)]) rfl ?_
                    refine n_iastE (enc := gI) (f := jG b j) (x := gnF b (bef b j) j) (k := j) hx hb hK.1 hP hD hS 4 0 rfl rfl (by omega) (by decide) dX0_judge_87 (fun H locs hP hD hS => ?_)
                    have hP : va_P g.1 vwCl (wB g (bsGn (bsWr b (jW b (j + 1))) (va_up (jG b j) j (gnF b (bef b j) j)))) H := hP
                    have hD : va_D A (wB g (bsGn (bsWr b (jW b (j + 1))) (va_up (jG b j) j (gnF b (bef b j) j)))) := hD
                    rw [jG_s] at hP hD
                    have hP : va_P g.1 vwCl (wB g (jB b (j + 1))) H := hP
                    have hD : va_D A (wB g (jB b (j + 1))) := hD
                    refine lv_aload_n hx hb dX0_judge_88 rfl (lv_at hl 1 rfl) ?_
                    refine va_get (D := g.1) (ci := 0) (v := .ref (bA b 3)) (C := RX0) (T := TX0) (N := 8) hx hb hts hiX0 hown hK.1 hP 0 rfl rfl 4 (by decide) (hts _ w_fl_X0_25) (fun _ h9 => h9) rfl dX0_judge_89 ?_
                    refine lv_iload_n hx hb dX0_judge_92 rfl (lv_at hl 3 rfl) ?_
                    refine n_zald (k := j) (v := bI (jW b (j + 1) j)) hx hb hK.1 hP 3 1 rfl rfl (by omega) (by decide) (rfl) dX0_judge_93 ?_
                    refine bb_ne (tgt := 99) hx hb dX0_judge_94 (by decide) (fun c8 => ?_) (fun c8 => ?_)
                    · rw [jW_at] at c8
                      exact absurd c8 (by rw [hwf]; decide)
                    · rw [jW_at] at c8
                      refine lv_iload_n hx hb dX0_judge_97 rfl (lv_at hl 3 rfl) ?_
                      refine lv_istore_n (lv' := [(1, .int (nI (j))), (3, .int (bI (true))), (0, .ref (bA b 0)), (2, .int (nI (j)))]) hx hb dX0_judge_98 rfl hl (by decide) rfl (fun ls hl => ?_)
                      refine lv_iinc (v := nI (j + 1)) (lv' := [(2, .int (nI (j + 1))), (1, .int (nI (j))), (3, .int (bI (true))), (0, .ref (bA b 0))]) hx hb dX0_judge_99 hl (k := 3) rfl (nI_1 _) (by decide) rfl (fun ls hl => ?_)
                      refine lv_goto (tgt := 4) hx hb dX0_judge_102 (by decide) ?_
                      exact ih (j + 1) H locs ls (by omega) (by omega) hP hD hS (by rw [bef, if_neg (by rw [hwf]; decide)]; exact lv_sub hl [3, 1, 0] rfl)
              · have hwt : wrgF b (bef b j) j = true := by rw [hba, wrgF_some, c2, decide_eq_true c6]; rfl
                have hgn : gnF b (bef b j) j = none := by rw [hba, gnF_some, c2, decide_eq_true c6]; rfl
                refine lv_iconst (v := bI (true)) hx hb dX0_judge_53 (by decide) ?_
                refine lv_goto (tgt := 58) hx hb dX0_judge_54 (by decide) ?_
                refine tp_i (y := bI (wrgF b (bef b j) j)) (by rw [hwt]) ?_
                refine n_zastE (f := jW b j) (x := wrgF b (bef b j) j) (k := j) hx hb hK.1 hP hD hS 3 1 rfl rfl (by omega) (by decide) dX0_judge_58 (fun H locs hP hD hS => ?_)
                have hP : va_P g.1 vwCl (wB g (bsGn (bsWr b (va_up (jW b j) j (wrgF b (bef b j) j))) (jG b j))) H := hP
                have hD : va_D A (wB g (bsGn (bsWr b (va_up (jW b j) j (wrgF b (bef b j) j))) (jG b j))) := hD
                rw [jW_s] at hP hD
                refine lv_aload_n hx hb dX0_judge_59 rfl (lv_at hl 1 rfl) ?_
                refine va_get (D := g.1) (ci := 0) (v := .ref (bA b 4)) (C := RX0) (T := TX0) (N := 8) hx hb hts hiX0 hown hK.1 hP 0 rfl rfl 5 (by decide) (hts _ w_fl_X0_29) (fun _ h9 => h9) rfl dX0_judge_60 ?_
                refine lv_iload_n hx hb dX0_judge_63 rfl (lv_at hl 3 rfl) ?_
                refine lv_iload_n hx hb dX0_judge_64 rfl (lv_at hl 0 rfl) ?_
                refine bb_eq (tgt := 86) hx hb dX0_judge_65 (by decide) (fun c7 => ?_) (fun c7 => ?_)
                · exact absurd c7 (by decide)
                · refine lv_aload_n hx hb dX0_judge_68 rfl (lv_at hl 1 rfl) ?_
                  refine va_get (D := g.1) (ci := 0) (v := .ref (bA b 3)) (C := RX0) (T := TX0) (N := 8) hx hb hts hiX0 hown hK.1 hP 0 rfl rfl 4 (by decide) (hts _ w_fl_X0_25) (fun _ h9 => h9) rfl dX0_judge_69 ?_
                  refine lv_iload_n hx hb dX0_judge_72 rfl (lv_at hl 3 rfl) ?_
                  refine n_zald (k := j) (v := bI (jW b (j + 1) j)) hx hb hK.1 hP 3 1 rfl rfl (by omega) (by decide) (rfl) dX0_judge_73 ?_
                  refine bb_ne (tgt := 86) hx hb dX0_judge_74 (by decide) (fun c8 => ?_) (fun c8 => ?_)
                  · refine lv_iconst (v := (-1)) hx hb dX0_judge_86 (by decide) ?_
                    refine tp_i (y := gI (gnF b (bef b j) j)) (by rw [hgn]; rfl) ?_
                    refine n_iastE (enc := gI) (f := jG b j) (x := gnF b (bef b j) j) (k := j) hx hb hK.1 hP hD hS 4 0 rfl rfl (by omega) (by decide) dX0_judge_87 (fun H locs hP hD hS => ?_)
                    have hP : va_P g.1 vwCl (wB g (bsGn (bsWr b (jW b (j + 1))) (va_up (jG b j) j (gnF b (bef b j) j)))) H := hP
                    have hD : va_D A (wB g (bsGn (bsWr b (jW b (j + 1))) (va_up (jG b j) j (gnF b (bef b j) j)))) := hD
                    rw [jG_s] at hP hD
                    have hP : va_P g.1 vwCl (wB g (jB b (j + 1))) H := hP
                    have hD : va_D A (wB g (jB b (j + 1))) := hD
                    refine lv_aload_n hx hb dX0_judge_88 rfl (lv_at hl 1 rfl) ?_
                    refine va_get (D := g.1) (ci := 0) (v := .ref (bA b 3)) (C := RX0) (T := TX0) (N := 8) hx hb hts hiX0 hown hK.1 hP 0 rfl rfl 4 (by decide) (hts _ w_fl_X0_25) (fun _ h9 => h9) rfl dX0_judge_89 ?_
                    refine lv_iload_n hx hb dX0_judge_92 rfl (lv_at hl 3 rfl) ?_
                    refine n_zald (k := j) (v := bI (jW b (j + 1) j)) hx hb hK.1 hP 3 1 rfl rfl (by omega) (by decide) (rfl) dX0_judge_93 ?_
                    refine bb_ne (tgt := 99) hx hb dX0_judge_94 (by decide) (fun c9 => ?_) (fun c9 => ?_)
                    · refine lv_iinc (v := nI (j + 1)) (lv' := [(2, .int (nI (j + 1))), (3, .int (bI (true))), (0, .ref (bA b 0)), (1, .int (nI (a)))]) hx hb dX0_judge_99 hl (k := 3) rfl (nI_1 _) (by decide) rfl (fun ls hl => ?_)
                      refine lv_goto (tgt := 4) hx hb dX0_judge_102 (by decide) ?_
                      exact ih (j + 1) H locs ls (by omega) (by omega) hP hD hS (by rw [bef, if_pos hwt, hba]; exact lv_sub hl [2, 3, 0] rfl)
                    · rw [jW_at] at c9
                      exact absurd c9 (by rw [hwt]; decide)
                  · rw [jW_at] at c8
                    exact absurd c8 (by rw [hwt]; decide)
  have e0 : wB g (jB b 0) = wB g b := by unfold jB; rw [show jW b 0 = bWr b by funext x; unfold jW; rw [if_neg (by omega)], show jG b 0 = bGn b by funext x; unfold jG; rw [if_neg (by omega)]]; rfl
  exact loop (bN b + 1) 0 _ _ ls (Nat.zero_le _) (by omega) (by rw [e0]; exact hP) (by rw [e0]; exact hD) hS (lv_sub hl [2, 1, 0] rfl)

