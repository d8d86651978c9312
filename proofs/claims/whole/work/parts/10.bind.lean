set_option maxHeartbeats 4000000 in
set_option maxRecDepth 100000 in
theorem k_meanOn (l : Launch) (g : GG) (b : BinT) (ca fa : Nat → Nat) (hol : Nat → Bool) (wt : Nat → Nat) (wd : Nat) (hwd : wd < 7) (hn : bN b ≤ 32) (hpl : ∀ i, i < bN b → bPl b i < 20000) (hg : ∀ i v, i < bN b → bGn b i = some v → v ≤ 36000) (hw : ∀ a, a < 8 → 1 ≤ wt a ∧ wt a ≤ 4782969) : Rd l yX0_meanOn wsX0_meanOn 1 21 [.ref (bA b 0), .int (nI (wd)), .ref (ca 0), .ref (fa 0)] g (wB g b ++ (wC g ca hol ++ wF g fa wt)) (gI (mnV (mnR (fun i => if wdy hol (hrB b i / 24) = wd then bGn b i else none) wt (bN b) 0))) := by
  refine Met.ofW (cc := cX0_meanOn) (maxL := 12) (ret := (some .int)) (by decide) rfl ?_
  intro p e s m args below meth c s₁ BB hml hv
  obtain ⟨hargs, hP, hK⟩ := hv
  have hx := BB.exec
  have hb := BB.bytes
  have hr := BB.returns
  have hts : ∀ w ∈ BIG, w.before args s = true := fun w h => atoms_spec (ws := wsX0_meanOn) BB.pre w (List.mem_cons_of_mem _ h)
  have hown : s.vm.findClass RX0 = some m.cls := findClass_of_methodNamed BB.named
  have hlocks := BB.notSynchronized
  obtain ⟨RR, hRR⟩ : ∃ RR, RR = (headSpec wsX0_meanOn ⟨1, 0, 0, 21⟩).room := ⟨_, rfl⟩
  have hR1 : RR.frames = 1 := by rw [hRR]; rfl
  have hR2 : RR.locals = 21 := by rw [hRR]; rfl
  have hR3 : RR.cells = 0 := by rw [hRR]; rfl
  have hR4 : RR.slots = 0 := by rw [hRR]; rfl
  have hl := lv_entry ([.ref (bA b 0), .int (nI (wd)), .ref (ca 0), .ref (fa 0)]) (n := 12) (Nat.le_of_ble_eq_true rfl)
  have hent : entryFrame m args 12 = F0 m 0 ((lg_sl ([.ref (bA b 0), .int (nI (wd)), .ref (ca 0), .ref (fa 0)]) ++ List.replicate (12 - (lg_sl ([.ref (bA b 0), .int (nI (wd)), .ref (ca 0), .ref (fa 0)])).length) Slot.unset).toArray) [] := by rw [hargs, lg_entry_eq]
  rw [hent]
  generalize (lg_sl ([.ref (bA b 0), .int (nI (wd)), .ref (ca 0), .ref (fa 0)]) ++ List.replicate (12 - (lg_sl ([.ref (bA b 0), .int (nI (wd)), .ref (ca 0), .ref (fa 0)])).length) Slot.unset).toArray = ls at hl ⊢
  have hl : lv_has ls 12 [(0, .ref (bA b 0)), (1, .int (nI (wd))), (2, .ref (ca 0)), (3, .ref (fa 0))] := hl
  refine q_ab (R := RR) hRR ?_
  generalize hQQ : MQ below _ args s _ _ _ = QQ
  have hPb := P_left hP
  have hPc := P_left (P_right hP)
  have hPf := P_right (P_right hP)
  refine lv_lconst (v := lN 0) hx hb dX0_meanOn_0 (by decide) ?_
  refine lv_lstore (lv' := [(4, .long (lN (0))), (0, .ref (bA b 0)), (1, .int (nI (wd))), (2, .ref (ca 0)), (3, .ref (fa 0))]) hx hb dX0_meanOn_1 hl (by decide) rfl (fun ls hl => ?_)
  refine lv_lconst (v := lN 0) hx hb dX0_meanOn_3 (by decide) ?_
  refine lv_lstore (lv' := [(6, .long (lN (0))), (4, .long (lN (0))), (0, .ref (bA b 0)), (1, .int (nI (wd))), (2, .ref (ca 0)), (3, .ref (fa 0))]) hx hb dX0_meanOn_4 hl (by decide) rfl (fun ls hl => ?_)
  refine lv_iconst (v := nI (0)) hx hb dX0_meanOn_6 (by decide) ?_
  refine lv_istore (lv' := [(8, .int (nI (0))), (6, .long (lN (0))), (4, .long (lN (0))), (0, .ref (bA b 0)), (1, .int (nI (wd))), (2, .ref (ca 0)), (3, .ref (fa 0))]) hx hb dX0_meanOn_7 hl (by decide) rfl (fun ls hl => ?_)
  refine lv_aload_n hx hb dX0_meanOn_9 rfl (lv_at hl 3 rfl) ?_
  refine va_get (D := g.1) (ci := 0) (v := .int (nI (bN b))) (C := RX0) (T := TX0) (N := 8) hx hb hts hiX0 hown hK.1 hP 0 rfl rfl 6 (by decide) (hts _ w_fl_X0_32) (fun _ h9 => h9) rfl dX0_meanOn_10 ?_
  refine lv_iconst (v := nI (1)) hx hb dX0_meanOn_13 (by decide) ?_
  refine lv_isub hx hb dX0_meanOn_14 ?_
  refine lv_istore (lv' := [(9, .int (nI (bN b) - nI (1))), (8, .int (nI (0))), (6, .long (lN (0))), (4, .long (lN (0))), (0, .ref (bA b 0)), (1, .int (nI (wd))), (2, .ref (ca 0)), (3, .ref (fa 0))]) hx hb dX0_meanOn_15 hl (by decide) rfl (fun ls hl => ?_)
  have loop : ∀ (k : Nat) (j : Nat) (a : Nat) (S : Nat) (T : Nat) (ls : Array Slot), (j ≤ bN b) → (a ≤ 8) → (j < k) → (S ≤ a * 172186884000) → (T ≤ a * 4782969) → ((S + (mnR (fun i => if wdy hol (hrB b i / 24) = wd then bGn b i else none) wt j a).1, T + (mnR (fun i => if wdy hol (hrB b i / 24) = wd then bGn b i else none) wt j a).2) = mnR (fun i => if wdy hol (hrB b i / 24) = wd then bGn b i else none) wt (bN b) 0) → lv_has ls 12 [(0, .ref (bA b 0)), (1, .int (nI (wd))), (2, .ref (ca 0)), (3, .ref (fa 0)), (4, .long (lN (S))), (6, .long (lN (T))), (8, .int (nI (a))), (9, .int (nI j - nI 1))] → W p l e RR s m args below meth c s.heap [] 0 0 QQ (F0 m 17 ls []) := by
    intro k
    induction k with
    | zero => intro j a S T ls hj ha hk hS1 hT1 he hl; exact absurd hk (by omega)
    | succ k ih =>
      intro j a S T ls hj ha hk hS1 hT1 he hl
      refine lv_iload hx hb dX0_meanOn_17 (lv_at hl 7 rfl) ?_
      cases j with
      | zero =>
        refine lv_if_lt (tgt := 98) hx hb dX0_meanOn_19 (by decide) (fun c1 => ?_) (fun c1 => ?_)
        · have he : (S, T) = mnR (fun i => if wdy hol (hrB b i / 24) = wd then bGn b i else none) wt (bN b) 0 := by rw [← he, mnR]; rfl
          refine lv_lload hx hb dX0_meanOn_98 (lv_at hl 5 rfl) ?_
          refine lv_lconst (v := lN 0) hx hb dX0_meanOn_100 (by decide) ?_
          refine W.lcmp hx hb dX0_meanOn_101 ?_
          refine bl_le (tgt := 114) hx hb (by omega) (by omega) dX0_meanOn_102 (by decide) (fun c9 => ?_) (fun c9 => ?_)
          · refine lv_iconst (v := (-1)) hx hb dX0_meanOn_114 (by decide) ?_
            subst hQQ
            exact W.iret hx hb hr (fun t9 ht _ => rdI (by rw [← he, mnV, if_pos (by omega)]; rfl) ht) (fun q h => absurd h List.not_mem_nil) dX0_meanOn_115
          · refine lv_lload hx hb dX0_meanOn_105 (lv_at hl 4 rfl) ?_
            refine lv_lload hx hb dX0_meanOn_107 (lv_at hl 5 rfl) ?_
            refine n_ldiv hx hb (by omega) (by omega) (by omega) dX0_meanOn_109 ?_
            refine n_l2i hx hb dX0_meanOn_110 ?_
            refine lv_goto (tgt := 115) hx hb dX0_meanOn_111 (by decide) ?_
            subst hQQ
            exact W.iret hx hb hr (fun t9 ht _ => rdI (by rw [← he, mnV, if_neg (by omega)]; rfl) ht) (fun q h => absurd h List.not_mem_nil) dX0_meanOn_115
        · exact absurd (by decide) c1
      | succ j =>
        have ej : nI (j + 1) - nI 1 = nI j := pk_sub (by omega)
        rw [ej] at hl
        have hl : lv_has ls 12 [(0, .ref (bA b 0)), (1, .int (nI (wd))), (2, .ref (ca 0)), (3, .ref (fa 0)), (4, .long (lN (S))), (6, .long (lN (T))), (8, .int (nI (a))), (9, .int (nI (j)))] := hl
        refine tp_i ej ?_
        refine lv_if_lt (tgt := 98) hx hb dX0_meanOn_19 (by decide) (fun c1 => ?_) (fun c1 => ?_)
        · exact absurd c1 (nI_pos (by omega))
        · refine lv_iload hx hb dX0_meanOn_22 (lv_at hl 6 rfl) ?_
          refine lv_bipush (v := nI (8)) hx hb dX0_meanOn_24 (by decide) ?_
          refine bn_ge (tgt := 98) hx hb (by omega) (by omega) dX0_meanOn_26 (by decide) (fun c2 => ?_) (fun c2 => ?_)
          · have he : (S, T) = mnR (fun i => if wdy hol (hrB b i / 24) = wd then bGn b i else none) wt (bN b) 0 := by rw [← he, mnR, if_neg (by omega)]; rfl
            refine lv_lload hx hb dX0_meanOn_98 (lv_at hl 5 rfl) ?_
            refine lv_lconst (v := lN 0) hx hb dX0_meanOn_100 (by decide) ?_
            refine W.lcmp hx hb dX0_meanOn_101 ?_
            refine bl_le (tgt := 114) hx hb (by omega) (by omega) dX0_meanOn_102 (by decide) (fun c9 => ?_) (fun c9 => ?_)
            · refine lv_iconst (v := (-1)) hx hb dX0_meanOn_114 (by decide) ?_
              subst hQQ
              exact W.iret hx hb hr (fun t9 ht _ => rdI (by rw [← he, mnV, if_pos (by omega)]; rfl) ht) (fun q h => absurd h List.not_mem_nil) dX0_meanOn_115
            · refine lv_lload hx hb dX0_meanOn_105 (lv_at hl 4 rfl) ?_
              refine lv_lload hx hb dX0_meanOn_107 (lv_at hl 5 rfl) ?_
              refine n_ldiv hx hb (by omega) (by omega) (by omega) dX0_meanOn_109 ?_
              refine n_l2i hx hb dX0_meanOn_110 ?_
              refine lv_goto (tgt := 115) hx hb dX0_meanOn_111 (by decide) ?_
              subst hQQ
              exact W.iret hx hb hr (fun t9 ht _ => rdI (by rw [← he, mnV, if_neg (by omega)]; rfl) ht) (fun q h => absurd h List.not_mem_nil) dX0_meanOn_115
          · have hpj := hpl j hj
            have hh : hrB b j < 10000 := by unfold hrB; omega
            rw [mnR, if_pos c2] at he
            refine lv_aload_n hx hb dX0_meanOn_29 rfl (lv_at hl 0 rfl) ?_
            refine va_get (D := g.1) (ci := 0) (v := .ref (bA b 4)) (C := RX0) (T := TX0) (N := 8) hx hb hts hiX0 hown hK.1 hP 0 rfl rfl 5 (by decide) (hts _ w_fl_X0_29) (fun _ h9 => h9) rfl dX0_meanOn_30 ?_
            refine lv_iload hx hb dX0_meanOn_33 (lv_at hl 7 rfl) ?_
            refine n_iald (k := j) (v := (gI (bGn b j))) hx hb hK.1 hP 4 0 rfl rfl (by omega) (by decide) (rfl) dX0_meanOn_35 ?_
            refine lv_iconst (v := (-1)) hx hb dX0_meanOn_36 (by decide) ?_
            refine lv_icmp_eq (tgt := 92) hx hb dX0_meanOn_37 (by decide) (fun c3 => ?_) (fun c3 => ?_)
            · have c3 : bGn b j = none := (gI_m1 (fun v hv => by have := hg j v hj hv; omega)).mp c3
              rw [show (if wdy hol (hrB b j / 24) = wd then bGn b j else none) = none by rw [c3]; split <;> rfl] at he
              refine lv_iinc (v := (nI j - nI 1)) (lv' := [(9, .int (nI j - nI 1)), (0, .ref (bA b 0)), (1, .int (nI (wd))), (2, .ref (ca 0)), (3, .ref (fa 0)), (4, .long (lN (S))), (6, .long (lN (T))), (8, .int (nI (a)))]) hx hb dX0_meanOn_92 hl (k := 7) rfl (i_dec _) (by decide) rfl (fun ls hl => ?_)
              refine lv_goto (tgt := 17) hx hb dX0_meanOn_95 (by decide) ?_
              exact ih j (a) (S) (T) ls (by omega) (by omega) (by omega) hS1 hT1 he (lv_sub hl [1, 2, 3, 4, 5, 6, 7, 0] rfl)
            · refine lv_aload_n hx hb dX0_meanOn_40 rfl (lv_at hl 2 rfl) ?_
              refine lv_aload_n hx hb dX0_meanOn_41 rfl (lv_at hl 0 rfl) ?_
              refine lv_iload hx hb dX0_meanOn_42 (lv_at hl 7 rfl) ?_
              refine cR_i (W.runV (As := [.int (nI (j))]) (rest := [.ref (ca 0)]) ⟨hx, hb, hml, hown, hts⟩ (k_hourAt l g b j (by omega) (by omega)) (cwV 1 hts (gV w_ml_X0_63 w_im_X0_hourAt w_sel_X0_hourAt w_ini_X0 w_co_X0_hourAt) rfl rfl rfl (by decide +kernel) (by rw [hR1, hR2]; exact ⟨Nat.le_of_ble_eq_true rfl, Nat.le_of_ble_eq_true rfl⟩)) (preV_rd hPb hK (va_recv hK.1 hPb (ci := 0) (q0 := 0) rfl rfl)) rfl rfl hl.1 rfl (lv_room (Nat.le_of_ble_eq_true rfl)) dX0_meanOn_44 ⟨by rw [hR3]; omega, by rw [hR4]; omega⟩) ?_
              refine lv_bipush (v := nI (24)) hx hb dX0_meanOn_47 (by decide) ?_
              refine n_idiv hx hb (by omega) (by omega) (by omega) dX0_meanOn_49 ?_
              refine cR_i (W.runV (As := [.int (nI ((hrB b j) / 24))]) (rest := []) ⟨hx, hb, hml, hown, hts⟩ (k_weekdayOf l g ca hol (hrB b j / 24) (by omega)) (cwV 1 hts (gV w_ml_X0_70 w_im_X1_weekdayOf w_sel_X1_weekdayOf w_ini_X1 w_co_X1_weekdayOf) rfl rfl rfl (by decide +kernel) (by rw [hR1, hR2]; exact ⟨Nat.le_of_ble_eq_true rfl, Nat.le_of_ble_eq_true rfl⟩)) (preV_rd hPc hK (va_recv hK.1 hPc (ci := 1) (q0 := 0) rfl rfl)) rfl rfl hl.1 rfl (lv_room (Nat.le_of_ble_eq_true rfl)) dX0_meanOn_50 ⟨by rw [hR3]; omega, by rw [hR4]; omega⟩) ?_
              have hwy : wdy hol (hrB b j / 24) < 7 := wdy_lt
              refine lv_iload_n hx hb dX0_meanOn_53 rfl (lv_at hl 1 rfl) ?_
              refine bn_ne (tgt := 92) hx hb (by omega) (by omega) dX0_meanOn_54 (by decide) (fun c4 => ?_) (fun c4 => ?_)
              · rw [if_neg c4] at he
                refine lv_iinc (v := (nI j - nI 1)) (lv' := [(9, .int (nI j - nI 1)), (0, .ref (bA b 0)), (1, .int (nI (wd))), (2, .ref (ca 0)), (3, .ref (fa 0)), (4, .long (lN (S))), (6, .long (lN (T))), (8, .int (nI (a)))]) hx hb dX0_meanOn_92 hl (k := 7) rfl (i_dec _) (by decide) rfl (fun ls hl => ?_)
                refine lv_goto (tgt := 17) hx hb dX0_meanOn_95 (by decide) ?_
                exact ih j (a) (S) (T) ls (by omega) (by omega) (by omega) hS1 hT1 he (lv_sub hl [1, 2, 3, 4, 5, 6, 7, 0] rfl)
              · obtain ⟨v, hv⟩ : ∃ v, bGn b j = some v := by
                  cases hv : bGn b j with
                  | none => exact absurd (by rw [hv]; rfl) c3
                  | some v => exact ⟨v, rfl⟩
                have hv2 := hg j v hj hv
                have hwa := hw a c2
                rw [if_pos c4, hv] at he
                refine lv_aload_n hx hb dX0_meanOn_57 rfl (lv_at hl 3 rfl) ?_
                refine lv_iload hx hb dX0_meanOn_58 (lv_at hl 6 rfl) ?_
                refine cR_i (W.runV (As := [.int (nI (a))]) (rest := []) ⟨hx, hb, hml, hown, hts⟩ (k_weightOf l g fa wt a c2) (cwV 1 hts (gV w_ml_X0_75 w_im_X2_weightOf w_sel_X2_weightOf w_ini_X2 w_co_X2_weightOf) rfl rfl rfl (by decide +kernel) (by rw [hR1, hR2]; exact ⟨Nat.le_of_ble_eq_true rfl, Nat.le_of_ble_eq_true rfl⟩)) (preV_rd hPf hK (va_recv hK.1 hPf (ci := 2) (q0 := 0) rfl rfl)) rfl rfl hl.1 rfl (lv_room (Nat.le_of_ble_eq_true rfl)) dX0_meanOn_60 ⟨by rw [hR3]; omega, by rw [hR4]; omega⟩) ?_
                refine n_i2l hx hb (by omega) dX0_meanOn_63 ?_
                refine lv_lstore (lv' := [(10, .long (lN (wt a))), (0, .ref (bA b 0)), (1, .int (nI (wd))), (2, .ref (ca 0)), (3, .ref (fa 0)), (4, .long (lN (S))), (6, .long (lN (T))), (8, .int (nI (a))), (9, .int (nI (j)))]) hx hb dX0_meanOn_64 hl (by decide) rfl (fun ls hl => ?_)
                refine lv_lload hx hb dX0_meanOn_66 (lv_at hl 5 rfl) ?_
                refine lv_aload_n hx hb dX0_meanOn_68 rfl (lv_at hl 1 rfl) ?_
                refine va_get (D := g.1) (ci := 0) (v := .ref (bA b 4)) (C := RX0) (T := TX0) (N := 8) hx hb hts hiX0 hown hK.1 hP 0 rfl rfl 5 (by decide) (hts _ w_fl_X0_29) (fun _ h9 => h9) rfl dX0_meanOn_69 ?_
                refine lv_iload hx hb dX0_meanOn_72 (lv_at hl 8 rfl) ?_
                refine n_iald (k := j) (v := (gI (bGn b j))) hx hb hK.1 hP 4 0 rfl rfl (by omega) (by decide) (rfl) dX0_meanOn_74 ?_
                refine tp_i (y := nI v) (by rw [hv]; rfl) ?_
                have hm : v * wt a ≤ 172186884000 := Nat.le_trans (Nat.mul_le_mul hv2 hwa.2) (by decide)
                refine n_i2l hx hb (by omega) dX0_meanOn_75 ?_
                refine lv_lload hx hb dX0_meanOn_76 (lv_at hl 0 rfl) ?_
                refine n_lmul hx hb dX0_meanOn_78 ?_
                refine n_ladd hx hb dX0_meanOn_79 ?_
                refine lv_lstore (lv' := [(4, .long (lN (S + (v * (wt a))))), (10, .long (lN (wt a))), (0, .ref (bA b 0)), (1, .int (nI (wd))), (2, .ref (ca 0)), (3, .ref (fa 0)), (6, .long (lN (T))), (8, .int (nI (a))), (9, .int (nI (j)))]) hx hb dX0_meanOn_80 hl (by decide) rfl (fun ls hl => ?_)
                refine lv_lload hx hb dX0_meanOn_82 (lv_at hl 6 rfl) ?_
                refine lv_lload hx hb dX0_meanOn_84 (lv_at hl 1 rfl) ?_
                refine n_ladd hx hb dX0_meanOn_86 ?_
                refine lv_lstore (lv' := [(6, .long (lN (T + (wt a)))), (4, .long (lN (S + (v * (wt a))))), (10, .long (lN (wt a))), (0, .ref (bA b 0)), (1, .int (nI (wd))), (2, .ref (ca 0)), (3, .ref (fa 0)), (8, .int (nI (a))), (9, .int (nI (j)))]) hx hb dX0_meanOn_87 hl (by decide) rfl (fun ls hl => ?_)
                refine lv_iinc (v := nI (a + 1)) (lv' := [(8, .int (nI (a + 1))), (6, .long (lN (T + (wt a)))), (4, .long (lN (S + (v * (wt a))))), (10, .long (lN (wt a))), (0, .ref (bA b 0)), (1, .int (nI (wd))), (2, .ref (ca 0)), (3, .ref (fa 0)), (9, .int (nI (j)))]) hx hb dX0_meanOn_89 hl (k := 7) rfl (nI_1 _) (by decide) rfl (fun ls hl => ?_)
                refine lv_iinc (v := (nI j - nI 1)) (lv' := [(9, .int (nI j - nI 1)), (8, .int (nI (a + 1))), (6, .long (lN (T + (wt a)))), (4, .long (lN (S + (v * (wt a))))), (10, .long (lN (wt a))), (0, .ref (bA b 0)), (1, .int (nI (wd))), (2, .ref (ca 0)), (3, .ref (fa 0))]) hx hb dX0_meanOn_92 hl (k := 8) rfl (i_dec _) (by decide) rfl (fun ls hl => ?_)
                refine lv_goto (tgt := 17) hx hb dX0_meanOn_95 (by decide) ?_
                exact ih j (a + 1) (S + v * wt a) (T + wt a) ls (by omega) (by omega) (by omega) (by omega) (by omega) (by rw [← he]; exact Prod.ext (by show _ + _ = _ + (_ + _); omega) (by show _ + _ = _ + (_ + _); omega)) (lv_sub hl [5, 6, 7, 8, 3, 2, 1, 0] rfl)
  exact loop (bN b + 1) (bN b) 0 0 0 ls (Nat.le_refl _) (by omega) (by omega) (by omega) (by omega) (by rw [Nat.zero_add, Nat.zero_add]) (lv_sub hl [4, 5, 6, 7, 3, 2, 1, 0] rfl)

set_option maxHeartbeats 4000000 in
set_option maxRecDepth 100000 in
theorem k_gainUpTo (l : Launch) (g : GG) (oa : Nat → Nat) (rt sm : Nat → Nat) (h : Nat) (hh : h < 10000) (hs : ∀ d, d < 418 → sm d ≤ 20000000) (hm : ∀ d, d < 417 → sm d ≤ sm (d + 1)) : Rl l yX3_gainUpTo wsX3_gainUpTo 0 0 [.ref (oa 0), .int (nI (h))] g (wO g oa rt sm) (lN (gup sm h)) := by
  refine Met.ofW (cc := cX3_gainUpTo) (maxL := 5) (ret := (some .long)) (by decide) rfl ?_
  intro p e s m args below meth c s₁ BB hml hv
  obtain ⟨hargs, hP, hK⟩ := hv
  have hx := BB.exec
  have hb := BB.bytes
  have hr := BB.returns
  have hts : ∀ w ∈ BIG, w.before args s = true := fun w h => atoms_spec (ws := wsX3_gainUpTo) BB.pre w (List.mem_cons_of_mem _ h)
  have hown : s.vm.findClass RX3 = some m.cls := findClass_of_methodNamed BB.named
  have hlocks := BB.notSynchronized
  obtain ⟨RR, hRR⟩ : ∃ RR, RR = (headSpec wsX3_gainUpTo ⟨0, 0, 0, 0⟩).room := ⟨_, rfl⟩
  have hR1 : RR.frames = 0 := by rw [hRR]; rfl
  have hR2 : RR.locals = 0 := by rw [hRR]; rfl
  have hR3 : RR.cells = 0 := by rw [hRR]; rfl
  have hR4 : RR.slots = 0 := by rw [hRR]; rfl
  have hl := lv_entry ([.ref (oa 0), .int (nI (h))]) (n := 5) (Nat.le_of_ble_eq_true rfl)
  have hent : entryFrame m args 5 = F0 m 0 ((lg_sl ([.ref (oa 0), .int (nI (h))]) ++ List.replicate (5 - (lg_sl ([.ref (oa 0), .int (nI (h))])).length) Slot.unset).toArray) [] := by rw [hargs, lg_entry_eq]
  rw [hent]
  generalize (lg_sl ([.ref (oa 0), .int (nI (h))]) ++ List.replicate (5 - (lg_sl ([.ref (oa 0), .int (nI (h))])).length) Slot.unset).toArray = ls at hl ⊢
  have hl : lv_has ls 5 [(0, .ref (oa 0)), (1, .int (nI (h)))] := hl
  refine q_ab (R := RR) hRR ?_
  generalize hQQ : MQ below _ args s _ _ _ = QQ
  have hd : h / 24 < 417 := by omega
  have h1 := hs (h / 24) (by omega)
  have h2 := hs (h / 24 + 1) (by omega)
  have h3 := hm (h / 24) hd
  refine lv_iload_n hx hb dX3_gainUpTo_0 rfl (lv_at hl 1 rfl) ?_
  refine lv_bipush (v := nI (24)) hx hb dX3_gainUpTo_1 (by decide) ?_
  refine n_idiv hx hb (by omega) (by omega) (by omega) dX3_gainUpTo_3 ?_
  refine lv_istore_n (lv' := [(2, .int (nI (h / 24))), (0, .ref (oa 0)), (1, .int (nI (h)))]) hx hb dX3_gainUpTo_4 rfl hl (by decide) rfl (fun ls hl => ?_)
  refine lv_aload_n hx hb dX3_gainUpTo_5 rfl (lv_at hl 1 rfl) ?_
  refine va_get (D := g.1) (ci := 3) (v := .ref (oa 2)) (C := RX3) (T := TX3) (N := 2) hx hb hts hiX3 hown hK.1 hP 0 rfl rfl 1 (by decide) (hts _ w_fl_X3_15) (fun _ h9 => h9) rfl dX3_gainUpTo_6 ?_
  refine lv_iload_n hx hb dX3_gainUpTo_9 rfl (lv_at hl 0 rfl) ?_
  refine lv_iconst (v := nI (1)) hx hb dX3_gainUpTo_10 (by decide) ?_
  refine n_iadd hx hb dX3_gainUpTo_11 ?_
  refine n_iald (k := (h / 24) + 1) (v := nI (sm ((h / 24) + 1))) hx hb hK.1 hP 2 0 rfl rfl (by omega) (by decide) (rfl) dX3_gainUpTo_12 ?_
  refine lv_aload_n hx hb dX3_gainUpTo_13 rfl (lv_at hl 1 rfl) ?_
  refine va_get (D := g.1) (ci := 3) (v := .ref (oa 2)) (C := RX3) (T := TX3) (N := 2) hx hb hts hiX3 hown hK.1 hP 0 rfl rfl 1 (by decide) (hts _ w_fl_X3_15) (fun _ h9 => h9) rfl dX3_gainUpTo_14 ?_
  refine lv_iload_n hx hb dX3_gainUpTo_17 rfl (lv_at hl 0 rfl) ?_
  refine n_iald (k := h / 24) (v := nI (sm (h / 24))) hx hb hK.1 hP 2 0 rfl rfl (by omega) (by decide) (rfl) dX3_gainUpTo_18 ?_
  refine n_isub hx hb (by omega) dX3_gainUpTo_19 ?_
  refine n_i2l hx hb (by omega) dX3_gainUpTo_20 ?_
  refine lv_lstore_n (lv' := [(3, .long (lN ((sm ((h / 24) + 1)) - (sm (h / 24))))), (2, .int (nI (h / 24))), (0, .ref (oa 0)), (1, .int (nI (h)))]) hx hb dX3_gainUpTo_21 rfl hl (by decide) rfl (fun ls hl => ?_)
  refine lv_ldc2 (v := 24) hx hb hown (hts _ w_ct_X3_45) dX3_gainUpTo_22 ?_
  refine tp_l (y := lN 24) (by decide) ?_
  refine lv_aload_n hx hb dX3_gainUpTo_25 rfl (lv_at hl 2 rfl) ?_
  refine va_get (D := g.1) (ci := 3) (v := .ref (oa 2)) (C := RX3) (T := TX3) (N := 2) hx hb hts hiX3 hown hK.1 hP 0 rfl rfl 1 (by decide) (hts _ w_fl_X3_15) (fun _ h9 => h9) rfl dX3_gainUpTo_26 ?_
  refine lv_iload_n hx hb dX3_gainUpTo_29 rfl (lv_at hl 1 rfl) ?_
  refine n_iald (k := h / 24) (v := nI (sm (h / 24))) hx hb hK.1 hP 2 0 rfl rfl (by omega) (by decide) (rfl) dX3_gainUpTo_30 ?_
  refine n_i2l hx hb (by omega) dX3_gainUpTo_31 ?_
  refine n_lmul hx hb dX3_gainUpTo_32 ?_
  refine lv_iload_n hx hb dX3_gainUpTo_33 rfl (lv_at hl 3 rfl) ?_
  refine lv_bipush (v := nI (24)) hx hb dX3_gainUpTo_34 (by decide) ?_
  refine n_irem hx hb (by omega) (by omega) (by omega) dX3_gainUpTo_36 ?_
  refine n_i2l hx hb (by omega) dX3_gainUpTo_37 ?_
  refine lv_lload_n hx hb dX3_gainUpTo_38 rfl (lv_at hl 0 rfl) ?_
  refine n_lmul hx hb dX3_gainUpTo_39 ?_
  refine n_ladd hx hb dX3_gainUpTo_40 ?_
  subst hQQ
  exact W.lret hx hb hr (fun t9 ht _ => rdL (rfl) ht) (fun q h => absurd h List.not_mem_nil) dX3_gainUpTo_41

