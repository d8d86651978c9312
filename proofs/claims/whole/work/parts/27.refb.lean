set_option maxHeartbeats 4000000 in
set_option maxRecDepth 100000 in
theorem m_expectedBy (l : Launch) (g : GG) (ma : Nat → Nat) (P : PT) (S : ST) (x : FT) (hx9 : Xok x) (b : BinT) (hbm : b ∈ xB x) (hLy : Lay b S) (hM : ∀ h, h ≤ 10000 → sM S h = hsum x b h) (f h : Nat) (hf : f ≤ bN b) (hh : h < 10000) : Rl l yX5_expectedBy wsX5_expectedBy 0 0 [.ref (ma 0), .int (nI (f)), .int (nI (h))] g (wM g ma P S) (lN (exY b (hsum x b) (lst (exP b h) f) h)) := by
  refine Met.ofW (cc := cX5_expectedBy) (maxL := 8) (ret := (some .long)) (by decide) rfl ?_
  intro p e s m args below meth c s₁ BB hml hv
  obtain ⟨hargs, hP, hK⟩ := hv
  have hx := BB.exec
  have hb := BB.bytes
  have hr := BB.returns
  have hts : ∀ w ∈ BIG, w.before args s = true := fun w h => atoms_spec (ws := wsX5_expectedBy) BB.pre w (List.mem_cons_of_mem _ h)
  have hown : s.vm.findClass RX5 = some m.cls := findClass_of_methodNamed BB.named
  have hlocks := BB.notSynchronized
  obtain ⟨RR, hRR⟩ : ∃ RR, RR = (headSpec wsX5_expectedBy ⟨0, 0, 0, 0⟩).room := ⟨_, rfl⟩
  have hR1 : RR.frames = 0 := by rw [hRR]; rfl
  have hR2 : RR.locals = 0 := by rw [hRR]; rfl
  have hR3 : RR.cells = 0 := by rw [hRR]; rfl
  have hR4 : RR.slots = 0 := by rw [hRR]; rfl
  have hl := lv_entry ([.ref (ma 0), .int (nI (f)), .int (nI (h))]) (n := 8) (Nat.le_of_ble_eq_true rfl)
  have hent : entryFrame m args 8 = F0 m 0 ((lg_sl ([.ref (ma 0), .int (nI (f)), .int (nI (h))]) ++ List.replicate (8 - (lg_sl ([.ref (ma 0), .int (nI (f)), .int (nI (h))])).length) Slot.unset).toArray) [] := by rw [hargs, lg_entry_eq]
  rw [hent]
  generalize (lg_sl ([.ref (ma 0), .int (nI (f)), .int (nI (h))]) ++ List.replicate (8 - (lg_sl ([.ref (ma 0), .int (nI (f)), .int (nI (h))])).length) Slot.unset).toArray = ls at hl ⊢
  have hl : lv_has ls 8 [(0, .ref (ma 0)), (1, .int (nI (f))), (2, .int (nI (h)))] := hl
  refine q_ab (R := RR) hRR ?_
  generalize hQQ : MQ below _ args s _ _ _ = QQ
  have hBk := hx9.2.1 b hbm
  obtain ⟨⟨hbn, hbp, hbo, hba⟩, -⟩ := id hBk
  obtain ⟨hN, hLk⟩ := id hLy
  have hsl := hsum_le (b := b) hx9 hbm h
  have hhr : ∀ k, k < bN b → hrB b k < 10000 := fun k hk => by have := hbp k hk; unfold hrB; omega
  refine lv_iconst (v := (-1)) hx hb dX5_expectedBy_0 (by decide) ?_
  refine lv_istore_n (lv' := [(3, .int (-1)), (0, .ref (ma 0)), (1, .int (nI (f))), (2, .int (nI (h)))]) hx hb dX5_expectedBy_1 rfl hl (by decide) rfl (fun ls hl => ?_)
  refine lv_iconst (v := nI (0)) hx hb dX5_expectedBy_2 (by decide) ?_
  refine lv_istore (lv' := [(4, .int (nI (0))), (3, .int (-1)), (0, .ref (ma 0)), (1, .int (nI (f))), (2, .int (nI (h)))]) hx hb dX5_expectedBy_3 hl (by decide) rfl (fun ls hl => ?_)
  have loop : ∀ (k9 : Nat) (q : Nat) (ls : Array Slot), (q ≤ f) → (f < q + k9) → lv_has ls 8 [(0, .ref (ma 0)), (1, .int (nI (f))), (2, .int (nI (h))), (3, .int (gI (lst (exP b h) q))), (4, .int (nI (q)))] → W p l e RR s m args below meth c s.heap [] 0 0 QQ (F0 m 5 ls []) := by
    intro k9
    induction k9 with
    | zero => intro q ls hq hk hl; exact absurd hk (by omega)
    | succ k9 ih =>
      intro q ls hq hk hl
      refine lv_iload hx hb dX5_expectedBy_5 (lv_at hl 4 rfl) ?_
      refine lv_iload_n hx hb dX5_expectedBy_7 rfl (lv_at hl 1 rfl) ?_
      refine bn_ge (tgt := 45) hx hb (by omega) (by omega) dX5_expectedBy_8 (by decide) (fun c1 => ?_) (fun c1 => ?_)
      · have hqf : q = f := by omega
        subst hqf
        cases ho : lst (exP b h) q with
        | none =>
          rw [ho] at hl
          have hl : lv_has ls 8 [(0, .ref (ma 0)), (1, .int (nI (q))), (2, .int (nI (h))), (3, .int (-1)), (4, .int (nI (q)))] := hl
          refine lv_iload_n hx hb dX5_expectedBy_45 rfl (lv_at hl 3 rfl) ?_
          refine lv_if_ge (tgt := 53) hx hb dX5_expectedBy_46 (by decide) (fun c2 => ?_) (fun c2 => ?_)
          · exact absurd c2 (by decide)
          · refine lv_lconst (v := lN 0) hx hb dX5_expectedBy_49 (by decide) ?_
            refine lv_goto (tgt := 64) hx hb dX5_expectedBy_50 (by decide) ?_
            refine lv_lstore (lv' := [(4, .long (lN (0))), (0, .ref (ma 0)), (1, .int (nI (q))), (2, .int (nI (h))), (3, .int (-1))]) hx hb dX5_expectedBy_64 hl (by decide) rfl (fun ls hl => ?_)
            refine lv_iload_n hx hb dX5_expectedBy_66 rfl (lv_at hl 4 rfl) ?_
            refine lv_if_ge (tgt := 74) hx hb dX5_expectedBy_67 (by decide) (fun c3 => ?_) (fun c3 => ?_)
            · exact absurd c3 (by decide)
            · refine lv_lconst (v := lN 0) hx hb dX5_expectedBy_70 (by decide) ?_
              refine lv_goto (tgt := 81) hx hb dX5_expectedBy_71 (by decide) ?_
              refine lv_lstore (lv' := [(6, .long (lN (0))), (4, .long (lN (0))), (0, .ref (ma 0)), (1, .int (nI (q))), (2, .int (nI (h))), (3, .int (-1))]) hx hb dX5_expectedBy_81 hl (by decide) rfl (fun ls hl => ?_)
              refine lv_ldc2 (v := 24) hx hb hown (hts _ w_ct_X5_119) dX5_expectedBy_83 ?_
              refine tp_l (y := lN 24) (by decide) ?_
              refine lv_lload hx hb dX5_expectedBy_86 (lv_at hl 0 rfl) ?_
              refine n_lmul hx hb dX5_expectedBy_88 ?_
              refine lv_aload_n hx hb dX5_expectedBy_89 rfl (lv_at hl 2 rfl) ?_
              refine va_get (D := g.1) (ci := 5) (v := .ref (ma 16)) (C := RX5) (T := TX5) (N := 23) hx hb hts hiX5 hown hK.1 hP 0 rfl rfl 22 (by decide) (hts _ w_fl_X5_72) (fun _ h9 => h9) rfl dX5_expectedBy_90 ?_
              refine lv_iload_n hx hb dX5_expectedBy_93 rfl (lv_at hl 4 rfl) ?_
              refine n_lald (k := h) (v := lN (hsum x b h)) hx hb hK.1 hP 16 3 rfl rfl (by omega) (by decide) (by show lN (sM S h) = _; rw [hM h (by omega)]) dX5_expectedBy_94 ?_
              refine n_ladd hx hb dX5_expectedBy_95 ?_
              refine lv_lload hx hb dX5_expectedBy_96 (lv_at hl 1 rfl) ?_
              refine n_lsub hx hb (by omega) dX5_expectedBy_98 ?_
              refine lv_ldc2 (v := 24) hx hb hown (hts _ w_ct_X5_119) dX5_expectedBy_99 ?_
              refine tp_l (y := lN 24) (by decide) ?_
              refine n_ldiv hx hb (by omega) (by omega) (by omega) dX5_expectedBy_102 ?_
              subst hQQ
              exact W.lret hx hb hr (fun t9 ht _ => rdL (by rw [ho]; rfl) ht) (fun q h => absurd h List.not_mem_nil) dX5_expectedBy_103
        | some i =>
          obtain ⟨hi1, hi2, hi3⟩ := exP_ok hf i ho
          have hmn := hsum_mono (x := x) (b := b) hi3
          have hsi := hba i hi2
          have hri := hhr i hi2
          rw [ho] at hl
          have hl : lv_has ls 8 [(0, .ref (ma 0)), (1, .int (nI (q))), (2, .int (nI (h))), (3, .int (nI (i))), (4, .int (nI (q)))] := hl
          refine lv_iload_n hx hb dX5_expectedBy_45 rfl (lv_at hl 3 rfl) ?_
          refine lv_if_ge (tgt := 53) hx hb dX5_expectedBy_46 (by decide) (fun c2 => ?_) (fun c2 => ?_)
          · refine lv_aload_n hx hb dX5_expectedBy_53 rfl (lv_at hl 0 rfl) ?_
            refine va_get (D := g.1) (ci := 5) (v := .ref (ma 16)) (C := RX5) (T := TX5) (N := 23) hx hb hts hiX5 hown hK.1 hP 0 rfl rfl 22 (by decide) (hts _ w_fl_X5_72) (fun _ h9 => h9) rfl dX5_expectedBy_54 ?_
            refine lv_aload_n hx hb dX5_expectedBy_57 rfl (lv_at hl 0 rfl) ?_
            refine va_get (D := g.1) (ci := 5) (v := .ref (ma 10)) (C := RX5) (T := TX5) (N := 23) hx hb hts hiX5 hown hK.1 hP 0 rfl rfl 16 (by decide) (hts _ w_fl_X5_54) (fun _ h9 => h9) rfl dX5_expectedBy_58 ?_
            refine lv_iload_n hx hb dX5_expectedBy_61 rfl (lv_at hl 3 rfl) ?_
            refine n_iald (k := i) (v := nI (hrB b i)) hx hb hK.1 hP 10 0 rfl rfl (by omega) (by decide) (by show nI (sH S i) = _; rw [(hLk i (by omega)).1]) dX5_expectedBy_62 ?_
            refine n_lald (k := hrB b i) (v := lN (hsum x b (hrB b i))) hx hb hK.1 hP 16 3 rfl rfl (by omega) (by decide) (by show lN (sM S (hrB b i)) = _; rw [hM (hrB b i) (by omega)]) dX5_expectedBy_63 ?_
            refine lv_lstore (lv' := [(4, .long (lN (hsum x b (hrB b i)))), (0, .ref (ma 0)), (1, .int (nI (q))), (2, .int (nI (h))), (3, .int (nI (i)))]) hx hb dX5_expectedBy_64 hl (by decide) rfl (fun ls hl => ?_)
            refine lv_iload_n hx hb dX5_expectedBy_66 rfl (lv_at hl 4 rfl) ?_
            refine lv_if_ge (tgt := 74) hx hb dX5_expectedBy_67 (by decide) (fun c3 => ?_) (fun c3 => ?_)
            · refine lv_aload_n hx hb dX5_expectedBy_74 rfl (lv_at hl 1 rfl) ?_
              refine va_get (D := g.1) (ci := 5) (v := .ref (ma 11)) (C := RX5) (T := TX5) (N := 23) hx hb hts hiX5 hown hK.1 hP 0 rfl rfl 17 (by decide) (hts _ w_fl_X5_57) (fun _ h9 => h9) rfl dX5_expectedBy_75 ?_
              refine lv_iload_n hx hb dX5_expectedBy_78 rfl (lv_at hl 4 rfl) ?_
              refine n_iald (k := i) (v := nI (shB b i)) hx hb hK.1 hP 11 0 rfl rfl (by omega) (by decide) (by show nI (sS S i) = _; rw [(hLk i (by omega)).2.1]) dX5_expectedBy_79 ?_
              refine n_i2l hx hb (by omega) dX5_expectedBy_80 ?_
              refine lv_lstore (lv' := [(6, .long (lN (shB b i))), (4, .long (lN (hsum x b (hrB b i)))), (0, .ref (ma 0)), (1, .int (nI (q))), (2, .int (nI (h))), (3, .int (nI (i)))]) hx hb dX5_expectedBy_81 hl (by decide) rfl (fun ls hl => ?_)
              refine lv_ldc2 (v := 24) hx hb hown (hts _ w_ct_X5_119) dX5_expectedBy_83 ?_
              refine tp_l (y := lN 24) (by decide) ?_
              refine lv_lload hx hb dX5_expectedBy_86 (lv_at hl 0 rfl) ?_
              refine n_lmul hx hb dX5_expectedBy_88 ?_
              refine lv_aload_n hx hb dX5_expectedBy_89 rfl (lv_at hl 2 rfl) ?_
              refine va_get (D := g.1) (ci := 5) (v := .ref (ma 16)) (C := RX5) (T := TX5) (N := 23) hx hb hts hiX5 hown hK.1 hP 0 rfl rfl 22 (by decide) (hts _ w_fl_X5_72) (fun _ h9 => h9) rfl dX5_expectedBy_90 ?_
              refine lv_iload_n hx hb dX5_expectedBy_93 rfl (lv_at hl 4 rfl) ?_
              refine n_lald (k := h) (v := lN (hsum x b h)) hx hb hK.1 hP 16 3 rfl rfl (by omega) (by decide) (by show lN (sM S h) = _; rw [hM h (by omega)]) dX5_expectedBy_94 ?_
              refine n_ladd hx hb dX5_expectedBy_95 ?_
              refine lv_lload hx hb dX5_expectedBy_96 (lv_at hl 1 rfl) ?_
              refine n_lsub hx hb (by omega) dX5_expectedBy_98 ?_
              refine lv_ldc2 (v := 24) hx hb hown (hts _ w_ct_X5_119) dX5_expectedBy_99 ?_
              refine tp_l (y := lN 24) (by decide) ?_
              refine n_ldiv hx hb (by omega) (by omega) (by omega) dX5_expectedBy_102 ?_
              subst hQQ
              exact W.lret hx hb hr (fun t9 ht _ => rdL (by rw [ho]; rfl) ht) (fun q h => absurd h List.not_mem_nil) dX5_expectedBy_103
            · exact absurd (nI_pos' (by omega)) c3
          · exact absurd (nI_pos' (by omega)) c2
      · have hq2 := hhr q (by omega)
        refine lv_aload_n hx hb dX5_expectedBy_11 rfl (lv_at hl 0 rfl) ?_
        refine va_get (D := g.1) (ci := 5) (v := .ref (ma 13)) (C := RX5) (T := TX5) (N := 23) hx hb hts hiX5 hown hK.1 hP 0 rfl rfl 19 (by decide) (hts _ w_fl_X5_63) (fun _ h9 => h9) rfl dX5_expectedBy_12 ?_
        refine lv_iload hx hb dX5_expectedBy_15 (lv_at hl 4 rfl) ?_
        refine n_zald (k := q) (v := bI (bWr b q)) hx hb hK.1 hP 13 1 rfl rfl (by omega) (by decide) (by show bI (sW S q) = _; rw [(hLk q (by omega)).2.2.2.1]) dX5_expectedBy_17 ?_
        refine bb_ne (tgt := 37) hx hb dX5_expectedBy_18 (by decide) (fun c2 => ?_) (fun c2 => ?_)
        · refine lv_iload_n hx hb dX5_expectedBy_37 rfl (lv_at hl 3 rfl) ?_
          refine lv_istore_n (lv' := [(3, .int (gI (lst (exP b h) q))), (0, .ref (ma 0)), (1, .int (nI (f))), (2, .int (nI (h))), (4, .int (nI (q)))]) hx hb dX5_expectedBy_38 rfl hl (by decide) rfl (fun ls hl => ?_)
          refine lv_iinc (v := nI (q + 1)) (lv' := [(4, .int (nI (q + 1))), (3, .int (gI (lst (exP b h) q))), (0, .ref (ma 0)), (1, .int (nI (f))), (2, .int (nI (h)))]) hx hb dX5_expectedBy_39 hl (k := 4) rfl (nI_1 _) (by decide) rfl (fun ls hl => ?_)
          refine lv_goto (tgt := 5) hx hb dX5_expectedBy_42 (by decide) ?_
          exact ih (q + 1) ls (by omega) (by omega) (by rw [lst, if_neg (by unfold exP; rw [c2, Bool.not_true, Bool.false_and]; decide)]; exact lv_sub hl [2, 3, 4, 1, 0] rfl)
        · refine lv_aload_n hx hb dX5_expectedBy_21 rfl (lv_at hl 0 rfl) ?_
          refine va_get (D := g.1) (ci := 5) (v := .ref (ma 10)) (C := RX5) (T := TX5) (N := 23) hx hb hts hiX5 hown hK.1 hP 0 rfl rfl 16 (by decide) (hts _ w_fl_X5_54) (fun _ h9 => h9) rfl dX5_expectedBy_22 ?_
          refine lv_iload hx hb dX5_expectedBy_25 (lv_at hl 4 rfl) ?_
          refine n_iald (k := q) (v := nI (hrB b q)) hx hb hK.1 hP 10 0 rfl rfl (by omega) (by decide) (by show nI (sH S q) = _; rw [(hLk q (by omega)).1]) dX5_expectedBy_27 ?_
          refine lv_iload_n hx hb dX5_expectedBy_28 rfl (lv_at hl 2 rfl) ?_
          refine bn_gt (tgt := 37) hx hb (by omega) (by omega) dX5_expectedBy_29 (by decide) (fun c3 => ?_) (fun c3 => ?_)
          · refine lv_iload_n hx hb dX5_expectedBy_37 rfl (lv_at hl 3 rfl) ?_
            refine lv_istore_n (lv' := [(3, .int (gI (lst (exP b h) q))), (0, .ref (ma 0)), (1, .int (nI (f))), (2, .int (nI (h))), (4, .int (nI (q)))]) hx hb dX5_expectedBy_38 rfl hl (by decide) rfl (fun ls hl => ?_)
            refine lv_iinc (v := nI (q + 1)) (lv' := [(4, .int (nI (q + 1))), (3, .int (gI (lst (exP b h) q))), (0, .ref (ma 0)), (1, .int (nI (f))), (2, .int (nI (h)))]) hx hb dX5_expectedBy_39 hl (k := 4) rfl (nI_1 _) (by decide) rfl (fun ls hl => ?_)
            refine lv_goto (tgt := 5) hx hb dX5_expectedBy_42 (by decide) ?_
            exact ih (q + 1) ls (by omega) (by omega) (by rw [lst, if_neg (by unfold exP; rw [decide_eq_false (by omega), Bool.and_false]; decide)]; exact lv_sub hl [2, 3, 4, 1, 0] rfl)
          · refine lv_iload hx hb dX5_expectedBy_32 (lv_at hl 4 rfl) ?_
            refine lv_goto (tgt := 38) hx hb dX5_expectedBy_34 (by decide) ?_
            refine lv_istore_n (lv' := [(3, .int (nI (q))), (0, .ref (ma 0)), (1, .int (nI (f))), (2, .int (nI (h))), (4, .int (nI (q)))]) hx hb dX5_expectedBy_38 rfl hl (by decide) rfl (fun ls hl => ?_)
            refine lv_iinc (v := nI (q + 1)) (lv' := [(4, .int (nI (q + 1))), (3, .int (nI (q))), (0, .ref (ma 0)), (1, .int (nI (f))), (2, .int (nI (h)))]) hx hb dX5_expectedBy_39 hl (k := 4) rfl (nI_1 _) (by decide) rfl (fun ls hl => ?_)
            refine lv_goto (tgt := 5) hx hb dX5_expectedBy_42 (by decide) ?_
            exact ih (q + 1) ls (by omega) (by omega) (by rw [lst, if_pos (by unfold exP; rw [c2, decide_eq_true c3]; rfl)]; exact lv_sub hl [2, 3, 4, 1, 0] rfl)
  exact loop (f + 1) 0 ls (Nat.zero_le _) (by omega) (lv_sub hl [2, 3, 4, 1, 0] rfl)

set_option maxHeartbeats 4000000 in
set_option maxRecDepth 100000 in
theorem m_costOn (l : Launch) (g : GG) (ma : Nat → Nat) (P : PT) (S : ST) (x : FT) (hx9 : Xok x) (hRl : Rel x P) (b : BinT) (hbm : b ∈ xB x) (hLy : Lay b S) (hM : ∀ h, h ≤ 10000 → sM S h = hsum x b h) (d : Nat) (hd : d < 417) : Rl l yX5_costOn wsX5_costOn 1 27 [.ref (ma 0), .int (nI (d))] g (wM g ma P S) (lN (ctN x b d)) := by
  refine Met.ofW (cc := cX5_costOn) (maxL := 4) (ret := (some .long)) (by decide) rfl ?_
  intro p e s m args below meth c s₁ BB hml hv
  obtain ⟨hargs, hP, hK⟩ := hv
  have hx := BB.exec
  have hb := BB.bytes
  have hr := BB.returns
  have hts : ∀ w ∈ BIG, w.before args s = true := fun w h => atoms_spec (ws := wsX5_costOn) BB.pre w (List.mem_cons_of_mem _ h)
  have hown : s.vm.findClass RX5 = some m.cls := findClass_of_methodNamed BB.named
  have hlocks := BB.notSynchronized
  obtain ⟨RR, hRR⟩ : ∃ RR, RR = (headSpec wsX5_costOn ⟨1, 0, 0, 27⟩).room := ⟨_, rfl⟩
  have hR1 : RR.frames = 1 := by rw [hRR]; rfl
  have hR2 : RR.locals = 27 := by rw [hRR]; rfl
  have hR3 : RR.cells = 0 := by rw [hRR]; rfl
  have hR4 : RR.slots = 0 := by rw [hRR]; rfl
  have hl := lv_entry ([.ref (ma 0), .int (nI (d))]) (n := 4) (Nat.le_of_ble_eq_true rfl)
  have hent : entryFrame m args 4 = F0 m 0 ((lg_sl ([.ref (ma 0), .int (nI (d))]) ++ List.replicate (4 - (lg_sl ([.ref (ma 0), .int (nI (d))])).length) Slot.unset).toArray) [] := by rw [hargs, lg_entry_eq]
  rw [hent]
  generalize (lg_sl ([.ref (ma 0), .int (nI (d))]) ++ List.replicate (4 - (lg_sl ([.ref (ma 0), .int (nI (d))])).length) Slot.unset).toArray = ls at hl ⊢
  have hl : lv_has ls 4 [(0, .ref (ma 0)), (1, .int (nI (d)))] := hl
  refine q_ab (R := RR) hRR ?_
  generalize hQQ : MQ below _ args s _ _ _ = QQ
  have hBk := hx9.2.1 b hbm
  obtain ⟨⟨hbn, hbp, hbo, hba⟩, -⟩ := id hBk
  obtain ⟨hN, hLk⟩ := id hLy
  have he9 := hx9.2.2.2.2.1
  have hl9 := hx9.2.2.2.2.2
  obtain ⟨hpE, hpL⟩ := hRl.2.2.2.2.2
  have hsh := exY_A (x := x) (b := b) (h := 24 * d) (by omega)
  rw [Nat.mul_comm 24 d] at hsh
  refine lv_aload_n hx hb dX5_costOn_0 rfl (lv_at hl 0 rfl) ?_
  refine lv_aload_n hx hb dX5_costOn_1 rfl (lv_at hl 0 rfl) ?_
  refine va_get (D := g.1) (ci := 5) (v := .int (nI (sN S))) (C := RX5) (T := TX5) (N := 23) hx hb hts hiX5 hown hK.1 hP 0 rfl rfl 15 (by decide) (hts _ w_fl_X5_94) (fun _ h9 => h9) rfl dX5_costOn_2 ?_
  refine tp_i (y := nI (bN b)) (by rw [hN]) ?_
  refine lv_bipush (v := nI (24)) hx hb dX5_costOn_5 (by decide) ?_
  refine lv_iload_n hx hb dX5_costOn_7 rfl (lv_at hl 1 rfl) ?_
  refine n_imul hx hb dX5_costOn_8 ?_
  refine cR_l (W.runV (As := [.int (nI (bN b)), .int (nI (24 * d))]) (rest := []) ⟨hx, hb, hml, hown, hts⟩ (m_expectedBy l g ma P S x hx9 b hbm hLy hM (bN b) (24 * d) (Nat.le_refl _) (by omega)) (cwV 2 hts (gV w_ml_X5_126 w_im_X5_expectedBy w_sel_X5_expectedBy w_ini_X5 w_co_X5_expectedBy) rfl rfl rfl (by decide +kernel) (by rw [hR1, hR2]; exact ⟨Nat.le_of_ble_eq_true rfl, Nat.le_of_ble_eq_true rfl⟩)) (preV_rd hP hK (va_recv hK.1 hP (ci := 5) (q0 := 0) rfl rfl)) rfl rfl hl.1 rfl (lv_room (Nat.le_of_ble_eq_true rfl)) dX5_costOn_9 ⟨by rw [hR3]; omega, by rw [hR4]; omega⟩) ?_
  refine tp_l (y := lN (shA b (rsum x b) (d * 24))) (by rw [Nat.mul_comm 24 d, hsh]) ?_
  have hlt : shA b (rsum x b) (d * 24) < 2 ^ 40 := shR_lt hx9 hbm (by omega)
  refine lv_lstore_n (lv' := [(2, .long (lN (shA b (rsum x b) (d * 24)))), (0, .ref (ma 0)), (1, .int (nI (d)))]) hx hb dX5_costOn_12 rfl hl (by decide) rfl (fun ls hl => ?_)
  refine lv_lload_n hx hb dX5_costOn_13 rfl (lv_at hl 0 rfl) ?_
  refine lv_ldc2 (v := 1000) hx hb hown (hts _ w_ct_X5_137) dX5_costOn_14 ?_
  refine tp_l (y := lN 1000) (by decide) ?_
  refine W.lcmp hx hb dX5_costOn_17 ?_
  refine bl_ge (tgt := 35) hx hb (by omega) (by omega) dX5_costOn_18 (by decide) (fun c1 => ?_) (fun c1 => ?_)
  · refine lv_lload_n hx hb dX5_costOn_35 rfl (lv_at hl 0 rfl) ?_
    refine lv_ldc2 (v := 1000) hx hb hown (hts _ w_ct_X5_137) dX5_costOn_36 ?_
    refine tp_l (y := lN 1000) (by decide) ?_
    refine n_lsub hx hb (by omega) dX5_costOn_39 ?_
    refine lv_aload_n hx hb dX5_costOn_40 rfl (lv_at hl 1 rfl) ?_
    refine va_get (D := g.1) (ci := 5) (v := .int (nI (pL P))) (C := RX5) (T := TX5) (N := 23) hx hb hts hiX5 hown hK.1 hP 0 rfl rfl 14 (by decide) (hts _ w_fl_X5_51) (fun _ h9 => h9) rfl dX5_costOn_41 ?_
    refine tp_i (y := nI (xL x)) (by rw [hpL]) ?_
    refine n_i2l hx hb (by omega) dX5_costOn_44 ?_
    refine n_lmul hx hb dX5_costOn_45 ?_
    subst hQQ
    exact W.lret hx hb hr (fun t9 ht _ => rdL (by unfold ctN; rw [if_neg (by omega)]) ht) (fun q h => absurd h List.not_mem_nil) dX5_costOn_46
  · refine lv_ldc2 (v := 1000) hx hb hown (hts _ w_ct_X5_137) dX5_costOn_21 ?_
    refine tp_l (y := lN 1000) (by decide) ?_
    refine lv_lload_n hx hb dX5_costOn_24 rfl (lv_at hl 0 rfl) ?_
    refine n_lsub hx hb (by omega) dX5_costOn_25 ?_
    refine lv_aload_n hx hb dX5_costOn_26 rfl (lv_at hl 1 rfl) ?_
    refine va_get (D := g.1) (ci := 5) (v := .int (nI (pE P))) (C := RX5) (T := TX5) (N := 23) hx hb hts hiX5 hown hK.1 hP 0 rfl rfl 13 (by decide) (hts _ w_fl_X5_48) (fun _ h9 => h9) rfl dX5_costOn_27 ?_
    refine tp_i (y := nI (xE x)) (by rw [hpE]) ?_
    refine n_i2l hx hb (by omega) dX5_costOn_30 ?_
    refine n_lmul hx hb dX5_costOn_31 ?_
    refine lv_goto (tgt := 46) hx hb dX5_costOn_32 (by decide) ?_
    subst hQQ
    exact W.lret hx hb hr (fun t9 ht _ => rdL (by unfold ctN; rw [if_pos c1]) ht) (fun q h => absurd h List.not_mem_nil) dX5_costOn_46

