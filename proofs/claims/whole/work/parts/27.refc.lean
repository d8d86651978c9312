set_option maxHeartbeats 4000000 in
set_option maxRecDepth 100000 in
theorem m_isSilent (l : Launch) (g : GG) (ma : Nat → Nat) (P : PT) (S : ST) (x : FT) (hx9 : Xok x) (hRl : Rel x P) (j : Nat) (b : BinT) (hbj : (xB x)[j]? = some b) (h : Nat) (hh : h < 10000) : Rz l yX5_isSilent wsX5_isSilent 1 22 [.ref (ma 0), .int (nI (j)), .int (nI (h))] g (wM g ma P S) (bI (!silB b (nI h - nI (xQ x)) (nI h))) := by
  refine Met.ofW (cc := cX5_isSilent) (maxL := 6) (ret := (some .boolean)) (by decide) rfl ?_
  intro p e s m args below meth c s₁ BB hml hv
  obtain ⟨hargs, hP, hK⟩ := hv
  have hx := BB.exec
  have hb := BB.bytes
  have hr := BB.returns
  have hts : ∀ w ∈ BIG, w.before args s = true := fun w h => atoms_spec (ws := wsX5_isSilent) BB.pre w (List.mem_cons_of_mem _ h)
  have hown : s.vm.findClass RX5 = some m.cls := findClass_of_methodNamed BB.named
  have hlocks := BB.notSynchronized
  obtain ⟨RR, hRR⟩ : ∃ RR, RR = (headSpec wsX5_isSilent ⟨1, 0, 0, 22⟩).room := ⟨_, rfl⟩
  have hR1 : RR.frames = 1 := by rw [hRR]; rfl
  have hR2 : RR.locals = 22 := by rw [hRR]; rfl
  have hR3 : RR.cells = 0 := by rw [hRR]; rfl
  have hR4 : RR.slots = 0 := by rw [hRR]; rfl
  have hl := lv_entry ([.ref (ma 0), .int (nI (j)), .int (nI (h))]) (n := 6) (Nat.le_of_ble_eq_true rfl)
  have hent : entryFrame m args 6 = F0 m 0 ((lg_sl ([.ref (ma 0), .int (nI (j)), .int (nI (h))]) ++ List.replicate (6 - (lg_sl ([.ref (ma 0), .int (nI (j)), .int (nI (h))])).length) Slot.unset).toArray) [] := by rw [hargs, lg_entry_eq]
  rw [hent]
  generalize (lg_sl ([.ref (ma 0), .int (nI (j)), .int (nI (h))]) ++ List.replicate (6 - (lg_sl ([.ref (ma 0), .int (nI (j)), .int (nI (h))])).length) Slot.unset).toArray = ls at hl ⊢
  have hl : lv_has ls 6 [(0, .ref (ma 0)), (1, .int (nI (j))), (2, .int (nI (h)))] := hl
  refine q_ab (R := RR) hRR ?_
  generalize hQQ : MQ below _ args s _ _ _ = QQ
  have hbm := List.mem_of_getElem? hbj
  have hBk := hx9.2.1 b hbm
  have hR := hRl.2.1 j b hbj
  have hjl : j < (xB x).length := (List.getElem?_eq_some_iff.mp hbj).1
  have h8 := hx9.1
  have hpB := hRl.1
  obtain ⟨⟨hbn, hbp, hbo, hba⟩, -⟩ := id hBk
  obtain ⟨⟨-, -, hRc, -⟩, -⟩ := id hR
  have hrh := hR.rh hBk
  have hc2 : bR b ≤ 24 := hBk.2.2.2.2.2.2.1
  have hfin := silR_B (x := x) hBk hR hRl.2.2.2.2.1 hx9.2.2.2.1 hh
  refine lv_iconst (v := bI (true)) hx hb dX5_isSilent_0 (by decide) ?_
  refine lv_istore_n (lv' := [(3, .int (bI (true))), (0, .ref (ma 0)), (1, .int (nI (j))), (2, .int (nI (h)))]) hx hb dX5_isSilent_1 rfl hl (by decide) rfl (fun ls hl => ?_)
  refine lv_iconst (v := nI (0)) hx hb dX5_isSilent_2 (by decide) ?_
  refine lv_istore (lv' := [(4, .int (nI (0))), (3, .int (bI (true))), (0, .ref (ma 0)), (1, .int (nI (j))), (2, .int (nI (h)))]) hx hb dX5_isSilent_3 hl (by decide) rfl (fun ls hl => ?_)
  have loop : ∀ (k9 : Nat) (q : Nat) (ls : Array Slot), (q ≤ bR b) → (bR b < q + k9) → lv_has ls 6 [(0, .ref (ma 0)), (1, .int (nI (j))), (2, .int (nI (h))), (3, .int (bI (silR P j h q))), (4, .int (nI (q)))] → W p l e RR s m args below meth c s.heap [] 0 0 QQ (F0 m 5 ls []) := by
    intro k9
    induction k9 with
    | zero => intro q ls hq hk hl; exact absurd hk (by omega)
    | succ k9 ih =>
      intro q ls hq hk hl
      refine lv_iload hx hb dX5_isSilent_5 (lv_at hl 4 rfl) ?_
      refine lv_aload_n hx hb dX5_isSilent_7 rfl (lv_at hl 0 rfl) ?_
      refine va_get (D := g.1) (ci := 5) (v := .ref (ma 3)) (C := RX5) (T := TX5) (N := 23) hx hb hts hiX5 hown hK.1 hP 0 rfl rfl 3 (by decide) (hts _ w_fl_X5_16) (fun _ h9 => h9) rfl dX5_isSilent_8 ?_
      refine lv_iload_n hx hb dX5_isSilent_11 rfl (lv_at hl 1 rfl) ?_
      refine n_iald (k := j) (v := nI (bR b)) hx hb hK.1 hP 3 0 rfl rfl (by omega) (by decide) (by show nI (aRc P j) = _; rw [hRc]) dX5_isSilent_12 ?_
      refine bn_ge (tgt := 61) hx hb (by omega) (by omega) dX5_isSilent_13 (by decide) (fun c1 => ?_) (fun c1 => ?_)
      · have hqf : q = bR b := by omega
        subst hqf
        refine lv_iload_n hx hb dX5_isSilent_61 rfl (lv_at hl 3 rfl) ?_
        subst hQQ
        exact W.zret hx hb hr (nar_b _) (fun t9 ht _ => rdI (by rw [hfin]) ht) (fun q h => absurd h List.not_mem_nil) dX5_isSilent_62
      · have hb1 := hrh q c1
        refine lv_iload_n hx hb dX5_isSilent_16 rfl (lv_at hl 2 rfl) ?_
        refine lv_aload_n hx hb dX5_isSilent_17 rfl (lv_at hl 0 rfl) ?_
        refine va_get (D := g.1) (ci := 5) (v := .ref (ma 4)) (C := RX5) (T := TX5) (N := 23) hx hb hts hiX5 hown hK.1 hP 0 rfl rfl 4 (by decide) (hts _ w_fl_X5_19) (fun _ h9 => h9) rfl dX5_isSilent_18 ?_
        refine lv_bipush (v := nI (24)) hx hb dX5_isSilent_21 (by decide) ?_
        refine lv_iload_n hx hb dX5_isSilent_23 rfl (lv_at hl 1 rfl) ?_
        refine n_imul hx hb dX5_isSilent_24 ?_
        refine lv_iload hx hb dX5_isSilent_25 (lv_at hl 4 rfl) ?_
        refine n_iadd hx hb dX5_isSilent_27 ?_
        refine n_iald (k := (24 * j) + q) (v := nI (aRh P ((24 * j) + q))) hx hb hK.1 hP 4 0 rfl rfl (by omega) (by decide) (rfl) dX5_isSilent_28 ?_
        refine lv_isub hx hb dX5_isSilent_29 ?_
        refine lv_istore (lv' := [(5, .int (nI (h) - nI (aRh P ((24 * j) + q)))), (0, .ref (ma 0)), (1, .int (nI (j))), (2, .int (nI (h))), (3, .int (bI (silR P j h q))), (4, .int (nI (q)))]) hx hb dX5_isSilent_30 hl (by decide) rfl (fun ls hl => ?_)
        refine lv_iload_n hx hb dX5_isSilent_32 rfl (lv_at hl 4 rfl) ?_
        refine bb_eq (tgt := 53) hx hb dX5_isSilent_33 (by decide) (fun c2 => ?_) (fun c2 => ?_)
        · refine lv_iconst (v := bI (false)) hx hb dX5_isSilent_53 (by decide) ?_
          refine tp_i (y := bI (silR P j h (q + 1))) (by rw [silR, c2, Bool.false_and]) ?_
          refine lv_istore_n (lv' := [(3, .int (bI (silR P j h (q + 1)))), (5, .int (nI (h) - nI (aRh P ((24 * j) + q)))), (0, .ref (ma 0)), (1, .int (nI (j))), (2, .int (nI (h))), (4, .int (nI (q)))]) hx hb dX5_isSilent_54 rfl hl (by decide) rfl (fun ls hl => ?_)
          refine lv_iinc (v := nI (q + 1)) (lv' := [(4, .int (nI (q + 1))), (3, .int (bI (silR P j h (q + 1)))), (5, .int (nI (h) - nI (aRh P ((24 * j) + q)))), (0, .ref (ma 0)), (1, .int (nI (j))), (2, .int (nI (h)))]) hx hb dX5_isSilent_55 hl (k := 5) rfl (nI_1 _) (by decide) rfl (fun ls hl => ?_)
          refine lv_goto (tgt := 5) hx hb dX5_isSilent_58 (by decide) ?_
          exact ih (q + 1) ls (by omega) (by omega) (lv_sub hl [3, 4, 5, 1, 0] rfl)
        · refine lv_iload hx hb dX5_isSilent_36 (lv_at hl 0 rfl) ?_
          refine lv_iconst (v := nI (0)) hx hb dX5_isSilent_38 (by decide) ?_
          refine lv_aload_n hx hb dX5_isSilent_39 rfl (lv_at hl 1 rfl) ?_
          refine va_get (D := g.1) (ci := 5) (v := .int (nI (pQ P))) (C := RX5) (T := TX5) (N := 23) hx hb hts hiX5 hown hK.1 hP 0 rfl rfl 12 (by decide) (hts _ w_fl_X5_45) (fun _ h9 => h9) rfl dX5_isSilent_40 ?_
          refine cR_i (W.runS (As := [.int (nI (h) - nI (aRh P ((24 * j) + q))), .int (nI (0)), .int (nI (pQ P))]) (rest := []) ⟨hx, hb, hml, hown, hts⟩ (m_isIn l g (nI h - nI (aRh P (24 * j + q))) (nI 0) (nI (pQ P))) (va_cwS 3 hts (gS w_ml_X5_79 w_sm_X5_isIn w_ini_X5 w_co_X5_isIn) rfl rfl rfl (by decide +kernel) (by rw [hR1, hR2]; exact ⟨Nat.le_of_ble_eq_true rfl, Nat.le_of_ble_eq_true rfl⟩)) (preS_rd va_P.nil hK) rfl rfl hl.1 rfl (lv_room (Nat.le_of_ble_eq_true rfl)) dX5_isSilent_43 ⟨by rw [hR3]; omega, by rw [hR4]; omega⟩) ?_
          refine W.eq (g2 := F0 m 46 ls [.int (bI (rinS P j h q))]) rfl ?_
          refine bb_ne (tgt := 53) hx hb dX5_isSilent_46 (by decide) (fun c3 => ?_) (fun c3 => ?_)
          · refine lv_iconst (v := bI (false)) hx hb dX5_isSilent_53 (by decide) ?_
            refine tp_i (y := bI (silR P j h (q + 1))) (by rw [silR, c3, Bool.not_true, Bool.and_false]) ?_
            refine lv_istore_n (lv' := [(3, .int (bI (silR P j h (q + 1)))), (5, .int (nI (h) - nI (aRh P ((24 * j) + q)))), (0, .ref (ma 0)), (1, .int (nI (j))), (2, .int (nI (h))), (4, .int (nI (q)))]) hx hb dX5_isSilent_54 rfl hl (by decide) rfl (fun ls hl => ?_)
            refine lv_iinc (v := nI (q + 1)) (lv' := [(4, .int (nI (q + 1))), (3, .int (bI (silR P j h (q + 1)))), (5, .int (nI (h) - nI (aRh P ((24 * j) + q)))), (0, .ref (ma 0)), (1, .int (nI (j))), (2, .int (nI (h)))]) hx hb dX5_isSilent_55 hl (k := 5) rfl (nI_1 _) (by decide) rfl (fun ls hl => ?_)
            refine lv_goto (tgt := 5) hx hb dX5_isSilent_58 (by decide) ?_
            exact ih (q + 1) ls (by omega) (by omega) (lv_sub hl [3, 4, 5, 1, 0] rfl)
          · refine lv_iconst (v := bI (true)) hx hb dX5_isSilent_49 (by decide) ?_
            refine lv_goto (tgt := 54) hx hb dX5_isSilent_50 (by decide) ?_
            refine tp_i (y := bI (silR P j h (q + 1))) (by rw [silR, c2, c3, Bool.not_false, Bool.and_true]) ?_
            refine lv_istore_n (lv' := [(3, .int (bI (silR P j h (q + 1)))), (5, .int (nI (h) - nI (aRh P ((24 * j) + q)))), (0, .ref (ma 0)), (1, .int (nI (j))), (2, .int (nI (h))), (4, .int (nI (q)))]) hx hb dX5_isSilent_54 rfl hl (by decide) rfl (fun ls hl => ?_)
            refine lv_iinc (v := nI (q + 1)) (lv' := [(4, .int (nI (q + 1))), (3, .int (bI (silR P j h (q + 1)))), (5, .int (nI (h) - nI (aRh P ((24 * j) + q)))), (0, .ref (ma 0)), (1, .int (nI (j))), (2, .int (nI (h)))]) hx hb dX5_isSilent_55 hl (k := 5) rfl (nI_1 _) (by decide) rfl (fun ls hl => ?_)
            refine lv_goto (tgt := 5) hx hb dX5_isSilent_58 (by decide) ?_
            exact ih (q + 1) ls (by omega) (by omega) (lv_sub hl [3, 4, 5, 1, 0] rfl)
  exact loop (bR b + 1) 0 ls (Nat.zero_le _) (by omega) (lv_sub hl [2, 3, 4, 1, 0] rfl)
