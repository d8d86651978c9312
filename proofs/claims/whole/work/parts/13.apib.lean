set_option maxHeartbeats 4000000 in
set_option maxRecDepth 100000 in
theorem k_silent (l : Launch) (g : GG) (x : FT) (hx9 : Xok x) (t k : Int32) : Rd l yX4_silent wsX4_silent 2 45 [.ref (xA x 0), .int (t), .int (k)] g (wX g x) (gI ((inL 0 9999 t).bind (fun h => kth (fun i => !silB ((xB x).getD i bin0) (nI h - nI (xQ x)) (nI h)) k (xB x).length 0 0))) := by
  refine Met.ofW (cc := cX4_silent) (maxL := 5) (ret := (some .int)) (by decide) rfl ?_
  intro p e s m args below meth c s₁ BB hml hv
  obtain ⟨hargs, hP, hK⟩ := hv
  have hx := BB.exec
  have hb := BB.bytes
  have hr := BB.returns
  have hts : ∀ w ∈ BIG, w.before args s = true := fun w h => atoms_spec (ws := wsX4_silent) BB.pre w (List.mem_cons_of_mem _ h)
  have hown : s.vm.findClass RX4 = some m.cls := findClass_of_methodNamed BB.named
  have hlocks := BB.notSynchronized
  obtain ⟨RR, hRR⟩ : ∃ RR, RR = (headSpec wsX4_silent ⟨2, 0, 0, 45⟩).room := ⟨_, rfl⟩
  have hR1 : RR.frames = 2 := by rw [hRR]; rfl
  have hR2 : RR.locals = 45 := by rw [hRR]; rfl
  have hR3 : RR.cells = 0 := by rw [hRR]; rfl
  have hR4 : RR.slots = 0 := by rw [hRR]; rfl
  have hl := lv_entry ([.ref (xA x 0), .int (t), .int (k)]) (n := 5) (Nat.le_of_ble_eq_true rfl)
  have hent : entryFrame m args 5 = F0 m 0 ((lg_sl ([.ref (xA x 0), .int (t), .int (k)]) ++ List.replicate (5 - (lg_sl ([.ref (xA x 0), .int (t), .int (k)])).length) Slot.unset).toArray) [] := by rw [hargs, lg_entry_eq]
  rw [hent]
  generalize (lg_sl ([.ref (xA x 0), .int (t), .int (k)]) ++ List.replicate (5 - (lg_sl ([.ref (xA x 0), .int (t), .int (k)])).length) Slot.unset).toArray = ls at hl ⊢
  have hl : lv_has ls 5 [(0, .ref (xA x 0)), (1, .int (t)), (2, .int (k))] := hl
  refine q_ab (R := RR) hRR ?_
  generalize hQQ : MQ below _ args s _ _ _ = QQ
  obtain ⟨h8, hB, hW, hq9, he9, hl9⟩ := id hx9
  refine lv_iload_n hx hb dX4_silent_0 rfl (lv_at hl 1 rfl) ?_
  refine cR_i (W.runS (As := [.int (t)]) (rest := []) ⟨hx, hb, hml, hown, hts⟩ (k_isHour l g t) (va_cwS 1 hts (gS w_ml_X4_60 w_sm_X4_isHour w_ini_X4 w_co_X4_isHour) rfl rfl rfl (by decide +kernel) (by rw [hR1, hR2]; exact ⟨Nat.le_of_ble_eq_true rfl, Nat.le_of_ble_eq_true rfl⟩)) (preS_rd va_P.nil hK) rfl rfl hl.1 rfl (lv_room (Nat.le_of_ble_eq_true rfl)) dX4_silent_1 ⟨by rw [hR3]; omega, by rw [hR4]; omega⟩) ?_
  refine bb_ne (tgt := 9) hx hb dX4_silent_4 (by decide) (fun hhc => ?_) (fun hhc => ?_)
  · cases hh : inL 0 9999 t with
    | none => exact absurd hhc (by rw [inL_n hh]; decide)
    | some h =>
      obtain ⟨hhl, hhn, hhe, -⟩ := inL_s (by decide) (by decide) hh
      subst hhe
      refine lv_iconst (v := nI (0)) hx hb dX4_silent_9 (by decide) ?_
      refine lv_istore_n (lv' := [(3, .int (nI (0))), (0, .ref (xA x 0)), (1, .int (nI (h))), (2, .int (k))]) hx hb dX4_silent_10 rfl hl (by decide) rfl (fun ls hl => ?_)
      refine lv_iconst (v := nI (0)) hx hb dX4_silent_11 (by decide) ?_
      refine lv_istore (lv' := [(4, .int (nI (0))), (3, .int (nI (0))), (0, .ref (xA x 0)), (1, .int (nI (h))), (2, .int (k))]) hx hb dX4_silent_12 hl (by decide) rfl (fun ls hl => ?_)
      have loop : ∀ (k9 : Nat) (j : Nat) (f : Nat) (ls : Array Slot), (j ≤ (xB x).length) → (f ≤ j) → ((xB x).length < j + k9) → (kth (fun i => !silB ((xB x).getD i bin0) (nI h - nI (xQ x)) (nI h)) k ((xB x).length - j) j f = kth (fun i => !silB ((xB x).getD i bin0) (nI h - nI (xQ x)) (nI h)) k (xB x).length 0 0) → lv_has ls 5 [(0, .ref (xA x 0)), (1, .int (nI (h))), (2, .int (k)), (3, .int (nI (f))), (4, .int (nI (j)))] → W p l e RR s m args below meth c s.heap [] 0 0 QQ (F0 m 14 ls []) := by
        intro k9
        induction k9 with
        | zero => intro j f ls hj hf hk he hl; exact absurd hk (by omega)
        | succ k9 ih =>
          intro j f ls hj hf hk he hl
          refine lv_iload hx hb dX4_silent_14 (lv_at hl 4 rfl) ?_
          refine lv_aload_n hx hb dX4_silent_16 rfl (lv_at hl 0 rfl) ?_
          refine va_get (D := g.1) (ci := 4) (v := .int (nI ((xB x).length))) (C := RX4) (T := TX4) (N := 8) hx hb hts hiX4 hown hK.1 hP 0 rfl rfl 4 (by decide) (hts _ w_fl_X4_36) (fun _ h9 => h9) rfl dX4_silent_17 ?_
          refine bn_ge (tgt := 60) hx hb (by omega) (by omega) dX4_silent_20 (by decide) (fun c1 => ?_) (fun c1 => ?_)
          · refine lv_iconst (v := (-1)) hx hb dX4_silent_60 (by decide) ?_
            subst hQQ
            exact W.iret hx hb hr (fun t9 ht _ => rdI (by rw [hh]; show _ = gI (kth (fun i => !silB ((xB x).getD i bin0) (nI h - nI (xQ x)) (nI h)) k (xB x).length 0 0); rw [← he, show (xB x).length - j = 0 by omega]; rfl) ht) (fun q h => absurd h List.not_mem_nil) dX4_silent_61
          · rw [show (xB x).length - j = ((xB x).length - (j + 1)) + 1 by omega, kth] at he
            obtain ⟨b, hb2⟩ : ∃ b, (xB x)[j]? = some b := ⟨_, List.getElem?_eq_getElem c1⟩
            have hgd : (xB x).getD j bin0 = b := by rw [List.getD_eq_getElem?_getD, hb2]; rfl
            rw [hgd] at he
            have hbm := List.mem_of_getElem? hb2
            have hBk := hB b hbm
            obtain ⟨⟨hbn, hbp, -, -⟩, -⟩ := id hBk
            have hpl2 : ∀ i, i < bN b → bPl b i < 2 ^ 31 := fun i hi => Nat.lt_trans (hbp i hi) (by decide)
            have hrf : bRef (xB x) j = some (bA b 0) := by unfold bRef; rw [hb2]; rfl
            have hPb := wX_B hP hbm
            refine lv_aload_n hx hb dX4_silent_23 rfl (lv_at hl 0 rfl) ?_
            refine va_get (D := g.1) (ci := 4) (v := .ref (xA x 1)) (C := RX4) (T := TX4) (N := 8) hx hb hts hiX4 hown hK.1 hP 0 rfl rfl 3 (by decide) (hts _ w_fl_X4_32) (fun _ h9 => h9) rfl dX4_silent_24 ?_
            refine lv_iload hx hb dX4_silent_27 (lv_at hl 4 rfl) ?_
            refine n_aldr (k := j) (r := bA b 0) hx hb hK.1 hP 1 2 rfl rfl (by omega) (by decide) (hrf) dX4_silent_29 ?_
            refine lv_iload_n hx hb dX4_silent_30 rfl (lv_at hl 1 rfl) ?_
            refine lv_aload_n hx hb dX4_silent_31 rfl (lv_at hl 0 rfl) ?_
            refine va_get (D := g.1) (ci := 4) (v := .int (nI (xQ x))) (C := RX4) (T := TX4) (N := 8) hx hb hts hiX4 hown hK.1 hP 0 rfl rfl 5 (by decide) (hts _ w_fl_X4_40) (fun _ h9 => h9) rfl dX4_silent_32 ?_
            refine lv_isub hx hb dX4_silent_35 ?_
            refine lv_iload_n hx hb dX4_silent_36 rfl (lv_at hl 1 rfl) ?_
            refine cR_i (W.runV (As := [.int (nI (h) - nI (xQ x)), .int (nI (h))]) (rest := []) ⟨hx, hb, hml, hown, hts⟩ (k_hasRowWithin l g b (nI h - nI (xQ x)) (nI h) hbn hpl2) (cwV 2 hts (gV w_ml_X4_110 w_im_X0_hasRowWithin w_sel_X0_hasRowWithin w_ini_X0 w_co_X0_hasRowWithin) rfl rfl rfl (by decide +kernel) (by rw [hR1, hR2]; exact ⟨Nat.le_of_ble_eq_true rfl, Nat.le_of_ble_eq_true rfl⟩)) (preV_rd hPb hK (va_recv hK.1 hPb (ci := 0) (q0 := 0) rfl rfl)) rfl rfl hl.1 rfl (lv_room (Nat.le_of_ble_eq_true rfl)) dX4_silent_37 ⟨by rw [hR3]; omega, by rw [hR4]; omega⟩) ?_
            refine W.eq (g2 := F0 m 40 ls [.int (bI (silB b (nI h - nI (xQ x)) (nI h)))]) rfl ?_
            refine bb_ne (tgt := 54) hx hb dX4_silent_40 (by decide) (fun c2 => ?_) (fun c2 => ?_)
            · rw [if_neg (by rw [c2]; decide)] at he
              refine lv_iinc (v := nI (j + 1)) (lv' := [(4, .int (nI (j + 1))), (0, .ref (xA x 0)), (1, .int (nI (h))), (2, .int (k)), (3, .int (nI (f)))]) hx hb dX4_silent_54 hl (k := 4) rfl (nI_1 _) (by decide) rfl (fun ls hl => ?_)
              refine lv_goto (tgt := 14) hx hb dX4_silent_57 (by decide) ?_
              exact ih (j + 1) f ls (by omega) (by omega) (by omega) he (lv_sub hl [1, 2, 3, 4, 0] rfl)
            · rw [if_pos (by rw [c2]; rfl)] at he
              refine lv_iload_n hx hb dX4_silent_43 rfl (lv_at hl 3 rfl) ?_
              refine lv_iload_n hx hb dX4_silent_44 rfl (lv_at hl 2 rfl) ?_
              refine lv_icmp_ne (tgt := 51) hx hb dX4_silent_45 (by decide) (fun c3 => ?_) (fun c3 => ?_)
              · rw [if_neg c3] at he
                refine lv_iinc (v := nI (f + 1)) (lv' := [(3, .int (nI (f + 1))), (0, .ref (xA x 0)), (1, .int (nI (h))), (2, .int (k)), (4, .int (nI (j)))]) hx hb dX4_silent_51 hl (k := 3) rfl (nI_1 _) (by decide) rfl (fun ls hl => ?_)
                refine lv_iinc (v := nI (j + 1)) (lv' := [(4, .int (nI (j + 1))), (3, .int (nI (f + 1))), (0, .ref (xA x 0)), (1, .int (nI (h))), (2, .int (k))]) hx hb dX4_silent_54 hl (k := 4) rfl (nI_1 _) (by decide) rfl (fun ls hl => ?_)
                refine lv_goto (tgt := 14) hx hb dX4_silent_57 (by decide) ?_
                exact ih (j + 1) (f + 1) ls (by omega) (by omega) (by omega) he (lv_sub hl [2, 3, 4, 1, 0] rfl)
              · rw [if_pos c3] at he
                refine lv_iload hx hb dX4_silent_48 (lv_at hl 4 rfl) ?_
                subst hQQ
                exact W.iret hx hb hr (fun t9 ht _ => rdI (by rw [hh]; show _ = gI (kth (fun i => !silB ((xB x).getD i bin0) (nI h - nI (xQ x)) (nI h)) k (xB x).length 0 0); rw [← he]; rfl) ht) (fun q h => absurd h List.not_mem_nil) dX4_silent_50
      exact loop ((xB x).length + 1) 0 0 ls (Nat.zero_le _) (Nat.le_refl _) (by omega) rfl (lv_sub hl [2, 3, 4, 1, 0] rfl)
  · cases hh : inL 0 9999 t with
    | none =>
      refine lv_iconst (v := (-1)) hx hb dX4_silent_7 (by decide) ?_
      subst hQQ
      exact W.iret hx hb hr (fun t9 ht _ => rdI (by rw [hh]; rfl) ht) (fun q h => absurd h List.not_mem_nil) dX4_silent_8
    | some h => exact absurd hhc (by rw [(inL_s (by decide) (by decide) hh).2.2.2]; decide)
