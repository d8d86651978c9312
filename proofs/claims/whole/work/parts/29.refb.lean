set_option maxHeartbeats 4000000 in
set_option maxRecDepth 100000 in
theorem m_wrong (l : Launch) (g : GG) (ma : Nat → Nat) (P : PT) (S : ST) (x : FT) (hx9 : Xok x) (hRl : Rel x P) (hs0 : sM S 0 = 0) (k d : Int32) (sz : Nat) : Ei l yX5_wrong wsX5_wrong 2 48 0 0 [.ref (ma 0), .int (k), .int (d)] g (wM g ma P S) sz ma P (gI ((binAt (xB x) k).bind (fun b => (kth (bWr b) d (bN b) 0 0).map (hrB b)))) (fun u => sM u 0 = 0) := by
  refine Met.ofW (cc := cX5_wrong) (maxL := 5) (ret := (some .int)) (by decide) rfl ?_
  intro p e s m args below meth c s₁ BB hml hv
  obtain ⟨hargs, hsz, hP, hK, hD0⟩ := hv
  have hx := BB.exec
  have hb := BB.bytes
  have hr := BB.returns
  have hts : ∀ w ∈ BIG, w.before args s = true := fun w h => atoms_spec (ws := wsX5_wrong) BB.pre w (List.mem_cons_of_mem _ h)
  have hown : s.vm.findClass RX5 = some m.cls := findClass_of_methodNamed BB.named
  have hlocks := BB.notSynchronized
  obtain ⟨RR, hRR⟩ : ∃ RR, RR = (headSpec wsX5_wrong ⟨2, 0, 0, 48⟩).room := ⟨_, rfl⟩
  have hR1 : RR.frames = 2 := by rw [hRR]; rfl
  have hR2 : RR.locals = 48 := by rw [hRR]; rfl
  have hR3 : RR.cells = 0 := by rw [hRR]; rfl
  have hR4 : RR.slots = 0 := by rw [hRR]; rfl
  have hl := lv_entry ([.ref (ma 0), .int (k), .int (d)]) (n := 5) (Nat.le_of_ble_eq_true rfl)
  have hent : entryFrame m args 5 = F0 m 0 ((lg_sl ([.ref (ma 0), .int (k), .int (d)]) ++ List.replicate (5 - (lg_sl ([.ref (ma 0), .int (k), .int (d)])).length) Slot.unset).toArray) [] := by rw [hargs, lg_entry_eq]
  rw [hent]
  generalize (lg_sl ([.ref (ma 0), .int (k), .int (d)]) ++ List.replicate (5 - (lg_sl ([.ref (ma 0), .int (k), .int (d)])).length) Slot.unset).toArray = ls at hl ⊢
  have hl : lv_has ls 5 [(0, .ref (ma 0)), (1, .int (k)), (2, .int (d))] := hl
  subst hsz
  have hD := hD0.self (sz := s.heap.size)
  generalize hAe : va_A (wM g ma P S) s.heap.size = A at hD ⊢
  have hA : ∀ q : Nat, s.heap.size ≤ q → A q := fun q h => by rw [← hAe]; exact Or.inr h
  have hS : va_S A s.heap s.heap [] := va_S.rf
  refine q_ab (R := RR) hRR ?_
  generalize hQQ : MQ below _ args s _ _ _ = QQ
  have h8 := hx9.1
  have hpB := hRl.1
  refine lv_aload_n hx hb dX5_wrong_0 rfl (lv_at hl 0 rfl) ?_
  refine lv_iload_n hx hb dX5_wrong_1 rfl (lv_at hl 1 rfl) ?_
  cases hbk : binAt (xB x) k with
  | none =>
    refine cR_i (W.runV (As := [.int (k)]) (rest := []) ⟨hx, hb, hml, hown, hts⟩ (m_isBin_n l g ma P S x k hpB h8 hbk) (cwV 1 hts (gV w_ml_X5_83 w_im_X5_isBin w_sel_X5_isBin w_ini_X5 w_co_X5_isBin) rfl rfl rfl (by decide +kernel) (by rw [hR1, hR2]; exact ⟨Nat.le_of_ble_eq_true rfl, Nat.le_of_ble_eq_true rfl⟩)) (preV_rd hP hK (va_recv hK.1 hP (ci := 5) (q0 := 0) rfl rfl)) rfl rfl hl.1 rfl (lv_room (Nat.le_of_ble_eq_true rfl)) dX5_wrong_2 ⟨by rw [hR3]; omega, by rw [hR4]; omega⟩) ?_
    refine bb_ne (tgt := 10) hx hb dX5_wrong_5 (by decide) (fun cb => ?_) (fun cb => ?_)
    · exact absurd cb (by decide)
    · refine lv_iconst (v := (-1)) hx hb dX5_wrong_8 (by decide) ?_
      subst hQQ
      exact W.iret hx hb hr (fun t9 ht _ => ⟨⟨_, S, rfl, ⟨by rw [hbk]; rfl, hs0⟩, hpT ht hP⟩, hS.F ht⟩) hS.2.2 dX5_wrong_9
  | some b =>
    obtain ⟨j, hjl, ek, hbj, -⟩ := binAt_s h8 hbk
    subst ek
    have hbm := List.mem_of_getElem? hbj
    have hBk := hx9.2.1 b hbm
    have hR := hRl.2.1 j b hbj
    obtain ⟨⟨hbn, hbp, hbo, hba⟩, hbw, hbg, hbs, hbr, hc1, hc2, hc3, hbam⟩ := id hBk
    refine cR_i (W.runV (As := [.int (nI (j))]) (rest := []) ⟨hx, hb, hml, hown, hts⟩ (m_isBin_s l g ma P S j (by omega) (by omega)) (cwV 1 hts (gV w_ml_X5_83 w_im_X5_isBin w_sel_X5_isBin w_ini_X5 w_co_X5_isBin) rfl rfl rfl (by decide +kernel) (by rw [hR1, hR2]; exact ⟨Nat.le_of_ble_eq_true rfl, Nat.le_of_ble_eq_true rfl⟩)) (preV_rd hP hK (va_recv hK.1 hP (ci := 5) (q0 := 0) rfl rfl)) rfl rfl hl.1 rfl (lv_room (Nat.le_of_ble_eq_true rfl)) dX5_wrong_2 ⟨by rw [hR3]; omega, by rw [hR4]; omega⟩) ?_
    refine bb_ne (tgt := 10) hx hb dX5_wrong_5 (by decide) (fun cb => ?_) (fun cb => ?_)
    · refine lv_aload_n hx hb dX5_wrong_10 rfl (lv_at hl 0 rfl) ?_
      refine lv_iload_n hx hb dX5_wrong_11 rfl (lv_at hl 1 rfl) ?_
      refine cE_v (wc := wM g ma P S) (w1 := fun u => wM g ma (P) u) (va_runV (As := [.int (nI (j))]) (rest := []) ⟨hx, hb, hml, hown, hts⟩ (m_layOut l g ma P S j b hBk hR (by omega) _) (cwV 1 hts (gV w_ml_X5_105 w_im_X5_layOut w_sel_X5_layOut w_ini_X5 w_co_X5_layOut) rfl rfl rfl (by decide +kernel) (by rw [hR1, hR2]; exact ⟨Nat.le_of_ble_eq_true rfl, Nat.le_of_ble_eq_true rfl⟩)) (preV_wr hP hK hD (va_recv hK.1 hP (ci := 5) (q0 := 0) rfl rfl)) rfl rfl hl.1 rfl (lv_room (Nat.le_of_ble_eq_true rfl)) dX5_wrong_12 ⟨by rw [hR3]; omega, by rw [hR4]; omega⟩) hP hD hS hA (fun _ => rfl) (fun T H locs hT hP hD hS => ?_)
      obtain ⟨⟨hN, hLk⟩, -, hMM⟩ := hT
      refine lv_iconst (v := nI (0)) hx hb dX5_wrong_15 (by decide) ?_
      refine lv_istore_n (lv' := [(3, .int (nI (0))), (0, .ref (ma 0)), (1, .int (nI (j))), (2, .int (d))]) hx hb dX5_wrong_16 rfl hl (by decide) rfl (fun ls hl => ?_)
      refine lv_iconst (v := nI (0)) hx hb dX5_wrong_17 (by decide) ?_
      refine lv_istore (lv' := [(4, .int (nI (0))), (3, .int (nI (0))), (0, .ref (ma 0)), (1, .int (nI (j))), (2, .int (d))]) hx hb dX5_wrong_18 hl (by decide) rfl (fun ls hl => ?_)
      have loop : ∀ (k9 : Nat) (q : Nat) (f : Nat) (ls : Array Slot), (q ≤ bN b) → (f ≤ q) → (bN b < q + k9) → (kth (bWr b) d (bN b - q) q f = kth (bWr b) d (bN b) 0 0) → lv_has ls 5 [(0, .ref (ma 0)), (1, .int (nI (j))), (2, .int (d)), (3, .int (nI (f))), (4, .int (nI (q)))] → W p l e RR s m args below meth c H locs 0 0 QQ (F0 m 20 ls []) := by
        intro k9
        induction k9 with
        | zero => intro q f ls hq hf hk he hl; exact absurd hk (by omega)
        | succ k9 ih =>
          intro q f ls hq hf hk he hl
          refine lv_iload hx hb dX5_wrong_20 (lv_at hl 4 rfl) ?_
          refine lv_aload_n hx hb dX5_wrong_22 rfl (lv_at hl 0 rfl) ?_
          refine va_get (D := g.1) (ci := 5) (v := .int (nI (sN T))) (C := RX5) (T := TX5) (N := 23) hx hb hts hiX5 hown hK.1 hP 0 rfl rfl 15 (by decide) (hts _ w_fl_X5_94) (fun _ h9 => h9) rfl dX5_wrong_23 ?_
          refine tp_i (y := nI (bN b)) (by rw [hN]) ?_
          refine bn_ge (tgt := 61) hx hb (by omega) (by omega) dX5_wrong_26 (by decide) (fun c1 => ?_) (fun c1 => ?_)
          · refine lv_iconst (v := (-1)) hx hb dX5_wrong_61 (by decide) ?_
            subst hQQ
            exact W.iret hx hb hr (fun t9 ht _ => ⟨⟨_, T, rfl, ⟨by rw [hbk]; show _ = gI ((kth (bWr b) d (bN b) 0 0).map (hrB b)); rw [← he, show bN b - q = 0 by omega]; rfl, by show sM T 0 = 0; rw [hMM]; exact hs0⟩, hpT ht hP⟩, hS.F ht⟩) hS.2.2 dX5_wrong_62
          · rw [show bN b - q = (bN b - (q + 1)) + 1 by omega, kth] at he
            refine lv_aload_n hx hb dX5_wrong_29 rfl (lv_at hl 0 rfl) ?_
            refine va_get (D := g.1) (ci := 5) (v := .ref (ma 13)) (C := RX5) (T := TX5) (N := 23) hx hb hts hiX5 hown hK.1 hP 0 rfl rfl 19 (by decide) (hts _ w_fl_X5_63) (fun _ h9 => h9) rfl dX5_wrong_30 ?_
            refine lv_iload hx hb dX5_wrong_33 (lv_at hl 4 rfl) ?_
            refine n_zald (k := q) (v := bI (bWr b q)) hx hb hK.1 hP 13 1 rfl rfl (by omega) (by decide) (by show bI (sW T q) = _; rw [(hLk q (by omega)).2.2.2.1]) dX5_wrong_35 ?_
            refine bb_eq (tgt := 55) hx hb dX5_wrong_36 (by decide) (fun c2 => ?_) (fun c2 => ?_)
            · rw [if_neg (by rw [c2]; decide)] at he
              refine lv_iinc (v := nI (q + 1)) (lv' := [(4, .int (nI (q + 1))), (0, .ref (ma 0)), (1, .int (nI (j))), (2, .int (d)), (3, .int (nI (f)))]) hx hb dX5_wrong_55 hl (k := 4) rfl (nI_1 _) (by decide) rfl (fun ls hl => ?_)
              refine lv_goto (tgt := 20) hx hb dX5_wrong_58 (by decide) ?_
              exact ih (q + 1) f ls (by omega) (by omega) (by omega) he (lv_sub hl [1, 2, 3, 4, 0] rfl)
            · rw [if_pos c2] at he
              refine lv_iload_n hx hb dX5_wrong_39 rfl (lv_at hl 3 rfl) ?_
              refine lv_iload_n hx hb dX5_wrong_40 rfl (lv_at hl 2 rfl) ?_
              refine lv_icmp_ne (tgt := 52) hx hb dX5_wrong_41 (by decide) (fun c3 => ?_) (fun c3 => ?_)
              · rw [if_neg c3] at he
                refine lv_iinc (v := nI (f + 1)) (lv' := [(3, .int (nI (f + 1))), (0, .ref (ma 0)), (1, .int (nI (j))), (2, .int (d)), (4, .int (nI (q)))]) hx hb dX5_wrong_52 hl (k := 3) rfl (nI_1 _) (by decide) rfl (fun ls hl => ?_)
                refine lv_iinc (v := nI (q + 1)) (lv' := [(4, .int (nI (q + 1))), (3, .int (nI (f + 1))), (0, .ref (ma 0)), (1, .int (nI (j))), (2, .int (d))]) hx hb dX5_wrong_55 hl (k := 4) rfl (nI_1 _) (by decide) rfl (fun ls hl => ?_)
                refine lv_goto (tgt := 20) hx hb dX5_wrong_58 (by decide) ?_
                exact ih (q + 1) (f + 1) ls (by omega) (by omega) (by omega) he (lv_sub hl [2, 3, 4, 1, 0] rfl)
              · rw [if_pos c3] at he
                refine lv_aload_n hx hb dX5_wrong_44 rfl (lv_at hl 0 rfl) ?_
                refine va_get (D := g.1) (ci := 5) (v := .ref (ma 10)) (C := RX5) (T := TX5) (N := 23) hx hb hts hiX5 hown hK.1 hP 0 rfl rfl 16 (by decide) (hts _ w_fl_X5_54) (fun _ h9 => h9) rfl dX5_wrong_45 ?_
                refine lv_iload hx hb dX5_wrong_48 (lv_at hl 4 rfl) ?_
                refine n_iald (k := q) (v := nI (hrB b q)) hx hb hK.1 hP 10 0 rfl rfl (by omega) (by decide) (by show nI (sH T q) = _; rw [(hLk q (by omega)).1]) dX5_wrong_50 ?_
                subst hQQ
                exact W.iret hx hb hr (fun t9 ht _ => ⟨⟨_, T, rfl, ⟨by rw [hbk]; show _ = gI ((kth (bWr b) d (bN b) 0 0).map (hrB b)); rw [← he]; rfl, by show sM T 0 = 0; rw [hMM]; exact hs0⟩, hpT ht hP⟩, hS.F ht⟩) hS.2.2 dX5_wrong_51
      exact loop (bN b + 1) 0 0 ls (Nat.zero_le _) (Nat.le_refl _) (by omega) rfl (lv_sub hl [2, 3, 4, 1, 0] rfl)
    · exact absurd cb (by decide)

set_option maxHeartbeats 4000000 in
set_option maxRecDepth 100000 in
theorem m_silent (l : Launch) (g : GG) (ma : Nat → Nat) (P : PT) (S : ST) (x : FT) (hx9 : Xok x) (hRl : Rel x P) (t k : Int32) : Rd l yX5_silent wsX5_silent 2 47 [.ref (ma 0), .int (t), .int (k)] g (wM g ma P S) (gI ((inL 0 9999 t).bind (fun h => kth (fun i => !silB ((xB x).getD i bin0) (nI h - nI (xQ x)) (nI h)) k (xB x).length 0 0))) := by
  refine Met.ofW (cc := cX5_silent) (maxL := 5) (ret := (some .int)) (by decide) rfl ?_
  intro p e s m args below meth c s₁ BB hml hv
  obtain ⟨hargs, hP, hK⟩ := hv
  have hx := BB.exec
  have hb := BB.bytes
  have hr := BB.returns
  have hts : ∀ w ∈ BIG, w.before args s = true := fun w h => atoms_spec (ws := wsX5_silent) BB.pre w (List.mem_cons_of_mem _ h)
  have hown : s.vm.findClass RX5 = some m.cls := findClass_of_methodNamed BB.named
  have hlocks := BB.notSynchronized
  obtain ⟨RR, hRR⟩ : ∃ RR, RR = (headSpec wsX5_silent ⟨2, 0, 0, 47⟩).room := ⟨_, rfl⟩
  have hR1 : RR.frames = 2 := by rw [hRR]; rfl
  have hR2 : RR.locals = 47 := by rw [hRR]; rfl
  have hR3 : RR.cells = 0 := by rw [hRR]; rfl
  have hR4 : RR.slots = 0 := by rw [hRR]; rfl
  have hl := lv_entry ([.ref (ma 0), .int (t), .int (k)]) (n := 5) (Nat.le_of_ble_eq_true rfl)
  have hent : entryFrame m args 5 = F0 m 0 ((lg_sl ([.ref (ma 0), .int (t), .int (k)]) ++ List.replicate (5 - (lg_sl ([.ref (ma 0), .int (t), .int (k)])).length) Slot.unset).toArray) [] := by rw [hargs, lg_entry_eq]
  rw [hent]
  generalize (lg_sl ([.ref (ma 0), .int (t), .int (k)]) ++ List.replicate (5 - (lg_sl ([.ref (ma 0), .int (t), .int (k)])).length) Slot.unset).toArray = ls at hl ⊢
  have hl : lv_has ls 5 [(0, .ref (ma 0)), (1, .int (t)), (2, .int (k))] := hl
  refine q_ab (R := RR) hRR ?_
  generalize hQQ : MQ below _ args s _ _ _ = QQ
  have h8 := hx9.1
  have hpB := hRl.1
  refine lv_iconst (v := nI (0)) hx hb dX5_silent_0 (by decide) ?_
  refine lv_istore_n (lv' := [(3, .int (nI (0))), (0, .ref (ma 0)), (1, .int (t)), (2, .int (k))]) hx hb dX5_silent_1 rfl hl (by decide) rfl (fun ls hl => ?_)
  refine lv_iconst (v := nI (0)) hx hb dX5_silent_2 (by decide) ?_
  refine lv_istore (lv' := [(4, .int (nI (0))), (3, .int (nI (0))), (0, .ref (ma 0)), (1, .int (t)), (2, .int (k))]) hx hb dX5_silent_3 hl (by decide) rfl (fun ls hl => ?_)
  cases hh : inL 0 9999 t with
  | none =>
    refine lv_iload hx hb dX5_silent_5 (lv_at hl 0 rfl) ?_
    refine lv_aload_n hx hb dX5_silent_7 rfl (lv_at hl 2 rfl) ?_
    refine va_get (D := g.1) (ci := 5) (v := .int (nI (pB P))) (C := RX5) (T := TX5) (N := 23) hx hb hts hiX5 hown hK.1 hP 0 rfl rfl 0 (by decide) (hts _ w_fl_X5_76) (fun _ h9 => h9) rfl dX5_silent_8 ?_
    refine bn_ge (tgt := 48) hx hb (by omega) (by omega) dX5_silent_11 (by decide) (fun c1 => ?_) (fun c1 => ?_)
    · refine lv_iconst (v := (-1)) hx hb dX5_silent_48 (by decide) ?_
      subst hQQ
      exact W.iret hx hb hr (fun t9 ht _ => rdI (by rw [hh]; rfl) ht) (fun q h => absurd h List.not_mem_nil) dX5_silent_49
    · refine lv_iload_n hx hb dX5_silent_14 rfl (lv_at hl 3 rfl) ?_
      refine cR_i (W.runS (As := [.int (t)]) (rest := []) ⟨hx, hb, hml, hown, hts⟩ (m_isHour l g t) (va_cwS 1 hts (gS w_ml_X5_87 w_sm_X5_isHour w_ini_X5 w_co_X5_isHour) rfl rfl rfl (by decide +kernel) (by rw [hR1, hR2]; exact ⟨Nat.le_of_ble_eq_true rfl, Nat.le_of_ble_eq_true rfl⟩)) (preS_rd va_P.nil hK) rfl rfl hl.1 rfl (lv_room (Nat.le_of_ble_eq_true rfl)) dX5_silent_15 ⟨by rw [hR3]; omega, by rw [hR4]; omega⟩) ?_
      refine bb_eq (tgt := 48) hx hb dX5_silent_18 (by decide) (fun c2 => ?_) (fun c2 => ?_)
      · refine lv_iconst (v := (-1)) hx hb dX5_silent_48 (by decide) ?_
        subst hQQ
        exact W.iret hx hb hr (fun t9 ht _ => rdI (by rw [hh]; rfl) ht) (fun q h => absurd h List.not_mem_nil) dX5_silent_49
      · exact absurd c2 (by rw [inL_n hh]; decide)
  | some h =>
    obtain ⟨hhl, hhn, hhe, hhd⟩ := inL_s (by decide) (by decide) hh
    subst hhe
    have loop : ∀ (k9 : Nat) (q : Nat) (f : Nat) (ls : Array Slot), (q ≤ (xB x).length) → (f ≤ q) → ((xB x).length < q + k9) → (kth (fun i => !silB ((xB x).getD i bin0) (nI h - nI (xQ x)) (nI h)) k ((xB x).length - q) q f = kth (fun i => !silB ((xB x).getD i bin0) (nI h - nI (xQ x)) (nI h)) k (xB x).length 0 0) → lv_has ls 5 [(0, .ref (ma 0)), (1, .int (nI (h))), (2, .int (k)), (3, .int (nI (f))), (4, .int (nI (q)))] → W p l e RR s m args below meth c s.heap [] 0 0 QQ (F0 m 5 ls []) := by
      intro k9
      induction k9 with
      | zero => intro q f ls hq hf hk he hl; exact absurd hk (by omega)
      | succ k9 ih =>
        intro q f ls hq hf hk he hl
        refine lv_iload hx hb dX5_silent_5 (lv_at hl 4 rfl) ?_
        refine lv_aload_n hx hb dX5_silent_7 rfl (lv_at hl 0 rfl) ?_
        refine va_get (D := g.1) (ci := 5) (v := .int (nI (pB P))) (C := RX5) (T := TX5) (N := 23) hx hb hts hiX5 hown hK.1 hP 0 rfl rfl 0 (by decide) (hts _ w_fl_X5_76) (fun _ h9 => h9) rfl dX5_silent_8 ?_
        refine tp_i (y := nI (xB x).length) (by rw [hpB]) ?_
        refine bn_ge (tgt := 48) hx hb (by omega) (by omega) dX5_silent_11 (by decide) (fun c1 => ?_) (fun c1 => ?_)
        · refine lv_iconst (v := (-1)) hx hb dX5_silent_48 (by decide) ?_
          subst hQQ
          exact W.iret hx hb hr (fun t9 ht _ => rdI (by rw [hh]; show _ = gI (kth (fun i => !silB ((xB x).getD i bin0) (nI h - nI (xQ x)) (nI h)) k (xB x).length 0 0); rw [← he, show (xB x).length - q = 0 by omega]; rfl) ht) (fun q h => absurd h List.not_mem_nil) dX5_silent_49
        · rw [show (xB x).length - q = ((xB x).length - (q + 1)) + 1 by omega, kth] at he
          obtain ⟨b, hbj⟩ : ∃ b, (xB x)[q]? = some b := ⟨_, List.getElem?_eq_getElem c1⟩
          have hgd : (xB x).getD q bin0 = b := by rw [List.getD_eq_getElem?_getD, hbj]; rfl
          rw [hgd] at he
          refine lv_iload_n hx hb dX5_silent_14 rfl (lv_at hl 1 rfl) ?_
          refine cR_i (W.runS (As := [.int (nI (h))]) (rest := []) ⟨hx, hb, hml, hown, hts⟩ (m_isHour l g (nI h)) (va_cwS 1 hts (gS w_ml_X5_87 w_sm_X5_isHour w_ini_X5 w_co_X5_isHour) rfl rfl rfl (by decide +kernel) (by rw [hR1, hR2]; exact ⟨Nat.le_of_ble_eq_true rfl, Nat.le_of_ble_eq_true rfl⟩)) (preS_rd va_P.nil hK) rfl rfl hl.1 rfl (lv_room (Nat.le_of_ble_eq_true rfl)) dX5_silent_15 ⟨by rw [hR3]; omega, by rw [hR4]; omega⟩) ?_
          refine bb_eq (tgt := 48) hx hb dX5_silent_18 (by decide) (fun c2 => ?_) (fun c2 => ?_)
          · exact absurd c2 (by rw [hhd]; decide)
          · refine lv_aload_n hx hb dX5_silent_21 rfl (lv_at hl 0 rfl) ?_
            refine lv_iload hx hb dX5_silent_22 (lv_at hl 4 rfl) ?_
            refine lv_iload_n hx hb dX5_silent_24 rfl (lv_at hl 1 rfl) ?_
            refine cR_i (W.runV (As := [.int (nI (q)), .int (nI (h))]) (rest := []) ⟨hx, hb, hml, hown, hts⟩ (m_isSilent l g ma P S x hx9 hRl q b hbj h (by omega)) (cwV 2 hts (gV w_ml_X5_130 w_im_X5_isSilent w_sel_X5_isSilent w_ini_X5 w_co_X5_isSilent) rfl rfl rfl (by decide +kernel) (by rw [hR1, hR2]; exact ⟨Nat.le_of_ble_eq_true rfl, Nat.le_of_ble_eq_true rfl⟩)) (preV_rd hP hK (va_recv hK.1 hP (ci := 5) (q0 := 0) rfl rfl)) rfl rfl hl.1 rfl (lv_room (Nat.le_of_ble_eq_true rfl)) dX5_silent_25 ⟨by rw [hR3]; omega, by rw [hR4]; omega⟩) ?_
            refine bb_eq (tgt := 42) hx hb dX5_silent_28 (by decide) (fun c3 => ?_) (fun c3 => ?_)
            · rw [if_neg (by rw [c3]; decide)] at he
              refine lv_iinc (v := nI (q + 1)) (lv' := [(4, .int (nI (q + 1))), (0, .ref (ma 0)), (1, .int (nI (h))), (2, .int (k)), (3, .int (nI (f)))]) hx hb dX5_silent_42 hl (k := 4) rfl (nI_1 _) (by decide) rfl (fun ls hl => ?_)
              refine lv_goto (tgt := 5) hx hb dX5_silent_45 (by decide) ?_
              exact ih (q + 1) f ls (by omega) (by omega) (by omega) he (lv_sub hl [1, 2, 3, 4, 0] rfl)
            · rw [if_pos c3] at he
              refine lv_iload_n hx hb dX5_silent_31 rfl (lv_at hl 3 rfl) ?_
              refine lv_iload_n hx hb dX5_silent_32 rfl (lv_at hl 2 rfl) ?_
              refine lv_icmp_ne (tgt := 39) hx hb dX5_silent_33 (by decide) (fun c4 => ?_) (fun c4 => ?_)
              · rw [if_neg c4] at he
                refine lv_iinc (v := nI (f + 1)) (lv' := [(3, .int (nI (f + 1))), (0, .ref (ma 0)), (1, .int (nI (h))), (2, .int (k)), (4, .int (nI (q)))]) hx hb dX5_silent_39 hl (k := 3) rfl (nI_1 _) (by decide) rfl (fun ls hl => ?_)
                refine lv_iinc (v := nI (q + 1)) (lv' := [(4, .int (nI (q + 1))), (3, .int (nI (f + 1))), (0, .ref (ma 0)), (1, .int (nI (h))), (2, .int (k))]) hx hb dX5_silent_42 hl (k := 4) rfl (nI_1 _) (by decide) rfl (fun ls hl => ?_)
                refine lv_goto (tgt := 5) hx hb dX5_silent_45 (by decide) ?_
                exact ih (q + 1) (f + 1) ls (by omega) (by omega) (by omega) he (lv_sub hl [2, 3, 4, 1, 0] rfl)
              · rw [if_pos c4] at he
                refine lv_iload hx hb dX5_silent_36 (lv_at hl 4 rfl) ?_
                subst hQQ
                exact W.iret hx hb hr (fun t9 ht _ => rdI (by rw [hh]; show _ = gI (kth (fun i => !silB ((xB x).getD i bin0) (nI h - nI (xQ x)) (nI h)) k (xB x).length 0 0); rw [← he]; rfl) ht) (fun q h => absurd h List.not_mem_nil) dX5_silent_38
    exact loop ((xB x).length + 1) 0 0 ls (Nat.zero_le _) (Nat.le_refl _) (by omega) rfl (lv_sub hl [2, 3, 4, 1, 0] rfl)

