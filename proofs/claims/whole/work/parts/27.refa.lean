set_option maxHeartbeats 4000000 in
set_option maxRecDepth 100000 in
theorem m_prepare (l : Launch) (g : GG) (ma : Nat → Nat) (P : PT) (S : ST) (x : FT) (hx9 : Xok x) (hRl : Rel x P) (j : Nat) (b : BinT) (hbj : (xB x)[j]? = some b) (hs0 : sM S 0 = 0) (sz : Nat) : Ev l yX5_prepare wsX5_prepare 4 103 0 0 [.ref (ma 0), .int (nI (j))] g (wM g ma P S) sz ma P (fun u => Lay b u ∧ ∀ h, h ≤ 10000 → sM u h = hsum x b h) := by
  refine Met.ofW (cc := cX5_prepare) (maxL := 3) (ret := none) (by decide) rfl ?_
  intro p e s m args below meth c s₁ BB hml hv
  obtain ⟨hargs, hsz, hP, hK, hD0⟩ := hv
  have hx := BB.exec
  have hb := BB.bytes
  have hr := BB.returns
  have hts : ∀ w ∈ BIG, w.before args s = true := fun w h => atoms_spec (ws := wsX5_prepare) BB.pre w (List.mem_cons_of_mem _ h)
  have hown : s.vm.findClass RX5 = some m.cls := findClass_of_methodNamed BB.named
  have hlocks := BB.notSynchronized
  obtain ⟨RR, hRR⟩ : ∃ RR, RR = (headSpec wsX5_prepare ⟨4, 0, 0, 103⟩).room := ⟨_, rfl⟩
  have hR1 : RR.frames = 4 := by rw [hRR]; rfl
  have hR2 : RR.locals = 103 := by rw [hRR]; rfl
  have hR3 : RR.cells = 0 := by rw [hRR]; rfl
  have hR4 : RR.slots = 0 := by rw [hRR]; rfl
  have hl := lv_entry ([.ref (ma 0), .int (nI (j))]) (n := 3) (Nat.le_of_ble_eq_true rfl)
  have hent : entryFrame m args 3 = F0 m 0 ((lg_sl ([.ref (ma 0), .int (nI (j))]) ++ List.replicate (3 - (lg_sl ([.ref (ma 0), .int (nI (j))])).length) Slot.unset).toArray) [] := by rw [hargs, lg_entry_eq]
  rw [hent]
  generalize (lg_sl ([.ref (ma 0), .int (nI (j))]) ++ List.replicate (3 - (lg_sl ([.ref (ma 0), .int (nI (j))])).length) Slot.unset).toArray = ls at hl ⊢
  have hl : lv_has ls 3 [(0, .ref (ma 0)), (1, .int (nI (j)))] := hl
  subst hsz
  have hD := hD0.self (sz := s.heap.size)
  generalize hAe : va_A (wM g ma P S) s.heap.size = A at hD ⊢
  have hA : ∀ q : Nat, s.heap.size ≤ q → A q := fun q h => by rw [← hAe]; exact Or.inr h
  have hS : va_S A s.heap s.heap [] := va_S.rf
  refine q_ab (R := RR) hRR ?_
  generalize hQQ : MQ below _ args s _ _ _ = QQ
  have hbm := List.mem_of_getElem? hbj
  have hBk := hx9.2.1 b hbm
  have hR := hRl.2.1 j b hbj
  have hjl : j < (xB x).length := (List.getElem?_eq_some_iff.mp hbj).1
  have h8 := hx9.1
  have hpB := hRl.1
  obtain ⟨⟨hbn, hbp, hbo, hba⟩, -⟩ := id hBk
  have hho := hRl.2.2.1
  refine lv_iconst (v := nI (0)) hx hb dX5_prepare_0 (by decide) ?_
  refine lv_istore_n (lv' := [(2, .int (nI (0))), (0, .ref (ma 0)), (1, .int (nI (j)))]) hx hb dX5_prepare_1 rfl hl (by decide) rfl (fun ls hl => ?_)
  have loop2 : ∀ (k9 : Nat) (q : Nat) (T : ST) (H : Heap) (locs : List Loc) (ls : Array Slot), (q ≤ 10000) → (10000 < q + k9) → (∀ k, k < 7 → sR T k = rateV x b k) → (∀ k, k ≤ q → sM T k = hsum x b k) → va_P g.1 vwCl (wM g ma P T) H → va_D A (wM g ma P T) → va_S A s.heap H locs → lv_has ls 3 [(0, .ref (ma 0)), (1, .int (nI (j))), (2, .int (nI (q)))] → W p l e RR s m args below meth c H locs 0 0 QQ (F0 m 28 ls []) := by
    intro k9
    induction k9 with
    | zero => intro q T H locs ls hq hk hTR hTM hP hD hS hl; exact absurd hk (by omega)
    | succ k9 ih =>
      intro q T H locs ls hq hk hTR hTM hP hD hS hl
      refine lv_iload_n hx hb dX5_prepare_28 rfl (lv_at hl 2 rfl) ?_
      refine lv_sipush (v := nI (10000)) hx hb dX5_prepare_29 (by decide) ?_
      refine bn_ge (tgt := 70) hx hb (by omega) (by omega) dX5_prepare_32 (by decide) (fun c1 => ?_) (fun c1 => ?_)
      · have hqn : q = 10000 := by omega
        subst hqn
        refine lv_aload_n hx hb dX5_prepare_70 rfl (lv_at hl 0 rfl) ?_
        refine lv_iload_n hx hb dX5_prepare_71 rfl (lv_at hl 1 rfl) ?_
        refine cE_v (wc := wM g ma P T) (w1 := fun u => wM g ma (P) u) (va_runV (As := [.int (nI (j))]) (rest := []) ⟨hx, hb, hml, hown, hts⟩ (m_layOut l g ma P T j b hBk hR (by omega) _) (cwV 1 hts (gV w_ml_X5_105 w_im_X5_layOut w_sel_X5_layOut w_ini_X5 w_co_X5_layOut) rfl rfl rfl (by decide +kernel) (by rw [hR1, hR2]; exact ⟨Nat.le_of_ble_eq_true rfl, Nat.le_of_ble_eq_true rfl⟩)) (preV_wr hP hK hD (va_recv hK.1 hP (ci := 5) (q0 := 0) rfl rfl)) rfl rfl hl.1 rfl (lv_room (Nat.le_of_ble_eq_true rfl)) dX5_prepare_72 ⟨by rw [hR3]; omega, by rw [hR4]; omega⟩) hP hD hS hA (fun _ => rfl) (fun Y H locs hY hP hD hS => ?_)
        obtain ⟨hLy, -, hYM⟩ := hY
        subst hQQ
        exact W.vret hx hb hr (fun t9 ht _ => ⟨⟨Y, rfl, ⟨hLy, fun h hh => by rw [hYM]; exact hTM h hh⟩, hpT ht hP⟩, hS.F ht⟩) hS.2.2 dX5_prepare_75
      · have hrl : rateV x b (wdy (xH x) (q / 24)) ≤ 36000 := rateV_le hx9 hbm
        have hwy : wdy (xH x) (q / 24) < 7 := wdy_lt
        refine lv_aload_n hx hb dX5_prepare_35 rfl (lv_at hl 0 rfl) ?_
        refine va_get (D := g.1) (ci := 5) (v := .ref (ma 16)) (C := RX5) (T := TX5) (N := 23) hx hb hts hiX5 hown hK.1 hP 0 rfl rfl 22 (by decide) (hts _ w_fl_X5_72) (fun _ h9 => h9) rfl dX5_prepare_36 ?_
        refine lv_iload_n hx hb dX5_prepare_39 rfl (lv_at hl 2 rfl) ?_
        refine lv_iconst (v := nI (1)) hx hb dX5_prepare_40 (by decide) ?_
        refine n_iadd hx hb dX5_prepare_41 ?_
        refine lv_aload_n hx hb dX5_prepare_42 rfl (lv_at hl 0 rfl) ?_
        refine va_get (D := g.1) (ci := 5) (v := .ref (ma 16)) (C := RX5) (T := TX5) (N := 23) hx hb hts hiX5 hown hK.1 hP 0 rfl rfl 22 (by decide) (hts _ w_fl_X5_72) (fun _ h9 => h9) rfl dX5_prepare_43 ?_
        refine lv_iload_n hx hb dX5_prepare_46 rfl (lv_at hl 2 rfl) ?_
        refine n_lald (k := q) (v := lN (hsum x b q)) hx hb hK.1 hP 16 3 rfl rfl (by omega) (by decide) (by show lN (sM T q) = _; rw [hTM q (Nat.le_refl _)]) dX5_prepare_47 ?_
        refine lv_aload_n hx hb dX5_prepare_48 rfl (lv_at hl 0 rfl) ?_
        refine va_get (D := g.1) (ci := 5) (v := .ref (ma 15)) (C := RX5) (T := TX5) (N := 23) hx hb hts hiX5 hown hK.1 hP 0 rfl rfl 21 (by decide) (hts _ w_fl_X5_69) (fun _ h9 => h9) rfl dX5_prepare_49 ?_
        refine lv_aload_n hx hb dX5_prepare_52 rfl (lv_at hl 0 rfl) ?_
        refine lv_iload_n hx hb dX5_prepare_53 rfl (lv_at hl 2 rfl) ?_
        refine lv_bipush (v := nI (24)) hx hb dX5_prepare_54 (by decide) ?_
        refine n_idiv hx hb (by omega) (by omega) (by omega) dX5_prepare_56 ?_
        refine cR_i (W.runV (As := [.int (nI (q / 24))]) (rest := [.ref (ma 15), .long (lN (hsum x b q)), .int (nI (q + 1)), .ref (ma 16)]) ⟨hx, hb, hml, hown, hts⟩ (m_weekdayOf l g ma P T (q / 24) (by omega)) (cwV 1 hts (gV w_ml_X5_109 w_im_X5_weekdayOf w_sel_X5_weekdayOf w_ini_X5 w_co_X5_weekdayOf) rfl rfl rfl (by decide +kernel) (by rw [hR1, hR2]; exact ⟨Nat.le_of_ble_eq_true rfl, Nat.le_of_ble_eq_true rfl⟩)) (preV_rd hP hK (va_recv hK.1 hP (ci := 5) (q0 := 0) rfl rfl)) rfl rfl hl.1 rfl (lv_room (Nat.le_of_ble_eq_true rfl)) dX5_prepare_57 ⟨by rw [hR3]; omega, by rw [hR4]; omega⟩) ?_
        refine tp_i (y := nI (wdy (xH x) (q / 24))) (by rw [hho]) ?_
        refine n_iald (k := wdy (xH x) (q / 24)) (v := nI (rateV x b (wdy (xH x) (q / 24)))) hx hb hK.1 hP 15 0 rfl rfl (by omega) (by decide) (by show nI (sR T _) = _; rw [hTR _ wdy_lt]) dX5_prepare_60 ?_
        refine n_i2l hx hb (by omega) dX5_prepare_61 ?_
        refine n_ladd hx hb dX5_prepare_62 ?_
        refine n_lastE (enc := lN) (f := sM T) (x := hsum x b q + rateV x b (wdy (xH x) (q / 24))) (k := q + 1) hx hb hK.1 hP hD hS 16 3 rfl rfl (by omega) (by decide) dX5_prepare_63 (fun H locs hP hD hS => ?_)
        have hP : va_P g.1 vwCl (wM g ma P (usM T (va_up (sM T) (q + 1) (hsum x b q + rateV x b (wdy (xH x) (q / 24)))))) H := hP
        have hD : va_D A (wM g ma P (usM T (va_up (sM T) (q + 1) (hsum x b q + rateV x b (wdy (xH x) (q / 24)))))) := hD
        refine lv_iinc (v := nI (q + 1)) (lv' := [(2, .int (nI (q + 1))), (0, .ref (ma 0)), (1, .int (nI (j)))]) hx hb dX5_prepare_64 hl (k := 2) rfl (nI_1 _) (by decide) rfl (fun ls hl => ?_)
        refine lv_goto (tgt := 28) hx hb dX5_prepare_67 (by decide) ?_
        exact ih (q + 1) (usM T (va_up (sM T) (q + 1) (hsum x b q + rateV x b (wdy (xH x) (q / 24))))) H locs ls (by omega) (by omega) hTR (fun k hk2 => by
          show va_up (sM T) (q + 1) _ k = _
          by_cases e : k = q + 1
          · subst e; rw [va_up_self]; rfl
          · rw [va_up_ne _ _ e]; exact hTM k (by omega)) hP hD hS (lv_sub hl [1, 2, 0] rfl)
  have loop1 : ∀ (k9 : Nat) (q : Nat) (T : ST) (H : Heap) (locs : List Loc) (ls : Array Slot), (q ≤ 7) → (7 < q + k9) → (∀ k, k < q → sR T k = rateV x b k) → (sM T = sM S) → va_P g.1 vwCl (wM g ma P T) H → va_D A (wM g ma P T) → va_S A s.heap H locs → lv_has ls 3 [(0, .ref (ma 0)), (1, .int (nI (j))), (2, .int (nI (q)))] → W p l e RR s m args below meth c H locs 0 0 QQ (F0 m 2 ls []) := by
    intro k9
    induction k9 with
    | zero => intro q T H locs ls hq hk hTR hTM hP hD hS hl; exact absurd hk (by omega)
    | succ k9 ih =>
      intro q T H locs ls hq hk hTR hTM hP hD hS hl
      refine lv_iload_n hx hb dX5_prepare_2 rfl (lv_at hl 2 rfl) ?_
      refine lv_bipush (v := nI (7)) hx hb dX5_prepare_3 (by decide) ?_
      refine bn_ge (tgt := 26) hx hb (by omega) (by omega) dX5_prepare_5 (by decide) (fun c1 => ?_) (fun c1 => ?_)
      · have hqn : q = 7 := by omega
        subst hqn
        refine lv_iconst (v := nI (0)) hx hb dX5_prepare_26 (by decide) ?_
        refine lv_istore_n (lv' := [(2, .int (nI (0))), (0, .ref (ma 0)), (1, .int (nI (j)))]) hx hb dX5_prepare_27 rfl hl (by decide) rfl (fun ls hl => ?_)
        exact loop2 10001 0 T H locs ls (by omega) (by omega) hTR (fun k hk2 => by rw [show k = 0 by omega, hTM, hs0]; rfl) hP hD hS (lv_sub hl [1, 2, 0] rfl)
      · refine lv_aload_n hx hb dX5_prepare_8 rfl (lv_at hl 0 rfl) ?_
        refine va_get (D := g.1) (ci := 5) (v := .ref (ma 15)) (C := RX5) (T := TX5) (N := 23) hx hb hts hiX5 hown hK.1 hP 0 rfl rfl 21 (by decide) (hts _ w_fl_X5_69) (fun _ h9 => h9) rfl dX5_prepare_9 ?_
        refine lv_iload_n hx hb dX5_prepare_12 rfl (lv_at hl 2 rfl) ?_
        refine lv_aload_n hx hb dX5_prepare_13 rfl (lv_at hl 0 rfl) ?_
        refine lv_iload_n hx hb dX5_prepare_14 rfl (lv_at hl 1 rfl) ?_
        refine lv_iload_n hx hb dX5_prepare_15 rfl (lv_at hl 2 rfl) ?_
        refine cE_i (wc := wM g ma P T) (w1 := fun u => wM g ma (P) u) (va_runV (As := [.int (nI (j)), .int (nI (q))]) (rest := [.int (nI (q)), .ref (ma 15)]) ⟨hx, hb, hml, hown, hts⟩ (m_rateOf l g ma P T x hx9 hRl j b hbj q c1 _) (cwV 2 hts (gV w_ml_X5_116 w_im_X5_rateOf w_sel_X5_rateOf w_ini_X5 w_co_X5_rateOf) rfl rfl rfl (by decide +kernel) (by rw [hR1, hR2]; exact ⟨Nat.le_of_ble_eq_true rfl, Nat.le_of_ble_eq_true rfl⟩)) (preV_wr hP hK hD (va_recv hK.1 hP (ci := 5) (q0 := 0) rfl rfl)) rfl rfl hl.1 rfl (lv_room (Nat.le_of_ble_eq_true rfl)) dX5_prepare_16 ⟨by rw [hR3]; omega, by rw [hR4]; omega⟩) hP hD hS hA (fun _ => rfl) (fun Y H locs hY hP hD hS => ?_)
        obtain ⟨hYR, hYM⟩ := hY
        refine W.eq (g2 := F0 m 19 ls [.int (nI (rateV x b q)), .int (nI (q)), .ref (ma 15)]) rfl ?_
        refine n_iastE (enc := nI) (f := sR Y) (x := rateV x b q) (k := q) hx hb hK.1 hP hD hS 15 0 rfl rfl (by omega) (by decide) dX5_prepare_19 (fun H locs hP hD hS => ?_)
        have hP : va_P g.1 vwCl (wM g ma P (usR Y (va_up (sR Y) q (rateV x b q)))) H := hP
        have hD : va_D A (wM g ma P (usR Y (va_up (sR Y) q (rateV x b q)))) := hD
        refine lv_iinc (v := nI (q + 1)) (lv' := [(2, .int (nI (q + 1))), (0, .ref (ma 0)), (1, .int (nI (j)))]) hx hb dX5_prepare_20 hl (k := 2) rfl (nI_1 _) (by decide) rfl (fun ls hl => ?_)
        refine lv_goto (tgt := 2) hx hb dX5_prepare_23 (by decide) ?_
        exact ih (q + 1) (usR Y (va_up (sR Y) q (rateV x b q))) H locs ls (by omega) (by omega) (lt_s (fun k hk2 => by show va_up (sR Y) q _ k = _; rw [va_up_ne _ _ (by omega), hYR]; exact hTR k hk2) (va_up_self _ _ _)) (hYM.trans hTM) hP hD hS (lv_sub hl [1, 2, 0] rfl)
  exact loop1 8 0 S _ _ ls (by omega) (by omega) lt_0 rfl hP hD hS (lv_sub hl [1, 2, 0] rfl)

