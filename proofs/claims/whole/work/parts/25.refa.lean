set_option maxHeartbeats 4000000 in
set_option maxRecDepth 100000 in
theorem m_meanOf (l : Launch) (g : GG) (ma : Nat → Nat) (P : PT) (S : ST) (x : FT) (hx9 : Xok x) (hRl : Rel x P) (j : Nat) (b : BinT) (hbj : (xB x)[j]? = some b) (wd : Nat) (hwd : wd < 7) (sz : Nat) : Ei l yX5_meanOf wsX5_meanOf 2 48 0 0 [.ref (ma 0), .int (nI (j)), .int (nI (wd))] g (wM g ma P S) sz ma P (gI (meanH (xH x) (xW x) b wd)) (fun u => Lay b u ∧ sR u = sR S ∧ sM u = sM S) := by
  refine Met.ofW (cc := cX5_meanOf) (maxL := 9) (ret := (some .int)) (by decide) rfl ?_
  intro p e s m args below meth c s₁ BB hml hv
  obtain ⟨hargs, hsz, hP, hK, hD0⟩ := hv
  have hx := BB.exec
  have hb := BB.bytes
  have hr := BB.returns
  have hts : ∀ w ∈ BIG, w.before args s = true := fun w h => atoms_spec (ws := wsX5_meanOf) BB.pre w (List.mem_cons_of_mem _ h)
  have hown : s.vm.findClass RX5 = some m.cls := findClass_of_methodNamed BB.named
  have hlocks := BB.notSynchronized
  obtain ⟨RR, hRR⟩ : ∃ RR, RR = (headSpec wsX5_meanOf ⟨2, 0, 0, 48⟩).room := ⟨_, rfl⟩
  have hR1 : RR.frames = 2 := by rw [hRR]; rfl
  have hR2 : RR.locals = 48 := by rw [hRR]; rfl
  have hR3 : RR.cells = 0 := by rw [hRR]; rfl
  have hR4 : RR.slots = 0 := by rw [hRR]; rfl
  have hl := lv_entry ([.ref (ma 0), .int (nI (j)), .int (nI (wd))]) (n := 9) (Nat.le_of_ble_eq_true rfl)
  have hent : entryFrame m args 9 = F0 m 0 ((lg_sl ([.ref (ma 0), .int (nI (j)), .int (nI (wd))]) ++ List.replicate (9 - (lg_sl ([.ref (ma 0), .int (nI (j)), .int (nI (wd))])).length) Slot.unset).toArray) [] := by rw [hargs, lg_entry_eq]
  rw [hent]
  generalize (lg_sl ([.ref (ma 0), .int (nI (j)), .int (nI (wd))]) ++ List.replicate (9 - (lg_sl ([.ref (ma 0), .int (nI (j)), .int (nI (wd))])).length) Slot.unset).toArray = ls at hl ⊢
  have hl : lv_has ls 9 [(0, .ref (ma 0)), (1, .int (nI (j))), (2, .int (nI (wd)))] := hl
  subst hsz
  have hD := hD0.self (sz := s.heap.size)
  generalize hAe : va_A (wM g ma P S) s.heap.size = A at hD ⊢
  have hA : ∀ q : Nat, s.heap.size ≤ q → A q := fun q h => by rw [← hAe]; exact Or.inr h
  have hS : va_S A s.heap s.heap [] := va_S.rf
  refine q_ab (R := RR) hRR ?_
  generalize hQQ : MQ below _ args s _ _ _ = QQ
  have hbm := List.mem_of_getElem? hbj
  have hBk := hx9.2.1 b hbm
  have hR := hRl.2.1 j b hbj
  have hjl : j < (xB x).length := (List.getElem?_eq_some_iff.mp hbj).1
  have h8 := hx9.1
  have hpB := hRl.1
  obtain ⟨⟨hbn, hbp, hbo, hba⟩, -⟩ := id hBk
  have hwt := hRl.2.2.2.1
  have hho := hRl.2.2.1
  have hw := hx9.2.2.1
  have hg := hBk.gain
  refine lv_aload_n hx hb dX5_meanOf_0 rfl (lv_at hl 0 rfl) ?_
  refine lv_iload_n hx hb dX5_meanOf_1 rfl (lv_at hl 1 rfl) ?_
  refine cE_v (wc := wM g ma P S) (w1 := fun u => wM g ma (P) u) (va_runV (As := [.int (nI (j))]) (rest := []) ⟨hx, hb, hml, hown, hts⟩ (m_layOut l g ma P S j b hBk hR (by omega) _) (cwV 1 hts (gV w_ml_X5_105 w_im_X5_layOut w_sel_X5_layOut w_ini_X5 w_co_X5_layOut) rfl rfl rfl (by decide +kernel) (by rw [hR1, hR2]; exact ⟨Nat.le_of_ble_eq_true rfl, Nat.le_of_ble_eq_true rfl⟩)) (preV_wr hP hK hD (va_recv hK.1 hP (ci := 5) (q0 := 0) rfl rfl)) rfl rfl hl.1 rfl (lv_room (Nat.le_of_ble_eq_true rfl)) dX5_meanOf_2 ⟨by rw [hR3]; omega, by rw [hR4]; omega⟩) hP hD hS hA (fun _ => rfl) (fun T H locs hT hP hD hS => ?_)
  obtain ⟨hLy, hRR, hMM⟩ := hT
  obtain ⟨hN, hLk⟩ := id hLy
  refine lv_lconst (v := lN 0) hx hb dX5_meanOf_5 (by decide) ?_
  refine lv_lstore_n (lv' := [(3, .long (lN (0))), (0, .ref (ma 0)), (1, .int (nI (j))), (2, .int (nI (wd)))]) hx hb dX5_meanOf_6 rfl hl (by decide) rfl (fun ls hl => ?_)
  refine lv_lconst (v := lN 0) hx hb dX5_meanOf_7 (by decide) ?_
  refine lv_lstore (lv' := [(5, .long (lN (0))), (3, .long (lN (0))), (0, .ref (ma 0)), (1, .int (nI (j))), (2, .int (nI (wd)))]) hx hb dX5_meanOf_8 hl (by decide) rfl (fun ls hl => ?_)
  refine lv_iconst (v := nI (0)) hx hb dX5_meanOf_10 (by decide) ?_
  refine lv_istore (lv' := [(7, .int (nI (0))), (5, .long (lN (0))), (3, .long (lN (0))), (0, .ref (ma 0)), (1, .int (nI (j))), (2, .int (nI (wd)))]) hx hb dX5_meanOf_11 hl (by decide) rfl (fun ls hl => ?_)
  refine lv_aload_n hx hb dX5_meanOf_13 rfl (lv_at hl 3 rfl) ?_
  refine va_get (D := g.1) (ci := 5) (v := .int (nI (sN T))) (C := RX5) (T := TX5) (N := 23) hx hb hts hiX5 hown hK.1 hP 0 rfl rfl 15 (by decide) (hts _ w_fl_X5_94) (fun _ h9 => h9) rfl dX5_meanOf_14 ?_
  refine tp_i (y := nI (bN b)) (by rw [hN]) ?_
  refine lv_iconst (v := nI (1)) hx hb dX5_meanOf_17 (by decide) ?_
  refine lv_isub hx hb dX5_meanOf_18 ?_
  refine lv_istore (lv' := [(8, .int (nI (bN b) - nI (1))), (7, .int (nI (0))), (5, .long (lN (0))), (3, .long (lN (0))), (0, .ref (ma 0)), (1, .int (nI (j))), (2, .int (nI (wd)))]) hx hb dX5_meanOf_19 hl (by decide) rfl (fun ls hl => ?_)
  have loop : ∀ (k9 : Nat) (q : Nat) (a : Nat) (A : Nat) (B : Nat) (ls : Array Slot), (q ≤ bN b) → (a ≤ 8) → (q < k9) → (A ≤ a * 172186884000) → (B ≤ a * 4782969) → (a ≤ B) → ((A + (mnR (fun i => if wdy (xH x) (hrB b i / 24) = wd then bGn b i else none) (xW x) q a).1, B + (mnR (fun i => if wdy (xH x) (hrB b i / 24) = wd then bGn b i else none) (xW x) q a).2) = mnR (fun i => if wdy (xH x) (hrB b i / 24) = wd then bGn b i else none) (xW x) (bN b) 0) → lv_has ls 9 [(0, .ref (ma 0)), (1, .int (nI (j))), (2, .int (nI (wd))), (3, .long (lN (A))), (5, .long (lN (B))), (7, .int (nI (a))), (8, .int (nI q - nI 1))] → W p l e RR s m args below meth c H locs 0 0 QQ (F0 m 21 ls []) := by
    intro k9
    induction k9 with
    | zero => intro q a A B ls hq ha hk hA1 hB1 hB2 he hl; exact absurd hk (by omega)
    | succ k9 ih =>
      intro q a A B ls hq ha hk hA1 hB1 hB2 he hl
      refine lv_iload hx hb dX5_meanOf_21 (lv_at hl 6 rfl) ?_
      cases q with
      | zero =>
        refine lv_if_lt (tgt := 101) hx hb dX5_meanOf_23 (by decide) (fun c1 => ?_) (fun c1 => ?_)
        · have he : (A, B) = mnR (fun i => if wdy (xH x) (hrB b i / 24) = wd then bGn b i else none) (xW x) (bN b) 0 := by rw [← he, mnR]; rfl
          refine lv_iload hx hb dX5_meanOf_101 (lv_at hl 5 rfl) ?_
          refine bz_ne (tgt := 110) hx hb (by omega) dX5_meanOf_103 (by decide) (fun c9 => ?_) (fun c9 => ?_)
          · refine lv_lload_n hx hb dX5_meanOf_110 rfl (lv_at hl 3 rfl) ?_
            refine lv_lload hx hb dX5_meanOf_111 (lv_at hl 4 rfl) ?_
            refine n_ldiv hx hb (by omega) (by omega) (by omega) dX5_meanOf_113 ?_
            refine n_l2i hx hb dX5_meanOf_114 ?_
            subst hQQ
            exact W.iret hx hb hr (fun t9 ht _ => ⟨⟨_, T, rfl, ⟨by unfold meanH; rw [← he, mnV, if_neg (by omega)]; rfl, hLy, hRR, hMM⟩, hpT ht hP⟩, hS.F ht⟩) hS.2.2 dX5_meanOf_115
          · refine lv_iconst (v := (-1)) hx hb dX5_meanOf_106 (by decide) ?_
            refine lv_goto (tgt := 115) hx hb dX5_meanOf_107 (by decide) ?_
            subst hQQ
            exact W.iret hx hb hr (fun t9 ht _ => ⟨⟨_, T, rfl, ⟨by unfold meanH; rw [← he, mnV, if_pos (by omega)]; rfl, hLy, hRR, hMM⟩, hpT ht hP⟩, hS.F ht⟩) hS.2.2 dX5_meanOf_115
        · exact absurd (by decide) c1
      | succ q =>
        have ej : nI (q + 1) - nI 1 = nI q := pk_sub (by omega)
        rw [ej] at hl
        have hl : lv_has ls 9 [(0, .ref (ma 0)), (1, .int (nI (j))), (2, .int (nI (wd))), (3, .long (lN (A))), (5, .long (lN (B))), (7, .int (nI (a))), (8, .int (nI (q)))] := hl
        refine tp_i ej ?_
        refine lv_if_lt (tgt := 101) hx hb dX5_meanOf_23 (by decide) (fun c1 => ?_) (fun c1 => ?_)
        · exact absurd c1 (nI_pos (by omega))
        · refine lv_iload hx hb dX5_meanOf_26 (lv_at hl 5 rfl) ?_
          refine lv_bipush (v := nI (8)) hx hb dX5_meanOf_28 (by decide) ?_
          refine bn_ge (tgt := 101) hx hb (by omega) (by omega) dX5_meanOf_30 (by decide) (fun c2 => ?_) (fun c2 => ?_)
          · have he : (A, B) = mnR (fun i => if wdy (xH x) (hrB b i / 24) = wd then bGn b i else none) (xW x) (bN b) 0 := by rw [← he, mnR, if_neg (by omega)]; rfl
            refine lv_iload hx hb dX5_meanOf_101 (lv_at hl 5 rfl) ?_
            refine bz_ne (tgt := 110) hx hb (by omega) dX5_meanOf_103 (by decide) (fun c9 => ?_) (fun c9 => ?_)
            · refine lv_lload_n hx hb dX5_meanOf_110 rfl (lv_at hl 3 rfl) ?_
              refine lv_lload hx hb dX5_meanOf_111 (lv_at hl 4 rfl) ?_
              refine n_ldiv hx hb (by omega) (by omega) (by omega) dX5_meanOf_113 ?_
              refine n_l2i hx hb dX5_meanOf_114 ?_
              subst hQQ
              exact W.iret hx hb hr (fun t9 ht _ => ⟨⟨_, T, rfl, ⟨by unfold meanH; rw [← he, mnV, if_neg (by omega)]; rfl, hLy, hRR, hMM⟩, hpT ht hP⟩, hS.F ht⟩) hS.2.2 dX5_meanOf_115
            · refine lv_iconst (v := (-1)) hx hb dX5_meanOf_106 (by decide) ?_
              refine lv_goto (tgt := 115) hx hb dX5_meanOf_107 (by decide) ?_
              subst hQQ
              exact W.iret hx hb hr (fun t9 ht _ => ⟨⟨_, T, rfl, ⟨by unfold meanH; rw [← he, mnV, if_pos (by omega)]; rfl, hLy, hRR, hMM⟩, hpT ht hP⟩, hS.F ht⟩) hS.2.2 dX5_meanOf_115
          · have hpj := hbp q hq
            have hh : hrB b q < 10000 := by unfold hrB; omega
            rw [mnR, if_pos c2] at he
            refine lv_aload_n hx hb dX5_meanOf_33 rfl (lv_at hl 0 rfl) ?_
            refine va_get (D := g.1) (ci := 5) (v := .ref (ma 14)) (C := RX5) (T := TX5) (N := 23) hx hb hts hiX5 hown hK.1 hP 0 rfl rfl 20 (by decide) (hts _ w_fl_X5_66) (fun _ h9 => h9) rfl dX5_meanOf_34 ?_
            refine lv_iload hx hb dX5_meanOf_37 (lv_at hl 6 rfl) ?_
            refine n_iald (k := q) (v := (gI (bGn b q))) hx hb hK.1 hP 14 0 rfl rfl (by omega) (by decide) (by show gI (sG T q) = _; rw [(hLk q (by omega)).2.2.2.2]) dX5_meanOf_39 ?_
            refine lv_if_lt (tgt := 95) hx hb dX5_meanOf_40 (by decide) (fun c3 => ?_) (fun c3 => ?_)
            · have c3 : bGn b q = none := (gI_neg (fun v hv => by have := hg q v hq hv; omega)).mp c3
              rw [show (if wdy (xH x) (hrB b q / 24) = wd then bGn b q else none) = none by rw [c3]; split <;> rfl] at he
              refine lv_iinc (v := (nI q - nI 1)) (lv' := [(8, .int (nI q - nI 1)), (0, .ref (ma 0)), (1, .int (nI (j))), (2, .int (nI (wd))), (3, .long (lN (A))), (5, .long (lN (B))), (7, .int (nI (a)))]) hx hb dX5_meanOf_95 hl (k := 6) rfl (i_dec _) (by decide) rfl (fun ls hl => ?_)
              refine lv_goto (tgt := 21) hx hb dX5_meanOf_98 (by decide) ?_
              exact ih q (a) (A) (B) ls (by omega) (by omega) (by omega) hA1 hB1 hB2 he (lv_sub hl [1, 2, 3, 4, 5, 6, 0] rfl)
            · refine lv_aload_n hx hb dX5_meanOf_43 rfl (lv_at hl 0 rfl) ?_
              refine lv_aload_n hx hb dX5_meanOf_44 rfl (lv_at hl 0 rfl) ?_
              refine va_get (D := g.1) (ci := 5) (v := .ref (ma 10)) (C := RX5) (T := TX5) (N := 23) hx hb hts hiX5 hown hK.1 hP 0 rfl rfl 16 (by decide) (hts _ w_fl_X5_54) (fun _ h9 => h9) rfl dX5_meanOf_45 ?_
              refine lv_iload hx hb dX5_meanOf_48 (lv_at hl 6 rfl) ?_
              refine n_iald (k := q) (v := nI (hrB b q)) hx hb hK.1 hP 10 0 rfl rfl (by omega) (by decide) (by show nI (sH T q) = _; rw [(hLk q (by omega)).1]) dX5_meanOf_50 ?_
              refine lv_bipush (v := nI (24)) hx hb dX5_meanOf_51 (by decide) ?_
              refine n_idiv hx hb (by omega) (by omega) (by omega) dX5_meanOf_53 ?_
              refine cR_i (W.runV (As := [.int (nI ((hrB b q) / 24))]) (rest := []) ⟨hx, hb, hml, hown, hts⟩ (m_weekdayOf l g ma P T (hrB b q / 24) (by omega)) (cwV 1 hts (gV w_ml_X5_109 w_im_X5_weekdayOf w_sel_X5_weekdayOf w_ini_X5 w_co_X5_weekdayOf) rfl rfl rfl (by decide +kernel) (by rw [hR1, hR2]; exact ⟨Nat.le_of_ble_eq_true rfl, Nat.le_of_ble_eq_true rfl⟩)) (preV_rd hP hK (va_recv hK.1 hP (ci := 5) (q0 := 0) rfl rfl)) rfl rfl hl.1 rfl (lv_room (Nat.le_of_ble_eq_true rfl)) dX5_meanOf_54 ⟨by rw [hR3]; omega, by rw [hR4]; omega⟩) ?_
              refine tp_i (y := nI (wdy (xH x) (hrB b q / 24))) (by rw [hho]) ?_
              have hwy : wdy (xH x) (hrB b q / 24) < 7 := wdy_lt
              refine lv_iload_n hx hb dX5_meanOf_57 rfl (lv_at hl 2 rfl) ?_
              refine bn_ne (tgt := 95) hx hb (by omega) (by omega) dX5_meanOf_58 (by decide) (fun c4 => ?_) (fun c4 => ?_)
              · rw [if_neg c4] at he
                refine lv_iinc (v := (nI q - nI 1)) (lv' := [(8, .int (nI q - nI 1)), (0, .ref (ma 0)), (1, .int (nI (j))), (2, .int (nI (wd))), (3, .long (lN (A))), (5, .long (lN (B))), (7, .int (nI (a)))]) hx hb dX5_meanOf_95 hl (k := 6) rfl (i_dec _) (by decide) rfl (fun ls hl => ?_)
                refine lv_goto (tgt := 21) hx hb dX5_meanOf_98 (by decide) ?_
                exact ih q (a) (A) (B) ls (by omega) (by omega) (by omega) hA1 hB1 hB2 he (lv_sub hl [1, 2, 3, 4, 5, 6, 0] rfl)
              · obtain ⟨v, hv⟩ : ∃ v, bGn b q = some v := by
                  cases hv : bGn b q with
                  | none => exact absurd (by rw [hv]; decide) c3
                  | some v => exact ⟨v, rfl⟩
                have hv2 := hg q v hq hv
                have hwa := hw a c2
                rw [if_pos c4, hv] at he
                refine lv_lload_n hx hb dX5_meanOf_61 rfl (lv_at hl 3 rfl) ?_
                refine lv_aload_n hx hb dX5_meanOf_62 rfl (lv_at hl 0 rfl) ?_
                refine lv_iload hx hb dX5_meanOf_63 (lv_at hl 5 rfl) ?_
                refine cR_i (W.runV (As := [.int (nI (a))]) (rest := [.long (lN (A))]) ⟨hx, hb, hml, hown, hts⟩ (m_weightOf l g ma P T a c2) (cwV 1 hts (gV w_ml_X5_101 w_im_X5_weightOf w_sel_X5_weightOf w_ini_X5 w_co_X5_weightOf) rfl rfl rfl (by decide +kernel) (by rw [hR1, hR2]; exact ⟨Nat.le_of_ble_eq_true rfl, Nat.le_of_ble_eq_true rfl⟩)) (preV_rd hP hK (va_recv hK.1 hP (ci := 5) (q0 := 0) rfl rfl)) rfl rfl hl.1 rfl (lv_room (Nat.le_of_ble_eq_true rfl)) dX5_meanOf_65 ⟨by rw [hR3]; omega, by rw [hR4]; omega⟩) ?_
                refine tp_i (y := nI (xW x a)) (by rw [hwt a c2]) ?_
                refine n_i2l hx hb (by omega) dX5_meanOf_68 ?_
                refine lv_aload_n hx hb dX5_meanOf_69 rfl (lv_at hl 0 rfl) ?_
                refine va_get (D := g.1) (ci := 5) (v := .ref (ma 14)) (C := RX5) (T := TX5) (N := 23) hx hb hts hiX5 hown hK.1 hP 0 rfl rfl 20 (by decide) (hts _ w_fl_X5_66) (fun _ h9 => h9) rfl dX5_meanOf_70 ?_
                refine lv_iload hx hb dX5_meanOf_73 (lv_at hl 6 rfl) ?_
                refine n_iald (k := q) (v := (gI (bGn b q))) hx hb hK.1 hP 14 0 rfl rfl (by omega) (by decide) (by show gI (sG T q) = _; rw [(hLk q (by omega)).2.2.2.2]) dX5_meanOf_75 ?_
                refine tp_i (y := nI v) (by rw [hv]; rfl) ?_
                have hm : xW x a * v ≤ 172186884000 := Nat.le_trans (Nat.mul_le_mul hwa.2 hv2) (by decide)
                have hmc : v * xW x a = xW x a * v := Nat.mul_comm _ _
                refine n_i2l hx hb (by omega) dX5_meanOf_76 ?_
                refine n_lmul hx hb dX5_meanOf_77 ?_
                refine n_ladd hx hb dX5_meanOf_78 ?_
                refine lv_lstore_n (lv' := [(3, .long (lN (A + ((xW x a) * v)))), (0, .ref (ma 0)), (1, .int (nI (j))), (2, .int (nI (wd))), (5, .long (lN (B))), (7, .int (nI (a))), (8, .int (nI (q)))]) hx hb dX5_meanOf_79 rfl hl (by decide) rfl (fun ls hl => ?_)
                refine lv_lload hx hb dX5_meanOf_80 (lv_at hl 4 rfl) ?_
                refine lv_aload_n hx hb dX5_meanOf_82 rfl (lv_at hl 1 rfl) ?_
                refine lv_iload hx hb dX5_meanOf_83 (lv_at hl 5 rfl) ?_
                refine cR_i (W.runV (As := [.int (nI (a))]) (rest := [.long (lN (B))]) ⟨hx, hb, hml, hown, hts⟩ (m_weightOf l g ma P T a c2) (cwV 1 hts (gV w_ml_X5_101 w_im_X5_weightOf w_sel_X5_weightOf w_ini_X5 w_co_X5_weightOf) rfl rfl rfl (by decide +kernel) (by rw [hR1, hR2]; exact ⟨Nat.le_of_ble_eq_true rfl, Nat.le_of_ble_eq_true rfl⟩)) (preV_rd hP hK (va_recv hK.1 hP (ci := 5) (q0 := 0) rfl rfl)) rfl rfl hl.1 rfl (lv_room (Nat.le_of_ble_eq_true rfl)) dX5_meanOf_85 ⟨by rw [hR3]; omega, by rw [hR4]; omega⟩) ?_
                refine tp_i (y := nI (xW x a)) (by rw [hwt a c2]) ?_
                refine n_i2l hx hb (by omega) dX5_meanOf_88 ?_
                refine n_ladd hx hb dX5_meanOf_89 ?_
                refine lv_lstore (lv' := [(5, .long (lN (B + (xW x a)))), (3, .long (lN (A + ((xW x a) * v)))), (0, .ref (ma 0)), (1, .int (nI (j))), (2, .int (nI (wd))), (7, .int (nI (a))), (8, .int (nI (q)))]) hx hb dX5_meanOf_90 hl (by decide) rfl (fun ls hl => ?_)
                refine lv_iinc (v := nI (a + 1)) (lv' := [(7, .int (nI (a + 1))), (5, .long (lN (B + (xW x a)))), (3, .long (lN (A + ((xW x a) * v)))), (0, .ref (ma 0)), (1, .int (nI (j))), (2, .int (nI (wd))), (8, .int (nI (q)))]) hx hb dX5_meanOf_92 hl (k := 5) rfl (nI_1 _) (by decide) rfl (fun ls hl => ?_)
                refine lv_iinc (v := (nI q - nI 1)) (lv' := [(8, .int (nI q - nI 1)), (7, .int (nI (a + 1))), (5, .long (lN (B + (xW x a)))), (3, .long (lN (A + ((xW x a) * v)))), (0, .ref (ma 0)), (1, .int (nI (j))), (2, .int (nI (wd)))]) hx hb dX5_meanOf_95 hl (k := 6) rfl (i_dec _) (by decide) rfl (fun ls hl => ?_)
                refine lv_goto (tgt := 21) hx hb dX5_meanOf_98 (by decide) ?_
                exact ih q (a + 1) (A + xW x a * v) (B + xW x a) ls (by omega) (by omega) (by omega) (by omega) (by omega) (by omega) (by rw [← he]; exact Prod.ext (by show _ + _ = _ + (_ + _); omega) (by show _ + _ = _ + (_ + _); omega)) (lv_sub hl [4, 5, 6, 3, 2, 1, 0] rfl)
  exact loop (bN b + 1) (bN b) 0 0 0 ls (Nat.le_refl _) (by omega) (by omega) (by omega) (by omega) (by omega) (by rw [Nat.zero_add, Nat.zero_add]) (lv_sub hl [4, 5, 6, 3, 2, 1, 0] rfl)

