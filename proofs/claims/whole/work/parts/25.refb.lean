set_option maxHeartbeats 4000000 in
set_option maxRecDepth 100000 in
theorem m_rateOf (l : Launch) (g : GG) (ma : Nat → Nat) (P : PT) (S : ST) (x : FT) (hx9 : Xok x) (hRl : Rel x P) (j : Nat) (b : BinT) (hbj : (xB x)[j]? = some b) (wd : Nat) (hwd : wd < 7) (sz : Nat) : Ei l yX5_rateOf wsX5_rateOf 3 76 0 0 [.ref (ma 0), .int (nI (j)), .int (nI (wd))] g (wM g ma P S) sz ma P (nI (rateV x b wd)) (fun u => sR u = sR S ∧ sM u = sM S) := by
  refine Met.ofW (cc := cX5_rateOf) (maxL := 8) (ret := (some .int)) (by decide) rfl ?_
  intro p e s m args below meth c s₁ BB hml hv
  obtain ⟨hargs, hsz, hP, hK, hD0⟩ := hv
  have hx := BB.exec
  have hb := BB.bytes
  have hr := BB.returns
  have hts : ∀ w ∈ BIG, w.before args s = true := fun w h => atoms_spec (ws := wsX5_rateOf) BB.pre w (List.mem_cons_of_mem _ h)
  have hown : s.vm.findClass RX5 = some m.cls := findClass_of_methodNamed BB.named
  have hlocks := BB.notSynchronized
  obtain ⟨RR, hRR⟩ : ∃ RR, RR = (headSpec wsX5_rateOf ⟨3, 0, 0, 76⟩).room := ⟨_, rfl⟩
  have hR1 : RR.frames = 3 := by rw [hRR]; rfl
  have hR2 : RR.locals = 76 := by rw [hRR]; rfl
  have hR3 : RR.cells = 0 := by rw [hRR]; rfl
  have hR4 : RR.slots = 0 := by rw [hRR]; rfl
  have hl := lv_entry ([.ref (ma 0), .int (nI (j)), .int (nI (wd))]) (n := 8) (Nat.le_of_ble_eq_true rfl)
  have hent : entryFrame m args 8 = F0 m 0 ((lg_sl ([.ref (ma 0), .int (nI (j)), .int (nI (wd))]) ++ List.replicate (8 - (lg_sl ([.ref (ma 0), .int (nI (j)), .int (nI (wd))])).length) Slot.unset).toArray) [] := by rw [hargs, lg_entry_eq]
  rw [hent]
  generalize (lg_sl ([.ref (ma 0), .int (nI (j)), .int (nI (wd))]) ++ List.replicate (8 - (lg_sl ([.ref (ma 0), .int (nI (j)), .int (nI (wd))])).length) Slot.unset).toArray = ls at hl ⊢
  have hl : lv_has ls 8 [(0, .ref (ma 0)), (1, .int (nI (j))), (2, .int (nI (wd)))] := hl
  subst hsz
  have hD := hD0.self (sz := s.heap.size)
  generalize hAe : va_A (wM g ma P S) s.heap.size = A at hD ⊢
  have hA : ∀ q : Nat, s.heap.size ≤ q → A q := fun q h => by rw [← hAe]; exact Or.inr h
  have hS : va_S A s.heap s.heap [] := va_S.rf
  refine q_ab (R := RR) hRR ?_
  generalize hQQ : MQ below _ args s _ _ _ = QQ
  have hbm := List.mem_of_getElem? hbj
  have hBk := hx9.2.1 b hbm
  have hR := hRl.2.1 j b hbj
  have hjl : j < (xB x).length := (List.getElem?_eq_some_iff.mp hbj).1
  have h8 := hx9.1
  have hpB := hRl.1
  obtain ⟨⟨hbn, hbp, hbo, hba⟩, -⟩ := id hBk
  refine lv_aload_n hx hb dX5_rateOf_0 rfl (lv_at hl 0 rfl) ?_
  refine lv_iload_n hx hb dX5_rateOf_1 rfl (lv_at hl 1 rfl) ?_
  refine lv_iload_n hx hb dX5_rateOf_2 rfl (lv_at hl 2 rfl) ?_
  refine cE_i (wc := wM g ma P S) (w1 := fun u => wM g ma (P) u) (va_runV (As := [.int (nI (j)), .int (nI (wd))]) (rest := []) ⟨hx, hb, hml, hown, hts⟩ (m_meanOf l g ma P S x hx9 hRl j b hbj wd hwd _) (cwV 2 hts (gV w_ml_X5_112 w_im_X5_meanOf w_sel_X5_meanOf w_ini_X5 w_co_X5_meanOf) rfl rfl rfl (by decide +kernel) (by rw [hR1, hR2]; exact ⟨Nat.le_of_ble_eq_true rfl, Nat.le_of_ble_eq_true rfl⟩)) (preV_wr hP hK hD (va_recv hK.1 hP (ci := 5) (q0 := 0) rfl rfl)) rfl rfl hl.1 rfl (lv_room (Nat.le_of_ble_eq_true rfl)) dX5_rateOf_3 ⟨by rw [hR3]; omega, by rw [hR4]; omega⟩) hP hD hS hA (fun _ => rfl) (fun T H locs hT hP hD hS => ?_)
  obtain ⟨-, hRR, hMM⟩ := hT
  refine lv_istore_n (lv' := [(3, .int (gI (meanH (xH x) (xW x) b wd))), (0, .ref (ma 0)), (1, .int (nI (j))), (2, .int (nI (wd)))]) hx hb dX5_rateOf_6 rfl hl (by decide) rfl (fun ls hl => ?_)
  refine lv_iload_n hx hb dX5_rateOf_7 rfl (lv_at hl 0 rfl) ?_
  refine lv_if_lt (tgt := 13) hx hb dX5_rateOf_8 (by decide) (fun c1 => ?_) (fun c1 => ?_)
  · have hm0 : meanH (xH x) (xW x) b wd = none := (gI_neg (fun v hv => by have := meanX_le (x := x) hBk hv; omega)).mp c1
    refine lv_iconst (v := nI (0)) hx hb dX5_rateOf_13 (by decide) ?_
    refine lv_istore (lv' := [(4, .int (nI (0))), (3, .int (gI (meanH (xH x) (xW x) b wd))), (0, .ref (ma 0)), (1, .int (nI (j))), (2, .int (nI (wd)))]) hx hb dX5_rateOf_14 hl (by decide) rfl (fun ls hl => ?_)
    refine lv_iconst (v := nI (0)) hx hb dX5_rateOf_16 (by decide) ?_
    refine lv_istore (lv' := [(5, .int (nI (0))), (4, .int (nI (0))), (3, .int (gI (meanH (xH x) (xW x) b wd))), (0, .ref (ma 0)), (1, .int (nI (j))), (2, .int (nI (wd)))]) hx hb dX5_rateOf_17 hl (by decide) rfl (fun ls hl => ?_)
    refine lv_iconst (v := nI (0)) hx hb dX5_rateOf_19 (by decide) ?_
    refine lv_istore (lv' := [(6, .int (nI (0))), (5, .int (nI (0))), (4, .int (nI (0))), (3, .int (gI (meanH (xH x) (xW x) b wd))), (0, .ref (ma 0)), (1, .int (nI (j))), (2, .int (nI (wd)))]) hx hb dX5_rateOf_20 hl (by decide) rfl (fun ls hl => ?_)
    have loop : ∀ (k9 : Nat) (q : Nat) (SA : Nat) (SB : Nat) (V : ST) (H : Heap) (locs : List Loc) (ls : Array Slot), (q ≤ (xB x).length) → ((xB x).length < q + k9) → (SA ≤ q * 36000) → (SB ≤ q) → ((SA + (stH (xH x) (xW x) (bSt b) wd ((xB x).drop q)).1, SB + (stH (xH x) (xW x) (bSt b) wd ((xB x).drop q)).2) = stH (xH x) (xW x) (bSt b) wd (xB x)) → (sR V = sR S) → (sM V = sM S) → va_P g.1 vwCl (wM g ma P V) H → va_D A (wM g ma P V) → va_S A s.heap H locs → lv_has ls 8 [(0, .ref (ma 0)), (1, .int (nI (j))), (2, .int (nI (wd))), (4, .int (nI (SA))), (5, .int (nI (SB))), (6, .int (nI (q)))] → W p l e RR s m args below meth c H locs 0 0 QQ (F0 m 22 ls []) := by
      intro k9
      induction k9 with
      | zero => intro q SA SB V H locs ls hq hk hA1 hB1 he hVR hVM hP hD hS hl; exact absurd hk (by omega)
      | succ k9 ih =>
        intro q SA SB V H locs ls hq hk hA1 hB1 he hVR hVM hP hD hS hl
        refine lv_iload hx hb dX5_rateOf_22 (lv_at hl 5 rfl) ?_
        refine lv_aload_n hx hb dX5_rateOf_24 rfl (lv_at hl 0 rfl) ?_
        refine va_get (D := g.1) (ci := 5) (v := .int (nI (pB P))) (C := RX5) (T := TX5) (N := 23) hx hb hts hiX5 hown hK.1 hP 0 rfl rfl 0 (by decide) (hts _ w_fl_X5_76) (fun _ h9 => h9) rfl dX5_rateOf_25 ?_
        refine tp_i (y := nI (xB x).length) (by rw [hpB]) ?_
        refine bn_ge (tgt := 97) hx hb (by omega) (by omega) dX5_rateOf_28 (by decide) (fun c2 => ?_) (fun c2 => ?_)
        · rw [List.drop_eq_nil_of_le c2] at he
          have he : (SA, SB) = stH (xH x) (xW x) (bSt b) wd (xB x) := he
          refine lv_iload hx hb dX5_rateOf_97 (lv_at hl 4 rfl) ?_
          refine bz_ne (tgt := 107) hx hb (by omega) dX5_rateOf_99 (by decide) (fun c3 => ?_) (fun c3 => ?_)
          · refine lv_iload hx hb dX5_rateOf_107 (lv_at hl 3 rfl) ?_
            refine lv_iload hx hb dX5_rateOf_109 (lv_at hl 4 rfl) ?_
            refine n_idiv hx hb (by omega) (by omega) (by omega) dX5_rateOf_111 ?_
            subst hQQ
            exact W.iret hx hb hr (fun t9 ht _ => ⟨⟨_, V, rfl, ⟨by unfold rateV rateH; rw [hm0]; show _ = nI (stQ _); rw [← he, stQ, if_neg c3], hVR, hVM⟩, hpT ht hP⟩, hS.F ht⟩) hS.2.2 dX5_rateOf_112
          · refine lv_bipush (v := nI (100)) hx hb dX5_rateOf_102 (by decide) ?_
            refine lv_goto (tgt := 112) hx hb dX5_rateOf_104 (by decide) ?_
            subst hQQ
            exact W.iret hx hb hr (fun t9 ht _ => ⟨⟨_, V, rfl, ⟨by unfold rateV rateH; rw [hm0]; show _ = nI (stQ _); rw [← he, stQ, if_pos c3], hVR, hVM⟩, hpT ht hP⟩, hS.F ht⟩) hS.2.2 dX5_rateOf_112
        · obtain ⟨d, hd2⟩ : ∃ d, (xB x)[q]? = some d := ⟨_, List.getElem?_eq_getElem c2⟩
          have hdm := List.mem_of_getElem? hd2
          have hDk := hx9.2.1 d hdm
          have hRd := hRl.2.1 q d hd2
          have hdr : (xB x).drop q = d :: (xB x).drop (q + 1) := by rw [List.drop_eq_getElem_cons c2, (List.getElem?_eq_some_iff.mp hd2).2]
          rw [hdr, stH] at he
          have hsd : bSt d < 4 := hDk.2.2.2.1
          have hsb : bSt b < 4 := hBk.2.2.2.1
          refine lv_aload_n hx hb dX5_rateOf_31 rfl (lv_at hl 0 rfl) ?_
          refine va_get (D := g.1) (ci := 5) (v := .ref (ma 1)) (C := RX5) (T := TX5) (N := 23) hx hb hts hiX5 hown hK.1 hP 0 rfl rfl 1 (by decide) (hts _ w_fl_X5_7) (fun _ h9 => h9) rfl dX5_rateOf_32 ?_
          refine lv_iload hx hb dX5_rateOf_35 (lv_at hl 5 rfl) ?_
          refine n_iald (k := q) (v := nI (bSt d)) hx hb hK.1 hP 1 0 rfl rfl (by omega) (by decide) (by show nI (aSt P q) = _; rw [hRd.1.1]) dX5_rateOf_37 ?_
          refine lv_aload_n hx hb dX5_rateOf_38 rfl (lv_at hl 0 rfl) ?_
          refine va_get (D := g.1) (ci := 5) (v := .ref (ma 1)) (C := RX5) (T := TX5) (N := 23) hx hb hts hiX5 hown hK.1 hP 0 rfl rfl 1 (by decide) (hts _ w_fl_X5_7) (fun _ h9 => h9) rfl dX5_rateOf_39 ?_
          refine lv_iload_n hx hb dX5_rateOf_42 rfl (lv_at hl 1 rfl) ?_
          refine n_iald (k := j) (v := nI (bSt b)) hx hb hK.1 hP 1 0 rfl rfl (by omega) (by decide) (by show nI (aSt P j) = _; rw [hR.1.1]) dX5_rateOf_43 ?_
          refine bn_ne (tgt := 57) hx hb (by omega) (by omega) dX5_rateOf_44 (by decide) (fun c4 => ?_) (fun c4 => ?_)
          · rw [if_neg c4] at he
            refine lv_iconst (v := (-1)) hx hb dX5_rateOf_57 (by decide) ?_
            refine lv_istore (lv' := [(7, .int (-1)), (0, .ref (ma 0)), (1, .int (nI (j))), (2, .int (nI (wd))), (4, .int (nI (SA))), (5, .int (nI (SB))), (6, .int (nI (q)))]) hx hb dX5_rateOf_58 hl (by decide) rfl (fun ls hl => ?_)
            refine lv_iload hx hb dX5_rateOf_60 (lv_at hl 4 rfl) ?_
            refine lv_iload hx hb dX5_rateOf_62 (lv_at hl 0 rfl) ?_
            refine lv_if_lt (tgt := 72) hx hb dX5_rateOf_64 (by decide) (fun c6 => ?_) (fun c6 => ?_)
            · refine lv_iconst (v := nI (0)) hx hb dX5_rateOf_72 (by decide) ?_
              refine n_iadd hx hb dX5_rateOf_73 ?_
              refine lv_istore (lv' := [(4, .int (nI (SA + 0))), (7, .int (-1)), (0, .ref (ma 0)), (1, .int (nI (j))), (2, .int (nI (wd))), (5, .int (nI (SB))), (6, .int (nI (q)))]) hx hb dX5_rateOf_74 hl (by decide) rfl (fun ls hl => ?_)
              refine lv_iload hx hb dX5_rateOf_76 (lv_at hl 5 rfl) ?_
              refine lv_iload hx hb dX5_rateOf_78 (lv_at hl 1 rfl) ?_
              refine lv_if_lt (tgt := 87) hx hb dX5_rateOf_80 (by decide) (fun c7 => ?_) (fun c7 => ?_)
              · refine lv_iconst (v := nI (0)) hx hb dX5_rateOf_87 (by decide) ?_
                refine n_iadd hx hb dX5_rateOf_88 ?_
                refine lv_istore (lv' := [(5, .int (nI (SB + 0))), (4, .int (nI (SA + 0))), (7, .int (-1)), (0, .ref (ma 0)), (1, .int (nI (j))), (2, .int (nI (wd))), (6, .int (nI (q)))]) hx hb dX5_rateOf_89 hl (by decide) rfl (fun ls hl => ?_)
                refine lv_iinc (v := nI (q + 1)) (lv' := [(6, .int (nI (q + 1))), (5, .int (nI (SB + 0))), (4, .int (nI (SA + 0))), (7, .int (-1)), (0, .ref (ma 0)), (1, .int (nI (j))), (2, .int (nI (wd)))]) hx hb dX5_rateOf_91 hl (k := 6) rfl (nI_1 _) (by decide) rfl (fun ls hl => ?_)
                refine lv_goto (tgt := 22) hx hb dX5_rateOf_94 (by decide) ?_
                exact ih (q + 1) (SA + 0) (SB + 0) V H locs ls (by omega) (by omega) (by omega) (by omega) he hVR hVM hP hD hS (lv_sub hl [4, 5, 6, 2, 1, 0] rfl)
              · exact absurd (by decide) c7
            · exact absurd (by decide) c6
          · rw [if_pos c4] at he
            refine lv_aload_n hx hb dX5_rateOf_47 rfl (lv_at hl 0 rfl) ?_
            refine lv_iload hx hb dX5_rateOf_48 (lv_at hl 5 rfl) ?_
            refine lv_iload_n hx hb dX5_rateOf_50 rfl (lv_at hl 2 rfl) ?_
            refine cE_i (wc := wM g ma P V) (w1 := fun u => wM g ma (P) u) (va_runV (As := [.int (nI (q)), .int (nI (wd))]) (rest := []) ⟨hx, hb, hml, hown, hts⟩ (m_meanOf l g ma P V x hx9 hRl q d hd2 wd hwd _) (cwV 2 hts (gV w_ml_X5_112 w_im_X5_meanOf w_sel_X5_meanOf w_ini_X5 w_co_X5_meanOf) rfl rfl rfl (by decide +kernel) (by rw [hR1, hR2]; exact ⟨Nat.le_of_ble_eq_true rfl, Nat.le_of_ble_eq_true rfl⟩)) (preV_wr hP hK hD (va_recv hK.1 hP (ci := 5) (q0 := 0) rfl rfl)) rfl rfl hl.1 rfl (lv_room (Nat.le_of_ble_eq_true rfl)) dX5_rateOf_51 ⟨by rw [hR3]; omega, by rw [hR4]; omega⟩) hP hD hS hA (fun _ => rfl) (fun Y H locs hY hP hD hS => ?_)
            obtain ⟨-, hYR, hYM⟩ := hY
            refine lv_goto (tgt := 58) hx hb dX5_rateOf_54 (by decide) ?_
            cases hmd : meanH (xH x) (xW x) d wd with
            | none =>
              rw [hmd] at he
              refine tp_i (y := -1) rfl ?_
              refine lv_istore (lv' := [(7, .int (-1)), (0, .ref (ma 0)), (1, .int (nI (j))), (2, .int (nI (wd))), (4, .int (nI (SA))), (5, .int (nI (SB))), (6, .int (nI (q)))]) hx hb dX5_rateOf_58 hl (by decide) rfl (fun ls hl => ?_)
              refine lv_iload hx hb dX5_rateOf_60 (lv_at hl 4 rfl) ?_
              refine lv_iload hx hb dX5_rateOf_62 (lv_at hl 0 rfl) ?_
              refine lv_if_lt (tgt := 72) hx hb dX5_rateOf_64 (by decide) (fun c6 => ?_) (fun c6 => ?_)
              · refine lv_iconst (v := nI (0)) hx hb dX5_rateOf_72 (by decide) ?_
                refine n_iadd hx hb dX5_rateOf_73 ?_
                refine lv_istore (lv' := [(4, .int (nI (SA + 0))), (7, .int (-1)), (0, .ref (ma 0)), (1, .int (nI (j))), (2, .int (nI (wd))), (5, .int (nI (SB))), (6, .int (nI (q)))]) hx hb dX5_rateOf_74 hl (by decide) rfl (fun ls hl => ?_)
                refine lv_iload hx hb dX5_rateOf_76 (lv_at hl 5 rfl) ?_
                refine lv_iload hx hb dX5_rateOf_78 (lv_at hl 1 rfl) ?_
                refine lv_if_lt (tgt := 87) hx hb dX5_rateOf_80 (by decide) (fun c7 => ?_) (fun c7 => ?_)
                · refine lv_iconst (v := nI (0)) hx hb dX5_rateOf_87 (by decide) ?_
                  refine n_iadd hx hb dX5_rateOf_88 ?_
                  refine lv_istore (lv' := [(5, .int (nI (SB + 0))), (4, .int (nI (SA + 0))), (7, .int (-1)), (0, .ref (ma 0)), (1, .int (nI (j))), (2, .int (nI (wd))), (6, .int (nI (q)))]) hx hb dX5_rateOf_89 hl (by decide) rfl (fun ls hl => ?_)
                  refine lv_iinc (v := nI (q + 1)) (lv' := [(6, .int (nI (q + 1))), (5, .int (nI (SB + 0))), (4, .int (nI (SA + 0))), (7, .int (-1)), (0, .ref (ma 0)), (1, .int (nI (j))), (2, .int (nI (wd)))]) hx hb dX5_rateOf_91 hl (k := 6) rfl (nI_1 _) (by decide) rfl (fun ls hl => ?_)
                  refine lv_goto (tgt := 22) hx hb dX5_rateOf_94 (by decide) ?_
                  exact ih (q + 1) (SA + 0) (SB + 0) Y H locs ls (by omega) (by omega) (by omega) (by omega) he (hYR.trans hVR) (hYM.trans hVM) hP hD hS (lv_sub hl [4, 5, 6, 2, 1, 0] rfl)
                · exact absurd (by decide) c7
              · exact absurd (by decide) c6
            | some v =>
              rw [hmd] at he
              have hv2 := meanX_le (x := x) hDk hmd
              refine tp_i (y := nI v) rfl ?_
              refine lv_istore (lv' := [(7, .int (nI (v))), (0, .ref (ma 0)), (1, .int (nI (j))), (2, .int (nI (wd))), (4, .int (nI (SA))), (5, .int (nI (SB))), (6, .int (nI (q)))]) hx hb dX5_rateOf_58 hl (by decide) rfl (fun ls hl => ?_)
              refine lv_iload hx hb dX5_rateOf_60 (lv_at hl 4 rfl) ?_
              refine lv_iload hx hb dX5_rateOf_62 (lv_at hl 0 rfl) ?_
              refine lv_if_lt (tgt := 72) hx hb dX5_rateOf_64 (by decide) (fun c6 => ?_) (fun c6 => ?_)
              · exact absurd c6 (nI_pos (by omega))
              · refine lv_iload hx hb dX5_rateOf_67 (lv_at hl 0 rfl) ?_
                refine lv_goto (tgt := 73) hx hb dX5_rateOf_69 (by decide) ?_
                refine n_iadd hx hb dX5_rateOf_73 ?_
                refine lv_istore (lv' := [(4, .int (nI (SA + v))), (7, .int (nI (v))), (0, .ref (ma 0)), (1, .int (nI (j))), (2, .int (nI (wd))), (5, .int (nI (SB))), (6, .int (nI (q)))]) hx hb dX5_rateOf_74 hl (by decide) rfl (fun ls hl => ?_)
                refine lv_iload hx hb dX5_rateOf_76 (lv_at hl 5 rfl) ?_
                refine lv_iload hx hb dX5_rateOf_78 (lv_at hl 1 rfl) ?_
                refine lv_if_lt (tgt := 87) hx hb dX5_rateOf_80 (by decide) (fun c7 => ?_) (fun c7 => ?_)
                · exact absurd c7 (nI_pos (by omega))
                · refine lv_iconst (v := nI (1)) hx hb dX5_rateOf_83 (by decide) ?_
                  refine lv_goto (tgt := 88) hx hb dX5_rateOf_84 (by decide) ?_
                  refine n_iadd hx hb dX5_rateOf_88 ?_
                  refine lv_istore (lv' := [(5, .int (nI (SB + 1))), (4, .int (nI (SA + v))), (7, .int (nI (v))), (0, .ref (ma 0)), (1, .int (nI (j))), (2, .int (nI (wd))), (6, .int (nI (q)))]) hx hb dX5_rateOf_89 hl (by decide) rfl (fun ls hl => ?_)
                  refine lv_iinc (v := nI (q + 1)) (lv' := [(6, .int (nI (q + 1))), (5, .int (nI (SB + 1))), (4, .int (nI (SA + v))), (7, .int (nI (v))), (0, .ref (ma 0)), (1, .int (nI (j))), (2, .int (nI (wd)))]) hx hb dX5_rateOf_91 hl (k := 6) rfl (nI_1 _) (by decide) rfl (fun ls hl => ?_)
                  refine lv_goto (tgt := 22) hx hb dX5_rateOf_94 (by decide) ?_
                  exact ih (q + 1) (SA + v) (SB + 1) Y H locs ls (by omega) (by omega) (by omega) (by omega) (by rw [← he]; exact Prod.ext (by show _ + _ = _ + (_ + _); omega) (by show _ + _ = _ + (_ + _); omega)) (hYR.trans hVR) (hYM.trans hVM) hP hD hS (lv_sub hl [4, 5, 6, 2, 1, 0] rfl)
    exact loop ((xB x).length + 1) 0 0 0 T H locs ls (Nat.zero_le _) (by omega) (by omega) (by omega) (by rw [List.drop_zero, Nat.zero_add, Nat.zero_add]) hRR hMM hP hD hS (lv_sub hl [4, 5, 6, 2, 1, 0] rfl)
  · obtain ⟨v, hv⟩ : ∃ v, meanH (xH x) (xW x) b wd = some v := by
      cases hv : meanH (xH x) (xW x) b wd with
      | none => exact absurd (by rw [hv]; decide) c1
      | some v => exact ⟨v, rfl⟩
    refine lv_iload_n hx hb dX5_rateOf_11 rfl (lv_at hl 0 rfl) ?_
    subst hQQ
    exact W.iret hx hb hr (fun t9 ht _ => ⟨⟨_, T, rfl, ⟨by unfold rateV rateH; rw [hv]; rfl, hRR, hMM⟩, hpT ht hP⟩, hS.F ht⟩) hS.2.2 dX5_rateOf_12
