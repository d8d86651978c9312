set_option maxHeartbeats 4000000 in
set_option maxRecDepth 100000 in
theorem m_layOut (l : Launch) (g : GG) (ma : Nat → Nat) (P : PT) (S : ST) (j : Nat) (b : BinT) (hBk : Bok b) (hR : RelB b j P) (hj8 : j < 8) (sz : Nat) : Ev l yX5_layOut wsX5_layOut 1 24 0 0 [.ref (ma 0), .int (nI (j))] g (wM g ma P S) sz ma P (fun u => Lay b u ∧ sR u = sR S ∧ sM u = sM S) := by
  refine Met.ofW (cc := cX5_layOut) (maxL := 5) (ret := none) (by decide) rfl ?_
  intro p e s m args below meth c s₁ BB hml hv
  obtain ⟨hargs, hsz, hP, hK, hD0⟩ := hv
  have hx := BB.exec
  have hb := BB.bytes
  have hr := BB.returns
  have hts : ∀ w ∈ BIG, w.before args s = true := fun w h => atoms_spec (ws := wsX5_layOut) BB.pre w (List.mem_cons_of_mem _ h)
  have hown : s.vm.findClass RX5 = some m.cls := findClass_of_methodNamed BB.named
  have hlocks := BB.notSynchronized
  obtain ⟨RR, hRR⟩ : ∃ RR, RR = (headSpec wsX5_layOut ⟨1, 0, 0, 24⟩).room := ⟨_, rfl⟩
  have hR1 : RR.frames = 1 := by rw [hRR]; rfl
  have hR2 : RR.locals = 24 := by rw [hRR]; rfl
  have hR3 : RR.cells = 0 := by rw [hRR]; rfl
  have hR4 : RR.slots = 0 := by rw [hRR]; rfl
  have hl := lv_entry ([.ref (ma 0), .int (nI (j))]) (n := 5) (Nat.le_of_ble_eq_true rfl)
  have hent : entryFrame m args 5 = F0 m 0 ((lg_sl ([.ref (ma 0), .int (nI (j))]) ++ List.replicate (5 - (lg_sl ([.ref (ma 0), .int (nI (j))])).length) Slot.unset).toArray) [] := by rw [hargs, lg_entry_eq]
  rw [hent]
  generalize (lg_sl ([.ref (ma 0), .int (nI (j))]) ++ List.replicate (5 - (lg_sl ([.ref (ma 0), .int (nI (j))])).length) Slot.unset).toArray = ls at hl ⊢
  have hl : lv_has ls 5 [(0, .ref (ma 0)), (1, .int (nI (j)))] := hl
  subst hsz
  have hD := hD0.self (sz := s.heap.size)
  generalize hAe : va_A (wM g ma P S) s.heap.size = A at hD ⊢
  have hA : ∀ q : Nat, s.heap.size ≤ q → A q := fun q h => by rw [← hAe]; exact Or.inr h
  have hS : va_S A s.heap s.heap [] := va_S.rf
  refine q_ab (R := RR) hRR ?_
  generalize hQQ : MQ below _ args s _ _ _ = QQ
  obtain ⟨⟨-, -, hRc, hEc⟩, hr1, he1, -, hri, hei, -⟩ := id hR
  obtain ⟨⟨hbn, hbp, hbo, hba⟩, -, -, -, -, hc1, hc2, hc3, -⟩ := id hBk
  have hrh := hR.rh hBk
  have heh := hR.eh hBk
  refine lv_aload_n hx hb dX5_layOut_0 rfl (lv_at hl 0 rfl) ?_
  refine lv_iconst (v := nI (0)) hx hb dX5_layOut_1 (by decide) ?_
  refine va_put (D := g.1) (ci := 5) (v := .int (nI (0))) (ty := .int) (C := RX5) (T := TX5) (N := 23) hx hb hts hiX5 tyX5 tyX5_ok nmX5 hown hK.1 hP hD hS 0 rfl rfl 15 (by decide) (hts _ w_fl_X5_94) (fun _ h9 => h9) rfl (by decide +kernel) rfl rfl (Nat.le_of_ble_eq_true rfl) dX5_layOut_2 (fun H locs hP hD hS => ?_)
  have hP : va_P g.1 vwCl (wM g ma P (usN S 0)) H := hP
  have hD : va_D A (wM g ma P (usN S 0)) := hD
  refine lv_iconst (v := nI (0)) hx hb dX5_layOut_5 (by decide) ?_
  refine lv_istore_n (lv' := [(2, .int (nI (0))), (0, .ref (ma 0)), (1, .int (nI (j)))]) hx hb dX5_layOut_6 rfl hl (by decide) rfl (fun ls hl => ?_)
  have loop3 : ∀ (k9 : Nat) (q : Nat) (T : ST) (H : Heap) (locs : List Loc) (ls : Array Slot), (q ≤ bN b) → (bN b < q + k9) → (sN T = bN b) → (∀ k, k < bN b → sH T k = hrB b k ∧ sS T k = shB b k ∧ sE T k = !rowB b k) → (∀ k, k < q → sW T k = wrgF b (bef b k) k) → (∀ k, k < q → sG T k = gnF b (bef b k) k) → (sR T = sR S) → (sM T = sM S) → va_P g.1 vwCl (wM g ma P T) H → va_D A (wM g ma P T) → va_S A s.heap H locs → lv_has ls 5 [(0, .ref (ma 0)), (1, .int (nI (j))), (2, .int (gI (bef b q))), (3, .int (nI (q)))] → W p l e RR s m args below meth c H locs 0 0 QQ (F0 m 89 ls []) := by
    intro k9
    induction k9 with
    | zero => intro q T H locs ls hq hk hN hL hW hG hRR hMM hP hD hS hl; exact absurd hk (by omega)
    | succ k9 ih =>
      intro q T H locs ls hq hk hN hL hW hG hRR hMM hP hD hS hl
      refine lv_iload_n hx hb dX5_layOut_89 rfl (lv_at hl 3 rfl) ?_
      refine lv_aload_n hx hb dX5_layOut_90 rfl (lv_at hl 0 rfl) ?_
      refine va_get (D := g.1) (ci := 5) (v := .int (nI (sN T))) (C := RX5) (T := TX5) (N := 23) hx hb hts hiX5 hown hK.1 hP 0 rfl rfl 15 (by decide) (hts _ w_fl_X5_94) (fun _ h9 => h9) rfl dX5_layOut_91 ?_
      refine bn_ge (tgt := 231) hx hb (by omega) (by omega) dX5_layOut_94 (by decide) (fun c1 => ?_) (fun c1 => ?_)
      · have hqn : q = bN b := by omega
        subst hqn
        subst hQQ
        exact W.vret hx hb hr (fun t9 ht _ => ⟨⟨T, rfl, ⟨Lay.mk hBk hN hL hW hG, hRR, hMM⟩, hpT ht hP⟩, hS.F ht⟩) hS.2.2 dX5_layOut_231
      · have c1 : q < bN b := by omega
        have hpj := hbp q c1
        have hsj := hba q c1
        cases hrow : rowB b q with
        | false =>
          have hwv : wrgF b (bef b q) q = false := by unfold wrgF; split; rfl; rw [hrow]; rfl
          have hgv : gnF b (bef b q) q = none := by unfold gnF; split; rfl; rw [hrow]; rfl
          refine lv_aload_n hx hb dX5_layOut_97 rfl (lv_at hl 0 rfl) ?_
          refine va_get (D := g.1) (ci := 5) (v := .ref (ma 13)) (C := RX5) (T := TX5) (N := 23) hx hb hts hiX5 hown hK.1 hP 0 rfl rfl 19 (by decide) (hts _ w_fl_X5_63) (fun _ h9 => h9) rfl dX5_layOut_98 ?_
          refine lv_iload_n hx hb dX5_layOut_101 rfl (lv_at hl 3 rfl) ?_
          refine lv_aload_n hx hb dX5_layOut_102 rfl (lv_at hl 0 rfl) ?_
          refine va_get (D := g.1) (ci := 5) (v := .ref (ma 12)) (C := RX5) (T := TX5) (N := 23) hx hb hts hiX5 hown hK.1 hP 0 rfl rfl 18 (by decide) (hts _ w_fl_X5_60) (fun _ h9 => h9) rfl dX5_layOut_103 ?_
          refine lv_iload_n hx hb dX5_layOut_106 rfl (lv_at hl 3 rfl) ?_
          refine n_zald (k := q) (v := bI (!rowB b q)) hx hb hK.1 hP 12 1 rfl rfl (by omega) (by decide) (by show bI (sE T q) = _; rw [(hL q (by omega)).2.2]) dX5_layOut_107 ?_
          refine bb_ne (tgt := 134) hx hb dX5_layOut_108 (by decide) (fun cA => ?_) (fun cA => ?_)
          · refine lv_iconst (v := bI (false)) hx hb dX5_layOut_134 (by decide) ?_
            refine tp_i (y := bI (wrgF b (bef b q) q)) (by rw [hwv]) ?_
            refine n_zastE (f := sW T) (x := wrgF b (bef b q) q) (k := q) hx hb hK.1 hP hD hS 13 1 rfl rfl (by omega) (by decide) dX5_layOut_135 (fun H locs hP hD hS => ?_)
            have hP : va_P g.1 vwCl (wM g ma P (usW T (va_up (sW T) q (wrgF b (bef b q) q)))) H := hP
            have hD : va_D A (wM g ma P (usW T (va_up (sW T) q (wrgF b (bef b q) q)))) := hD
            refine lv_aload_n hx hb dX5_layOut_136 rfl (lv_at hl 0 rfl) ?_
            refine va_get (D := g.1) (ci := 5) (v := .ref (ma 12)) (C := RX5) (T := TX5) (N := 23) hx hb hts hiX5 hown hK.1 hP 0 rfl rfl 18 (by decide) (hts _ w_fl_X5_60) (fun _ h9 => h9) rfl dX5_layOut_137 ?_
            refine lv_iload_n hx hb dX5_layOut_140 rfl (lv_at hl 3 rfl) ?_
            refine n_zald (k := q) (v := bI (!rowB b q)) hx hb hK.1 hP 12 1 rfl rfl (by omega) (by decide) (by show bI (sE T q) = _; rw [(hL q (by omega)).2.2]) dX5_layOut_141 ?_
            refine bb_ne (tgt := 162) hx hb dX5_layOut_142 (by decide) (fun cB => ?_) (fun cB => ?_)
            · refine lv_iconst (v := bI (false)) hx hb dX5_layOut_162 (by decide) ?_
              refine lv_istore (lv' := [(4, .int (bI (false))), (0, .ref (ma 0)), (1, .int (nI (j))), (2, .int (gI (bef b q))), (3, .int (nI (q)))]) hx hb dX5_layOut_163 hl (by decide) rfl (fun ls hl => ?_)
              refine lv_aload_n hx hb dX5_layOut_165 rfl (lv_at hl 1 rfl) ?_
              refine va_get (D := g.1) (ci := 5) (v := .ref (ma 14)) (C := RX5) (T := TX5) (N := 23) hx hb hts hiX5 hown hK.1 hP 0 rfl rfl 20 (by decide) (hts _ w_fl_X5_66) (fun _ h9 => h9) rfl dX5_layOut_166 ?_
              refine lv_iload_n hx hb dX5_layOut_169 rfl (lv_at hl 4 rfl) ?_
              refine lv_iload hx hb dX5_layOut_170 (lv_at hl 0 rfl) ?_
              refine bb_eq (tgt := 208) hx hb dX5_layOut_172 (by decide) (fun cE => ?_) (fun cE => ?_)
              · refine lv_iconst (v := (-1)) hx hb dX5_layOut_208 (by decide) ?_
                refine tp_i (y := gI (gnF b (bef b q) q)) (by rw [hgv]; rfl) ?_
                refine n_iastE (enc := gI) (f := sG T) (x := gnF b (bef b q) q) (k := q) hx hb hK.1 hP hD hS 14 0 rfl rfl (by omega) (by decide) dX5_layOut_209 (fun H locs hP hD hS => ?_)
                have hP : va_P g.1 vwCl (wM g ma P (usG (usW T (va_up (sW T) q (wrgF b (bef b q) q))) (va_up (sG T) q (gnF b (bef b q) q)))) H := hP
                have hD : va_D A (wM g ma P (usG (usW T (va_up (sW T) q (wrgF b (bef b q) q))) (va_up (sG T) q (gnF b (bef b q) q)))) := hD
                refine lv_aload_n hx hb dX5_layOut_210 rfl (lv_at hl 1 rfl) ?_
                refine va_get (D := g.1) (ci := 5) (v := .ref (ma 13)) (C := RX5) (T := TX5) (N := 23) hx hb hts hiX5 hown hK.1 hP 0 rfl rfl 19 (by decide) (hts _ w_fl_X5_63) (fun _ h9 => h9) rfl dX5_layOut_211 ?_
                refine lv_iload_n hx hb dX5_layOut_214 rfl (lv_at hl 4 rfl) ?_
                refine n_zald (k := q) (v := bI (wrgF b (bef b q) q)) hx hb hK.1 hP 13 1 rfl rfl (by omega) (by decide) (by show bI (va_up (sW T) q (wrgF b (bef b q) q) q) = _; rw [va_up_self]) dX5_layOut_215 ?_
                refine bb_eq (tgt := 223) hx hb dX5_layOut_216 (by decide) (fun cF => ?_) (fun cF => ?_)
                · refine lv_iload_n hx hb dX5_layOut_223 rfl (lv_at hl 4 rfl) ?_
                  refine lv_istore_n (lv' := [(2, .int (nI (q))), (4, .int (bI (false))), (0, .ref (ma 0)), (1, .int (nI (j))), (3, .int (nI (q)))]) hx hb dX5_layOut_224 rfl hl (by decide) rfl (fun ls hl => ?_)
                  refine lv_iinc (v := nI (q + 1)) (lv' := [(3, .int (nI (q + 1))), (2, .int (nI (q))), (4, .int (bI (false))), (0, .ref (ma 0)), (1, .int (nI (j)))]) hx hb dX5_layOut_225 hl (k := 4) rfl (nI_1 _) (by decide) rfl (fun ls hl => ?_)
                  refine lv_goto (tgt := 89) hx hb dX5_layOut_228 (by decide) ?_
                  exact ih (q + 1) (usG (usW T (va_up (sW T) q (wrgF b (bef b q) q))) (va_up (sG T) q (gnF b (bef b q) q))) H locs ls (by omega) (by omega) hN hL (lt_s (fun k hk => by show va_up (sW T) q _ k = _; rw [va_up_ne _ _ (by omega)]; exact hW k hk) (va_up_self _ _ _)) (lt_s (fun k hk => by show va_up (sG T) q _ k = _; rw [va_up_ne _ _ (by omega)]; exact hG k hk) (va_up_self _ _ _)) hRR hMM hP hD hS (by rw [bef, if_neg (by rw [hwv]; decide)]; exact lv_sub hl [3, 4, 1, 0] rfl)
                · rw [hwv] at cF; exact absurd cF (by decide)
              · exact absurd cE (by decide)
            · rw [hrow] at cB; exact absurd cB (by decide)
          · rw [hrow] at cA; exact absurd cA (by decide)
        | true =>
          cases hbn0 : bef b q with
          | none =>
            have hwv : wrgF b (bef b q) q = false := by rw [hbn0]; rfl
            have hgv : gnF b (bef b q) q = none := by rw [hbn0]; rfl
            refine lv_aload_n hx hb dX5_layOut_97 rfl (lv_at hl 0 rfl) ?_
            refine va_get (D := g.1) (ci := 5) (v := .ref (ma 13)) (C := RX5) (T := TX5) (N := 23) hx hb hts hiX5 hown hK.1 hP 0 rfl rfl 19 (by decide) (hts _ w_fl_X5_63) (fun _ h9 => h9) rfl dX5_layOut_98 ?_
            refine lv_iload_n hx hb dX5_layOut_101 rfl (lv_at hl 3 rfl) ?_
            refine lv_aload_n hx hb dX5_layOut_102 rfl (lv_at hl 0 rfl) ?_
            refine va_get (D := g.1) (ci := 5) (v := .ref (ma 12)) (C := RX5) (T := TX5) (N := 23) hx hb hts hiX5 hown hK.1 hP 0 rfl rfl 18 (by decide) (hts _ w_fl_X5_60) (fun _ h9 => h9) rfl dX5_layOut_103 ?_
            refine lv_iload_n hx hb dX5_layOut_106 rfl (lv_at hl 3 rfl) ?_
            refine n_zald (k := q) (v := bI (!rowB b q)) hx hb hK.1 hP 12 1 rfl rfl (by omega) (by decide) (by show bI (sE T q) = _; rw [(hL q (by omega)).2.2]) dX5_layOut_107 ?_
            refine bb_ne (tgt := 134) hx hb dX5_layOut_108 (by decide) (fun cA => ?_) (fun cA => ?_)
            · rw [hrow] at cA; exact absurd cA (by decide)
            · refine lv_iload_n hx hb dX5_layOut_111 rfl (lv_at hl 2 rfl) ?_
              refine lv_if_lt (tgt := 134) hx hb dX5_layOut_112 (by decide) (fun cG => ?_) (fun cG => ?_)
              · refine lv_iconst (v := bI (false)) hx hb dX5_layOut_134 (by decide) ?_
                refine tp_i (y := bI (wrgF b (bef b q) q)) (by rw [hwv]) ?_
                refine n_zastE (f := sW T) (x := wrgF b (bef b q) q) (k := q) hx hb hK.1 hP hD hS 13 1 rfl rfl (by omega) (by decide) dX5_layOut_135 (fun H locs hP hD hS => ?_)
                have hP : va_P g.1 vwCl (wM g ma P (usW T (va_up (sW T) q (wrgF b (bef b q) q)))) H := hP
                have hD : va_D A (wM g ma P (usW T (va_up (sW T) q (wrgF b (bef b q) q)))) := hD
                refine lv_aload_n hx hb dX5_layOut_136 rfl (lv_at hl 0 rfl) ?_
                refine va_get (D := g.1) (ci := 5) (v := .ref (ma 12)) (C := RX5) (T := TX5) (N := 23) hx hb hts hiX5 hown hK.1 hP 0 rfl rfl 18 (by decide) (hts _ w_fl_X5_60) (fun _ h9 => h9) rfl dX5_layOut_137 ?_
                refine lv_iload_n hx hb dX5_layOut_140 rfl (lv_at hl 3 rfl) ?_
                refine n_zald (k := q) (v := bI (!rowB b q)) hx hb hK.1 hP 12 1 rfl rfl (by omega) (by decide) (by show bI (sE T q) = _; rw [(hL q (by omega)).2.2]) dX5_layOut_141 ?_
                refine bb_ne (tgt := 162) hx hb dX5_layOut_142 (by decide) (fun cB => ?_) (fun cB => ?_)
                · rw [hrow] at cB; exact absurd cB (by decide)
                · refine lv_aload_n hx hb dX5_layOut_145 rfl (lv_at hl 0 rfl) ?_
                  refine va_get (D := g.1) (ci := 5) (v := .ref (ma 13)) (C := RX5) (T := TX5) (N := 23) hx hb hts hiX5 hown hK.1 hP 0 rfl rfl 19 (by decide) (hts _ w_fl_X5_63) (fun _ h9 => h9) rfl dX5_layOut_146 ?_
                  refine lv_iload_n hx hb dX5_layOut_149 rfl (lv_at hl 3 rfl) ?_
                  refine n_zald (k := q) (v := bI (wrgF b (bef b q) q)) hx hb hK.1 hP 13 1 rfl rfl (by omega) (by decide) (by show bI (va_up (sW T) q (wrgF b (bef b q) q) q) = _; rw [va_up_self]) dX5_layOut_150 ?_
                  refine bb_ne (tgt := 162) hx hb dX5_layOut_151 (by decide) (fun cC => ?_) (fun cC => ?_)
                  · rw [hwv] at cC; exact absurd cC (by decide)
                  · refine lv_iload_n hx hb dX5_layOut_154 rfl (lv_at hl 2 rfl) ?_
                    refine lv_if_lt (tgt := 162) hx hb dX5_layOut_155 (by decide) (fun cD => ?_) (fun cD => ?_)
                    · refine lv_iconst (v := bI (false)) hx hb dX5_layOut_162 (by decide) ?_
                      refine lv_istore (lv' := [(4, .int (bI (false))), (0, .ref (ma 0)), (1, .int (nI (j))), (2, .int (gI (bef b q))), (3, .int (nI (q)))]) hx hb dX5_layOut_163 hl (by decide) rfl (fun ls hl => ?_)
                      refine lv_aload_n hx hb dX5_layOut_165 rfl (lv_at hl 1 rfl) ?_
                      refine va_get (D := g.1) (ci := 5) (v := .ref (ma 14)) (C := RX5) (T := TX5) (N := 23) hx hb hts hiX5 hown hK.1 hP 0 rfl rfl 20 (by decide) (hts _ w_fl_X5_66) (fun _ h9 => h9) rfl dX5_layOut_166 ?_
                      refine lv_iload_n hx hb dX5_layOut_169 rfl (lv_at hl 4 rfl) ?_
                      refine lv_iload hx hb dX5_layOut_170 (lv_at hl 0 rfl) ?_
                      refine bb_eq (tgt := 208) hx hb dX5_layOut_172 (by decide) (fun cE => ?_) (fun cE => ?_)
                      · refine lv_iconst (v := (-1)) hx hb dX5_layOut_208 (by decide) ?_
                        refine tp_i (y := gI (gnF b (bef b q) q)) (by rw [hgv]; rfl) ?_
                        refine n_iastE (enc := gI) (f := sG T) (x := gnF b (bef b q) q) (k := q) hx hb hK.1 hP hD hS 14 0 rfl rfl (by omega) (by decide) dX5_layOut_209 (fun H locs hP hD hS => ?_)
                        have hP : va_P g.1 vwCl (wM g ma P (usG (usW T (va_up (sW T) q (wrgF b (bef b q) q))) (va_up (sG T) q (gnF b (bef b q) q)))) H := hP
                        have hD : va_D A (wM g ma P (usG (usW T (va_up (sW T) q (wrgF b (bef b q) q))) (va_up (sG T) q (gnF b (bef b q) q)))) := hD
                        refine lv_aload_n hx hb dX5_layOut_210 rfl (lv_at hl 1 rfl) ?_
                        refine va_get (D := g.1) (ci := 5) (v := .ref (ma 13)) (C := RX5) (T := TX5) (N := 23) hx hb hts hiX5 hown hK.1 hP 0 rfl rfl 19 (by decide) (hts _ w_fl_X5_63) (fun _ h9 => h9) rfl dX5_layOut_211 ?_
                        refine lv_iload_n hx hb dX5_layOut_214 rfl (lv_at hl 4 rfl) ?_
                        refine n_zald (k := q) (v := bI (wrgF b (bef b q) q)) hx hb hK.1 hP 13 1 rfl rfl (by omega) (by decide) (by show bI (va_up (sW T) q (wrgF b (bef b q) q) q) = _; rw [va_up_self]) dX5_layOut_215 ?_
                        refine bb_eq (tgt := 223) hx hb dX5_layOut_216 (by decide) (fun cF => ?_) (fun cF => ?_)
                        · refine lv_iload_n hx hb dX5_layOut_223 rfl (lv_at hl 4 rfl) ?_
                          refine lv_istore_n (lv' := [(2, .int (nI (q))), (4, .int (bI (false))), (0, .ref (ma 0)), (1, .int (nI (j))), (3, .int (nI (q)))]) hx hb dX5_layOut_224 rfl hl (by decide) rfl (fun ls hl => ?_)
                          refine lv_iinc (v := nI (q + 1)) (lv' := [(3, .int (nI (q + 1))), (2, .int (nI (q))), (4, .int (bI (false))), (0, .ref (ma 0)), (1, .int (nI (j)))]) hx hb dX5_layOut_225 hl (k := 4) rfl (nI_1 _) (by decide) rfl (fun ls hl => ?_)
                          refine lv_goto (tgt := 89) hx hb dX5_layOut_228 (by decide) ?_
                          exact ih (q + 1) (usG (usW T (va_up (sW T) q (wrgF b (bef b q) q))) (va_up (sG T) q (gnF b (bef b q) q))) H locs ls (by omega) (by omega) hN hL (lt_s (fun k hk => by show va_up (sW T) q _ k = _; rw [va_up_ne _ _ (by omega)]; exact hW k hk) (va_up_self _ _ _)) (lt_s (fun k hk => by show va_up (sG T) q _ k = _; rw [va_up_ne _ _ (by omega)]; exact hG k hk) (va_up_self _ _ _)) hRR hMM hP hD hS (by rw [bef, if_neg (by rw [hwv]; decide)]; exact lv_sub hl [3, 4, 1, 0] rfl)
                        · rw [hwv] at cF; exact absurd cF (by decide)
                      · exact absurd cE (by decide)
                    · exact absurd (by rw [hbn0]; decide) cD
              · exact absurd (by rw [hbn0]; decide) cG
          | some a =>
            have hba1 := hbn0
            have haq := bef_lt hbn0
            have hpa := hbp a (by omega)
            have hsa := hba a (by omega)
            have hla := hbo a q haq c1
            have hev : bPl b q % 2 = 0 := of_decide_eq_true hrow
            have hh : hrB b a < hrB b q := by unfold hrB; omega
            have hh2 : hrB b q < 10000 := by unfold hrB; omega
            rw [show gI (bef b q) = nI a by rw [hbn0]; rfl] at hl
            have hl : lv_has ls 5 [(0, .ref (ma 0)), (1, .int (nI (j))), (2, .int (nI (a))), (3, .int (nI (q)))] := hl
            by_cases hlt : shB b q < shB b a
            · have hwv : wrgF b (bef b q) q = true := by rw [hbn0, wrgF_some, hrow, decide_eq_true hlt]; rfl
              have hgv : gnF b (bef b q) q = none := by rw [hbn0, gnF_some, hrow, decide_eq_true hlt]; rfl
              refine lv_aload_n hx hb dX5_layOut_97 rfl (lv_at hl 0 rfl) ?_
              refine va_get (D := g.1) (ci := 5) (v := .ref (ma 13)) (C := RX5) (T := TX5) (N := 23) hx hb hts hiX5 hown hK.1 hP 0 rfl rfl 19 (by decide) (hts _ w_fl_X5_63) (fun _ h9 => h9) rfl dX5_layOut_98 ?_
              refine lv_iload_n hx hb dX5_layOut_101 rfl (lv_at hl 3 rfl) ?_
              refine lv_aload_n hx hb dX5_layOut_102 rfl (lv_at hl 0 rfl) ?_
              refine va_get (D := g.1) (ci := 5) (v := .ref (ma 12)) (C := RX5) (T := TX5) (N := 23) hx hb hts hiX5 hown hK.1 hP 0 rfl rfl 18 (by decide) (hts _ w_fl_X5_60) (fun _ h9 => h9) rfl dX5_layOut_103 ?_
              refine lv_iload_n hx hb dX5_layOut_106 rfl (lv_at hl 3 rfl) ?_
              refine n_zald (k := q) (v := bI (!rowB b q)) hx hb hK.1 hP 12 1 rfl rfl (by omega) (by decide) (by show bI (sE T q) = _; rw [(hL q (by omega)).2.2]) dX5_layOut_107 ?_
              refine bb_ne (tgt := 134) hx hb dX5_layOut_108 (by decide) (fun cA => ?_) (fun cA => ?_)
              · rw [hrow] at cA; exact absurd cA (by decide)
              · refine lv_iload_n hx hb dX5_layOut_111 rfl (lv_at hl 2 rfl) ?_
                refine lv_if_lt (tgt := 134) hx hb dX5_layOut_112 (by decide) (fun cG => ?_) (fun cG => ?_)
                · exact absurd cG (nI_pos (by omega))
                · refine lv_aload_n hx hb dX5_layOut_115 rfl (lv_at hl 0 rfl) ?_
                  refine va_get (D := g.1) (ci := 5) (v := .ref (ma 11)) (C := RX5) (T := TX5) (N := 23) hx hb hts hiX5 hown hK.1 hP 0 rfl rfl 17 (by decide) (hts _ w_fl_X5_57) (fun _ h9 => h9) rfl dX5_layOut_116 ?_
                  refine lv_iload_n hx hb dX5_layOut_119 rfl (lv_at hl 3 rfl) ?_
                  refine n_iald (k := q) (v := nI (shB b q)) hx hb hK.1 hP 11 0 rfl rfl (by omega) (by decide) (by show nI (sS T q) = _; rw [(hL q (by omega)).2.1]) dX5_layOut_120 ?_
                  refine lv_aload_n hx hb dX5_layOut_121 rfl (lv_at hl 0 rfl) ?_
                  refine va_get (D := g.1) (ci := 5) (v := .ref (ma 11)) (C := RX5) (T := TX5) (N := 23) hx hb hts hiX5 hown hK.1 hP 0 rfl rfl 17 (by decide) (hts _ w_fl_X5_57) (fun _ h9 => h9) rfl dX5_layOut_122 ?_
                  refine lv_iload_n hx hb dX5_layOut_125 rfl (lv_at hl 2 rfl) ?_
                  refine n_iald (k := a) (v := nI (shB b a)) hx hb hK.1 hP 11 0 rfl rfl (by omega) (by decide) (by show nI (sS T a) = _; rw [(hL a (by omega)).2.1]) dX5_layOut_126 ?_
                  refine bn_ge (tgt := 134) hx hb (by omega) (by omega) dX5_layOut_127 (by decide) (fun cH => ?_) (fun cH => ?_)
                  · exact absurd cH (by omega)
                  · refine lv_iconst (v := bI (true)) hx hb dX5_layOut_130 (by decide) ?_
                    refine lv_goto (tgt := 135) hx hb dX5_layOut_131 (by decide) ?_
                    refine tp_i (y := bI (wrgF b (bef b q) q)) (by rw [hwv]) ?_
                    refine n_zastE (f := sW T) (x := wrgF b (bef b q) q) (k := q) hx hb hK.1 hP hD hS 13 1 rfl rfl (by omega) (by decide) dX5_layOut_135 (fun H locs hP hD hS => ?_)
                    have hP : va_P g.1 vwCl (wM g ma P (usW T (va_up (sW T) q (wrgF b (bef b q) q)))) H := hP
                    have hD : va_D A (wM g ma P (usW T (va_up (sW T) q (wrgF b (bef b q) q)))) := hD
                    refine lv_aload_n hx hb dX5_layOut_136 rfl (lv_at hl 0 rfl) ?_
                    refine va_get (D := g.1) (ci := 5) (v := .ref (ma 12)) (C := RX5) (T := TX5) (N := 23) hx hb hts hiX5 hown hK.1 hP 0 rfl rfl 18 (by decide) (hts _ w_fl_X5_60) (fun _ h9 => h9) rfl dX5_layOut_137 ?_
                    refine lv_iload_n hx hb dX5_layOut_140 rfl (lv_at hl 3 rfl) ?_
                    refine n_zald (k := q) (v := bI (!rowB b q)) hx hb hK.1 hP 12 1 rfl rfl (by omega) (by decide) (by show bI (sE T q) = _; rw [(hL q (by omega)).2.2]) dX5_layOut_141 ?_
                    refine bb_ne (tgt := 162) hx hb dX5_layOut_142 (by decide) (fun cB => ?_) (fun cB => ?_)
                    · rw [hrow] at cB; exact absurd cB (by decide)
                    · refine lv_aload_n hx hb dX5_layOut_145 rfl (lv_at hl 0 rfl) ?_
                      refine va_get (D := g.1) (ci := 5) (v := .ref (ma 13)) (C := RX5) (T := TX5) (N := 23) hx hb hts hiX5 hown hK.1 hP 0 rfl rfl 19 (by decide) (hts _ w_fl_X5_63) (fun _ h9 => h9) rfl dX5_layOut_146 ?_
                      refine lv_iload_n hx hb dX5_layOut_149 rfl (lv_at hl 3 rfl) ?_
                      refine n_zald (k := q) (v := bI (wrgF b (bef b q) q)) hx hb hK.1 hP 13 1 rfl rfl (by omega) (by decide) (by show bI (va_up (sW T) q (wrgF b (bef b q) q) q) = _; rw [va_up_self]) dX5_layOut_150 ?_
                      refine bb_ne (tgt := 162) hx hb dX5_layOut_151 (by decide) (fun cC => ?_) (fun cC => ?_)
                      · refine lv_iconst (v := bI (false)) hx hb dX5_layOut_162 (by decide) ?_
                        refine lv_istore (lv' := [(4, .int (bI (false))), (0, .ref (ma 0)), (1, .int (nI (j))), (2, .int (nI (a))), (3, .int (nI (q)))]) hx hb dX5_layOut_163 hl (by decide) rfl (fun ls hl => ?_)
                        refine lv_aload_n hx hb dX5_layOut_165 rfl (lv_at hl 1 rfl) ?_
                        refine va_get (D := g.1) (ci := 5) (v := .ref (ma 14)) (C := RX5) (T := TX5) (N := 23) hx hb hts hiX5 hown hK.1 hP 0 rfl rfl 20 (by decide) (hts _ w_fl_X5_66) (fun _ h9 => h9) rfl dX5_layOut_166 ?_
                        refine lv_iload_n hx hb dX5_layOut_169 rfl (lv_at hl 4 rfl) ?_
                        refine lv_iload hx hb dX5_layOut_170 (lv_at hl 0 rfl) ?_
                        refine bb_eq (tgt := 208) hx hb dX5_layOut_172 (by decide) (fun cE => ?_) (fun cE => ?_)
                        · refine lv_iconst (v := (-1)) hx hb dX5_layOut_208 (by decide) ?_
                          refine tp_i (y := gI (gnF b (bef b q) q)) (by rw [hgv]; rfl) ?_
                          refine n_iastE (enc := gI) (f := sG T) (x := gnF b (bef b q) q) (k := q) hx hb hK.1 hP hD hS 14 0 rfl rfl (by omega) (by decide) dX5_layOut_209 (fun H locs hP hD hS => ?_)
                          have hP : va_P g.1 vwCl (wM g ma P (usG (usW T (va_up (sW T) q (wrgF b (bef b q) q))) (va_up (sG T) q (gnF b (bef b q) q)))) H := hP
                          have hD : va_D A (wM g ma P (usG (usW T (va_up (sW T) q (wrgF b (bef b q) q))) (va_up (sG T) q (gnF b (bef b q) q)))) := hD
                          refine lv_aload_n hx hb dX5_layOut_210 rfl (lv_at hl 1 rfl) ?_
                          refine va_get (D := g.1) (ci := 5) (v := .ref (ma 13)) (C := RX5) (T := TX5) (N := 23) hx hb hts hiX5 hown hK.1 hP 0 rfl rfl 19 (by decide) (hts _ w_fl_X5_63) (fun _ h9 => h9) rfl dX5_layOut_211 ?_
                          refine lv_iload_n hx hb dX5_layOut_214 rfl (lv_at hl 4 rfl) ?_
                          refine n_zald (k := q) (v := bI (wrgF b (bef b q) q)) hx hb hK.1 hP 13 1 rfl rfl (by omega) (by decide) (by show bI (va_up (sW T) q (wrgF b (bef b q) q) q) = _; rw [va_up_self]) dX5_layOut_215 ?_
                          refine bb_eq (tgt := 223) hx hb dX5_layOut_216 (by decide) (fun cF => ?_) (fun cF => ?_)
                          · rw [hwv] at cF; exact absurd cF (by decide)
                          · refine lv_iload_n hx hb dX5_layOut_219 rfl (lv_at hl 3 rfl) ?_
                            refine lv_goto (tgt := 224) hx hb dX5_layOut_220 (by decide) ?_
                            refine lv_istore_n (lv' := [(2, .int (nI (a))), (4, .int (bI (false))), (0, .ref (ma 0)), (1, .int (nI (j))), (3, .int (nI (q)))]) hx hb dX5_layOut_224 rfl hl (by decide) rfl (fun ls hl => ?_)
                            refine lv_iinc (v := nI (q + 1)) (lv' := [(3, .int (nI (q + 1))), (2, .int (nI (a))), (4, .int (bI (false))), (0, .ref (ma 0)), (1, .int (nI (j)))]) hx hb dX5_layOut_225 hl (k := 4) rfl (nI_1 _) (by decide) rfl (fun ls hl => ?_)
                            refine lv_goto (tgt := 89) hx hb dX5_layOut_228 (by decide) ?_
                            exact ih (q + 1) (usG (usW T (va_up (sW T) q (wrgF b (bef b q) q))) (va_up (sG T) q (gnF b (bef b q) q))) H locs ls (by omega) (by omega) hN hL (lt_s (fun k hk => by show va_up (sW T) q _ k = _; rw [va_up_ne _ _ (by omega)]; exact hW k hk) (va_up_self _ _ _)) (lt_s (fun k hk => by show va_up (sG T) q _ k = _; rw [va_up_ne _ _ (by omega)]; exact hG k hk) (va_up_self _ _ _)) hRR hMM hP hD hS (by rw [bef, if_pos hwv, hba1]; exact lv_sub hl [3, 4, 1, 0] rfl)
                        · exact absurd cE (by decide)
                      · rw [hwv] at cC; exact absurd cC (by decide)
            · have hwv : wrgF b (bef b q) q = false := by rw [hbn0, wrgF_some, hrow, decide_eq_false hlt]; rfl
              have hgv : gnF b (bef b q) q = some ((shB b q - shB b a) * 24 / (hrB b q - hrB b a)) := by rw [hbn0, gnF_some, hrow, decide_eq_false hlt]; rfl
              refine lv_aload_n hx hb dX5_layOut_97 rfl (lv_at hl 0 rfl) ?_
              refine va_get (D := g.1) (ci := 5) (v := .ref (ma 13)) (C := RX5) (T := TX5) (N := 23) hx hb hts hiX5 hown hK.1 hP 0 rfl rfl 19 (by decide) (hts _ w_fl_X5_63) (fun _ h9 => h9) rfl dX5_layOut_98 ?_
              refine lv_iload_n hx hb dX5_layOut_101 rfl (lv_at hl 3 rfl) ?_
              refine lv_aload_n hx hb dX5_layOut_102 rfl (lv_at hl 0 rfl) ?_
              refine va_get (D := g.1) (ci := 5) (v := .ref (ma 12)) (C := RX5) (T := TX5) (N := 23) hx hb hts hiX5 hown hK.1 hP 0 rfl rfl 18 (by decide) (hts _ w_fl_X5_60) (fun _ h9 => h9) rfl dX5_layOut_103 ?_
              refine lv_iload_n hx hb dX5_layOut_106 rfl (lv_at hl 3 rfl) ?_
              refine n_zald (k := q) (v := bI (!rowB b q)) hx hb hK.1 hP 12 1 rfl rfl (by omega) (by decide) (by show bI (sE T q) = _; rw [(hL q (by omega)).2.2]) dX5_layOut_107 ?_
              refine bb_ne (tgt := 134) hx hb dX5_layOut_108 (by decide) (fun cA => ?_) (fun cA => ?_)
              · rw [hrow] at cA; exact absurd cA (by decide)
              · refine lv_iload_n hx hb dX5_layOut_111 rfl (lv_at hl 2 rfl) ?_
                refine lv_if_lt (tgt := 134) hx hb dX5_layOut_112 (by decide) (fun cG => ?_) (fun cG => ?_)
                · exact absurd cG (nI_pos (by omega))
                · refine lv_aload_n hx hb dX5_layOut_115 rfl (lv_at hl 0 rfl) ?_
                  refine va_get (D := g.1) (ci := 5) (v := .ref (ma 11)) (C := RX5) (T := TX5) (N := 23) hx hb hts hiX5 hown hK.1 hP 0 rfl rfl 17 (by decide) (hts _ w_fl_X5_57) (fun _ h9 => h9) rfl dX5_layOut_116 ?_
                  refine lv_iload_n hx hb dX5_layOut_119 rfl (lv_at hl 3 rfl) ?_
                  refine n_iald (k := q) (v := nI (shB b q)) hx hb hK.1 hP 11 0 rfl rfl (by omega) (by decide) (by show nI (sS T q) = _; rw [(hL q (by omega)).2.1]) dX5_layOut_120 ?_
                  refine lv_aload_n hx hb dX5_layOut_121 rfl (lv_at hl 0 rfl) ?_
                  refine va_get (D := g.1) (ci := 5) (v := .ref (ma 11)) (C := RX5) (T := TX5) (N := 23) hx hb hts hiX5 hown hK.1 hP 0 rfl rfl 17 (by decide) (hts _ w_fl_X5_57) (fun _ h9 => h9) rfl dX5_layOut_122 ?_
                  refine lv_iload_n hx hb dX5_layOut_125 rfl (lv_at hl 2 rfl) ?_
                  refine n_iald (k := a) (v := nI (shB b a)) hx hb hK.1 hP 11 0 rfl rfl (by omega) (by decide) (by show nI (sS T a) = _; rw [(hL a (by omega)).2.1]) dX5_layOut_126 ?_
                  refine bn_ge (tgt := 134) hx hb (by omega) (by omega) dX5_layOut_127 (by decide) (fun cH => ?_) (fun cH => ?_)
                  · refine lv_iconst (v := bI (false)) hx hb dX5_layOut_134 (by decide) ?_
                    refine tp_i (y := bI (wrgF b (bef b q) q)) (by rw [hwv]) ?_
                    refine n_zastE (f := sW T) (x := wrgF b (bef b q) q) (k := q) hx hb hK.1 hP hD hS 13 1 rfl rfl (by omega) (by decide) dX5_layOut_135 (fun H locs hP hD hS => ?_)
                    have hP : va_P g.1 vwCl (wM g ma P (usW T (va_up (sW T) q (wrgF b (bef b q) q)))) H := hP
                    have hD : va_D A (wM g ma P (usW T (va_up (sW T) q (wrgF b (bef b q) q)))) := hD
                    refine lv_aload_n hx hb dX5_layOut_136 rfl (lv_at hl 0 rfl) ?_
                    refine va_get (D := g.1) (ci := 5) (v := .ref (ma 12)) (C := RX5) (T := TX5) (N := 23) hx hb hts hiX5 hown hK.1 hP 0 rfl rfl 18 (by decide) (hts _ w_fl_X5_60) (fun _ h9 => h9) rfl dX5_layOut_137 ?_
                    refine lv_iload_n hx hb dX5_layOut_140 rfl (lv_at hl 3 rfl) ?_
                    refine n_zald (k := q) (v := bI (!rowB b q)) hx hb hK.1 hP 12 1 rfl rfl (by omega) (by decide) (by show bI (sE T q) = _; rw [(hL q (by omega)).2.2]) dX5_layOut_141 ?_
                    refine bb_ne (tgt := 162) hx hb dX5_layOut_142 (by decide) (fun cB => ?_) (fun cB => ?_)
                    · rw [hrow] at cB; exact absurd cB (by decide)
                    · refine lv_aload_n hx hb dX5_layOut_145 rfl (lv_at hl 0 rfl) ?_
                      refine va_get (D := g.1) (ci := 5) (v := .ref (ma 13)) (C := RX5) (T := TX5) (N := 23) hx hb hts hiX5 hown hK.1 hP 0 rfl rfl 19 (by decide) (hts _ w_fl_X5_63) (fun _ h9 => h9) rfl dX5_layOut_146 ?_
                      refine lv_iload_n hx hb dX5_layOut_149 rfl (lv_at hl 3 rfl) ?_
                      refine n_zald (k := q) (v := bI (wrgF b (bef b q) q)) hx hb hK.1 hP 13 1 rfl rfl (by omega) (by decide) (by show bI (va_up (sW T) q (wrgF b (bef b q) q) q) = _; rw [va_up_self]) dX5_layOut_150 ?_
                      refine bb_ne (tgt := 162) hx hb dX5_layOut_151 (by decide) (fun cC => ?_) (fun cC => ?_)
                      · rw [hwv] at cC; exact absurd cC (by decide)
                      · refine lv_iload_n hx hb dX5_layOut_154 rfl (lv_at hl 2 rfl) ?_
                        refine lv_if_lt (tgt := 162) hx hb dX5_layOut_155 (by decide) (fun cD => ?_) (fun cD => ?_)
                        · exact absurd cD (nI_pos (by omega))
                        · refine lv_iconst (v := bI (true)) hx hb dX5_layOut_158 (by decide) ?_
                          refine lv_goto (tgt := 163) hx hb dX5_layOut_159 (by decide) ?_
                          refine lv_istore (lv' := [(4, .int (bI (true))), (0, .ref (ma 0)), (1, .int (nI (j))), (2, .int (nI (a))), (3, .int (nI (q)))]) hx hb dX5_layOut_163 hl (by decide) rfl (fun ls hl => ?_)
                          refine lv_aload_n hx hb dX5_layOut_165 rfl (lv_at hl 1 rfl) ?_
                          refine va_get (D := g.1) (ci := 5) (v := .ref (ma 14)) (C := RX5) (T := TX5) (N := 23) hx hb hts hiX5 hown hK.1 hP 0 rfl rfl 20 (by decide) (hts _ w_fl_X5_66) (fun _ h9 => h9) rfl dX5_layOut_166 ?_
                          refine lv_iload_n hx hb dX5_layOut_169 rfl (lv_at hl 4 rfl) ?_
                          refine lv_iload hx hb dX5_layOut_170 (lv_at hl 0 rfl) ?_
                          refine bb_eq (tgt := 208) hx hb dX5_layOut_172 (by decide) (fun cE => ?_) (fun cE => ?_)
                          · exact absurd cE (by decide)
                          · refine lv_aload_n hx hb dX5_layOut_175 rfl (lv_at hl 1 rfl) ?_
                            refine va_get (D := g.1) (ci := 5) (v := .ref (ma 11)) (C := RX5) (T := TX5) (N := 23) hx hb hts hiX5 hown hK.1 hP 0 rfl rfl 17 (by decide) (hts _ w_fl_X5_57) (fun _ h9 => h9) rfl dX5_layOut_176 ?_
                            refine lv_iload_n hx hb dX5_layOut_179 rfl (lv_at hl 4 rfl) ?_
                            refine n_iald (k := q) (v := nI (shB b q)) hx hb hK.1 hP 11 0 rfl rfl (by omega) (by decide) (by show nI (sS T q) = _; rw [(hL q (by omega)).2.1]) dX5_layOut_180 ?_
                            refine lv_aload_n hx hb dX5_layOut_181 rfl (lv_at hl 1 rfl) ?_
                            refine va_get (D := g.1) (ci := 5) (v := .ref (ma 11)) (C := RX5) (T := TX5) (N := 23) hx hb hts hiX5 hown hK.1 hP 0 rfl rfl 17 (by decide) (hts _ w_fl_X5_57) (fun _ h9 => h9) rfl dX5_layOut_182 ?_
                            refine lv_iload_n hx hb dX5_layOut_185 rfl (lv_at hl 3 rfl) ?_
                            refine n_iald (k := a) (v := nI (shB b a)) hx hb hK.1 hP 11 0 rfl rfl (by omega) (by decide) (by show nI (sS T a) = _; rw [(hL a (by omega)).2.1]) dX5_layOut_186 ?_
                            refine n_isub hx hb (by omega) dX5_layOut_187 ?_
                            refine lv_bipush (v := nI (24)) hx hb dX5_layOut_188 (by decide) ?_
                            refine n_imul hx hb dX5_layOut_190 ?_
                            refine lv_aload_n hx hb dX5_layOut_191 rfl (lv_at hl 1 rfl) ?_
                            refine va_get (D := g.1) (ci := 5) (v := .ref (ma 10)) (C := RX5) (T := TX5) (N := 23) hx hb hts hiX5 hown hK.1 hP 0 rfl rfl 16 (by decide) (hts _ w_fl_X5_54) (fun _ h9 => h9) rfl dX5_layOut_192 ?_
                            refine lv_iload_n hx hb dX5_layOut_195 rfl (lv_at hl 4 rfl) ?_
                            refine n_iald (k := q) (v := nI (hrB b q)) hx hb hK.1 hP 10 0 rfl rfl (by omega) (by decide) (by show nI (sH T q) = _; rw [(hL q (by omega)).1]) dX5_layOut_196 ?_
                            refine lv_aload_n hx hb dX5_layOut_197 rfl (lv_at hl 1 rfl) ?_
                            refine va_get (D := g.1) (ci := 5) (v := .ref (ma 10)) (C := RX5) (T := TX5) (N := 23) hx hb hts hiX5 hown hK.1 hP 0 rfl rfl 16 (by decide) (hts _ w_fl_X5_54) (fun _ h9 => h9) rfl dX5_layOut_198 ?_
                            refine lv_iload_n hx hb dX5_layOut_201 rfl (lv_at hl 3 rfl) ?_
                            refine n_iald (k := a) (v := nI (hrB b a)) hx hb hK.1 hP 10 0 rfl rfl (by omega) (by decide) (by show nI (sH T a) = _; rw [(hL a (by omega)).1]) dX5_layOut_202 ?_
                            refine n_isub hx hb (by omega) dX5_layOut_203 ?_
                            refine n_idiv hx hb (by omega) (by omega) (by omega) dX5_layOut_204 ?_
                            refine lv_goto (tgt := 209) hx hb dX5_layOut_205 (by decide) ?_
                            refine tp_i (y := gI (gnF b (bef b q) q)) (by rw [hgv]; rfl) ?_
                            refine n_iastE (enc := gI) (f := sG T) (x := gnF b (bef b q) q) (k := q) hx hb hK.1 hP hD hS 14 0 rfl rfl (by omega) (by decide) dX5_layOut_209 (fun H locs hP hD hS => ?_)
                            have hP : va_P g.1 vwCl (wM g ma P (usG (usW T (va_up (sW T) q (wrgF b (bef b q) q))) (va_up (sG T) q (gnF b (bef b q) q)))) H := hP
                            have hD : va_D A (wM g ma P (usG (usW T (va_up (sW T) q (wrgF b (bef b q) q))) (va_up (sG T) q (gnF b (bef b q) q)))) := hD
                            refine lv_aload_n hx hb dX5_layOut_210 rfl (lv_at hl 1 rfl) ?_
                            refine va_get (D := g.1) (ci := 5) (v := .ref (ma 13)) (C := RX5) (T := TX5) (N := 23) hx hb hts hiX5 hown hK.1 hP 0 rfl rfl 19 (by decide) (hts _ w_fl_X5_63) (fun _ h9 => h9) rfl dX5_layOut_211 ?_
                            refine lv_iload_n hx hb dX5_layOut_214 rfl (lv_at hl 4 rfl) ?_
                            refine n_zald (k := q) (v := bI (wrgF b (bef b q) q)) hx hb hK.1 hP 13 1 rfl rfl (by omega) (by decide) (by show bI (va_up (sW T) q (wrgF b (bef b q) q) q) = _; rw [va_up_self]) dX5_layOut_215 ?_
                            refine bb_eq (tgt := 223) hx hb dX5_layOut_216 (by decide) (fun cF => ?_) (fun cF => ?_)
                            · refine lv_iload_n hx hb dX5_layOut_223 rfl (lv_at hl 4 rfl) ?_
                              refine lv_istore_n (lv' := [(2, .int (nI (q))), (4, .int (bI (true))), (0, .ref (ma 0)), (1, .int (nI (j))), (3, .int (nI (q)))]) hx hb dX5_layOut_224 rfl hl (by decide) rfl (fun ls hl => ?_)
                              refine lv_iinc (v := nI (q + 1)) (lv' := [(3, .int (nI (q + 1))), (2, .int (nI (q))), (4, .int (bI (true))), (0, .ref (ma 0)), (1, .int (nI (j)))]) hx hb dX5_layOut_225 hl (k := 4) rfl (nI_1 _) (by decide) rfl (fun ls hl => ?_)
                              refine lv_goto (tgt := 89) hx hb dX5_layOut_228 (by decide) ?_
                              exact ih (q + 1) (usG (usW T (va_up (sW T) q (wrgF b (bef b q) q))) (va_up (sG T) q (gnF b (bef b q) q))) H locs ls (by omega) (by omega) hN hL (lt_s (fun k hk => by show va_up (sW T) q _ k = _; rw [va_up_ne _ _ (by omega)]; exact hW k hk) (va_up_self _ _ _)) (lt_s (fun k hk => by show va_up (sG T) q _ k = _; rw [va_up_ne _ _ (by omega)]; exact hG k hk) (va_up_self _ _ _)) hRR hMM hP hD hS (by rw [bef, if_neg (by rw [hwv]; decide)]; exact lv_sub hl [3, 4, 1, 0] rfl)
                            · rw [hwv] at cF; exact absurd cF (by decide)
                  · exact absurd cH (by omega)
  have loop2 : ∀ (k9 : Nat) (r : Nat) (T : ST) (H : Heap) (locs : List Loc) (ls : Array Slot), (r ≤ bN b - bR b) → (bN b - bR b < r + k9) → (sN T = bR b + r) → (Srt (sN T) (kyS (sH T) (sE T)) (sS T) (Memp P j (bR b) r)) → (sR T = sR S) → (sM T = sM S) → va_P g.1 vwCl (wM g ma P T) H → va_D A (wM g ma P T) → va_S A s.heap H locs → lv_has ls 5 [(0, .ref (ma 0)), (1, .int (nI (j))), (2, .int (nI (r)))] → W p l e RR s m args below meth c H locs 0 0 QQ (F0 m 52 ls []) := by
    intro k9
    induction k9 with
    | zero => intro r T H locs ls hr hk hN hs hRR hMM hP hD hS hl; exact absurd hk (by omega)
    | succ k9 ih =>
      intro r T H locs ls hr hk hN hs hRR hMM hP hD hS hl
      refine lv_iload_n hx hb dX5_layOut_52 rfl (lv_at hl 2 rfl) ?_
      refine lv_aload_n hx hb dX5_layOut_53 rfl (lv_at hl 0 rfl) ?_
      refine va_get (D := g.1) (ci := 5) (v := .ref (ma 6)) (C := RX5) (T := TX5) (N := 23) hx hb hts hiX5 hown hK.1 hP 0 rfl rfl 6 (by decide) (hts _ w_fl_X5_25) (fun _ h9 => h9) rfl dX5_layOut_54 ?_
      refine lv_iload_n hx hb dX5_layOut_57 rfl (lv_at hl 1 rfl) ?_
      refine n_iald (k := j) (v := nI (bN b - bR b)) hx hb hK.1 hP 6 0 rfl rfl (by omega) (by decide) (by show nI (aEc P j) = _; rw [hEc]) dX5_layOut_58 ?_
      refine bn_ge (tgt := 85) hx hb (by omega) (by omega) dX5_layOut_59 (by decide) (fun c1 => ?_) (fun c1 => ?_)
      · have hrn : r = bN b - bR b := by omega
        subst hrn
        have hu := hs.uniq (hR.srt hBk)
        have hL := lay_of ⟨hu.1, hu.2⟩
        refine lv_iconst (v := (-1)) hx hb dX5_layOut_85 (by decide) ?_
        refine lv_istore_n (lv' := [(2, .int (-1)), (0, .ref (ma 0)), (1, .int (nI (j)))]) hx hb dX5_layOut_86 rfl hl (by decide) rfl (fun ls hl => ?_)
        refine lv_iconst (v := nI (0)) hx hb dX5_layOut_87 (by decide) ?_
        refine lv_istore_n (lv' := [(3, .int (nI (0))), (2, .int (-1)), (0, .ref (ma 0)), (1, .int (nI (j)))]) hx hb dX5_layOut_88 rfl hl (by decide) rfl (fun ls hl => ?_)
        exact loop3 (bN b + 1) 0 T H locs ls (Nat.zero_le _) (by omega) hu.1 hL lt_0 lt_0 hRR hMM hP hD hS (lv_sub hl [2, 3, 1, 0] rfl)
      · have hb1 := heh r c1
        obtain ⟨⟨i1, i2, i3⟩, hs2⟩ := hs.ins (q := 2 * (aEh P (8 * j + r)) + (if true = true then 1 else 0)) (v := 0) (fun v hm => by rcases hm with ⟨k, hk2, e1, -⟩ | ⟨k, hk2, e1, -⟩; (rw [if_pos rfl] at e1; omega); (rw [if_pos rfl] at e1; exact hei k r hk2 c1 (by omega)))
        generalize hix : ixK (kyS (sH T) (sE T)) (sN T) (2 * (aEh P (8 * j + r)) + (if true = true then 1 else 0)) = ix at i1 i2 i3 hs2
        refine lv_aload_n hx hb dX5_layOut_62 rfl (lv_at hl 0 rfl) ?_
        refine lv_aload_n hx hb dX5_layOut_63 rfl (lv_at hl 0 rfl) ?_
        refine va_get (D := g.1) (ci := 5) (v := .ref (ma 7)) (C := RX5) (T := TX5) (N := 23) hx hb hts hiX5 hown hK.1 hP 0 rfl rfl 7 (by decide) (hts _ w_fl_X5_28) (fun _ h9 => h9) rfl dX5_layOut_64 ?_
        refine lv_bipush (v := nI (8)) hx hb dX5_layOut_67 (by decide) ?_
        refine lv_iload_n hx hb dX5_layOut_69 rfl (lv_at hl 1 rfl) ?_
        refine n_imul hx hb dX5_layOut_70 ?_
        refine lv_iload_n hx hb dX5_layOut_71 rfl (lv_at hl 2 rfl) ?_
        refine n_iadd hx hb dX5_layOut_72 ?_
        refine n_iald (k := (8 * j) + r) (v := nI (aEh P ((8 * j) + r))) hx hb hK.1 hP 7 0 rfl rfl (by omega) (by decide) (rfl) dX5_layOut_73 ?_
        refine lv_iconst (v := nI (0)) hx hb dX5_layOut_74 (by decide) ?_
        refine lv_iconst (v := bI (true)) hx hb dX5_layOut_75 (by decide) ?_
        refine cW0_v (wc := wM g ma P T) (w1 := wM g ma P (plS T ix (aEh P (8 * j + r)) 0 true)) (va_runV (As := [.int (nI (aEh P ((8 * j) + r))), .int (nI (0)), .int (bI (true))]) (rest := []) ⟨hx, hb, hml, hown, hts⟩ (m_place l g ma P T (aEh P (8 * j + r)) 0 ix true (by omega) (fun k hk2 => Nat.lt_trans (kyS_H (E := sE T) (N := 10000) (Memp_key hBk hR (Nat.le_refl _) hr ((hs.2 _ _).mp ⟨k, hk2, rfl, rfl⟩))) (by decide)) (by omega) i1 (fun k h1 h2 => plc_1 (i3 k h1 h2)) (fun k h1 => plc_2 (i2 k (by omega))) _) (cwV 3 hts (gV w_ml_X5_97 w_im_X5_place w_sel_X5_place w_ini_X5 w_co_X5_place) rfl rfl rfl (by decide +kernel) (by rw [hR1, hR2]; exact ⟨Nat.le_of_ble_eq_true rfl, Nat.le_of_ble_eq_true rfl⟩)) (preV_wr hP hK hD (va_recv hK.1 hP (ci := 5) (q0 := 0) rfl rfl)) rfl rfl hl.1 rfl (lv_room (Nat.le_of_ble_eq_true rfl)) dX5_layOut_76 ⟨by rw [hR3]; omega, by rw [hR4]; omega⟩) hP hD hS hA rfl (fun H locs hP hD hS => ?_)
        refine lv_iinc (v := nI (r + 1)) (lv' := [(2, .int (nI (r + 1))), (0, .ref (ma 0)), (1, .int (nI (j)))]) hx hb dX5_layOut_79 hl (k := 2) rfl (nI_1 _) (by decide) rfl (fun ls hl => ?_)
        refine lv_goto (tgt := 52) hx hb dX5_layOut_82 (by decide) ?_
        exact ih (r + 1) (plS T ix (aEh P (8 * j + r)) 0 true) H locs ls (by omega) (by omega) (by show sN T + 1 = _; omega) (by
          show Srt (sN T + 1) (kyS (insA (sH T) ix (sN T) (aEh P (8 * j + r))) (insA (sE T) ix (sN T) true)) (insA (sS T) ix (sN T) 0) _
          rw [kyS_ins]
          exact hs2.congr (fun a b => (Memp_s a b))) hRR hMM hP hD hS (lv_sub hl [1, 2, 0] rfl)
  have loop1 : ∀ (k9 : Nat) (r : Nat) (T : ST) (H : Heap) (locs : List Loc) (ls : Array Slot), (r ≤ bR b) → (bR b < r + k9) → (sN T = r) → (Srt (sN T) (kyS (sH T) (sE T)) (sS T) (Mrow P j r)) → (sR T = sR S) → (sM T = sM S) → va_P g.1 vwCl (wM g ma P T) H → va_D A (wM g ma P T) → va_S A s.heap H locs → lv_has ls 5 [(0, .ref (ma 0)), (1, .int (nI (j))), (2, .int (nI (r)))] → W p l e RR s m args below meth c H locs 0 0 QQ (F0 m 7 ls []) := by
    intro k9
    induction k9 with
    | zero => intro r T H locs ls hr hk hN hs hRR hMM hP hD hS hl; exact absurd hk (by omega)
    | succ k9 ih =>
      intro r T H locs ls hr hk hN hs hRR hMM hP hD hS hl
      refine lv_iload_n hx hb dX5_layOut_7 rfl (lv_at hl 2 rfl) ?_
      refine lv_aload_n hx hb dX5_layOut_8 rfl (lv_at hl 0 rfl) ?_
      refine va_get (D := g.1) (ci := 5) (v := .ref (ma 3)) (C := RX5) (T := TX5) (N := 23) hx hb hts hiX5 hown hK.1 hP 0 rfl rfl 3 (by decide) (hts _ w_fl_X5_16) (fun _ h9 => h9) rfl dX5_layOut_9 ?_
      refine lv_iload_n hx hb dX5_layOut_12 rfl (lv_at hl 1 rfl) ?_
      refine n_iald (k := j) (v := nI (bR b)) hx hb hK.1 hP 3 0 rfl rfl (by omega) (by decide) (by show nI (aRc P j) = _; rw [hRc]) dX5_layOut_13 ?_
      refine bn_ge (tgt := 50) hx hb (by omega) (by omega) dX5_layOut_14 (by decide) (fun c1 => ?_) (fun c1 => ?_)
      · have hrn : r = bR b := by omega
        subst hrn
        refine lv_iconst (v := nI (0)) hx hb dX5_layOut_50 (by decide) ?_
        refine lv_istore_n (lv' := [(2, .int (nI (0))), (0, .ref (ma 0)), (1, .int (nI (j)))]) hx hb dX5_layOut_51 rfl hl (by decide) rfl (fun ls hl => ?_)
        exact loop2 (bN b - bR b + 1) 0 T H locs ls (Nat.zero_le _) (by omega) (by omega) (hs.congr Memp_0) hRR hMM hP hD hS (lv_sub hl [1, 2, 0] rfl)
      · have hb1 := hrh r c1
        obtain ⟨⟨i1, i2, i3⟩, hs2⟩ := hs.ins (q := 2 * (aRh P (24 * j + r)) + (if false = true then 1 else 0)) (v := aRs P (24 * j + r)) (fun v hm => by rcases hm with ⟨k, hk2, e1, -⟩; rw [if_neg (by decide)] at e1; exact hri k r hk2 c1 (by omega))
        generalize hix : ixK (kyS (sH T) (sE T)) (sN T) (2 * (aRh P (24 * j + r)) + (if false = true then 1 else 0)) = ix at i1 i2 i3 hs2
        refine lv_aload_n hx hb dX5_layOut_17 rfl (lv_at hl 0 rfl) ?_
        refine lv_aload_n hx hb dX5_layOut_18 rfl (lv_at hl 0 rfl) ?_
        refine va_get (D := g.1) (ci := 5) (v := .ref (ma 4)) (C := RX5) (T := TX5) (N := 23) hx hb hts hiX5 hown hK.1 hP 0 rfl rfl 4 (by decide) (hts _ w_fl_X5_19) (fun _ h9 => h9) rfl dX5_layOut_19 ?_
        refine lv_bipush (v := nI (24)) hx hb dX5_layOut_22 (by decide) ?_
        refine lv_iload_n hx hb dX5_layOut_24 rfl (lv_at hl 1 rfl) ?_
        refine n_imul hx hb dX5_layOut_25 ?_
        refine lv_iload_n hx hb dX5_layOut_26 rfl (lv_at hl 2 rfl) ?_
        refine n_iadd hx hb dX5_layOut_27 ?_
        refine n_iald (k := (24 * j) + r) (v := nI (aRh P ((24 * j) + r))) hx hb hK.1 hP 4 0 rfl rfl (by omega) (by decide) (rfl) dX5_layOut_28 ?_
        refine lv_aload_n hx hb dX5_layOut_29 rfl (lv_at hl 0 rfl) ?_
        refine va_get (D := g.1) (ci := 5) (v := .ref (ma 5)) (C := RX5) (T := TX5) (N := 23) hx hb hts hiX5 hown hK.1 hP 0 rfl rfl 5 (by decide) (hts _ w_fl_X5_22) (fun _ h9 => h9) rfl dX5_layOut_30 ?_
        refine lv_bipush (v := nI (24)) hx hb dX5_layOut_33 (by decide) ?_
        refine lv_iload_n hx hb dX5_layOut_35 rfl (lv_at hl 1 rfl) ?_
        refine n_imul hx hb dX5_layOut_36 ?_
        refine lv_iload_n hx hb dX5_layOut_37 rfl (lv_at hl 2 rfl) ?_
        refine n_iadd hx hb dX5_layOut_38 ?_
        refine n_iald (k := (24 * j) + r) (v := nI (aRs P ((24 * j) + r))) hx hb hK.1 hP 5 0 rfl rfl (by omega) (by decide) (rfl) dX5_layOut_39 ?_
        refine lv_iconst (v := bI (false)) hx hb dX5_layOut_40 (by decide) ?_
        refine cW0_v (wc := wM g ma P T) (w1 := wM g ma P (plS T ix (aRh P (24 * j + r)) (aRs P (24 * j + r)) false)) (va_runV (As := [.int (nI (aRh P ((24 * j) + r))), .int (nI (aRs P ((24 * j) + r))), .int (bI (false))]) (rest := []) ⟨hx, hb, hml, hown, hts⟩ (m_place l g ma P T (aRh P (24 * j + r)) (aRs P (24 * j + r)) ix false (by omega) (fun k hk2 => Nat.lt_trans (kyS_H (E := sE T) (N := 10000) (Memp_key hBk hR hr (Nat.zero_le _) ((Memp_0 _ _).mp ((hs.2 _ _).mp ⟨k, hk2, rfl, rfl⟩)))) (by decide)) (by omega) i1 (fun k h1 h2 => plc_1 (i3 k h1 h2)) (fun k h1 => plc_2 (i2 k (by omega))) _) (cwV 3 hts (gV w_ml_X5_97 w_im_X5_place w_sel_X5_place w_ini_X5 w_co_X5_place) rfl rfl rfl (by decide +kernel) (by rw [hR1, hR2]; exact ⟨Nat.le_of_ble_eq_true rfl, Nat.le_of_ble_eq_true rfl⟩)) (preV_wr hP hK hD (va_recv hK.1 hP (ci := 5) (q0 := 0) rfl rfl)) rfl rfl hl.1 rfl (lv_room (Nat.le_of_ble_eq_true rfl)) dX5_layOut_41 ⟨by rw [hR3]; omega, by rw [hR4]; omega⟩) hP hD hS hA rfl (fun H locs hP hD hS => ?_)
        refine lv_iinc (v := nI (r + 1)) (lv' := [(2, .int (nI (r + 1))), (0, .ref (ma 0)), (1, .int (nI (j)))]) hx hb dX5_layOut_44 hl (k := 2) rfl (nI_1 _) (by decide) rfl (fun ls hl => ?_)
        refine lv_goto (tgt := 7) hx hb dX5_layOut_47 (by decide) ?_
        exact ih (r + 1) (plS T ix (aRh P (24 * j + r)) (aRs P (24 * j + r)) false) H locs ls (by omega) (by omega) (by show sN T + 1 = _; omega) (by
          show Srt (sN T + 1) (kyS (insA (sH T) ix (sN T) (aRh P (24 * j + r))) (insA (sE T) ix (sN T) false)) (insA (sS T) ix (sN T) (aRs P (24 * j + r))) _
          rw [kyS_ins]
          exact hs2.congr (fun a b => (Mrow_s a b))) hRR hMM hP hD hS (lv_sub hl [1, 2, 0] rfl)
  exact loop1 (bR b + 1) 0 (usN S 0) H locs ls (Nat.zero_le _) (by omega) rfl Mrow_0 rfl rfl hP hD hS (lv_sub hl [1, 2, 0] rfl)
