set_option maxHeartbeats 4000000 in
set_option maxRecDepth 100000 in
theorem m_check (l : Launch) (g : GG) (ma : Nat → Nat) (P : PT) (S : ST) (x : FT) (hx9 : Xok x) (hRl : Rel x P) (hs0 : sM S 0 = 0) (k t : Int32) (sz : Nat) : El l yX5_check wsX5_check 5 125 0 0 [.ref (ma 0), .int (k), .int (t)] g (wM g ma P S) sz ma P (chkV x k t) (fun u => sM u 0 = 0) := by
  refine Met.ofW (cc := cX5_check) (maxL := 7) (ret := (some .long)) (by decide) rfl ?_
  intro p e s m args below meth c s₁ BB hml hv
  obtain ⟨hargs, hsz, hP, hK, hD0⟩ := hv
  have hx := BB.exec
  have hb := BB.bytes
  have hr := BB.returns
  have hts : ∀ w ∈ BIG, w.before args s = true := fun w h => atoms_spec (ws := wsX5_check) BB.pre w (List.mem_cons_of_mem _ h)
  have hown : s.vm.findClass RX5 = some m.cls := findClass_of_methodNamed BB.named
  have hlocks := BB.notSynchronized
  obtain ⟨RR, hRR⟩ : ∃ RR, RR = (headSpec wsX5_check ⟨5, 0, 0, 125⟩).room := ⟨_, rfl⟩
  have hR1 : RR.frames = 5 := by rw [hRR]; rfl
  have hR2 : RR.locals = 125 := by rw [hRR]; rfl
  have hR3 : RR.cells = 0 := by rw [hRR]; rfl
  have hR4 : RR.slots = 0 := by rw [hRR]; rfl
  have hl := lv_entry ([.ref (ma 0), .int (k), .int (t)]) (n := 7) (Nat.le_of_ble_eq_true rfl)
  have hent : entryFrame m args 7 = F0 m 0 ((lg_sl ([.ref (ma 0), .int (k), .int (t)]) ++ List.replicate (7 - (lg_sl ([.ref (ma 0), .int (k), .int (t)])).length) Slot.unset).toArray) [] := by rw [hargs, lg_entry_eq]
  rw [hent]
  generalize (lg_sl ([.ref (ma 0), .int (k), .int (t)]) ++ List.replicate (7 - (lg_sl ([.ref (ma 0), .int (k), .int (t)])).length) Slot.unset).toArray = ls at hl ⊢
  have hl : lv_has ls 7 [(0, .ref (ma 0)), (1, .int (k)), (2, .int (t))] := hl
  subst hsz
  have hD := hD0.self (sz := s.heap.size)
  generalize hAe : va_A (wM g ma P S) s.heap.size = A at hD ⊢
  have hA : ∀ q : Nat, s.heap.size ≤ q → A q := fun q h => by rw [← hAe]; exact Or.inr h
  have hS : va_S A s.heap s.heap [] := va_S.rf
  refine q_ab (R := RR) hRR ?_
  generalize hQQ : MQ below _ args s _ _ _ = QQ
  have h8 := hx9.1
  have hpB := hRl.1
  refine lv_aload_n hx hb dX5_check_0 rfl (lv_at hl 0 rfl) ?_
  refine lv_iload_n hx hb dX5_check_1 rfl (lv_at hl 1 rfl) ?_
  cases hbk : binAt (xB x) k with
  | none =>
    refine cR_i (W.runV (As := [.int (k)]) (rest := []) ⟨hx, hb, hml, hown, hts⟩ (m_isBin_n l g ma P S x k hpB h8 hbk) (cwV 1 hts (gV w_ml_X5_83 w_im_X5_isBin w_sel_X5_isBin w_ini_X5 w_co_X5_isBin) rfl rfl rfl (by decide +kernel) (by rw [hR1, hR2]; exact ⟨Nat.le_of_ble_eq_true rfl, Nat.le_of_ble_eq_true rfl⟩)) (preV_rd hP hK (va_recv hK.1 hP (ci := 5) (q0 := 0) rfl rfl)) rfl rfl hl.1 rfl (lv_room (Nat.le_of_ble_eq_true rfl)) dX5_check_2 ⟨by rw [hR3]; omega, by rw [hR4]; omega⟩) ?_
    refine bb_eq (tgt := 22) hx hb dX5_check_5 (by decide) (fun cb => ?_) (fun cb => ?_)
    · refine lv_ldc2 (v := (-9223372036854775808)) hx hb hown (hts _ w_ct_X5_143) dX5_check_22 ?_
      subst hQQ
      exact W.lret hx hb hr (fun t9 ht _ => ⟨⟨_, S, rfl, ⟨by unfold chkV; rw [hbk]; rfl, hs0⟩, hpT ht hP⟩, hS.F ht⟩) hS.2.2 dX5_check_25
    · exact absurd cb (by decide)
  | some b =>
    obtain ⟨j, hjl, ek, hbj, -⟩ := binAt_s h8 hbk
    subst ek
    have hbm := List.mem_of_getElem? hbj
    have hBk := hx9.2.1 b hbm
    have hR := hRl.2.1 j b hbj
    obtain ⟨⟨hbn, hbp, hbo, hba⟩, hbw, hbg, hbs, hbr, hc1, hc2, hc3, hbam⟩ := id hBk
    refine cR_i (W.runV (As := [.int (nI (j))]) (rest := []) ⟨hx, hb, hml, hown, hts⟩ (m_isBin_s l g ma P S j (by omega) (by omega)) (cwV 1 hts (gV w_ml_X5_83 w_im_X5_isBin w_sel_X5_isBin w_ini_X5 w_co_X5_isBin) rfl rfl rfl (by decide +kernel) (by rw [hR1, hR2]; exact ⟨Nat.le_of_ble_eq_true rfl, Nat.le_of_ble_eq_true rfl⟩)) (preV_rd hP hK (va_recv hK.1 hP (ci := 5) (q0 := 0) rfl rfl)) rfl rfl hl.1 rfl (lv_room (Nat.le_of_ble_eq_true rfl)) dX5_check_2 ⟨by rw [hR3]; omega, by rw [hR4]; omega⟩) ?_
    refine bb_eq (tgt := 22) hx hb dX5_check_5 (by decide) (fun cb => ?_) (fun cb => ?_)
    · exact absurd cb (by decide)
    · obtain ⟨⟨-, hRm, -, hEc⟩, -, -, -, -, -, hct⟩ := id hR
      have heh := hR.eh hBk
      refine lv_iload_n hx hb dX5_check_8 rfl (lv_at hl 2 rfl) ?_
      refine lv_if_lt (tgt := 22) hx hb dX5_check_9 (by decide) (fun c1 => ?_) (fun c1 => ?_)
      · refine lv_ldc2 (v := (-9223372036854775808)) hx hb hown (hts _ w_ct_X5_143) dX5_check_22 ?_
        subst hQQ
        exact W.lret hx hb hr (fun t9 ht _ => ⟨⟨_, S, rfl, ⟨by unfold chkV; rw [hbk]; show _ = (match (kth (fun i => !rowB b i) t (bN b) 0 0).map (fun i => (b, i)) with | none => (-9223372036854775808 : Int64) | some q => lN (bAm q.1 q.2) - lN (shE q.1 (rsum x q.1) q.2 * bRm q.1 / 1000)); rw [kth_neg c1 (by omega)]; rfl, hs0⟩, hpT ht hP⟩, hS.F ht⟩) hS.2.2 dX5_check_25
      · obtain ⟨kk, hkk, ek2⟩ := nI_of c1
        subst ek2
        have hcf : cntF (fun i => !rowB b i) (bN b) 0 = bN b - bR b := by have := cntF_eq (P := (fun i => !rowB b i)) (f := bN b) (i := 0); rw [Nat.zero_add, hct] at this; rw [this]; show _ = 0 + _; omega
        refine lv_iload_n hx hb dX5_check_12 rfl (lv_at hl 2 rfl) ?_
        refine lv_aload_n hx hb dX5_check_13 rfl (lv_at hl 0 rfl) ?_
        refine va_get (D := g.1) (ci := 5) (v := .ref (ma 6)) (C := RX5) (T := TX5) (N := 23) hx hb hts hiX5 hown hK.1 hP 0 rfl rfl 6 (by decide) (hts _ w_fl_X5_25) (fun _ h9 => h9) rfl dX5_check_14 ?_
        refine lv_iload_n hx hb dX5_check_17 rfl (lv_at hl 1 rfl) ?_
        refine n_iald (k := j) (v := nI (bN b - bR b)) hx hb hK.1 hP 6 0 rfl rfl (by omega) (by decide) (by show nI (aEc P j) = _; rw [hEc]) dX5_check_18 ?_
        refine bn_lt (tgt := 26) hx hb (by omega) (by omega) dX5_check_19 (by decide) (fun c2 => ?_) (fun c2 => ?_)
        · obtain ⟨r, hkr⟩ := kth_some (P := (fun i => !rowB b i)) hkk (f := bN b) (i := 0) (c := 0) (Nat.zero_le _) (by omega)
          obtain ⟨⟨-, hrn⟩, hrw⟩ := kth_in hkr
          have hrn : r < bN b := by omega
          have hrw2 : rowB b r = false := by simpa using hrw
          have hodd := of_decide_eq_false hrw2
          have hpr := hbp r hrn
          have hhr : hrB b r < 10000 := by unfold hrB; omega
          refine lv_aload_n hx hb dX5_check_26 rfl (lv_at hl 0 rfl) ?_
          refine lv_iload_n hx hb dX5_check_27 rfl (lv_at hl 1 rfl) ?_
          refine cE_v (wc := wM g ma P S) (w1 := fun u => wM g ma (P) u) (va_runV (As := [.int (nI (j))]) (rest := []) ⟨hx, hb, hml, hown, hts⟩ (m_prepare l g ma P S x hx9 hRl j b hbj hs0 _) (cwV 1 hts (gV w_ml_X5_123 w_im_X5_prepare w_sel_X5_prepare w_ini_X5 w_co_X5_prepare) rfl rfl rfl (by decide +kernel) (by rw [hR1, hR2]; exact ⟨Nat.le_of_ble_eq_true rfl, Nat.le_of_ble_eq_true rfl⟩)) (preV_wr hP hK hD (va_recv hK.1 hP (ci := 5) (q0 := 0) rfl rfl)) rfl rfl hl.1 rfl (lv_room (Nat.le_of_ble_eq_true rfl)) dX5_check_28 ⟨by rw [hR3]; omega, by rw [hR4]; omega⟩) hP hD hS hA (fun _ => rfl) (fun T H locs hT hP hD hS => ?_)
          obtain ⟨hLy, hTM⟩ := hT
          obtain ⟨hN, hLk⟩ := id hLy
          have hT0 : sM T 0 = 0 := by rw [hTM 0 (by omega)]; rfl
          refine lv_iconst (v := nI (0)) hx hb dX5_check_31 (by decide) ?_
          refine lv_istore_n (lv' := [(3, .int (nI (0))), (0, .ref (ma 0)), (1, .int (nI (j))), (2, .int (nI (kk)))]) hx hb dX5_check_32 rfl hl (by decide) rfl (fun ls hl => ?_)
          refine lv_iconst (v := nI (0)) hx hb dX5_check_33 (by decide) ?_
          refine lv_istore (lv' := [(4, .int (nI (0))), (3, .int (nI (0))), (0, .ref (ma 0)), (1, .int (nI (j))), (2, .int (nI (kk)))]) hx hb dX5_check_34 hl (by decide) rfl (fun ls hl => ?_)
          have loop2 : ∀ (k9 : Nat) (e9 : Nat) (ls : Array Slot), (e9 ≤ bN b - bR b) → (bN b - bR b < e9 + k9) → lv_has ls 7 [(0, .ref (ma 0)), (1, .int (nI (j))), (4, .int (nI (r))), (5, .int (nI (wgE P j (hrB b r) e9))), (6, .int (nI (e9)))] → W p l e RR s m args below meth c H locs 0 0 QQ (F0 m 81 ls []) := by
            intro k9
            induction k9 with
            | zero => intro e9 ls he hk hl; exact absurd hk (by omega)
            | succ k9 ih =>
              intro e9 ls he hk hl
              have hwl : wgE P j (hrB b r) e9 ≤ 100000 := wgE_le (fun q hq => (heh q (by omega)).2)
              refine lv_iload hx hb dX5_check_81 (lv_at hl 4 rfl) ?_
              refine lv_aload_n hx hb dX5_check_83 rfl (lv_at hl 0 rfl) ?_
              refine va_get (D := g.1) (ci := 5) (v := .ref (ma 6)) (C := RX5) (T := TX5) (N := 23) hx hb hts hiX5 hown hK.1 hP 0 rfl rfl 6 (by decide) (hts _ w_fl_X5_25) (fun _ h9 => h9) rfl dX5_check_84 ?_
              refine lv_iload_n hx hb dX5_check_87 rfl (lv_at hl 1 rfl) ?_
              refine n_iald (k := j) (v := nI (bN b - bR b)) hx hb hK.1 hP 6 0 rfl rfl (by omega) (by decide) (by show nI (aEc P j) = _; rw [hEc]) dX5_check_88 ?_
              refine bn_ge (tgt := 139) hx hb (by omega) (by omega) dX5_check_89 (by decide) (fun c5 => ?_) (fun c5 => ?_)
              · have hee : e9 = bN b - bR b := by omega
                subst hee
                have hwg := wgE_B hBk hR hrn hrw2
                refine lv_iload hx hb dX5_check_139 (lv_at hl 3 rfl) ?_
                refine n_i2l hx hb (by omega) dX5_check_141 ?_
                refine lv_aload_n hx hb dX5_check_142 rfl (lv_at hl 0 rfl) ?_
                refine lv_iload hx hb dX5_check_143 (lv_at hl 2 rfl) ?_
                refine lv_aload_n hx hb dX5_check_145 rfl (lv_at hl 0 rfl) ?_
                refine va_get (D := g.1) (ci := 5) (v := .ref (ma 10)) (C := RX5) (T := TX5) (N := 23) hx hb hts hiX5 hown hK.1 hP 0 rfl rfl 16 (by decide) (hts _ w_fl_X5_54) (fun _ h9 => h9) rfl dX5_check_146 ?_
                refine lv_iload hx hb dX5_check_149 (lv_at hl 2 rfl) ?_
                refine n_iald (k := r) (v := nI (hrB b r)) hx hb hK.1 hP 10 0 rfl rfl (by omega) (by decide) (by show nI (sH T r) = _; rw [(hLk r (by omega)).1]) dX5_check_151 ?_
                refine cR_l (W.runV (As := [.int (nI (r)), .int (nI (hrB b r))]) (rest := [.long (lN (wgE P j (hrB b r) (bN b - bR b)))]) ⟨hx, hb, hml, hown, hts⟩ (m_expectedBy l g ma P T x hx9 b hbm hLy hTM r (hrB b r) (by omega) hhr) (cwV 2 hts (gV w_ml_X5_126 w_im_X5_expectedBy w_sel_X5_expectedBy w_ini_X5 w_co_X5_expectedBy) rfl rfl rfl (by decide +kernel) (by rw [hR1, hR2]; exact ⟨Nat.le_of_ble_eq_true rfl, Nat.le_of_ble_eq_true rfl⟩)) (preV_rd hP hK (va_recv hK.1 hP (ci := 5) (q0 := 0) rfl rfl)) rfl rfl hl.1 rfl (lv_room (Nat.le_of_ble_eq_true rfl)) dX5_check_152 ⟨by rw [hR3]; omega, by rw [hR4]; omega⟩) ?_
                have hex : exY b (hsum x b) (lst (exP b (hrB b r)) r) (hrB b r) = shE b (rsum x b) r := by rw [exY_sh hhr (fun i hi => (exP_ok (by omega) i hi).2), ← ltB_ex2 hbo hrn (by omega)]; rfl
                refine tp_l (y := lN (shE b (rsum x b) r)) (by rw [hex]) ?_
                have hsl : shE b (rsum x b) r < 2 ^ 40 := by rw [← hex]; exact exY_lt hx9 hbm (by omega) hhr
                have hmul : shE b (rsum x b) r * bRm b < 2 ^ 60 := Nat.lt_of_le_of_lt (Nat.mul_le_mul (Nat.le_of_lt hsl) hbr.2) (by decide)
                have hrm2 := hbr.2
                refine lv_aload_n hx hb dX5_check_155 rfl (lv_at hl 0 rfl) ?_
                refine va_get (D := g.1) (ci := 5) (v := .ref (ma 2)) (C := RX5) (T := TX5) (N := 23) hx hb hts hiX5 hown hK.1 hP 0 rfl rfl 2 (by decide) (hts _ w_fl_X5_13) (fun _ h9 => h9) rfl dX5_check_156 ?_
                refine lv_iload_n hx hb dX5_check_159 rfl (lv_at hl 1 rfl) ?_
                refine n_iald (k := j) (v := nI (bRm b)) hx hb hK.1 hP 2 0 rfl rfl (by omega) (by decide) (by show nI (aRm P j) = _; rw [hRm]) dX5_check_160 ?_
                refine n_i2l hx hb (by omega) dX5_check_161 ?_
                refine n_lmul hx hb dX5_check_162 ?_
                refine lv_ldc2 (v := 1000) hx hb hown (hts _ w_ct_X5_137) dX5_check_163 ?_
                refine tp_l (y := lN 1000) (by decide) ?_
                refine n_ldiv hx hb (by omega) (by omega) (by omega) dX5_check_166 ?_
                refine lv_lsub hx hb dX5_check_167 ?_
                subst hQQ
                exact W.lret hx hb hr (fun t9 ht _ => ⟨⟨_, T, rfl, ⟨by unfold chkV; rw [hbk]; show _ = (match (kth (fun i => !rowB b i) (nI kk) (bN b) 0 0).map (fun i => (b, i)) with | none => (-9223372036854775808 : Int64) | some q => lN (bAm q.1 q.2) - lN (shE q.1 (rsum x q.1) q.2 * bRm q.1 / 1000)); rw [hkr, hwg]; rfl, hT0⟩, hpT ht hP⟩, hS.F ht⟩) hS.2.2 dX5_check_168
              · have hb1 := heh e9 c5
                refine lv_aload_n hx hb dX5_check_92 rfl (lv_at hl 0 rfl) ?_
                refine va_get (D := g.1) (ci := 5) (v := .ref (ma 7)) (C := RX5) (T := TX5) (N := 23) hx hb hts hiX5 hown hK.1 hP 0 rfl rfl 7 (by decide) (hts _ w_fl_X5_28) (fun _ h9 => h9) rfl dX5_check_93 ?_
                refine lv_bipush (v := nI (8)) hx hb dX5_check_96 (by decide) ?_
                refine lv_iload_n hx hb dX5_check_98 rfl (lv_at hl 1 rfl) ?_
                refine n_imul hx hb dX5_check_99 ?_
                refine lv_iload hx hb dX5_check_100 (lv_at hl 4 rfl) ?_
                refine n_iadd hx hb dX5_check_102 ?_
                refine n_iald (k := (8 * j) + e9) (v := nI (aEh P ((8 * j) + e9))) hx hb hK.1 hP 7 0 rfl rfl (by omega) (by decide) (rfl) dX5_check_103 ?_
                refine lv_aload_n hx hb dX5_check_104 rfl (lv_at hl 0 rfl) ?_
                refine va_get (D := g.1) (ci := 5) (v := .ref (ma 10)) (C := RX5) (T := TX5) (N := 23) hx hb hts hiX5 hown hK.1 hP 0 rfl rfl 16 (by decide) (hts _ w_fl_X5_54) (fun _ h9 => h9) rfl dX5_check_105 ?_
                refine lv_iload hx hb dX5_check_108 (lv_at hl 2 rfl) ?_
                refine n_iald (k := r) (v := nI (hrB b r)) hx hb hK.1 hP 10 0 rfl rfl (by omega) (by decide) (by show nI (sH T r) = _; rw [(hLk r (by omega)).1]) dX5_check_110 ?_
                refine bn_ne (tgt := 129) hx hb (by omega) (by omega) dX5_check_111 (by decide) (fun c6 => ?_) (fun c6 => ?_)
                · refine lv_iload hx hb dX5_check_129 (lv_at hl 3 rfl) ?_
                  refine lv_istore (lv' := [(5, .int (nI (wgE P j (hrB b r) e9))), (0, .ref (ma 0)), (1, .int (nI (j))), (4, .int (nI (r))), (6, .int (nI (e9)))]) hx hb dX5_check_131 hl (by decide) rfl (fun ls hl => ?_)
                  refine lv_iinc (v := nI (e9 + 1)) (lv' := [(6, .int (nI (e9 + 1))), (5, .int (nI (wgE P j (hrB b r) e9))), (0, .ref (ma 0)), (1, .int (nI (j))), (4, .int (nI (r)))]) hx hb dX5_check_133 hl (k := 4) rfl (nI_1 _) (by decide) rfl (fun ls hl => ?_)
                  refine lv_goto (tgt := 81) hx hb dX5_check_136 (by decide) ?_
                  exact ih (e9 + 1) ls (by omega) (by omega) (by rw [wgE, if_neg c6]; exact lv_sub hl [2, 3, 4, 1, 0] rfl)
                · refine lv_aload_n hx hb dX5_check_114 rfl (lv_at hl 0 rfl) ?_
                  refine va_get (D := g.1) (ci := 5) (v := .ref (ma 8)) (C := RX5) (T := TX5) (N := 23) hx hb hts hiX5 hown hK.1 hP 0 rfl rfl 8 (by decide) (hts _ w_fl_X5_31) (fun _ h9 => h9) rfl dX5_check_115 ?_
                  refine lv_bipush (v := nI (8)) hx hb dX5_check_118 (by decide) ?_
                  refine lv_iload_n hx hb dX5_check_120 rfl (lv_at hl 1 rfl) ?_
                  refine n_imul hx hb dX5_check_121 ?_
                  refine lv_iload hx hb dX5_check_122 (lv_at hl 4 rfl) ?_
                  refine n_iadd hx hb dX5_check_124 ?_
                  refine n_iald (k := (8 * j) + e9) (v := nI (aKg P ((8 * j) + e9))) hx hb hK.1 hP 8 0 rfl rfl (by omega) (by decide) (rfl) dX5_check_125 ?_
                  refine lv_goto (tgt := 131) hx hb dX5_check_126 (by decide) ?_
                  refine lv_istore (lv' := [(5, .int (nI (aKg P ((8 * j) + e9)))), (0, .ref (ma 0)), (1, .int (nI (j))), (4, .int (nI (r))), (6, .int (nI (e9)))]) hx hb dX5_check_131 hl (by decide) rfl (fun ls hl => ?_)
                  refine lv_iinc (v := nI (e9 + 1)) (lv' := [(6, .int (nI (e9 + 1))), (5, .int (nI (aKg P ((8 * j) + e9)))), (0, .ref (ma 0)), (1, .int (nI (j))), (4, .int (nI (r)))]) hx hb dX5_check_133 hl (k := 4) rfl (nI_1 _) (by decide) rfl (fun ls hl => ?_)
                  refine lv_goto (tgt := 81) hx hb dX5_check_136 (by decide) ?_
                  exact ih (e9 + 1) ls (by omega) (by omega) (by rw [wgE, if_pos c6]; exact lv_sub hl [2, 3, 4, 1, 0] rfl)
          have loop1 : ∀ (k9 : Nat) (q : Nat) (f : Nat) (ls : Array Slot), (q ≤ bN b) → (bN b < q + k9) → (f ≤ kk) → (f ≤ q) → (kth (fun i => !rowB b i) (nI kk) (bN b - q) q f = some r) → lv_has ls 7 [(0, .ref (ma 0)), (1, .int (nI (j))), (2, .int (nI (kk))), (3, .int (nI (f))), (4, .int (nI (q)))] → W p l e RR s m args below meth c H locs 0 0 QQ (F0 m 36 ls []) := by
            intro k9
            induction k9 with
            | zero => intro q f ls hq hk hf hf2 he hl; exact absurd hk (by omega)
            | succ k9 ih =>
              intro q f ls hq hk hf hf2 he hl
              have hqn : q < bN b := by
                rcases Nat.lt_or_ge q (bN b) with z | z
                · exact z
                · rw [show bN b - q = 0 by omega] at he; cases he
              rw [show bN b - q = (bN b - (q + 1)) + 1 by omega, kth] at he
              refine lv_aload_n hx hb dX5_check_36 rfl (lv_at hl 0 rfl) ?_
              refine va_get (D := g.1) (ci := 5) (v := .ref (ma 12)) (C := RX5) (T := TX5) (N := 23) hx hb hts hiX5 hown hK.1 hP 0 rfl rfl 18 (by decide) (hts _ w_fl_X5_60) (fun _ h9 => h9) rfl dX5_check_37 ?_
              refine lv_iload hx hb dX5_check_40 (lv_at hl 4 rfl) ?_
              refine n_zald (k := q) (v := bI (!rowB b q)) hx hb hK.1 hP 12 1 rfl rfl (by omega) (by decide) (by show bI (sE T q) = _; rw [(hLk q (by omega)).2.2.1]) dX5_check_42 ?_
              refine bb_eq (tgt := 51) hx hb dX5_check_43 (by decide) (fun c5 => ?_) (fun c5 => ?_)
              · rw [if_neg (by rw [c5]; decide)] at he
                refine lv_iload_n hx hb dX5_check_51 rfl (lv_at hl 3 rfl) ?_
                refine lv_aload_n hx hb dX5_check_52 rfl (lv_at hl 0 rfl) ?_
                refine va_get (D := g.1) (ci := 5) (v := .ref (ma 12)) (C := RX5) (T := TX5) (N := 23) hx hb hts hiX5 hown hK.1 hP 0 rfl rfl 18 (by decide) (hts _ w_fl_X5_60) (fun _ h9 => h9) rfl dX5_check_53 ?_
                refine lv_iload hx hb dX5_check_56 (lv_at hl 4 rfl) ?_
                refine n_zald (k := q) (v := bI (!rowB b q)) hx hb hK.1 hP 12 1 rfl rfl (by omega) (by decide) (by show bI (sE T q) = _; rw [(hLk q (by omega)).2.2.1]) dX5_check_58 ?_
                refine bb_eq (tgt := 66) hx hb dX5_check_59 (by decide) (fun c7 => ?_) (fun c7 => ?_)
                · refine lv_iconst (v := nI (0)) hx hb dX5_check_66 (by decide) ?_
                  refine n_iadd hx hb dX5_check_67 ?_
                  refine lv_istore_n (lv' := [(3, .int (nI (f + 0))), (0, .ref (ma 0)), (1, .int (nI (j))), (2, .int (nI (kk))), (4, .int (nI (q)))]) hx hb dX5_check_68 rfl hl (by decide) rfl (fun ls hl => ?_)
                  refine lv_iinc (v := nI (q + 1)) (lv' := [(4, .int (nI (q + 1))), (3, .int (nI (f + 0))), (0, .ref (ma 0)), (1, .int (nI (j))), (2, .int (nI (kk)))]) hx hb dX5_check_69 hl (k := 4) rfl (nI_1 _) (by decide) rfl (fun ls hl => ?_)
                  refine lv_goto (tgt := 36) hx hb dX5_check_72 (by decide) ?_
                  exact ih (q + 1) (f + 0) ls (by omega) (by omega) (by omega) (by omega) he (lv_sub hl [2, 3, 4, 1, 0] rfl)
                · rw [c5] at c7; exact absurd c7 (by decide)
              · refine lv_iload_n hx hb dX5_check_46 rfl (lv_at hl 3 rfl) ?_
                refine lv_iload_n hx hb dX5_check_47 rfl (lv_at hl 2 rfl) ?_
                refine bn_ge (tgt := 75) hx hb (by omega) (by omega) dX5_check_48 (by decide) (fun c6 => ?_) (fun c6 => ?_)
                · rw [if_pos c5, if_pos (by rw [show f = kk by omega])] at he
                  have hqr : q = r := Option.some.inj he
                  subst hqr
                  refine lv_iconst (v := nI (0)) hx hb dX5_check_75 (by decide) ?_
                  refine lv_istore (lv' := [(5, .int (nI (0))), (0, .ref (ma 0)), (1, .int (nI (j))), (2, .int (nI (kk))), (3, .int (nI (f))), (4, .int (nI (q)))]) hx hb dX5_check_76 hl (by decide) rfl (fun ls hl => ?_)
                  refine lv_iconst (v := nI (0)) hx hb dX5_check_78 (by decide) ?_
                  refine lv_istore (lv' := [(6, .int (nI (0))), (5, .int (nI (0))), (0, .ref (ma 0)), (1, .int (nI (j))), (2, .int (nI (kk))), (3, .int (nI (f))), (4, .int (nI (q)))]) hx hb dX5_check_79 hl (by decide) rfl (fun ls hl => ?_)
                  exact loop2 (bN b - bR b + 1) 0 ls (Nat.zero_le _) (by omega) (lv_sub hl [2, 3, 6, 1, 0] rfl)
                · rw [if_pos c5, if_neg (by rw [nI_eq (by omega) hkk]; omega)] at he
                  refine lv_iload_n hx hb dX5_check_51 rfl (lv_at hl 3 rfl) ?_
                  refine lv_aload_n hx hb dX5_check_52 rfl (lv_at hl 0 rfl) ?_
                  refine va_get (D := g.1) (ci := 5) (v := .ref (ma 12)) (C := RX5) (T := TX5) (N := 23) hx hb hts hiX5 hown hK.1 hP 0 rfl rfl 18 (by decide) (hts _ w_fl_X5_60) (fun _ h9 => h9) rfl dX5_check_53 ?_
                  refine lv_iload hx hb dX5_check_56 (lv_at hl 4 rfl) ?_
                  refine n_zald (k := q) (v := bI (!rowB b q)) hx hb hK.1 hP 12 1 rfl rfl (by omega) (by decide) (by show bI (sE T q) = _; rw [(hLk q (by omega)).2.2.1]) dX5_check_58 ?_
                  refine bb_eq (tgt := 66) hx hb dX5_check_59 (by decide) (fun c7 => ?_) (fun c7 => ?_)
                  · rw [c5] at c7; exact absurd c7 (by decide)
                  · refine lv_iconst (v := nI (1)) hx hb dX5_check_62 (by decide) ?_
                    refine lv_goto (tgt := 67) hx hb dX5_check_63 (by decide) ?_
                    refine n_iadd hx hb dX5_check_67 ?_
                    refine lv_istore_n (lv' := [(3, .int (nI (f + 1))), (0, .ref (ma 0)), (1, .int (nI (j))), (2, .int (nI (kk))), (4, .int (nI (q)))]) hx hb dX5_check_68 rfl hl (by decide) rfl (fun ls hl => ?_)
                    refine lv_iinc (v := nI (q + 1)) (lv' := [(4, .int (nI (q + 1))), (3, .int (nI (f + 1))), (0, .ref (ma 0)), (1, .int (nI (j))), (2, .int (nI (kk)))]) hx hb dX5_check_69 hl (k := 4) rfl (nI_1 _) (by decide) rfl (fun ls hl => ?_)
                    refine lv_goto (tgt := 36) hx hb dX5_check_72 (by decide) ?_
                    exact ih (q + 1) (f + 1) ls (by omega) (by omega) (by omega) (by omega) he (lv_sub hl [2, 3, 4, 1, 0] rfl)
          exact loop1 (bN b + 1) 0 0 ls (Nat.zero_le _) (by omega) (Nat.zero_le _) (Nat.le_refl _) hkr (lv_sub hl [2, 3, 4, 1, 0] rfl)
        · refine lv_ldc2 (v := (-9223372036854775808)) hx hb hown (hts _ w_ct_X5_143) dX5_check_22 ?_
          subst hQQ
          exact W.lret hx hb hr (fun t9 ht _ => ⟨⟨_, S, rfl, ⟨by unfold chkV; rw [hbk]; show _ = (match (kth (fun i => !rowB b i) (nI kk) (bN b) 0 0).map (fun i => (b, i)) with | none => (-9223372036854775808 : Int64) | some q => lN (bAm q.1 q.2) - lN (shE q.1 (rsum x q.1) q.2 * bRm q.1 / 1000)); rw [kth_none hkk (by omega)]; rfl, hs0⟩, hpT ht hP⟩, hS.F ht⟩) hS.2.2 dX5_check_25
