set_option maxHeartbeats 4000000 in
set_option maxRecDepth 100000 in
theorem k_putRow_t (l : Launch) (g : GG) (b : BinT) (h v q i : Nat) (hh : h < 10000) (hq : q = 2 * h) (hJ : Jok b) (hi1 : i ≤ bN b) (hi2 : ∀ j, j < i → bPl b j < q) (hi3 : i < bN b → q ≤ bPl b i) (hRn : bR b ≤ bN b) (ht : i < bN b) (htq : bPl b i = q) (hJ1 : Jok (amB b i v)) (sz : Nat) : Wi l yX0_putRow wsX0_putRow 4 88 0 0 [.ref (bA b 0), .int (nI (h)), .int (nI (v))] g (wB g b) sz (nI (bR b)) (wB g (jB (amB b i v) (bN (amB b i v)))) := by
  refine Met.ofW (cc := cX0_putRow) (maxL := 5) (ret := (some .int)) (by decide) rfl ?_
  intro p e s m args below meth c s₁ BB hml hv
  obtain ⟨hargs, hsz, hP, hK, hD0⟩ := hv
  have hx := BB.exec
  have hb := BB.bytes
  have hr := BB.returns
  have hts : ∀ w ∈ BIG, w.before args s = true := fun w h => atoms_spec (ws := wsX0_putRow) BB.pre w (List.mem_cons_of_mem _ h)
  have hown : s.vm.findClass RX0 = some m.cls := findClass_of_methodNamed BB.named
  have hlocks := BB.notSynchronized
  obtain ⟨RR, hRR⟩ : ∃ RR, RR = (headSpec wsX0_putRow ⟨4, 0, 0, 88⟩).room := ⟨_, rfl⟩
  have hR1 : RR.frames = 4 := by rw [hRR]; rfl
  have hR2 : RR.locals = 88 := by rw [hRR]; rfl
  have hR3 : RR.cells = 0 := by rw [hRR]; rfl
  have hR4 : RR.slots = 0 := by rw [hRR]; rfl
  have hl := lv_entry ([.ref (bA b 0), .int (nI (h)), .int (nI (v))]) (n := 5) (Nat.le_of_ble_eq_true rfl)
  have hent : entryFrame m args 5 = F0 m 0 ((lg_sl ([.ref (bA b 0), .int (nI (h)), .int (nI (v))]) ++ List.replicate (5 - (lg_sl ([.ref (bA b 0), .int (nI (h)), .int (nI (v))])).length) Slot.unset).toArray) [] := by rw [hargs, lg_entry_eq]
  rw [hent]
  generalize (lg_sl ([.ref (bA b 0), .int (nI (h)), .int (nI (v))]) ++ List.replicate (5 - (lg_sl ([.ref (bA b 0), .int (nI (h)), .int (nI (v))])).length) Slot.unset).toArray = ls at hl ⊢
  have hl : lv_has ls 5 [(0, .ref (bA b 0)), (1, .int (nI (h))), (2, .int (nI (v)))] := hl
  subst hsz
  have hD := hD0.self (sz := s.heap.size)
  generalize hAe : va_A (wB g b) s.heap.size = A at hD ⊢
  have hA : ∀ q : Nat, s.heap.size ≤ q → A q := fun q h => by rw [← hAe]; exact Or.inr h
  have hS : va_S A s.heap s.heap [] := va_S.rf
  refine q_ab (R := RR) hRR ?_
  generalize hQQ : MQ below _ args s _ _ _ = QQ
  obtain ⟨hJn, hJp, hJs, hJa⟩ := id hJ
  have hpl : ∀ i, i < bN b → bPl b i < 2 ^ 31 := fun i hi => Nat.lt_trans (hJp i hi) (by decide)
  refine lv_iload_n hx hb dX0_putRow_0 rfl (lv_at hl 1 rfl) ?_
  refine cR_i (W.runS (As := [.int (nI (h))]) (rest := []) ⟨hx, hb, hml, hown, hts⟩ (k_placeOfRow l g h) (va_cwS 1 hts (gS w_ml_X0_42 w_sm_X0_placeOfRow w_ini_X0 w_co_X0_placeOfRow) rfl rfl rfl (by decide +kernel) (by rw [hR1, hR2]; exact ⟨Nat.le_of_ble_eq_true rfl, Nat.le_of_ble_eq_true rfl⟩)) (preS_rd va_P.nil hK) rfl rfl hl.1 rfl (lv_room (Nat.le_of_ble_eq_true rfl)) dX0_putRow_1 ⟨by rw [hR3]; omega, by rw [hR4]; omega⟩) ?_
  rw [← hq]
  refine lv_istore_n (lv' := [(3, .int (nI (q))), (0, .ref (bA b 0)), (1, .int (nI (h))), (2, .int (nI (v)))]) hx hb dX0_putRow_4 rfl hl (by decide) rfl (fun ls hl => ?_)
  refine lv_aload_n hx hb dX0_putRow_5 rfl (lv_at hl 1 rfl) ?_
  refine lv_iload_n hx hb dX0_putRow_6 rfl (lv_at hl 0 rfl) ?_
  refine cR_i (W.runV (As := [.int (nI (q))]) (rest := []) ⟨hx, hb, hml, hown, hts⟩ (k_indexFor l g b q i hJn hpl (by omega) hi1 hi2 hi3) (cwV 1 hts (gV w_ml_X0_46 w_im_X0_indexFor w_sel_X0_indexFor w_ini_X0 w_co_X0_indexFor) rfl rfl rfl (by decide +kernel) (by rw [hR1, hR2]; exact ⟨Nat.le_of_ble_eq_true rfl, Nat.le_of_ble_eq_true rfl⟩)) (preV_rd hP hK (va_recv hK.1 hP (ci := 0) (q0 := 0) rfl rfl)) rfl rfl hl.1 rfl (lv_room (Nat.le_of_ble_eq_true rfl)) dX0_putRow_7 ⟨by rw [hR3]; omega, by rw [hR4]; omega⟩) ?_
  refine lv_istore (lv' := [(4, .int (nI (i))), (3, .int (nI (q))), (0, .ref (bA b 0)), (1, .int (nI (h))), (2, .int (nI (v)))]) hx hb dX0_putRow_10 hl (by decide) rfl (fun ls hl => ?_)
  refine lv_aload_n hx hb dX0_putRow_12 rfl (lv_at hl 2 rfl) ?_
  refine lv_iload hx hb dX0_putRow_13 (lv_at hl 0 rfl) ?_
  refine lv_iload_n hx hb dX0_putRow_15 rfl (lv_at hl 1 rfl) ?_
  refine cR_i (W.runV (As := [.int (nI (i)), .int (nI (q))]) (rest := []) ⟨hx, hb, hml, hown, hts⟩ (k_isTaken l g b i q (by omega) hJn hpl (by omega)) (cwV 2 hts (gV w_ml_X0_49 w_im_X0_isTaken w_sel_X0_isTaken w_ini_X0 w_co_X0_isTaken) rfl rfl rfl (by decide +kernel) (by rw [hR1, hR2]; exact ⟨Nat.le_of_ble_eq_true rfl, Nat.le_of_ble_eq_true rfl⟩)) (preV_rd hP hK (va_recv hK.1 hP (ci := 0) (q0 := 0) rfl rfl)) rfl rfl hl.1 rfl (lv_room (Nat.le_of_ble_eq_true rfl)) dX0_putRow_16 ⟨by rw [hR3]; omega, by rw [hR4]; omega⟩) ?_
  refine bb_ne (tgt := 50) hx hb dX0_putRow_19 (by decide) (fun c1 => ?_) (fun c1 => ?_)
  · refine lv_aload_n hx hb dX0_putRow_50 rfl (lv_at hl 2 rfl) ?_
    refine va_get (D := g.1) (ci := 0) (v := .ref (bA b 2)) (C := RX0) (T := TX0) (N := 8) hx hb hts hiX0 hown hK.1 hP 0 rfl rfl 3 (by decide) (hts _ w_fl_X0_22) (fun _ h9 => h9) rfl dX0_putRow_51 ?_
    refine lv_iload hx hb dX0_putRow_54 (lv_at hl 0 rfl) ?_
    refine lv_iload_n hx hb dX0_putRow_56 rfl (lv_at hl 4 rfl) ?_
    refine n_iastE (enc := nI) (f := bAm b) (x := v) (k := i) hx hb hK.1 hP hD hS 2 0 rfl rfl (by omega) (by decide) dX0_putRow_57 (fun H locs hP hD hS => ?_)
    have hP : va_P g.1 vwCl (wB g (amB b i v)) H := hP
    have hD : va_D A (wB g (amB b i v)) := hD
    refine lv_aload_n hx hb dX0_putRow_58 rfl (lv_at hl 2 rfl) ?_
    obtain ⟨hKn, hKp, hKs, hKa⟩ := hJ1
    have hP3 : va_P g.1 vwCl ([] ++ (wB g (amB b i v) ++ [])) _ := hP
    have hD3 : va_D A ([] ++ (wB g (amB b i v) ++ [])) := hD
    refine cW_v (w1 := wB g (jB (amB b i v) (bN (amB b i v)))) (va_runV (As := []) (rest := []) ⟨hx, hb, hml, hown, hts⟩ (k_judge l g (amB b i v) hKn hKp hKs hKa _) (cwV 0 hts (gV w_ml_X0_57 w_im_X0_judge w_sel_X0_judge w_ini_X0 w_co_X0_judge) rfl rfl rfl (by decide +kernel) (by rw [hR1, hR2]; exact ⟨Nat.le_of_ble_eq_true rfl, Nat.le_of_ble_eq_true rfl⟩)) (preV_wr (P_mid hP3) hK (D_mid hD3) (va_recv hK.1 (P_mid hP3) (ci := 0) (q0 := 0) rfl rfl)) rfl rfl hl.1 rfl (lv_room (Nat.le_of_ble_eq_true rfl)) dX0_putRow_59 ⟨by rw [hR3]; omega, by rw [hR4]; omega⟩) hP3 hD3 hS hA rfl (fun H locs hP hD hS => ?_)
    have hP : va_P g.1 vwCl (wB g (jB (amB b i v) (bN (amB b i v)))) H := hP
    have hD : va_D A (wB g (jB (amB b i v) (bN (amB b i v)))) := hD
    refine lv_aload_n hx hb dX0_putRow_62 rfl (lv_at hl 2 rfl) ?_
    refine va_get (D := g.1) (ci := 0) (v := .int (nI (bR (jB (amB b i v) (bN (amB b i v)))))) (C := RX0) (T := TX0) (N := 8) hx hb hts hiX0 hown hK.1 hP 0 rfl rfl 7 (by decide) (hts _ w_fl_X0_35) (fun _ h9 => h9) rfl dX0_putRow_63 ?_
    subst hQQ
    exact W.iret hx hb hr (fun t9 ht _ => ⟨⟨_, (), rfl, rfl, hpT ht hP⟩, hS.F ht⟩) hS.2.2 dX0_putRow_66
  · exact absurd c1 (by rw [decide_eq_true ⟨ht, htq⟩]; decide)

set_option maxHeartbeats 4000000 in
set_option maxRecDepth 100000 in
theorem k_putRow_f (l : Launch) (g : GG) (b : BinT) (h v q i : Nat) (hh : h < 10000) (hq : q = 2 * h) (hJ : Jok b) (hi1 : i ≤ bN b) (hi2 : ∀ j, j < i → bPl b j < q) (hi3 : i < bN b → q ≤ bPl b i) (hRn : bR b ≤ bN b) (hnt : ¬ (i < bN b ∧ bPl b i = q)) (hfull : 24 ≤ bR b) (sz : Nat) : Wi l yX0_putRow wsX0_putRow 1 22 0 0 [.ref (bA b 0), .int (nI (h)), .int (nI (v))] g (wB g b) sz (-1) (wB g b) := by
  refine Met.ofW (cc := cX0_putRow) (maxL := 5) (ret := (some .int)) (by decide) rfl ?_
  intro p e s m args below meth c s₁ BB hml hv
  obtain ⟨hargs, hsz, hP, hK, hD0⟩ := hv
  have hx := BB.exec
  have hb := BB.bytes
  have hr := BB.returns
  have hts : ∀ w ∈ BIG, w.before args s = true := fun w h => atoms_spec (ws := wsX0_putRow) BB.pre w (List.mem_cons_of_mem _ h)
  have hown : s.vm.findClass RX0 = some m.cls := findClass_of_methodNamed BB.named
  have hlocks := BB.notSynchronized
  obtain ⟨RR, hRR⟩ : ∃ RR, RR = (headSpec wsX0_putRow ⟨1, 0, 0, 22⟩).room := ⟨_, rfl⟩
  have hR1 : RR.frames = 1 := by rw [hRR]; rfl
  have hR2 : RR.locals = 22 := by rw [hRR]; rfl
  have hR3 : RR.cells = 0 := by rw [hRR]; rfl
  have hR4 : RR.slots = 0 := by rw [hRR]; rfl
  have hl := lv_entry ([.ref (bA b 0), .int (nI (h)), .int (nI (v))]) (n := 5) (Nat.le_of_ble_eq_true rfl)
  have hent : entryFrame m args 5 = F0 m 0 ((lg_sl ([.ref (bA b 0), .int (nI (h)), .int (nI (v))]) ++ List.replicate (5 - (lg_sl ([.ref (bA b 0), .int (nI (h)), .int (nI (v))])).length) Slot.unset).toArray) [] := by rw [hargs, lg_entry_eq]
  rw [hent]
  generalize (lg_sl ([.ref (bA b 0), .int (nI (h)), .int (nI (v))]) ++ List.replicate (5 - (lg_sl ([.ref (bA b 0), .int (nI (h)), .int (nI (v))])).length) Slot.unset).toArray = ls at hl ⊢
  have hl : lv_has ls 5 [(0, .ref (bA b 0)), (1, .int (nI (h))), (2, .int (nI (v)))] := hl
  subst hsz
  have hD := hD0.self (sz := s.heap.size)
  generalize hAe : va_A (wB g b) s.heap.size = A at hD ⊢
  have hA : ∀ q : Nat, s.heap.size ≤ q → A q := fun q h => by rw [← hAe]; exact Or.inr h
  have hS : va_S A s.heap s.heap [] := va_S.rf
  refine q_ab (R := RR) hRR ?_
  generalize hQQ : MQ below _ args s _ _ _ = QQ
  obtain ⟨hJn, hJp, hJs, hJa⟩ := id hJ
  have hpl : ∀ i, i < bN b → bPl b i < 2 ^ 31 := fun i hi => Nat.lt_trans (hJp i hi) (by decide)
  refine lv_iload_n hx hb dX0_putRow_0 rfl (lv_at hl 1 rfl) ?_
  refine cR_i (W.runS (As := [.int (nI (h))]) (rest := []) ⟨hx, hb, hml, hown, hts⟩ (k_placeOfRow l g h) (va_cwS 1 hts (gS w_ml_X0_42 w_sm_X0_placeOfRow w_ini_X0 w_co_X0_placeOfRow) rfl rfl rfl (by decide +kernel) (by rw [hR1, hR2]; exact ⟨Nat.le_of_ble_eq_true rfl, Nat.le_of_ble_eq_true rfl⟩)) (preS_rd va_P.nil hK) rfl rfl hl.1 rfl (lv_room (Nat.le_of_ble_eq_true rfl)) dX0_putRow_1 ⟨by rw [hR3]; omega, by rw [hR4]; omega⟩) ?_
  rw [← hq]
  refine lv_istore_n (lv' := [(3, .int (nI (q))), (0, .ref (bA b 0)), (1, .int (nI (h))), (2, .int (nI (v)))]) hx hb dX0_putRow_4 rfl hl (by decide) rfl (fun ls hl => ?_)
  refine lv_aload_n hx hb dX0_putRow_5 rfl (lv_at hl 1 rfl) ?_
  refine lv_iload_n hx hb dX0_putRow_6 rfl (lv_at hl 0 rfl) ?_
  refine cR_i (W.runV (As := [.int (nI (q))]) (rest := []) ⟨hx, hb, hml, hown, hts⟩ (k_indexFor l g b q i hJn hpl (by omega) hi1 hi2 hi3) (cwV 1 hts (gV w_ml_X0_46 w_im_X0_indexFor w_sel_X0_indexFor w_ini_X0 w_co_X0_indexFor) rfl rfl rfl (by decide +kernel) (by rw [hR1, hR2]; exact ⟨Nat.le_of_ble_eq_true rfl, Nat.le_of_ble_eq_true rfl⟩)) (preV_rd hP hK (va_recv hK.1 hP (ci := 0) (q0 := 0) rfl rfl)) rfl rfl hl.1 rfl (lv_room (Nat.le_of_ble_eq_true rfl)) dX0_putRow_7 ⟨by rw [hR3]; omega, by rw [hR4]; omega⟩) ?_
  refine lv_istore (lv' := [(4, .int (nI (i))), (3, .int (nI (q))), (0, .ref (bA b 0)), (1, .int (nI (h))), (2, .int (nI (v)))]) hx hb dX0_putRow_10 hl (by decide) rfl (fun ls hl => ?_)
  refine lv_aload_n hx hb dX0_putRow_12 rfl (lv_at hl 2 rfl) ?_
  refine lv_iload hx hb dX0_putRow_13 (lv_at hl 0 rfl) ?_
  refine lv_iload_n hx hb dX0_putRow_15 rfl (lv_at hl 1 rfl) ?_
  refine cR_i (W.runV (As := [.int (nI (i)), .int (nI (q))]) (rest := []) ⟨hx, hb, hml, hown, hts⟩ (k_isTaken l g b i q (by omega) hJn hpl (by omega)) (cwV 2 hts (gV w_ml_X0_49 w_im_X0_isTaken w_sel_X0_isTaken w_ini_X0 w_co_X0_isTaken) rfl rfl rfl (by decide +kernel) (by rw [hR1, hR2]; exact ⟨Nat.le_of_ble_eq_true rfl, Nat.le_of_ble_eq_true rfl⟩)) (preV_rd hP hK (va_recv hK.1 hP (ci := 0) (q0 := 0) rfl rfl)) rfl rfl hl.1 rfl (lv_room (Nat.le_of_ble_eq_true rfl)) dX0_putRow_16 ⟨by rw [hR3]; omega, by rw [hR4]; omega⟩) ?_
  refine bb_ne (tgt := 50) hx hb dX0_putRow_19 (by decide) (fun c1 => ?_) (fun c1 => ?_)
  · exact absurd c1 (by rw [decide_eq_false hnt]; decide)
  · refine lv_aload_n hx hb dX0_putRow_22 rfl (lv_at hl 2 rfl) ?_
    refine va_get (D := g.1) (ci := 0) (v := .int (nI (bR b))) (C := RX0) (T := TX0) (N := 8) hx hb hts hiX0 hown hK.1 hP 0 rfl rfl 7 (by decide) (hts _ w_fl_X0_35) (fun _ h9 => h9) rfl dX0_putRow_23 ?_
    refine lv_bipush (v := nI (24)) hx hb dX0_putRow_26 (by decide) ?_
    refine bn_lt (tgt := 33) hx hb (by omega) (by omega) dX0_putRow_28 (by decide) (fun c2 => ?_) (fun c2 => ?_)
    · exact absurd c2 (by omega)
    · refine lv_iconst (v := (-1)) hx hb dX0_putRow_31 (by decide) ?_
      subst hQQ
      exact W.iret hx hb hr (fun t9 ht _ => ⟨⟨_, (), rfl, rfl, hpT ht hP⟩, hS.F ht⟩) hS.2.2 dX0_putRow_32

set_option maxHeartbeats 4000000 in
set_option maxRecDepth 100000 in
theorem k_putRow_n (l : Launch) (g : GG) (b : BinT) (h v q i : Nat) (hh : h < 10000) (hq : q = 2 * h) (hJ : Jok b) (hi1 : i ≤ bN b) (hi2 : ∀ j, j < i → bPl b j < q) (hi3 : i < bN b → q ≤ bPl b i) (hRn : bR b ≤ bN b) (hnt : ¬ (i < bN b ∧ bPl b i = q)) (hfull : bR b < 24) (hn31 : bN b < 32) (hJ1 : Jok (amB (bsR (opB b i q) (bR b + 1)) i v)) (sz : Nat) : Wi l yX0_putRow wsX0_putRow 4 88 0 0 [.ref (bA b 0), .int (nI (h)), .int (nI (v))] g (wB g b) sz (nI (bR b + 1)) (wB g (jB (amB (bsR (opB b i q) (bR b + 1)) i v) (bN (amB (bsR (opB b i q) (bR b + 1)) i v)))) := by
  refine Met.ofW (cc := cX0_putRow) (maxL := 5) (ret := (some .int)) (by decide) rfl ?_
  intro p e s m args below meth c s₁ BB hml hv
  obtain ⟨hargs, hsz, hP, hK, hD0⟩ := hv
  have hx := BB.exec
  have hb := BB.bytes
  have hr := BB.returns
  have hts : ∀ w ∈ BIG, w.before args s = true := fun w h => atoms_spec (ws := wsX0_putRow) BB.pre w (List.mem_cons_of_mem _ h)
  have hown : s.vm.findClass RX0 = some m.cls := findClass_of_methodNamed BB.named
  have hlocks := BB.notSynchronized
  obtain ⟨RR, hRR⟩ : ∃ RR, RR = (headSpec wsX0_putRow ⟨4, 0, 0, 88⟩).room := ⟨_, rfl⟩
  have hR1 : RR.frames = 4 := by rw [hRR]; rfl
  have hR2 : RR.locals = 88 := by rw [hRR]; rfl
  have hR3 : RR.cells = 0 := by rw [hRR]; rfl
  have hR4 : RR.slots = 0 := by rw [hRR]; rfl
  have hl := lv_entry ([.ref (bA b 0), .int (nI (h)), .int (nI (v))]) (n := 5) (Nat.le_of_ble_eq_true rfl)
  have hent : entryFrame m args 5 = F0 m 0 ((lg_sl ([.ref (bA b 0), .int (nI (h)), .int (nI (v))]) ++ List.replicate (5 - (lg_sl ([.ref (bA b 0), .int (nI (h)), .int (nI (v))])).length) Slot.unset).toArray) [] := by rw [hargs, lg_entry_eq]
  rw [hent]
  generalize (lg_sl ([.ref (bA b 0), .int (nI (h)), .int (nI (v))]) ++ List.replicate (5 - (lg_sl ([.ref (bA b 0), .int (nI (h)), .int (nI (v))])).length) Slot.unset).toArray = ls at hl ⊢
  have hl : lv_has ls 5 [(0, .ref (bA b 0)), (1, .int (nI (h))), (2, .int (nI (v)))] := hl
  subst hsz
  have hD := hD0.self (sz := s.heap.size)
  generalize hAe : va_A (wB g b) s.heap.size = A at hD ⊢
  have hA : ∀ q : Nat, s.heap.size ≤ q → A q := fun q h => by rw [← hAe]; exact Or.inr h
  have hS : va_S A s.heap s.heap [] := va_S.rf
  refine q_ab (R := RR) hRR ?_
  generalize hQQ : MQ below _ args s _ _ _ = QQ
  obtain ⟨hJn, hJp, hJs, hJa⟩ := id hJ
  have hpl : ∀ i, i < bN b → bPl b i < 2 ^ 31 := fun i hi => Nat.lt_trans (hJp i hi) (by decide)
  refine lv_iload_n hx hb dX0_putRow_0 rfl (lv_at hl 1 rfl) ?_
  refine cR_i (W.runS (As := [.int (nI (h))]) (rest := []) ⟨hx, hb, hml, hown, hts⟩ (k_placeOfRow l g h) (va_cwS 1 hts (gS w_ml_X0_42 w_sm_X0_placeOfRow w_ini_X0 w_co_X0_placeOfRow) rfl rfl rfl (by decide +kernel) (by rw [hR1, hR2]; exact ⟨Nat.le_of_ble_eq_true rfl, Nat.le_of_ble_eq_true rfl⟩)) (preS_rd va_P.nil hK) rfl rfl hl.1 rfl (lv_room (Nat.le_of_ble_eq_true rfl)) dX0_putRow_1 ⟨by rw [hR3]; omega, by rw [hR4]; omega⟩) ?_
  rw [← hq]
  refine lv_istore_n (lv' := [(3, .int (nI (q))), (0, .ref (bA b 0)), (1, .int (nI (h))), (2, .int (nI (v)))]) hx hb dX0_putRow_4 rfl hl (by decide) rfl (fun ls hl => ?_)
  refine lv_aload_n hx hb dX0_putRow_5 rfl (lv_at hl 1 rfl) ?_
  refine lv_iload_n hx hb dX0_putRow_6 rfl (lv_at hl 0 rfl) ?_
  refine cR_i (W.runV (As := [.int (nI (q))]) (rest := []) ⟨hx, hb, hml, hown, hts⟩ (k_indexFor l g b q i hJn hpl (by omega) hi1 hi2 hi3) (cwV 1 hts (gV w_ml_X0_46 w_im_X0_indexFor w_sel_X0_indexFor w_ini_X0 w_co_X0_indexFor) rfl rfl rfl (by decide +kernel) (by rw [hR1, hR2]; exact ⟨Nat.le_of_ble_eq_true rfl, Nat.le_of_ble_eq_true rfl⟩)) (preV_rd hP hK (va_recv hK.1 hP (ci := 0) (q0 := 0) rfl rfl)) rfl rfl hl.1 rfl (lv_room (Nat.le_of_ble_eq_true rfl)) dX0_putRow_7 ⟨by rw [hR3]; omega, by rw [hR4]; omega⟩) ?_
  refine lv_istore (lv' := [(4, .int (nI (i))), (3, .int (nI (q))), (0, .ref (bA b 0)), (1, .int (nI (h))), (2, .int (nI (v)))]) hx hb dX0_putRow_10 hl (by decide) rfl (fun ls hl => ?_)
  refine lv_aload_n hx hb dX0_putRow_12 rfl (lv_at hl 2 rfl) ?_
  refine lv_iload hx hb dX0_putRow_13 (lv_at hl 0 rfl) ?_
  refine lv_iload_n hx hb dX0_putRow_15 rfl (lv_at hl 1 rfl) ?_
  refine cR_i (W.runV (As := [.int (nI (i)), .int (nI (q))]) (rest := []) ⟨hx, hb, hml, hown, hts⟩ (k_isTaken l g b i q (by omega) hJn hpl (by omega)) (cwV 2 hts (gV w_ml_X0_49 w_im_X0_isTaken w_sel_X0_isTaken w_ini_X0 w_co_X0_isTaken) rfl rfl rfl (by decide +kernel) (by rw [hR1, hR2]; exact ⟨Nat.le_of_ble_eq_true rfl, Nat.le_of_ble_eq_true rfl⟩)) (preV_rd hP hK (va_recv hK.1 hP (ci := 0) (q0 := 0) rfl rfl)) rfl rfl hl.1 rfl (lv_room (Nat.le_of_ble_eq_true rfl)) dX0_putRow_16 ⟨by rw [hR3]; omega, by rw [hR4]; omega⟩) ?_
  refine bb_ne (tgt := 50) hx hb dX0_putRow_19 (by decide) (fun c1 => ?_) (fun c1 => ?_)
  · exact absurd c1 (by rw [decide_eq_false hnt]; decide)
  · refine lv_aload_n hx hb dX0_putRow_22 rfl (lv_at hl 2 rfl) ?_
    refine va_get (D := g.1) (ci := 0) (v := .int (nI (bR b))) (C := RX0) (T := TX0) (N := 8) hx hb hts hiX0 hown hK.1 hP 0 rfl rfl 7 (by decide) (hts _ w_fl_X0_35) (fun _ h9 => h9) rfl dX0_putRow_23 ?_
    refine lv_bipush (v := nI (24)) hx hb dX0_putRow_26 (by decide) ?_
    refine bn_lt (tgt := 33) hx hb (by omega) (by omega) dX0_putRow_28 (by decide) (fun c2 => ?_) (fun c2 => ?_)
    · refine lv_aload_n hx hb dX0_putRow_33 rfl (lv_at hl 2 rfl) ?_
      refine lv_iload hx hb dX0_putRow_34 (lv_at hl 0 rfl) ?_
      refine lv_iload_n hx hb dX0_putRow_36 rfl (lv_at hl 1 rfl) ?_
      have hP3 : va_P g.1 vwCl ([] ++ (wB g b ++ [])) _ := hP
      have hD3 : va_D A ([] ++ (wB g b ++ [])) := hD
      refine cW_v (w1 := wB g (opB b i q)) (va_runV (As := [.int (nI (i)), .int (nI (q))]) (rest := []) ⟨hx, hb, hml, hown, hts⟩ (k_open l g b i q hn31 hi1 _) (cwV 2 hts (gV w_ml_X0_53 w_im_X0_open w_sel_X0_open w_ini_X0 w_co_X0_open) rfl rfl rfl (by decide +kernel) (by rw [hR1, hR2]; exact ⟨Nat.le_of_ble_eq_true rfl, Nat.le_of_ble_eq_true rfl⟩)) (preV_wr (P_mid hP3) hK (D_mid hD3) (va_recv hK.1 (P_mid hP3) (ci := 0) (q0 := 0) rfl rfl)) rfl rfl hl.1 rfl (lv_room (Nat.le_of_ble_eq_true rfl)) dX0_putRow_37 ⟨by rw [hR3]; omega, by rw [hR4]; omega⟩) hP3 hD3 hS hA rfl (fun H locs hP hD hS => ?_)
      have hP : va_P g.1 vwCl (wB g (opB b i q)) H := hP
      have hD : va_D A (wB g (opB b i q)) := hD
      refine lv_aload_n hx hb dX0_putRow_40 rfl (lv_at hl 2 rfl) ?_
      refine lv_dup hx hb dX0_putRow_41 rfl ?_
      refine va_get (D := g.1) (ci := 0) (v := .int (nI (bR (opB b i q)))) (C := RX0) (T := TX0) (N := 8) hx hb hts hiX0 hown hK.1 hP 0 rfl rfl 7 (by decide) (hts _ w_fl_X0_35) (fun _ h9 => h9) rfl dX0_putRow_42 ?_
      refine lv_iconst (v := nI (1)) hx hb dX0_putRow_45 (by decide) ?_
      refine n_iadd hx hb dX0_putRow_46 ?_
      refine va_put (D := g.1) (ci := 0) (v := .int (nI (bR b + 1))) (ty := .int) (C := RX0) (T := TX0) (N := 8) hx hb hts hiX0 tyX0 tyX0_ok nmX0 hown hK.1 hP hD hS 0 rfl rfl 7 (by decide) (hts _ w_fl_X0_35) (fun _ h9 => h9) rfl (by decide +kernel) rfl rfl (Nat.le_of_ble_eq_true rfl) dX0_putRow_47 (fun H locs hP hD hS => ?_)
      have hP : va_P g.1 vwCl (wB g (bsR (opB b i q) (bR b + 1))) H := hP
      have hD : va_D A (wB g (bsR (opB b i q) (bR b + 1))) := hD
      refine lv_aload_n hx hb dX0_putRow_50 rfl (lv_at hl 2 rfl) ?_
      refine va_get (D := g.1) (ci := 0) (v := .ref (bA b 2)) (C := RX0) (T := TX0) (N := 8) hx hb hts hiX0 hown hK.1 hP 0 rfl rfl 3 (by decide) (hts _ w_fl_X0_22) (fun _ h9 => h9) rfl dX0_putRow_51 ?_
      refine lv_iload hx hb dX0_putRow_54 (lv_at hl 0 rfl) ?_
      refine lv_iload_n hx hb dX0_putRow_56 rfl (lv_at hl 4 rfl) ?_
      refine n_iastE (enc := nI) (f := bAm (bsR (opB b i q) (bR b + 1))) (x := v) (k := i) hx hb hK.1 hP hD hS 2 0 rfl rfl (by omega) (by decide) dX0_putRow_57 (fun H locs hP hD hS => ?_)
      have hP : va_P g.1 vwCl (wB g (amB (bsR (opB b i q) (bR b + 1)) i v)) H := hP
      have hD : va_D A (wB g (amB (bsR (opB b i q) (bR b + 1)) i v)) := hD
      refine lv_aload_n hx hb dX0_putRow_58 rfl (lv_at hl 2 rfl) ?_
      obtain ⟨hKn, hKp, hKs, hKa⟩ := hJ1
      have hP3 : va_P g.1 vwCl ([] ++ (wB g (amB (bsR (opB b i q) (bR b + 1)) i v) ++ [])) _ := hP
      have hD3 : va_D A ([] ++ (wB g (amB (bsR (opB b i q) (bR b + 1)) i v) ++ [])) := hD
      refine cW_v (w1 := wB g (jB (amB (bsR (opB b i q) (bR b + 1)) i v) (bN (amB (bsR (opB b i q) (bR b + 1)) i v)))) (va_runV (As := []) (rest := []) ⟨hx, hb, hml, hown, hts⟩ (k_judge l g (amB (bsR (opB b i q) (bR b + 1)) i v) hKn hKp hKs hKa _) (cwV 0 hts (gV w_ml_X0_57 w_im_X0_judge w_sel_X0_judge w_ini_X0 w_co_X0_judge) rfl rfl rfl (by decide +kernel) (by rw [hR1, hR2]; exact ⟨Nat.le_of_ble_eq_true rfl, Nat.le_of_ble_eq_true rfl⟩)) (preV_wr (P_mid hP3) hK (D_mid hD3) (va_recv hK.1 (P_mid hP3) (ci := 0) (q0 := 0) rfl rfl)) rfl rfl hl.1 rfl (lv_room (Nat.le_of_ble_eq_true rfl)) dX0_putRow_59 ⟨by rw [hR3]; omega, by rw [hR4]; omega⟩) hP3 hD3 hS hA rfl (fun H locs hP hD hS => ?_)
      have hP : va_P g.1 vwCl (wB g (jB (amB (bsR (opB b i q) (bR b + 1)) i v) (bN (amB (bsR (opB b i q) (bR b + 1)) i v)))) H := hP
      have hD : va_D A (wB g (jB (amB (bsR (opB b i q) (bR b + 1)) i v) (bN (amB (bsR (opB b i q) (bR b + 1)) i v)))) := hD
      refine lv_aload_n hx hb dX0_putRow_62 rfl (lv_at hl 2 rfl) ?_
      refine va_get (D := g.1) (ci := 0) (v := .int (nI (bR (jB (amB (bsR (opB b i q) (bR b + 1)) i v) (bN (amB (bsR (opB b i q) (bR b + 1)) i v)))))) (C := RX0) (T := TX0) (N := 8) hx hb hts hiX0 hown hK.1 hP 0 rfl rfl 7 (by decide) (hts _ w_fl_X0_35) (fun _ h9 => h9) rfl dX0_putRow_63 ?_
      subst hQQ
      exact W.iret hx hb hr (fun t9 ht _ => ⟨⟨_, (), rfl, rfl, hpT ht hP⟩, hS.F ht⟩) hS.2.2 dX0_putRow_66
    · exact absurd c2 (by omega)

