set_option maxHeartbeats 4000000 in
set_option maxRecDepth 100000 in
theorem k_mark (l : Launch) (g : GG) (ca : Nat → Nat) (hol : Nat → Bool) (d : Nat) (x : Bool) (hd : d < 417) (sz : Nat) : Wv l yX1_mark wsX1_mark 0 0 0 0 [.ref (ca 0), .int (nI (d)), .int (bI (x))] g (wC g ca hol) sz (wC g ca (va_up hol d x)) := by
  refine Met.ofW (cc := cX1_mark) (maxL := 3) (ret := none) (by decide) rfl ?_
  intro p e s m args below meth c s₁ BB hml hv
  obtain ⟨hargs, hsz, hP, hK, hD0⟩ := hv
  have hx := BB.exec
  have hb := BB.bytes
  have hr := BB.returns
  have hts : ∀ w ∈ BIG, w.before args s = true := fun w h => atoms_spec (ws := wsX1_mark) BB.pre w (List.mem_cons_of_mem _ h)
  have hown : s.vm.findClass RX1 = some m.cls := findClass_of_methodNamed BB.named
  have hlocks := BB.notSynchronized
  obtain ⟨RR, hRR⟩ : ∃ RR, RR = (headSpec wsX1_mark ⟨0, 0, 0, 0⟩).room := ⟨_, rfl⟩
  have hR1 : RR.frames = 0 := by rw [hRR]; rfl
  have hR2 : RR.locals = 0 := by rw [hRR]; rfl
  have hR3 : RR.cells = 0 := by rw [hRR]; rfl
  have hR4 : RR.slots = 0 := by rw [hRR]; rfl
  have hl := lv_entry ([.ref (ca 0), .int (nI (d)), .int (bI (x))]) (n := 3) (Nat.le_of_ble_eq_true rfl)
  have hent : entryFrame m args 3 = F0 m 0 ((lg_sl ([.ref (ca 0), .int (nI (d)), .int (bI (x))]) ++ List.replicate (3 - (lg_sl ([.ref (ca 0), .int (nI (d)), .int (bI (x))])).length) Slot.unset).toArray) [] := by rw [hargs, lg_entry_eq]
  rw [hent]
  generalize (lg_sl ([.ref (ca 0), .int (nI (d)), .int (bI (x))]) ++ List.replicate (3 - (lg_sl ([.ref (ca 0), .int (nI (d)), .int (bI (x))])).length) Slot.unset).toArray = ls at hl ⊢
  have hl : lv_has ls 3 [(0, .ref (ca 0)), (1, .int (nI (d))), (2, .int (bI (x)))] := hl
  subst hsz
  have hD := hD0.self (sz := s.heap.size)
  generalize hAe : va_A (wC g ca hol) s.heap.size = A at hD ⊢
  have hA : ∀ q : Nat, s.heap.size ≤ q → A q := fun q h => by rw [← hAe]; exact Or.inr h
  have hS : va_S A s.heap s.heap [] := va_S.rf
  refine q_ab (R := RR) hRR ?_
  generalize hQQ : MQ below _ args s _ _ _ = QQ
  refine lv_aload_n hx hb dX1_mark_0 rfl (lv_at hl 0 rfl) ?_
  refine va_get (D := g.1) (ci := 1) (v := .ref (ca 1)) (C := RX1) (T := TX1) (N := 1) hx hb hts hiX1 hown hK.1 hP 0 rfl rfl 0 (by decide) (hts _ w_fl_X1_9) (fun _ h9 => h9) rfl dX1_mark_1 ?_
  refine lv_iload_n hx hb dX1_mark_4 rfl (lv_at hl 1 rfl) ?_
  refine lv_iload_n hx hb dX1_mark_5 rfl (lv_at hl 2 rfl) ?_
  refine n_zastE (f := hol) (x := x) (k := d) hx hb hK.1 hP hD hS 1 1 rfl rfl (by omega) (by decide) dX1_mark_6 (fun H locs hP hD hS => ?_)
  have hP : va_P g.1 vwCl (wC g ca (va_up hol d x)) H := hP
  have hD : va_D A (wC g ca (va_up hol d x)) := hD
  subst hQQ
  exact W.vret hx hb hr (fun t9 ht _ => ⟨⟨(), rfl, trivial, hpT ht hP⟩, hS.F ht⟩) hS.2.2 dX1_mark_7

set_option maxHeartbeats 4000000 in
set_option maxRecDepth 100000 in
theorem k_setRate (l : Launch) (g : GG) (oa : Nat → Nat) (rt sm : Nat → Nat) (d x : Nat) (hd : d < 7) (sz : Nat) : Wv l yX3_setRate wsX3_setRate 0 0 0 0 [.ref (oa 0), .int (nI (d)), .int (nI (x))] g (wO g oa rt sm) sz (wO g oa (va_up rt d x) sm) := by
  refine Met.ofW (cc := cX3_setRate) (maxL := 3) (ret := none) (by decide) rfl ?_
  intro p e s m args below meth c s₁ BB hml hv
  obtain ⟨hargs, hsz, hP, hK, hD0⟩ := hv
  have hx := BB.exec
  have hb := BB.bytes
  have hr := BB.returns
  have hts : ∀ w ∈ BIG, w.before args s = true := fun w h => atoms_spec (ws := wsX3_setRate) BB.pre w (List.mem_cons_of_mem _ h)
  have hown : s.vm.findClass RX3 = some m.cls := findClass_of_methodNamed BB.named
  have hlocks := BB.notSynchronized
  obtain ⟨RR, hRR⟩ : ∃ RR, RR = (headSpec wsX3_setRate ⟨0, 0, 0, 0⟩).room := ⟨_, rfl⟩
  have hR1 : RR.frames = 0 := by rw [hRR]; rfl
  have hR2 : RR.locals = 0 := by rw [hRR]; rfl
  have hR3 : RR.cells = 0 := by rw [hRR]; rfl
  have hR4 : RR.slots = 0 := by rw [hRR]; rfl
  have hl := lv_entry ([.ref (oa 0), .int (nI (d)), .int (nI (x))]) (n := 3) (Nat.le_of_ble_eq_true rfl)
  have hent : entryFrame m args 3 = F0 m 0 ((lg_sl ([.ref (oa 0), .int (nI (d)), .int (nI (x))]) ++ List.replicate (3 - (lg_sl ([.ref (oa 0), .int (nI (d)), .int (nI (x))])).length) Slot.unset).toArray) [] := by rw [hargs, lg_entry_eq]
  rw [hent]
  generalize (lg_sl ([.ref (oa 0), .int (nI (d)), .int (nI (x))]) ++ List.replicate (3 - (lg_sl ([.ref (oa 0), .int (nI (d)), .int (nI (x))])).length) Slot.unset).toArray = ls at hl ⊢
  have hl : lv_has ls 3 [(0, .ref (oa 0)), (1, .int (nI (d))), (2, .int (nI (x)))] := hl
  subst hsz
  have hD := hD0.self (sz := s.heap.size)
  generalize hAe : va_A (wO g oa rt sm) s.heap.size = A at hD ⊢
  have hA : ∀ q : Nat, s.heap.size ≤ q → A q := fun q h => by rw [← hAe]; exact Or.inr h
  have hS : va_S A s.heap s.heap [] := va_S.rf
  refine q_ab (R := RR) hRR ?_
  generalize hQQ : MQ below _ args s _ _ _ = QQ
  refine lv_aload_n hx hb dX3_setRate_0 rfl (lv_at hl 0 rfl) ?_
  refine va_get (D := g.1) (ci := 3) (v := .ref (oa 1)) (C := RX3) (T := TX3) (N := 2) hx hb hts hiX3 hown hK.1 hP 0 rfl rfl 0 (by decide) (hts _ w_fl_X3_9) (fun _ h9 => h9) rfl dX3_setRate_1 ?_
  refine lv_iload_n hx hb dX3_setRate_4 rfl (lv_at hl 1 rfl) ?_
  refine lv_iload_n hx hb dX3_setRate_5 rfl (lv_at hl 2 rfl) ?_
  refine n_iastE (enc := nI) (f := rt) (x := x) (k := d) hx hb hK.1 hP hD hS 1 0 rfl rfl (by omega) (by decide) dX3_setRate_6 (fun H locs hP hD hS => ?_)
  have hP : va_P g.1 vwCl (wO g oa (va_up rt d x) sm) H := hP
  have hD : va_D A (wO g oa (va_up rt d x) sm) := hD
  subst hQQ
  exact W.vret hx hb hr (fun t9 ht _ => ⟨⟨(), rfl, trivial, hpT ht hP⟩, hS.F ht⟩) hS.2.2 dX3_setRate_7

set_option maxHeartbeats 4000000 in
set_option maxRecDepth 100000 in
theorem k_sumUp (l : Launch) (g : GG) (oa ca : Nat → Nat) (rt sm : Nat → Nat) (hol : Nat → Bool) (sz : Nat) : Wv l yX3_sumUp wsX3_sumUp 1 21 0 0 [.ref (oa 0), .ref (ca 0)] g (wO g oa rt sm ++ wC g ca hol) sz (wO g oa rt (smU rt hol sm 417) ++ wC g ca hol) := by
  refine Met.ofW (cc := cX3_sumUp) (maxL := 3) (ret := none) (by decide) rfl ?_
  intro p e s m args below meth c s₁ BB hml hv
  obtain ⟨hargs, hsz, hP, hK, hD0⟩ := hv
  have hx := BB.exec
  have hb := BB.bytes
  have hr := BB.returns
  have hts : ∀ w ∈ BIG, w.before args s = true := fun w h => atoms_spec (ws := wsX3_sumUp) BB.pre w (List.mem_cons_of_mem _ h)
  have hown : s.vm.findClass RX3 = some m.cls := findClass_of_methodNamed BB.named
  have hlocks := BB.notSynchronized
  obtain ⟨RR, hRR⟩ : ∃ RR, RR = (headSpec wsX3_sumUp ⟨1, 0, 0, 21⟩).room := ⟨_, rfl⟩
  have hR1 : RR.frames = 1 := by rw [hRR]; rfl
  have hR2 : RR.locals = 21 := by rw [hRR]; rfl
  have hR3 : RR.cells = 0 := by rw [hRR]; rfl
  have hR4 : RR.slots = 0 := by rw [hRR]; rfl
  have hl := lv_entry ([.ref (oa 0), .ref (ca 0)]) (n := 3) (Nat.le_of_ble_eq_true rfl)
  have hent : entryFrame m args 3 = F0 m 0 ((lg_sl ([.ref (oa 0), .ref (ca 0)]) ++ List.replicate (3 - (lg_sl ([.ref (oa 0), .ref (ca 0)])).length) Slot.unset).toArray) [] := by rw [hargs, lg_entry_eq]
  rw [hent]
  generalize (lg_sl ([.ref (oa 0), .ref (ca 0)]) ++ List.replicate (3 - (lg_sl ([.ref (oa 0), .ref (ca 0)])).length) Slot.unset).toArray = ls at hl ⊢
  have hl : lv_has ls 3 [(0, .ref (oa 0)), (1, .ref (ca 0))] := hl
  subst hsz
  have hD := hD0.self (sz := s.heap.size)
  generalize hAe : va_A (wO g oa rt sm ++ wC g ca hol) s.heap.size = A at hD ⊢
  have hA : ∀ q : Nat, s.heap.size ≤ q → A q := fun q h => by rw [← hAe]; exact Or.inr h
  have hS : va_S A s.heap s.heap [] := va_S.rf
  refine q_ab (R := RR) hRR ?_
  generalize hQQ : MQ below _ args s _ _ _ = QQ
  refine lv_iconst (v := nI (0)) hx hb dX3_sumUp_0 (by decide) ?_
  refine lv_istore_n (lv' := [(2, .int (nI (0))), (0, .ref (oa 0)), (1, .ref (ca 0))]) hx hb dX3_sumUp_1 rfl hl (by decide) rfl (fun ls hl => ?_)
  have loop : ∀ (k : Nat) (j : Nat) (H : Heap) (locs : List Loc) (ls : Array Slot), (j ≤ 417) → (417 < j + k) → va_P g.1 vwCl (wO g oa rt (smU rt hol sm j) ++ wC g ca hol) H → va_D A (wO g oa rt (smU rt hol sm j) ++ wC g ca hol) → va_S A s.heap H locs → lv_has ls 3 [(0, .ref (oa 0)), (1, .ref (ca 0)), (2, .int (nI (j)))] → W p l e RR s m args below meth c H locs 0 0 QQ (F0 m 2 ls []) := by
    intro k
    induction k with
    | zero => intro j H locs ls hj hk hP hD hS hl; exact absurd hk (by omega)
    | succ k ih =>
      intro j H locs ls hj hk hP hD hS hl
      refine lv_iload_n hx hb dX3_sumUp_2 rfl (lv_at hl 2 rfl) ?_
      refine lv_sipush (v := nI (417)) hx hb dX3_sumUp_3 (by decide) ?_
      refine bn_ge (tgt := 40) hx hb (by omega) (by omega) dX3_sumUp_6 (by decide) (fun c1 => ?_) (fun c1 => ?_)
      · have hj : j = 417 := by omega
        subst hj
        subst hQQ
        exact W.vret hx hb hr (fun t9 ht _ => ⟨⟨(), rfl, trivial, hpT ht hP⟩, hS.F ht⟩) hS.2.2 dX3_sumUp_40
      · refine lv_aload_n hx hb dX3_sumUp_9 rfl (lv_at hl 0 rfl) ?_
        refine va_get (D := g.1) (ci := 3) (v := .ref (oa 2)) (C := RX3) (T := TX3) (N := 2) hx hb hts hiX3 hown hK.1 hP 0 rfl rfl 1 (by decide) (hts _ w_fl_X3_15) (fun _ h9 => h9) rfl dX3_sumUp_10 ?_
        refine lv_iload_n hx hb dX3_sumUp_13 rfl (lv_at hl 2 rfl) ?_
        refine lv_iconst (v := nI (1)) hx hb dX3_sumUp_14 (by decide) ?_
        refine n_iadd hx hb dX3_sumUp_15 ?_
        refine lv_aload_n hx hb dX3_sumUp_16 rfl (lv_at hl 0 rfl) ?_
        refine va_get (D := g.1) (ci := 3) (v := .ref (oa 2)) (C := RX3) (T := TX3) (N := 2) hx hb hts hiX3 hown hK.1 hP 0 rfl rfl 1 (by decide) (hts _ w_fl_X3_15) (fun _ h9 => h9) rfl dX3_sumUp_17 ?_
        refine lv_iload_n hx hb dX3_sumUp_20 rfl (lv_at hl 2 rfl) ?_
        refine n_iald (k := j) (v := nI (smU rt hol sm j j)) hx hb hK.1 hP 2 0 rfl rfl (by omega) (by decide) (rfl) dX3_sumUp_21 ?_
        refine lv_aload_n hx hb dX3_sumUp_22 rfl (lv_at hl 0 rfl) ?_
        refine va_get (D := g.1) (ci := 3) (v := .ref (oa 1)) (C := RX3) (T := TX3) (N := 2) hx hb hts hiX3 hown hK.1 hP 0 rfl rfl 0 (by decide) (hts _ w_fl_X3_9) (fun _ h9 => h9) rfl dX3_sumUp_23 ?_
        refine lv_aload_n hx hb dX3_sumUp_26 rfl (lv_at hl 1 rfl) ?_
        refine lv_iload_n hx hb dX3_sumUp_27 rfl (lv_at hl 2 rfl) ?_
        refine cR_i (W.runV (As := [.int (nI (j))]) (rest := [.ref (oa 1), .int (nI (smU rt hol sm j j)), .int (nI (j + 1)), .ref (oa 2)]) ⟨hx, hb, hml, hown, hts⟩ (k_weekdayOf l g ca hol j c1) (cwV 1 hts (gV w_ml_X3_18 w_im_X1_weekdayOf w_sel_X1_weekdayOf w_ini_X1 w_co_X1_weekdayOf) rfl rfl rfl (by decide +kernel) (by rw [hR1, hR2]; exact ⟨Nat.le_of_ble_eq_true rfl, Nat.le_of_ble_eq_true rfl⟩)) (preV_rd (P_right hP) hK (va_recv hK.1 (P_right hP) (ci := 1) (q0 := 0) rfl rfl)) rfl rfl hl.1 rfl (lv_room (Nat.le_of_ble_eq_true rfl)) dX3_sumUp_28 ⟨by rw [hR3]; omega, by rw [hR4]; omega⟩) ?_
        have hwy : wdy hol j < 7 := wdy_lt
        refine n_iald (k := wdy hol j) (v := nI (rt (wdy hol j))) hx hb hK.1 hP 1 0 rfl rfl (by omega) (by decide) (rfl) dX3_sumUp_31 ?_
        refine n_iadd hx hb dX3_sumUp_32 ?_
        refine n_iastE (enc := nI) (f := smU rt hol sm j) (x := smU rt hol sm j j + rt (wdy hol j)) (k := j + 1) hx hb hK.1 hP hD hS 2 0 rfl rfl (by omega) (by decide) dX3_sumUp_33 (fun H locs hP hD hS => ?_)
        have hP : va_P g.1 vwCl (wO g oa rt (va_up (smU rt hol sm j) (j + 1) (smU rt hol sm j j + rt (wdy hol j))) ++ wC g ca hol) H := hP
        have hD : va_D A (wO g oa rt (va_up (smU rt hol sm j) (j + 1) (smU rt hol sm j j + rt (wdy hol j))) ++ wC g ca hol) := hD
        rw [show va_up (smU rt hol sm j) (j + 1) (smU rt hol sm j j + rt (wdy hol j)) = smU rt hol sm (j + 1) from rfl] at hP hD
        refine lv_iinc (v := nI (j + 1)) (lv' := [(2, .int (nI (j + 1))), (0, .ref (oa 0)), (1, .ref (ca 0))]) hx hb dX3_sumUp_34 hl (k := 2) rfl (nI_1 _) (by decide) rfl (fun ls hl => ?_)
        refine lv_goto (tgt := 2) hx hb dX3_sumUp_37 (by decide) ?_
        exact ih (j + 1) H locs ls (by omega) (by omega) hP hD hS (lv_sub hl [1, 2, 0] rfl)
  exact loop 418 0 _ _ ls (by omega) (by omega) hP hD hS (lv_sub hl [1, 2, 0] rfl)

set_option maxHeartbeats 4000000 in
set_option maxRecDepth 100000 in
theorem k_setTo (l : Launch) (g : GG) (fa : Nat → Nat) (wt : Nat → Nat) (x y : Nat) (hx9 : x ≤ 9) (hy9 : y ≤ 9) (sz : Nat) : Wv l yX2_setTo wsX2_setTo 0 0 0 0 [.ref (fa 0), .int (nI (x)), .int (nI (y))] g (wF g fa wt) sz (wF g fa (wtU x y wt 8)) := by
  refine Met.ofW (cc := cX2_setTo) (maxL := 6) (ret := none) (by decide) rfl ?_
  intro p e s m args below meth c s₁ BB hml hv
  obtain ⟨hargs, hsz, hP, hK, hD0⟩ := hv
  have hx := BB.exec
  have hb := BB.bytes
  have hr := BB.returns
  have hts : ∀ w ∈ BIG, w.before args s = true := fun w h => atoms_spec (ws := wsX2_setTo) BB.pre w (List.mem_cons_of_mem _ h)
  have hown : s.vm.findClass RX2 = some m.cls := findClass_of_methodNamed BB.named
  have hlocks := BB.notSynchronized
  obtain ⟨RR, hRR⟩ : ∃ RR, RR = (headSpec wsX2_setTo ⟨0, 0, 0, 0⟩).room := ⟨_, rfl⟩
  have hR1 : RR.frames = 0 := by rw [hRR]; rfl
  have hR2 : RR.locals = 0 := by rw [hRR]; rfl
  have hR3 : RR.cells = 0 := by rw [hRR]; rfl
  have hR4 : RR.slots = 0 := by rw [hRR]; rfl
  have hl := lv_entry ([.ref (fa 0), .int (nI (x)), .int (nI (y))]) (n := 6) (Nat.le_of_ble_eq_true rfl)
  have hent : entryFrame m args 6 = F0 m 0 ((lg_sl ([.ref (fa 0), .int (nI (x)), .int (nI (y))]) ++ List.replicate (6 - (lg_sl ([.ref (fa 0), .int (nI (x)), .int (nI (y))])).length) Slot.unset).toArray) [] := by rw [hargs, lg_entry_eq]
  rw [hent]
  generalize (lg_sl ([.ref (fa 0), .int (nI (x)), .int (nI (y))]) ++ List.replicate (6 - (lg_sl ([.ref (fa 0), .int (nI (x)), .int (nI (y))])).length) Slot.unset).toArray = ls at hl ⊢
  have hl : lv_has ls 6 [(0, .ref (fa 0)), (1, .int (nI (x))), (2, .int (nI (y)))] := hl
  subst hsz
  have hD := hD0.self (sz := s.heap.size)
  generalize hAe : va_A (wF g fa wt) s.heap.size = A at hD ⊢
  have hA : ∀ q : Nat, s.heap.size ≤ q → A q := fun q h => by rw [← hAe]; exact Or.inr h
  have hS : va_S A s.heap s.heap [] := va_S.rf
  refine q_ab (R := RR) hRR ?_
  generalize hQQ : MQ below _ args s _ _ _ = QQ
  refine lv_iconst (v := nI (0)) hx hb dX2_setTo_0 (by decide) ?_
  refine lv_istore_n (lv' := [(3, .int (nI (0))), (0, .ref (fa 0)), (1, .int (nI (x))), (2, .int (nI (y)))]) hx hb dX2_setTo_1 rfl hl (by decide) rfl (fun ls hl => ?_)
  have loop : ∀ (k : Nat) (j : Nat) (H : Heap) (locs : List Loc) (ls : Array Slot), (j ≤ 8) → (8 < j + k) → va_P g.1 vwCl (wF g fa (wtU x y wt j)) H → va_D A (wF g fa (wtU x y wt j)) → va_S A s.heap H locs → lv_has ls 6 [(0, .ref (fa 0)), (1, .int (nI (x))), (2, .int (nI (y))), (3, .int (nI (j)))] → W p l e RR s m args below meth c H locs 0 0 QQ (F0 m 2 ls []) := by
    intro k
    induction k with
    | zero => intro j H locs ls hj hk hP hD hS hl; exact absurd hk (by omega)
    | succ k ih =>
      intro j H locs ls hj hk hP hD hS hl
      refine lv_iload_n hx hb dX2_setTo_2 rfl (lv_at hl 3 rfl) ?_
      refine lv_bipush (v := nI (8)) hx hb dX2_setTo_3 (by decide) ?_
      refine bn_ge (tgt := 57) hx hb (by omega) (by omega) dX2_setTo_5 (by decide) (fun c1 => ?_) (fun c1 => ?_)
      · have hj : j = 8 := by omega
        subst hj
        subst hQQ
        exact W.vret hx hb hr (fun t9 ht _ => ⟨⟨(), rfl, trivial, hpT ht hP⟩, hS.F ht⟩) hS.2.2 dX2_setTo_57
      · refine lv_iconst (v := nI (1)) hx hb dX2_setTo_8 (by decide) ?_
        refine lv_istore (lv' := [(4, .int (nI (1))), (0, .ref (fa 0)), (1, .int (nI (x))), (2, .int (nI (y))), (3, .int (nI (j)))]) hx hb dX2_setTo_9 hl (by decide) rfl (fun ls hl => ?_)
        refine lv_iconst (v := nI (0)) hx hb dX2_setTo_11 (by decide) ?_
        refine lv_istore (lv' := [(5, .int (nI (0))), (4, .int (nI (1))), (0, .ref (fa 0)), (1, .int (nI (x))), (2, .int (nI (y))), (3, .int (nI (j)))]) hx hb dX2_setTo_12 hl (by decide) rfl (fun ls hl => ?_)
        have inner : ∀ (k2 i : Nat) (ls : Array Slot), i ≤ 7 → 7 < i + k2 → lv_has ls 6 [(0, .ref (fa 0)), (1, .int (nI (x))), (2, .int (nI (y))), (3, .int (nI (j))), (4, .int (nI (wtP x y j i))), (5, .int (nI (i)))] → W p l e RR s m args below meth c H locs 0 0 QQ (F0 m 14 ls []) := by
          intro k2
          induction k2 with
          | zero => intro i ls hi hk2 hl; exact absurd hk2 (by omega)
          | succ k2 ih2 =>
            intro i ls hi hk2 hl
            refine lv_iload hx hb dX2_setTo_14 (lv_at hl 5 rfl) ?_
            refine lv_bipush (v := nI (7)) hx hb dX2_setTo_16 (by decide) ?_
            refine bn_ge (tgt := 43) hx hb (by omega) (by omega) dX2_setTo_18 (by decide) (fun c2 => ?_) (fun c2 => ?_)
            · have hi7 : i = 7 := by omega
              subst hi7
              refine lv_aload_n hx hb dX2_setTo_43 rfl (lv_at hl 0 rfl) ?_
              refine va_get (D := g.1) (ci := 2) (v := .ref (fa 1)) (C := RX2) (T := TX2) (N := 1) hx hb hts hiX2 hown hK.1 hP 0 rfl rfl 0 (by decide) (hts _ w_fl_X2_9) (fun _ h9 => h9) rfl dX2_setTo_44 ?_
              refine lv_iload_n hx hb dX2_setTo_47 rfl (lv_at hl 3 rfl) ?_
              refine lv_iload hx hb dX2_setTo_48 (lv_at hl 4 rfl) ?_
              refine n_iastE (enc := nI) (f := wtU x y wt j) (x := wtP x y j 7) (k := j) hx hb hK.1 hP hD hS 1 0 rfl rfl (by omega) (by decide) dX2_setTo_50 (fun H locs hP hD hS => ?_)
              have hP : va_P g.1 vwCl (wF g fa (wtU x y wt (j + 1))) H := hP
              have hD : va_D A (wF g fa (wtU x y wt (j + 1))) := hD
              refine lv_iinc (v := nI (j + 1)) (lv' := [(3, .int (nI (j + 1))), (0, .ref (fa 0)), (1, .int (nI (x))), (2, .int (nI (y))), (4, .int (nI (wtP x y j 7))), (5, .int (nI (7)))]) hx hb dX2_setTo_51 hl (k := 3) rfl (nI_1 _) (by decide) rfl (fun ls hl => ?_)
              refine lv_goto (tgt := 2) hx hb dX2_setTo_54 (by decide) ?_
              exact ih (j + 1) H locs ls (by omega) (by omega) hP hD hS (lv_sub hl [1, 2, 3, 0] rfl)
            · refine lv_iload hx hb dX2_setTo_21 (lv_at hl 4 rfl) ?_
              refine lv_iload hx hb dX2_setTo_23 (lv_at hl 5 rfl) ?_
              refine lv_iload_n hx hb dX2_setTo_25 rfl (lv_at hl 3 rfl) ?_
              refine bn_ge (tgt := 33) hx hb (by omega) (by omega) dX2_setTo_26 (by decide) (fun c3 => ?_) (fun c3 => ?_)
              · refine lv_iload_n hx hb dX2_setTo_33 rfl (lv_at hl 2 rfl) ?_
                refine n_imul hx hb dX2_setTo_34 ?_
                refine tp_i (y := nI (wtP x y j (i + 1))) (by rw [wtP, if_neg (by omega)]) ?_
                refine lv_istore (lv' := [(4, .int (nI (wtP x y j (i + 1)))), (0, .ref (fa 0)), (1, .int (nI (x))), (2, .int (nI (y))), (3, .int (nI (j))), (5, .int (nI (i)))]) hx hb dX2_setTo_35 hl (by decide) rfl (fun ls hl => ?_)
                refine lv_iinc (v := nI (i + 1)) (lv' := [(5, .int (nI (i + 1))), (4, .int (nI (wtP x y j (i + 1)))), (0, .ref (fa 0)), (1, .int (nI (x))), (2, .int (nI (y))), (3, .int (nI (j)))]) hx hb dX2_setTo_37 hl (k := 5) rfl (nI_1 _) (by decide) rfl (fun ls hl => ?_)
                refine lv_goto (tgt := 14) hx hb dX2_setTo_40 (by decide) ?_
                exact ih2 (i + 1) ls (by omega) (by omega) (lv_sub hl [2, 3, 4, 5, 1, 0] rfl)
              · refine lv_iload_n hx hb dX2_setTo_29 rfl (lv_at hl 1 rfl) ?_
                refine lv_goto (tgt := 34) hx hb dX2_setTo_30 (by decide) ?_
                refine n_imul hx hb dX2_setTo_34 ?_
                refine tp_i (y := nI (wtP x y j (i + 1))) (by rw [wtP, if_pos c3]) ?_
                refine lv_istore (lv' := [(4, .int (nI (wtP x y j (i + 1)))), (0, .ref (fa 0)), (1, .int (nI (x))), (2, .int (nI (y))), (3, .int (nI (j))), (5, .int (nI (i)))]) hx hb dX2_setTo_35 hl (by decide) rfl (fun ls hl => ?_)
                refine lv_iinc (v := nI (i + 1)) (lv' := [(5, .int (nI (i + 1))), (4, .int (nI (wtP x y j (i + 1)))), (0, .ref (fa 0)), (1, .int (nI (x))), (2, .int (nI (y))), (3, .int (nI (j)))]) hx hb dX2_setTo_37 hl (k := 5) rfl (nI_1 _) (by decide) rfl (fun ls hl => ?_)
                refine lv_goto (tgt := 14) hx hb dX2_setTo_40 (by decide) ?_
                exact ih2 (i + 1) ls (by omega) (by omega) (lv_sub hl [2, 3, 4, 5, 1, 0] rfl)
        exact inner 8 0 ls (by omega) (by omega) (lv_sub hl [2, 3, 4, 5, 1, 0] rfl)
  exact loop 9 0 _ _ ls (by omega) (by omega) hP hD hS (lv_sub hl [1, 2, 3, 0] rfl)

