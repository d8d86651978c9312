set_option maxHeartbeats 4000000 in
set_option maxRecDepth 100000 in
theorem k_shareAt (l : Launch) (g : GG) (b : BinT) (i : Nat) (hi : i < 32) (hp : bPl b i < 2 ^ 31) : Rd l yX0_shareAt wsX0_shareAt 1 21 [.ref (bA b 0), .int (nI (i))] g (wB g b) (nI (shB b i)) := by
  refine Met.ofW (cc := cX0_shareAt) (maxL := 2) (ret := (some .int)) (by decide) rfl ?_
  intro p e s m args below meth c s₁ BB hml hv
  obtain ⟨hargs, hP, hK⟩ := hv
  have hx := BB.exec
  have hb := BB.bytes
  have hr := BB.returns
  have hts : ∀ w ∈ BIG, w.before args s = true := fun w h => atoms_spec (ws := wsX0_shareAt) BB.pre w (List.mem_cons_of_mem _ h)
  have hown : s.vm.findClass RX0 = some m.cls := findClass_of_methodNamed BB.named
  have hlocks := BB.notSynchronized
  obtain ⟨RR, hRR⟩ : ∃ RR, RR = (headSpec wsX0_shareAt ⟨1, 0, 0, 21⟩).room := ⟨_, rfl⟩
  have hR1 : RR.frames = 1 := by rw [hRR]; rfl
  have hR2 : RR.locals = 21 := by rw [hRR]; rfl
  have hR3 : RR.cells = 0 := by rw [hRR]; rfl
  have hR4 : RR.slots = 0 := by rw [hRR]; rfl
  have hl := lv_entry ([.ref (bA b 0), .int (nI (i))]) (n := 2) (Nat.le_of_ble_eq_true rfl)
  have hent : entryFrame m args 2 = F0 m 0 ((lg_sl ([.ref (bA b 0), .int (nI (i))]) ++ List.replicate (2 - (lg_sl ([.ref (bA b 0), .int (nI (i))])).length) Slot.unset).toArray) [] := by rw [hargs, lg_entry_eq]
  rw [hent]
  generalize (lg_sl ([.ref (bA b 0), .int (nI (i))]) ++ List.replicate (2 - (lg_sl ([.ref (bA b 0), .int (nI (i))])).length) Slot.unset).toArray = ls at hl ⊢
  have hl : lv_has ls 2 [(0, .ref (bA b 0)), (1, .int (nI (i)))] := hl
  refine q_ab (R := RR) hRR ?_
  generalize hQQ : MQ below _ args s _ _ _ = QQ
  refine lv_aload_n hx hb dX0_shareAt_0 rfl (lv_at hl 0 rfl) ?_
  refine lv_iload_n hx hb dX0_shareAt_1 rfl (lv_at hl 1 rfl) ?_
  refine cR_i (W.runV (As := [.int (nI (i))]) (rest := []) ⟨hx, hb, hml, hown, hts⟩ (k_isRow l g b i hi hp) (cwV 1 hts (gV w_ml_X0_38 w_im_X0_isRow w_sel_X0_isRow w_ini_X0 w_co_X0_isRow) rfl rfl rfl (by decide +kernel) (by rw [hR1, hR2]; exact ⟨Nat.le_of_ble_eq_true rfl, Nat.le_of_ble_eq_true rfl⟩)) (preV_rd hP hK (va_recv hK.1 hP (ci := 0) (q0 := 0) rfl rfl)) rfl rfl hl.1 rfl (lv_room (Nat.le_of_ble_eq_true rfl)) dX0_shareAt_2 ⟨by rw [hR3]; omega, by rw [hR4]; omega⟩) ?_
  refine bb_eq (tgt := 17) hx hb dX0_shareAt_5 (by decide) (fun h1 => ?_) (fun h1 => ?_)
  · refine lv_iconst (v := nI (0)) hx hb dX0_shareAt_17 (by decide) ?_
    subst hQQ
    exact W.iret hx hb hr (fun t9 ht _ => rdI (by rw [shB, if_neg (of_decide_eq_false h1)]) ht) (fun q h => absurd h List.not_mem_nil) dX0_shareAt_18
  · refine lv_aload_n hx hb dX0_shareAt_8 rfl (lv_at hl 0 rfl) ?_
    refine va_get (D := g.1) (ci := 0) (v := .ref (bA b 2)) (C := RX0) (T := TX0) (N := 8) hx hb hts hiX0 hown hK.1 hP 0 rfl rfl 3 (by decide) (hts _ w_fl_X0_22) (fun _ h9 => h9) rfl dX0_shareAt_9 ?_
    refine lv_iload_n hx hb dX0_shareAt_12 rfl (lv_at hl 1 rfl) ?_
    refine n_iald (k := i) (v := nI (bAm b i)) hx hb hK.1 hP 2 0 rfl rfl (by omega) (by decide) (rfl) dX0_shareAt_13 ?_
    refine lv_goto (tgt := 18) hx hb dX0_shareAt_14 (by decide) ?_
    subst hQQ
    exact W.iret hx hb hr (fun t9 ht _ => rdI (by rw [shB, if_pos (of_decide_eq_true h1)]) ht) (fun q h => absurd h List.not_mem_nil) dX0_shareAt_18

set_option maxHeartbeats 4000000 in
set_option maxRecDepth 100000 in
theorem k_indexFor (l : Launch) (g : GG) (b : BinT) (q ix : Nat) (hn : bN b ≤ 32) (hpl : ∀ i, i < bN b → bPl b i < 2 ^ 31) (hq : q < 2 ^ 31) (h1 : ix ≤ bN b) (h2 : ∀ i, i < ix → bPl b i < q) (h3 : ix < bN b → q ≤ bPl b ix) : Rd l yX0_indexFor wsX0_indexFor 0 0 [.ref (bA b 0), .int (nI (q))] g (wB g b) (nI ix) := by
  refine Met.ofW (cc := cX0_indexFor) (maxL := 3) (ret := (some .int)) (by decide) rfl ?_
  intro p e s m args below meth c s₁ BB hml hv
  obtain ⟨hargs, hP, hK⟩ := hv
  have hx := BB.exec
  have hb := BB.bytes
  have hr := BB.returns
  have hts : ∀ w ∈ BIG, w.before args s = true := fun w h => atoms_spec (ws := wsX0_indexFor) BB.pre w (List.mem_cons_of_mem _ h)
  have hown : s.vm.findClass RX0 = some m.cls := findClass_of_methodNamed BB.named
  have hlocks := BB.notSynchronized
  obtain ⟨RR, hRR⟩ : ∃ RR, RR = (headSpec wsX0_indexFor ⟨0, 0, 0, 0⟩).room := ⟨_, rfl⟩
  have hR1 : RR.frames = 0 := by rw [hRR]; rfl
  have hR2 : RR.locals = 0 := by rw [hRR]; rfl
  have hR3 : RR.cells = 0 := by rw [hRR]; rfl
  have hR4 : RR.slots = 0 := by rw [hRR]; rfl
  have hl := lv_entry ([.ref (bA b 0), .int (nI (q))]) (n := 3) (Nat.le_of_ble_eq_true rfl)
  have hent : entryFrame m args 3 = F0 m 0 ((lg_sl ([.ref (bA b 0), .int (nI (q))]) ++ List.replicate (3 - (lg_sl ([.ref (bA b 0), .int (nI (q))])).length) Slot.unset).toArray) [] := by rw [hargs, lg_entry_eq]
  rw [hent]
  generalize (lg_sl ([.ref (bA b 0), .int (nI (q))]) ++ List.replicate (3 - (lg_sl ([.ref (bA b 0), .int (nI (q))])).length) Slot.unset).toArray = ls at hl ⊢
  have hl : lv_has ls 3 [(0, .ref (bA b 0)), (1, .int (nI (q)))] := hl
  refine q_ab (R := RR) hRR ?_
  generalize hQQ : MQ below _ args s _ _ _ = QQ
  refine lv_iconst (v := nI (0)) hx hb dX0_indexFor_0 (by decide) ?_
  refine lv_istore_n (lv' := [(2, .int (nI (0))), (0, .ref (bA b 0)), (1, .int (nI (q)))]) hx hb dX0_indexFor_1 rfl hl (by decide) rfl (fun ls hl => ?_)
  have loop : ∀ (k j : Nat) (ls : Array Slot), j ≤ ix → ix < j + k → lv_has ls 3 [(0, .ref (bA b 0)), (1, .int (nI q)), (2, .int (nI j))] → W p l e RR s m args below meth c s.heap [] 0 0 QQ (F0 m 2 ls []) := by
    intro k
    induction k with
    | zero => intro j ls h h5; exact absurd h5 (by omega)
    | succ k ih =>
      intro j ls hj hk hl
      refine lv_iload_n hx hb dX0_indexFor_2 rfl (lv_at hl 2 rfl) ?_
      refine lv_aload_n hx hb dX0_indexFor_3 rfl (lv_at hl 0 rfl) ?_
      refine va_get (D := g.1) (ci := 0) (v := .int (nI (bN b))) (C := RX0) (T := TX0) (N := 8) hx hb hts hiX0 hown hK.1 hP 0 rfl rfl 6 (by decide) (hts _ w_fl_X0_32) (fun _ h9 => h9) rfl dX0_indexFor_4 ?_
      refine bn_ge (tgt := 26) hx hb (by omega) (by omega) dX0_indexFor_7 (by decide) (fun c1 => ?_) (fun c1 => ?_)
      · refine lv_iload_n hx hb dX0_indexFor_26 rfl (lv_at hl 2 rfl) ?_
        subst hQQ
        exact W.iret hx hb hr (fun t9 ht _ => rdI (by rw [show j = ix by omega]) ht) (fun q h => absurd h List.not_mem_nil) dX0_indexFor_27
      · have hpj := hpl j c1
        refine lv_aload_n hx hb dX0_indexFor_10 rfl (lv_at hl 0 rfl) ?_
        refine va_get (D := g.1) (ci := 0) (v := .ref (bA b 1)) (C := RX0) (T := TX0) (N := 8) hx hb hts hiX0 hown hK.1 hP 0 rfl rfl 2 (by decide) (hts _ w_fl_X0_18) (fun _ h9 => h9) rfl dX0_indexFor_11 ?_
        refine lv_iload_n hx hb dX0_indexFor_14 rfl (lv_at hl 2 rfl) ?_
        refine n_iald (k := j) (v := nI (bPl b j)) hx hb hK.1 hP 1 0 rfl rfl (by omega) (by decide) (rfl) dX0_indexFor_15 ?_
        refine lv_iload_n hx hb dX0_indexFor_16 rfl (lv_at hl 1 rfl) ?_
        refine bn_ge (tgt := 26) hx hb (by omega) (by omega) dX0_indexFor_17 (by decide) (fun c2 => ?_) (fun c2 => ?_)
        · have e : j = ix := by
            rcases Nat.lt_or_ge j ix with z | z
            · exact absurd (h2 j z) (by omega)
            · omega
          refine lv_iload_n hx hb dX0_indexFor_26 rfl (lv_at hl 2 rfl) ?_
          subst hQQ
          exact W.iret hx hb hr (fun t9 ht _ => rdI (by rw [e]) ht) (fun q h => absurd h List.not_mem_nil) dX0_indexFor_27
        · have hlt : j < ix := by
            rcases Nat.lt_or_ge j ix with z | z
            · exact z
            · exact absurd (h3 (by omega)) (by rw [show ix = j by omega]; omega)
          refine lv_iinc (v := nI (j + 1)) (lv' := [(2, .int (nI (j + 1))), (0, .ref (bA b 0)), (1, .int (nI (q)))]) hx hb dX0_indexFor_20 hl (k := 2) rfl (nI_1 _) (by decide) rfl (fun ls hl => ?_)
          refine lv_goto (tgt := 2) hx hb dX0_indexFor_23 (by decide) ?_
          exact ih (j + 1) ls hlt (by omega) (lv_sub hl [1, 2, 0] rfl)
  exact loop (ix + 1) 0 ls (Nat.zero_le _) (by omega) (lv_sub hl [1, 2, 0] rfl)

set_option maxHeartbeats 4000000 in
set_option maxRecDepth 100000 in
theorem k_isTaken (l : Launch) (g : GG) (b : BinT) (i q : Nat) (hi : i < 2 ^ 31) (hn : bN b ≤ 32) (hpl : ∀ i, i < bN b → bPl b i < 2 ^ 31) (hq : q < 2 ^ 31) : Rz l yX0_isTaken wsX0_isTaken 0 0 [.ref (bA b 0), .int (nI (i)), .int (nI (q))] g (wB g b) (bI (decide (i < bN b ∧ bPl b i = q))) := by
  refine Met.ofW (cc := cX0_isTaken) (maxL := 3) (ret := (some .boolean)) (by decide) rfl ?_
  intro p e s m args below meth c s₁ BB hml hv
  obtain ⟨hargs, hP, hK⟩ := hv
  have hx := BB.exec
  have hb := BB.bytes
  have hr := BB.returns
  have hts : ∀ w ∈ BIG, w.before args s = true := fun w h => atoms_spec (ws := wsX0_isTaken) BB.pre w (List.mem_cons_of_mem _ h)
  have hown : s.vm.findClass RX0 = some m.cls := findClass_of_methodNamed BB.named
  have hlocks := BB.notSynchronized
  obtain ⟨RR, hRR⟩ : ∃ RR, RR = (headSpec wsX0_isTaken ⟨0, 0, 0, 0⟩).room := ⟨_, rfl⟩
  have hR1 : RR.frames = 0 := by rw [hRR]; rfl
  have hR2 : RR.locals = 0 := by rw [hRR]; rfl
  have hR3 : RR.cells = 0 := by rw [hRR]; rfl
  have hR4 : RR.slots = 0 := by rw [hRR]; rfl
  have hl := lv_entry ([.ref (bA b 0), .int (nI (i)), .int (nI (q))]) (n := 3) (Nat.le_of_ble_eq_true rfl)
  have hent : entryFrame m args 3 = F0 m 0 ((lg_sl ([.ref (bA b 0), .int (nI (i)), .int (nI (q))]) ++ List.replicate (3 - (lg_sl ([.ref (bA b 0), .int (nI (i)), .int (nI (q))])).length) Slot.unset).toArray) [] := by rw [hargs, lg_entry_eq]
  rw [hent]
  generalize (lg_sl ([.ref (bA b 0), .int (nI (i)), .int (nI (q))]) ++ List.replicate (3 - (lg_sl ([.ref (bA b 0), .int (nI (i)), .int (nI (q))])).length) Slot.unset).toArray = ls at hl ⊢
  have hl : lv_has ls 3 [(0, .ref (bA b 0)), (1, .int (nI (i))), (2, .int (nI (q)))] := hl
  refine q_ab (R := RR) hRR ?_
  generalize hQQ : MQ below _ args s _ _ _ = QQ
  refine lv_iload_n hx hb dX0_isTaken_0 rfl (lv_at hl 1 rfl) ?_
  refine lv_aload_n hx hb dX0_isTaken_1 rfl (lv_at hl 0 rfl) ?_
  refine va_get (D := g.1) (ci := 0) (v := .int (nI (bN b))) (C := RX0) (T := TX0) (N := 8) hx hb hts hiX0 hown hK.1 hP 0 rfl rfl 6 (by decide) (hts _ w_fl_X0_32) (fun _ h9 => h9) rfl dX0_isTaken_2 ?_
  refine bn_ge (tgt := 22) hx hb (by omega) (by omega) dX0_isTaken_5 (by decide) (fun c1 => ?_) (fun c1 => ?_)
  · refine lv_iconst (v := bI (false)) hx hb dX0_isTaken_22 (by decide) ?_
    subst hQQ
    exact W.zret hx hb hr (nar_b _) (fun t9 ht _ => rdI (by rw [decide_eq_false (fun z => absurd z.1 (by omega))]) ht) (fun q h => absurd h List.not_mem_nil) dX0_isTaken_23
  · have hpj := hpl i c1
    refine lv_aload_n hx hb dX0_isTaken_8 rfl (lv_at hl 0 rfl) ?_
    refine va_get (D := g.1) (ci := 0) (v := .ref (bA b 1)) (C := RX0) (T := TX0) (N := 8) hx hb hts hiX0 hown hK.1 hP 0 rfl rfl 2 (by decide) (hts _ w_fl_X0_18) (fun _ h9 => h9) rfl dX0_isTaken_9 ?_
    refine lv_iload_n hx hb dX0_isTaken_12 rfl (lv_at hl 1 rfl) ?_
    refine n_iald (k := i) (v := nI (bPl b i)) hx hb hK.1 hP 1 0 rfl rfl (by omega) (by decide) (rfl) dX0_isTaken_13 ?_
    refine lv_iload_n hx hb dX0_isTaken_14 rfl (lv_at hl 2 rfl) ?_
    refine bn_ne (tgt := 22) hx hb (by omega) (by omega) dX0_isTaken_15 (by decide) (fun c2 => ?_) (fun c2 => ?_)
    · refine lv_iconst (v := bI (false)) hx hb dX0_isTaken_22 (by decide) ?_
      subst hQQ
      exact W.zret hx hb hr (nar_b _) (fun t9 ht _ => rdI (by rw [decide_eq_false (fun z => c2 z.2)]) ht) (fun q h => absurd h List.not_mem_nil) dX0_isTaken_23
    · refine lv_iconst (v := bI (true)) hx hb dX0_isTaken_18 (by decide) ?_
      refine lv_goto (tgt := 23) hx hb dX0_isTaken_19 (by decide) ?_
      subst hQQ
      exact W.zret hx hb hr (nar_b _) (fun t9 ht _ => rdI (by rw [decide_eq_true ⟨c1, c2⟩]) ht) (fun q h => absurd h List.not_mem_nil) dX0_isTaken_23

set_option maxHeartbeats 4000000 in
set_option maxRecDepth 100000 in
theorem k_hourOfWrong (l : Launch) (g : GG) (b : BinT) (x : Int32) (hn : bN b ≤ 32) (hpl : ∀ i, i < bN b → bPl b i < 2 ^ 31) : Rd l yX0_hourOfWrong wsX0_hourOfWrong 1 21 [.ref (bA b 0), .int (x)] g (wB g b) (gI ((kth (bWr b) x (bN b) 0 0).map (hrB b))) := by
  refine Met.ofW (cc := cX0_hourOfWrong) (maxL := 4) (ret := (some .int)) (by decide) rfl ?_
  intro p e s m args below meth c s₁ BB hml hv
  obtain ⟨hargs, hP, hK⟩ := hv
  have hx := BB.exec
  have hb := BB.bytes
  have hr := BB.returns
  have hts : ∀ w ∈ BIG, w.before args s = true := fun w h => atoms_spec (ws := wsX0_hourOfWrong) BB.pre w (List.mem_cons_of_mem _ h)
  have hown : s.vm.findClass RX0 = some m.cls := findClass_of_methodNamed BB.named
  have hlocks := BB.notSynchronized
  obtain ⟨RR, hRR⟩ : ∃ RR, RR = (headSpec wsX0_hourOfWrong ⟨1, 0, 0, 21⟩).room := ⟨_, rfl⟩
  have hR1 : RR.frames = 1 := by rw [hRR]; rfl
  have hR2 : RR.locals = 21 := by rw [hRR]; rfl
  have hR3 : RR.cells = 0 := by rw [hRR]; rfl
  have hR4 : RR.slots = 0 := by rw [hRR]; rfl
  have hl := lv_entry ([.ref (bA b 0), .int (x)]) (n := 4) (Nat.le_of_ble_eq_true rfl)
  have hent : entryFrame m args 4 = F0 m 0 ((lg_sl ([.ref (bA b 0), .int (x)]) ++ List.replicate (4 - (lg_sl ([.ref (bA b 0), .int (x)])).length) Slot.unset).toArray) [] := by rw [hargs, lg_entry_eq]
  rw [hent]
  generalize (lg_sl ([.ref (bA b 0), .int (x)]) ++ List.replicate (4 - (lg_sl ([.ref (bA b 0), .int (x)])).length) Slot.unset).toArray = ls at hl ⊢
  have hl : lv_has ls 4 [(0, .ref (bA b 0)), (1, .int (x))] := hl
  refine q_ab (R := RR) hRR ?_
  generalize hQQ : MQ below _ args s _ _ _ = QQ
  refine lv_iconst (v := nI (0)) hx hb dX0_hourOfWrong_0 (by decide) ?_
  refine lv_istore_n (lv' := [(2, .int (nI (0))), (0, .ref (bA b 0)), (1, .int (x))]) hx hb dX0_hourOfWrong_1 rfl hl (by decide) rfl (fun ls hl => ?_)
  refine lv_iconst (v := nI (0)) hx hb dX0_hourOfWrong_2 (by decide) ?_
  refine lv_istore_n (lv' := [(3, .int (nI (0))), (2, .int (nI (0))), (0, .ref (bA b 0)), (1, .int (x))]) hx hb dX0_hourOfWrong_3 rfl hl (by decide) rfl (fun ls hl => ?_)
  have loop : ∀ (k : Nat) (j : Nat) (f : Nat) (ls : Array Slot), (j ≤ bN b) → (f ≤ j) → (bN b < j + k) → (kth (bWr b) x (bN b - j) j f = kth (bWr b) x (bN b) 0 0) → lv_has ls 4 [(0, .ref (bA b 0)), (1, .int (x)), (2, .int (nI (f))), (3, .int (nI (j)))] → W p l e RR s m args below meth c s.heap [] 0 0 QQ (F0 m 4 ls []) := by
    intro k
    induction k with
    | zero => intro j f ls hj hf hk he hl; exact absurd hk (by omega)
    | succ k ih =>
      intro j f ls hj hf hk he hl
      refine lv_iload_n hx hb dX0_hourOfWrong_4 rfl (lv_at hl 3 rfl) ?_
      refine lv_aload_n hx hb dX0_hourOfWrong_5 rfl (lv_at hl 0 rfl) ?_
      refine va_get (D := g.1) (ci := 0) (v := .int (nI (bN b))) (C := RX0) (T := TX0) (N := 8) hx hb hts hiX0 hown hK.1 hP 0 rfl rfl 6 (by decide) (hts _ w_fl_X0_32) (fun _ h9 => h9) rfl dX0_hourOfWrong_6 ?_
      refine bn_ge (tgt := 41) hx hb (by omega) (by omega) dX0_hourOfWrong_9 (by decide) (fun c1 => ?_) (fun c1 => ?_)
      · refine lv_iconst (v := (-1)) hx hb dX0_hourOfWrong_41 (by decide) ?_
        subst hQQ
        exact W.iret hx hb hr (fun t9 ht _ => rdI (by rw [← he, show bN b - j = 0 by omega]; rfl) ht) (fun q h => absurd h List.not_mem_nil) dX0_hourOfWrong_42
      · rw [show bN b - j = (bN b - (j + 1)) + 1 by omega, kth] at he
        refine lv_aload_n hx hb dX0_hourOfWrong_12 rfl (lv_at hl 0 rfl) ?_
        refine va_get (D := g.1) (ci := 0) (v := .ref (bA b 3)) (C := RX0) (T := TX0) (N := 8) hx hb hts hiX0 hown hK.1 hP 0 rfl rfl 4 (by decide) (hts _ w_fl_X0_25) (fun _ h9 => h9) rfl dX0_hourOfWrong_13 ?_
        refine lv_iload_n hx hb dX0_hourOfWrong_16 rfl (lv_at hl 3 rfl) ?_
        refine n_zald (k := j) (v := bI (bWr b j)) hx hb hK.1 hP 3 1 rfl rfl (by omega) (by decide) (rfl) dX0_hourOfWrong_17 ?_
        refine bb_eq (tgt := 35) hx hb dX0_hourOfWrong_18 (by decide) (fun c2 => ?_) (fun c2 => ?_)
        · rw [if_neg (by rw [c2]; decide)] at he
          refine lv_iinc (v := nI (j + 1)) (lv' := [(3, .int (nI (j + 1))), (0, .ref (bA b 0)), (1, .int (x)), (2, .int (nI (f)))]) hx hb dX0_hourOfWrong_35 hl (k := 3) rfl (nI_1 _) (by decide) rfl (fun ls hl => ?_)
          refine lv_goto (tgt := 4) hx hb dX0_hourOfWrong_38 (by decide) ?_
          exact ih (j + 1) f ls (by omega) (by omega) (by omega) he (lv_sub hl [1, 2, 3, 0] rfl)
        · rw [if_pos c2] at he
          refine lv_iload_n hx hb dX0_hourOfWrong_21 rfl (lv_at hl 2 rfl) ?_
          refine lv_iload_n hx hb dX0_hourOfWrong_22 rfl (lv_at hl 1 rfl) ?_
          refine lv_icmp_ne (tgt := 32) hx hb dX0_hourOfWrong_23 (by decide) (fun c3 => ?_) (fun c3 => ?_)
          · rw [if_neg c3] at he
            refine lv_iinc (v := nI (f + 1)) (lv' := [(2, .int (nI (f + 1))), (0, .ref (bA b 0)), (1, .int (x)), (3, .int (nI (j)))]) hx hb dX0_hourOfWrong_32 hl (k := 2) rfl (nI_1 _) (by decide) rfl (fun ls hl => ?_)
            refine lv_iinc (v := nI (j + 1)) (lv' := [(3, .int (nI (j + 1))), (2, .int (nI (f + 1))), (0, .ref (bA b 0)), (1, .int (x))]) hx hb dX0_hourOfWrong_35 hl (k := 3) rfl (nI_1 _) (by decide) rfl (fun ls hl => ?_)
            refine lv_goto (tgt := 4) hx hb dX0_hourOfWrong_38 (by decide) ?_
            exact ih (j + 1) (f + 1) ls (by omega) (by omega) (by omega) he (lv_sub hl [2, 3, 1, 0] rfl)
          · rw [if_pos c3] at he
            refine lv_aload_n hx hb dX0_hourOfWrong_26 rfl (lv_at hl 0 rfl) ?_
            refine lv_iload_n hx hb dX0_hourOfWrong_27 rfl (lv_at hl 3 rfl) ?_
            refine cR_i (W.runV (As := [.int (nI (j))]) (rest := []) ⟨hx, hb, hml, hown, hts⟩ (k_hourAt l g b j (by omega) (hpl j c1)) (cwV 1 hts (gV w_ml_X0_63 w_im_X0_hourAt w_sel_X0_hourAt w_ini_X0 w_co_X0_hourAt) rfl rfl rfl (by decide +kernel) (by rw [hR1, hR2]; exact ⟨Nat.le_of_ble_eq_true rfl, Nat.le_of_ble_eq_true rfl⟩)) (preV_rd hP hK (va_recv hK.1 hP (ci := 0) (q0 := 0) rfl rfl)) rfl rfl hl.1 rfl (lv_room (Nat.le_of_ble_eq_true rfl)) dX0_hourOfWrong_28 ⟨by rw [hR3]; omega, by rw [hR4]; omega⟩) ?_
            subst hQQ
            exact W.iret hx hb hr (fun t9 ht _ => rdI (by rw [← he]; rfl) ht) (fun q h => absurd h List.not_mem_nil) dX0_hourOfWrong_31
  exact loop (bN b + 1) 0 0 ls (Nat.zero_le _) (Nat.le_refl _) (by omega) rfl (lv_sub hl [2, 3, 1, 0] rfl)

set_option maxHeartbeats 4000000 in
set_option maxRecDepth 100000 in
theorem k_indexOfEmptying (l : Launch) (g : GG) (b : BinT) (x : Int32) (hn : bN b ≤ 32) (hpl : ∀ i, i < bN b → bPl b i < 2 ^ 31) : Rd l yX0_indexOfEmptying wsX0_indexOfEmptying 1 21 [.ref (bA b 0), .int (x)] g (wB g b) (gI (kth (fun i => !rowB b i) x (bN b) 0 0)) := by
  refine Met.ofW (cc := cX0_indexOfEmptying) (maxL := 4) (ret := (some .int)) (by decide) rfl ?_
  intro p e s m args below meth c s₁ BB hml hv
  obtain ⟨hargs, hP, hK⟩ := hv
  have hx := BB.exec
  have hb := BB.bytes
  have hr := BB.returns
  have hts : ∀ w ∈ BIG, w.before args s = true := fun w h => atoms_spec (ws := wsX0_indexOfEmptying) BB.pre w (List.mem_cons_of_mem _ h)
  have hown : s.vm.findClass RX0 = some m.cls := findClass_of_methodNamed BB.named
  have hlocks := BB.notSynchronized
  obtain ⟨RR, hRR⟩ : ∃ RR, RR = (headSpec wsX0_indexOfEmptying ⟨1, 0, 0, 21⟩).room := ⟨_, rfl⟩
  have hR1 : RR.frames = 1 := by rw [hRR]; rfl
  have hR2 : RR.locals = 21 := by rw [hRR]; rfl
  have hR3 : RR.cells = 0 := by rw [hRR]; rfl
  have hR4 : RR.slots = 0 := by rw [hRR]; rfl
  have hl := lv_entry ([.ref (bA b 0), .int (x)]) (n := 4) (Nat.le_of_ble_eq_true rfl)
  have hent : entryFrame m args 4 = F0 m 0 ((lg_sl ([.ref (bA b 0), .int (x)]) ++ List.replicate (4 - (lg_sl ([.ref (bA b 0), .int (x)])).length) Slot.unset).toArray) [] := by rw [hargs, lg_entry_eq]
  rw [hent]
  generalize (lg_sl ([.ref (bA b 0), .int (x)]) ++ List.replicate (4 - (lg_sl ([.ref (bA b 0), .int (x)])).length) Slot.unset).toArray = ls at hl ⊢
  have hl : lv_has ls 4 [(0, .ref (bA b 0)), (1, .int (x))] := hl
  refine q_ab (R := RR) hRR ?_
  generalize hQQ : MQ below _ args s _ _ _ = QQ
  refine lv_iconst (v := nI (0)) hx hb dX0_indexOfEmptying_0 (by decide) ?_
  refine lv_istore_n (lv' := [(2, .int (nI (0))), (0, .ref (bA b 0)), (1, .int (x))]) hx hb dX0_indexOfEmptying_1 rfl hl (by decide) rfl (fun ls hl => ?_)
  refine lv_iconst (v := nI (0)) hx hb dX0_indexOfEmptying_2 (by decide) ?_
  refine lv_istore_n (lv' := [(3, .int (nI (0))), (2, .int (nI (0))), (0, .ref (bA b 0)), (1, .int (x))]) hx hb dX0_indexOfEmptying_3 rfl hl (by decide) rfl (fun ls hl => ?_)
  have loop : ∀ (k : Nat) (j : Nat) (f : Nat) (ls : Array Slot), (j ≤ bN b) → (f ≤ j) → (bN b < j + k) → (kth (fun i => !rowB b i) x (bN b - j) j f = kth (fun i => !rowB b i) x (bN b) 0 0) → lv_has ls 4 [(0, .ref (bA b 0)), (1, .int (x)), (2, .int (nI (f))), (3, .int (nI (j)))] → W p l e RR s m args below meth c s.heap [] 0 0 QQ (F0 m 4 ls []) := by
    intro k
    induction k with
    | zero => intro j f ls hj hf hk he hl; exact absurd hk (by omega)
    | succ k ih =>
      intro j f ls hj hf hk he hl
      refine lv_iload_n hx hb dX0_indexOfEmptying_4 rfl (lv_at hl 3 rfl) ?_
      refine lv_aload_n hx hb dX0_indexOfEmptying_5 rfl (lv_at hl 0 rfl) ?_
      refine va_get (D := g.1) (ci := 0) (v := .int (nI (bN b))) (C := RX0) (T := TX0) (N := 8) hx hb hts hiX0 hown hK.1 hP 0 rfl rfl 6 (by decide) (hts _ w_fl_X0_32) (fun _ h9 => h9) rfl dX0_indexOfEmptying_6 ?_
      refine bn_ge (tgt := 36) hx hb (by omega) (by omega) dX0_indexOfEmptying_9 (by decide) (fun c1 => ?_) (fun c1 => ?_)
      · refine lv_iconst (v := (-1)) hx hb dX0_indexOfEmptying_36 (by decide) ?_
        subst hQQ
        exact W.iret hx hb hr (fun t9 ht _ => rdI (by rw [← he, show bN b - j = 0 by omega]; rfl) ht) (fun q h => absurd h List.not_mem_nil) dX0_indexOfEmptying_37
      · rw [show bN b - j = (bN b - (j + 1)) + 1 by omega, kth] at he
        refine lv_aload_n hx hb dX0_indexOfEmptying_12 rfl (lv_at hl 0 rfl) ?_
        refine lv_iload_n hx hb dX0_indexOfEmptying_13 rfl (lv_at hl 3 rfl) ?_
        refine cR_i (W.runV (As := [.int (nI (j))]) (rest := []) ⟨hx, hb, hml, hown, hts⟩ (k_isRow l g b j (by omega) (hpl j c1)) (cwV 1 hts (gV w_ml_X0_38 w_im_X0_isRow w_sel_X0_isRow w_ini_X0 w_co_X0_isRow) rfl rfl rfl (by decide +kernel) (by rw [hR1, hR2]; exact ⟨Nat.le_of_ble_eq_true rfl, Nat.le_of_ble_eq_true rfl⟩)) (preV_rd hP hK (va_recv hK.1 hP (ci := 0) (q0 := 0) rfl rfl)) rfl rfl hl.1 rfl (lv_room (Nat.le_of_ble_eq_true rfl)) dX0_indexOfEmptying_14 ⟨by rw [hR3]; omega, by rw [hR4]; omega⟩) ?_
        refine bb_ne (tgt := 30) hx hb dX0_indexOfEmptying_17 (by decide) (fun c2 => ?_) (fun c2 => ?_)
        · rw [if_neg (by rw [c2]; decide)] at he
          refine lv_iinc (v := nI (j + 1)) (lv' := [(3, .int (nI (j + 1))), (0, .ref (bA b 0)), (1, .int (x)), (2, .int (nI (f)))]) hx hb dX0_indexOfEmptying_30 hl (k := 3) rfl (nI_1 _) (by decide) rfl (fun ls hl => ?_)
          refine lv_goto (tgt := 4) hx hb dX0_indexOfEmptying_33 (by decide) ?_
          exact ih (j + 1) f ls (by omega) (by omega) (by omega) he (lv_sub hl [1, 2, 3, 0] rfl)
        · rw [if_pos (by rw [c2]; rfl)] at he
          refine lv_iload_n hx hb dX0_indexOfEmptying_20 rfl (lv_at hl 2 rfl) ?_
          refine lv_iload_n hx hb dX0_indexOfEmptying_21 rfl (lv_at hl 1 rfl) ?_
          refine lv_icmp_ne (tgt := 27) hx hb dX0_indexOfEmptying_22 (by decide) (fun c3 => ?_) (fun c3 => ?_)
          · rw [if_neg c3] at he
            refine lv_iinc (v := nI (f + 1)) (lv' := [(2, .int (nI (f + 1))), (0, .ref (bA b 0)), (1, .int (x)), (3, .int (nI (j)))]) hx hb dX0_indexOfEmptying_27 hl (k := 2) rfl (nI_1 _) (by decide) rfl (fun ls hl => ?_)
            refine lv_iinc (v := nI (j + 1)) (lv' := [(3, .int (nI (j + 1))), (2, .int (nI (f + 1))), (0, .ref (bA b 0)), (1, .int (x))]) hx hb dX0_indexOfEmptying_30 hl (k := 3) rfl (nI_1 _) (by decide) rfl (fun ls hl => ?_)
            refine lv_goto (tgt := 4) hx hb dX0_indexOfEmptying_33 (by decide) ?_
            exact ih (j + 1) (f + 1) ls (by omega) (by omega) (by omega) he (lv_sub hl [2, 3, 1, 0] rfl)
          · rw [if_pos c3] at he
            refine lv_iload_n hx hb dX0_indexOfEmptying_25 rfl (lv_at hl 3 rfl) ?_
            subst hQQ
            exact W.iret hx hb hr (fun t9 ht _ => rdI (by rw [← he]; rfl) ht) (fun q h => absurd h List.not_mem_nil) dX0_indexOfEmptying_26
  exact loop (bN b + 1) 0 0 ls (Nat.zero_le _) (Nat.le_refl _) (by omega) rfl (lv_sub hl [2, 3, 1, 0] rfl)

