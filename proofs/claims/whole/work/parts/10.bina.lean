set_option maxHeartbeats 4000000 in
set_option maxRecDepth 100000 in
theorem k_isWithin (l : Launch) (g : GG) (x lo hi : Int32) : Rz l yX4_isWithin wsX4_isWithin 0 0 [.int (x), .int (lo), .int (hi)] g ([]) (bI (decide (lo ≤ x ∧ x ≤ hi))) := by
  refine Met.ofW (cc := cX4_isWithin) (maxL := 3) (ret := (some .boolean)) (by decide) rfl ?_
  intro p e s m args below meth c s₁ BB hml hv
  obtain ⟨hargs, hP, hK⟩ := hv
  have hx := BB.exec
  have hb := BB.bytes
  have hr := BB.returns
  have hts : ∀ w ∈ BIG, w.before args s = true := fun w h => atoms_spec (ws := wsX4_isWithin) BB.pre w (List.mem_cons_of_mem _ h)
  have hown : s.vm.findClass RX4 = some m.cls := findClass_of_methodNamed BB.named
  have hlocks := BB.notSynchronized
  obtain ⟨RR, hRR⟩ : ∃ RR, RR = (headSpec wsX4_isWithin ⟨0, 0, 0, 0⟩).room := ⟨_, rfl⟩
  have hR1 : RR.frames = 0 := by rw [hRR]; rfl
  have hR2 : RR.locals = 0 := by rw [hRR]; rfl
  have hR3 : RR.cells = 0 := by rw [hRR]; rfl
  have hR4 : RR.slots = 0 := by rw [hRR]; rfl
  have hl := lv_entry ([.int (x), .int (lo), .int (hi)]) (n := 3) (Nat.le_of_ble_eq_true rfl)
  have hent : entryFrame m args 3 = F0 m 0 ((lg_sl ([.int (x), .int (lo), .int (hi)]) ++ List.replicate (3 - (lg_sl ([.int (x), .int (lo), .int (hi)])).length) Slot.unset).toArray) [] := by rw [hargs, lg_entry_eq]
  rw [hent]
  generalize (lg_sl ([.int (x), .int (lo), .int (hi)]) ++ List.replicate (3 - (lg_sl ([.int (x), .int (lo), .int (hi)])).length) Slot.unset).toArray = ls at hl ⊢
  have hl : lv_has ls 3 [(0, .int (x)), (1, .int (lo)), (2, .int (hi))] := hl
  refine q_ab (R := RR) hRR ?_
  generalize hQQ : MQ below _ args s _ _ _ = QQ
  refine lv_iload_n hx hb dX4_isWithin_0 rfl (lv_at hl 0 rfl) ?_
  refine lv_iload_n hx hb dX4_isWithin_1 rfl (lv_at hl 1 rfl) ?_
  refine lv_icmp_lt (tgt := 14) hx hb dX4_isWithin_2 (by decide) (fun h1 => ?_) (fun h1 => ?_)
  · refine lv_iconst (v := bI (false)) hx hb dX4_isWithin_14 (by decide) ?_
    subst hQQ
    exact W.zret hx hb hr (nar_b _) (fun t9 ht _ => rdI (by rw [decide_eq_false (fun q => absurd h1 (by rw [Int32.not_lt]; exact q.1))]) ht) (fun q h => absurd h List.not_mem_nil) dX4_isWithin_15
  · refine lv_iload_n hx hb dX4_isWithin_5 rfl (lv_at hl 0 rfl) ?_
    refine lv_iload_n hx hb dX4_isWithin_6 rfl (lv_at hl 2 rfl) ?_
    refine lv_icmp_gt (tgt := 14) hx hb dX4_isWithin_7 (by decide) (fun h2 => ?_) (fun h2 => ?_)
    · refine lv_iconst (v := bI (false)) hx hb dX4_isWithin_14 (by decide) ?_
      subst hQQ
      exact W.zret hx hb hr (nar_b _) (fun t9 ht _ => rdI (by rw [decide_eq_false (fun q => absurd h2 (by rw [Int32.not_lt]; exact q.2))]) ht) (fun q h => absurd h List.not_mem_nil) dX4_isWithin_15
    · refine lv_iconst (v := bI (true)) hx hb dX4_isWithin_10 (by decide) ?_
      refine lv_goto (tgt := 15) hx hb dX4_isWithin_11 (by decide) ?_
      subst hQQ
      exact W.zret hx hb hr (nar_b _) (fun t9 ht _ => rdI (by rw [decide_eq_true ⟨by rw [← Int32.not_lt]; exact h1, by rw [← Int32.not_lt]; exact h2⟩]) ht) (fun q h => absurd h List.not_mem_nil) dX4_isWithin_15

set_option maxHeartbeats 4000000 in
set_option maxRecDepth 100000 in
theorem k_isHour (l : Launch) (g : GG) (x : Int32) : Rz l yX4_isHour wsX4_isHour 1 22 [.int (x)] g ([]) (bI (decide (nI 0 ≤ x ∧ x ≤ nI 9999))) := by
  refine Met.ofW (cc := cX4_isHour) (maxL := 1) (ret := (some .boolean)) (by decide) rfl ?_
  intro p e s m args below meth c s₁ BB hml hv
  obtain ⟨hargs, hP, hK⟩ := hv
  have hx := BB.exec
  have hb := BB.bytes
  have hr := BB.returns
  have hts : ∀ w ∈ BIG, w.before args s = true := fun w h => atoms_spec (ws := wsX4_isHour) BB.pre w (List.mem_cons_of_mem _ h)
  have hown : s.vm.findClass RX4 = some m.cls := findClass_of_methodNamed BB.named
  have hlocks := BB.notSynchronized
  obtain ⟨RR, hRR⟩ : ∃ RR, RR = (headSpec wsX4_isHour ⟨1, 0, 0, 22⟩).room := ⟨_, rfl⟩
  have hR1 : RR.frames = 1 := by rw [hRR]; rfl
  have hR2 : RR.locals = 22 := by rw [hRR]; rfl
  have hR3 : RR.cells = 0 := by rw [hRR]; rfl
  have hR4 : RR.slots = 0 := by rw [hRR]; rfl
  have hl := lv_entry ([.int (x)]) (n := 1) (Nat.le_of_ble_eq_true rfl)
  have hent : entryFrame m args 1 = F0 m 0 ((lg_sl ([.int (x)]) ++ List.replicate (1 - (lg_sl ([.int (x)])).length) Slot.unset).toArray) [] := by rw [hargs, lg_entry_eq]
  rw [hent]
  generalize (lg_sl ([.int (x)]) ++ List.replicate (1 - (lg_sl ([.int (x)])).length) Slot.unset).toArray = ls at hl ⊢
  have hl : lv_has ls 1 [(0, .int (x))] := hl
  refine q_ab (R := RR) hRR ?_
  generalize hQQ : MQ below _ args s _ _ _ = QQ
  refine lv_iload_n hx hb dX4_isHour_0 rfl (lv_at hl 0 rfl) ?_
  refine lv_iconst (v := nI (0)) hx hb dX4_isHour_1 (by decide) ?_
  refine lv_sipush (v := nI (9999)) hx hb dX4_isHour_2 (by decide) ?_
  refine cR_i (W.runS (As := [.int (x), .int (nI (0)), .int (nI (9999))]) (rest := []) ⟨hx, hb, hml, hown, hts⟩ (k_isWithin l g x (nI 0) (nI 9999)) (va_cwS 3 hts (gS w_ml_X4_49 w_sm_X4_isWithin w_ini_X4 w_co_X4_isWithin) rfl rfl rfl (by decide +kernel) (by rw [hR1, hR2]; exact ⟨Nat.le_of_ble_eq_true rfl, Nat.le_of_ble_eq_true rfl⟩)) (preS_rd hP hK) rfl rfl hl.1 rfl (lv_room (Nat.le_of_ble_eq_true rfl)) dX4_isHour_5 ⟨by rw [hR3]; omega, by rw [hR4]; omega⟩) ?_
  subst hQQ
  exact W.zret hx hb hr (nar_b _) (fun t9 ht _ => rdI (rfl) ht) (fun q h => absurd h List.not_mem_nil) dX4_isHour_8

set_option maxHeartbeats 4000000 in
set_option maxRecDepth 100000 in
theorem k_isDay (l : Launch) (g : GG) (x : Int32) : Rz l yX4_isDay wsX4_isDay 1 22 [.int (x)] g ([]) (bI (decide (nI 0 ≤ x ∧ x ≤ nI 416))) := by
  refine Met.ofW (cc := cX4_isDay) (maxL := 1) (ret := (some .boolean)) (by decide) rfl ?_
  intro p e s m args below meth c s₁ BB hml hv
  obtain ⟨hargs, hP, hK⟩ := hv
  have hx := BB.exec
  have hb := BB.bytes
  have hr := BB.returns
  have hts : ∀ w ∈ BIG, w.before args s = true := fun w h => atoms_spec (ws := wsX4_isDay) BB.pre w (List.mem_cons_of_mem _ h)
  have hown : s.vm.findClass RX4 = some m.cls := findClass_of_methodNamed BB.named
  have hlocks := BB.notSynchronized
  obtain ⟨RR, hRR⟩ : ∃ RR, RR = (headSpec wsX4_isDay ⟨1, 0, 0, 22⟩).room := ⟨_, rfl⟩
  have hR1 : RR.frames = 1 := by rw [hRR]; rfl
  have hR2 : RR.locals = 22 := by rw [hRR]; rfl
  have hR3 : RR.cells = 0 := by rw [hRR]; rfl
  have hR4 : RR.slots = 0 := by rw [hRR]; rfl
  have hl := lv_entry ([.int (x)]) (n := 1) (Nat.le_of_ble_eq_true rfl)
  have hent : entryFrame m args 1 = F0 m 0 ((lg_sl ([.int (x)]) ++ List.replicate (1 - (lg_sl ([.int (x)])).length) Slot.unset).toArray) [] := by rw [hargs, lg_entry_eq]
  rw [hent]
  generalize (lg_sl ([.int (x)]) ++ List.replicate (1 - (lg_sl ([.int (x)])).length) Slot.unset).toArray = ls at hl ⊢
  have hl : lv_has ls 1 [(0, .int (x))] := hl
  refine q_ab (R := RR) hRR ?_
  generalize hQQ : MQ below _ args s _ _ _ = QQ
  refine lv_iload_n hx hb dX4_isDay_0 rfl (lv_at hl 0 rfl) ?_
  refine lv_iconst (v := nI (0)) hx hb dX4_isDay_1 (by decide) ?_
  refine lv_sipush (v := nI (416)) hx hb dX4_isDay_2 (by decide) ?_
  refine cR_i (W.runS (As := [.int (x), .int (nI (0)), .int (nI (416))]) (rest := []) ⟨hx, hb, hml, hown, hts⟩ (k_isWithin l g x (nI 0) (nI 416)) (va_cwS 3 hts (gS w_ml_X4_49 w_sm_X4_isWithin w_ini_X4 w_co_X4_isWithin) rfl rfl rfl (by decide +kernel) (by rw [hR1, hR2]; exact ⟨Nat.le_of_ble_eq_true rfl, Nat.le_of_ble_eq_true rfl⟩)) (preS_rd hP hK) rfl rfl hl.1 rfl (lv_room (Nat.le_of_ble_eq_true rfl)) dX4_isDay_5 ⟨by rw [hR3]; omega, by rw [hR4]; omega⟩) ?_
  subst hQQ
  exact W.zret hx hb hr (nar_b _) (fun t9 ht _ => rdI (rfl) ht) (fun q h => absurd h List.not_mem_nil) dX4_isDay_8

set_option maxHeartbeats 4000000 in
set_option maxRecDepth 100000 in
theorem k_placeOfRow (l : Launch) (g : GG) (h : Nat) : Rd l yX0_placeOfRow wsX0_placeOfRow 0 0 [.int (nI (h))] g ([]) (nI (2 * h)) := by
  refine Met.ofW (cc := cX0_placeOfRow) (maxL := 1) (ret := (some .int)) (by decide) rfl ?_
  intro p e s m args below meth c s₁ BB hml hv
  obtain ⟨hargs, hP, hK⟩ := hv
  have hx := BB.exec
  have hb := BB.bytes
  have hr := BB.returns
  have hts : ∀ w ∈ BIG, w.before args s = true := fun w h => atoms_spec (ws := wsX0_placeOfRow) BB.pre w (List.mem_cons_of_mem _ h)
  have hown : s.vm.findClass RX0 = some m.cls := findClass_of_methodNamed BB.named
  have hlocks := BB.notSynchronized
  obtain ⟨RR, hRR⟩ : ∃ RR, RR = (headSpec wsX0_placeOfRow ⟨0, 0, 0, 0⟩).room := ⟨_, rfl⟩
  have hR1 : RR.frames = 0 := by rw [hRR]; rfl
  have hR2 : RR.locals = 0 := by rw [hRR]; rfl
  have hR3 : RR.cells = 0 := by rw [hRR]; rfl
  have hR4 : RR.slots = 0 := by rw [hRR]; rfl
  have hl := lv_entry ([.int (nI (h))]) (n := 1) (Nat.le_of_ble_eq_true rfl)
  have hent : entryFrame m args 1 = F0 m 0 ((lg_sl ([.int (nI (h))]) ++ List.replicate (1 - (lg_sl ([.int (nI (h))])).length) Slot.unset).toArray) [] := by rw [hargs, lg_entry_eq]
  rw [hent]
  generalize (lg_sl ([.int (nI (h))]) ++ List.replicate (1 - (lg_sl ([.int (nI (h))])).length) Slot.unset).toArray = ls at hl ⊢
  have hl : lv_has ls 1 [(0, .int (nI (h)))] := hl
  refine q_ab (R := RR) hRR ?_
  generalize hQQ : MQ below _ args s _ _ _ = QQ
  refine lv_iconst (v := nI (2)) hx hb dX0_placeOfRow_0 (by decide) ?_
  refine lv_iload_n hx hb dX0_placeOfRow_1 rfl (lv_at hl 0 rfl) ?_
  refine n_imul hx hb dX0_placeOfRow_2 ?_
  subst hQQ
  exact W.iret hx hb hr (fun t9 ht _ => rdI (rfl) ht) (fun q h => absurd h List.not_mem_nil) dX0_placeOfRow_3

set_option maxHeartbeats 4000000 in
set_option maxRecDepth 100000 in
theorem k_placeOfEmptying (l : Launch) (g : GG) (h : Nat) : Rd l yX0_placeOfEmptying wsX0_placeOfEmptying 0 0 [.int (nI (h))] g ([]) (nI (2 * h + 1)) := by
  refine Met.ofW (cc := cX0_placeOfEmptying) (maxL := 1) (ret := (some .int)) (by decide) rfl ?_
  intro p e s m args below meth c s₁ BB hml hv
  obtain ⟨hargs, hP, hK⟩ := hv
  have hx := BB.exec
  have hb := BB.bytes
  have hr := BB.returns
  have hts : ∀ w ∈ BIG, w.before args s = true := fun w h => atoms_spec (ws := wsX0_placeOfEmptying) BB.pre w (List.mem_cons_of_mem _ h)
  have hown : s.vm.findClass RX0 = some m.cls := findClass_of_methodNamed BB.named
  have hlocks := BB.notSynchronized
  obtain ⟨RR, hRR⟩ : ∃ RR, RR = (headSpec wsX0_placeOfEmptying ⟨0, 0, 0, 0⟩).room := ⟨_, rfl⟩
  have hR1 : RR.frames = 0 := by rw [hRR]; rfl
  have hR2 : RR.locals = 0 := by rw [hRR]; rfl
  have hR3 : RR.cells = 0 := by rw [hRR]; rfl
  have hR4 : RR.slots = 0 := by rw [hRR]; rfl
  have hl := lv_entry ([.int (nI (h))]) (n := 1) (Nat.le_of_ble_eq_true rfl)
  have hent : entryFrame m args 1 = F0 m 0 ((lg_sl ([.int (nI (h))]) ++ List.replicate (1 - (lg_sl ([.int (nI (h))])).length) Slot.unset).toArray) [] := by rw [hargs, lg_entry_eq]
  rw [hent]
  generalize (lg_sl ([.int (nI (h))]) ++ List.replicate (1 - (lg_sl ([.int (nI (h))])).length) Slot.unset).toArray = ls at hl ⊢
  have hl : lv_has ls 1 [(0, .int (nI (h)))] := hl
  refine q_ab (R := RR) hRR ?_
  generalize hQQ : MQ below _ args s _ _ _ = QQ
  refine lv_iconst (v := nI (2)) hx hb dX0_placeOfEmptying_0 (by decide) ?_
  refine lv_iload_n hx hb dX0_placeOfEmptying_1 rfl (lv_at hl 0 rfl) ?_
  refine n_imul hx hb dX0_placeOfEmptying_2 ?_
  refine lv_iconst (v := nI (1)) hx hb dX0_placeOfEmptying_3 (by decide) ?_
  refine n_iadd hx hb dX0_placeOfEmptying_4 ?_
  subst hQQ
  exact W.iret hx hb hr (fun t9 ht _ => rdI (rfl) ht) (fun q h => absurd h List.not_mem_nil) dX0_placeOfEmptying_5

set_option maxHeartbeats 4000000 in
set_option maxRecDepth 100000 in
theorem k_streetNumber (l : Launch) (g : GG) (b : BinT) : Rd l yX0_streetNumber wsX0_streetNumber 0 0 [.ref (bA b 0)] g (wB g b) (nI (bSt b)) := by
  refine Met.ofW (cc := cX0_streetNumber) (maxL := 1) (ret := (some .int)) (by decide) rfl ?_
  intro p e s m args below meth c s₁ BB hml hv
  obtain ⟨hargs, hP, hK⟩ := hv
  have hx := BB.exec
  have hb := BB.bytes
  have hr := BB.returns
  have hts : ∀ w ∈ BIG, w.before args s = true := fun w h => atoms_spec (ws := wsX0_streetNumber) BB.pre w (List.mem_cons_of_mem _ h)
  have hown : s.vm.findClass RX0 = some m.cls := findClass_of_methodNamed BB.named
  have hlocks := BB.notSynchronized
  obtain ⟨RR, hRR⟩ : ∃ RR, RR = (headSpec wsX0_streetNumber ⟨0, 0, 0, 0⟩).room := ⟨_, rfl⟩
  have hR1 : RR.frames = 0 := by rw [hRR]; rfl
  have hR2 : RR.locals = 0 := by rw [hRR]; rfl
  have hR3 : RR.cells = 0 := by rw [hRR]; rfl
  have hR4 : RR.slots = 0 := by rw [hRR]; rfl
  have hl := lv_entry ([.ref (bA b 0)]) (n := 1) (Nat.le_of_ble_eq_true rfl)
  have hent : entryFrame m args 1 = F0 m 0 ((lg_sl ([.ref (bA b 0)]) ++ List.replicate (1 - (lg_sl ([.ref (bA b 0)])).length) Slot.unset).toArray) [] := by rw [hargs, lg_entry_eq]
  rw [hent]
  generalize (lg_sl ([.ref (bA b 0)]) ++ List.replicate (1 - (lg_sl ([.ref (bA b 0)])).length) Slot.unset).toArray = ls at hl ⊢
  have hl : lv_has ls 1 [(0, .ref (bA b 0))] := hl
  refine q_ab (R := RR) hRR ?_
  generalize hQQ : MQ below _ args s _ _ _ = QQ
  refine lv_aload_n hx hb dX0_streetNumber_0 rfl (lv_at hl 0 rfl) ?_
  refine va_get (D := g.1) (ci := 0) (v := .int (nI (bSt b))) (C := RX0) (T := TX0) (N := 8) hx hb hts hiX0 hown hK.1 hP 0 rfl rfl 0 (by decide) (hts _ w_fl_X0_11) (fun _ h9 => h9) rfl dX0_streetNumber_1 ?_
  subst hQQ
  exact W.iret hx hb hr (fun t9 ht _ => rdI (rfl) ht) (fun q h => absurd h List.not_mem_nil) dX0_streetNumber_4

set_option maxHeartbeats 4000000 in
set_option maxRecDepth 100000 in
theorem k_roomInKilograms (l : Launch) (g : GG) (b : BinT) : Rd l yX0_roomInKilograms wsX0_roomInKilograms 0 0 [.ref (bA b 0)] g (wB g b) (nI (bRm b)) := by
  refine Met.ofW (cc := cX0_roomInKilograms) (maxL := 1) (ret := (some .int)) (by decide) rfl ?_
  intro p e s m args below meth c s₁ BB hml hv
  obtain ⟨hargs, hP, hK⟩ := hv
  have hx := BB.exec
  have hb := BB.bytes
  have hr := BB.returns
  have hts : ∀ w ∈ BIG, w.before args s = true := fun w h => atoms_spec (ws := wsX0_roomInKilograms) BB.pre w (List.mem_cons_of_mem _ h)
  have hown : s.vm.findClass RX0 = some m.cls := findClass_of_methodNamed BB.named
  have hlocks := BB.notSynchronized
  obtain ⟨RR, hRR⟩ : ∃ RR, RR = (headSpec wsX0_roomInKilograms ⟨0, 0, 0, 0⟩).room := ⟨_, rfl⟩
  have hR1 : RR.frames = 0 := by rw [hRR]; rfl
  have hR2 : RR.locals = 0 := by rw [hRR]; rfl
  have hR3 : RR.cells = 0 := by rw [hRR]; rfl
  have hR4 : RR.slots = 0 := by rw [hRR]; rfl
  have hl := lv_entry ([.ref (bA b 0)]) (n := 1) (Nat.le_of_ble_eq_true rfl)
  have hent : entryFrame m args 1 = F0 m 0 ((lg_sl ([.ref (bA b 0)]) ++ List.replicate (1 - (lg_sl ([.ref (bA b 0)])).length) Slot.unset).toArray) [] := by rw [hargs, lg_entry_eq]
  rw [hent]
  generalize (lg_sl ([.ref (bA b 0)]) ++ List.replicate (1 - (lg_sl ([.ref (bA b 0)])).length) Slot.unset).toArray = ls at hl ⊢
  have hl : lv_has ls 1 [(0, .ref (bA b 0))] := hl
  refine q_ab (R := RR) hRR ?_
  generalize hQQ : MQ below _ args s _ _ _ = QQ
  refine lv_aload_n hx hb dX0_roomInKilograms_0 rfl (lv_at hl 0 rfl) ?_
  refine va_get (D := g.1) (ci := 0) (v := .int (nI (bRm b))) (C := RX0) (T := TX0) (N := 8) hx hb hts hiX0 hown hK.1 hP 0 rfl rfl 1 (by decide) (hts _ w_fl_X0_15) (fun _ h9 => h9) rfl dX0_roomInKilograms_1 ?_
  subst hQQ
  exact W.iret hx hb hr (fun t9 ht _ => rdI (rfl) ht) (fun q h => absurd h List.not_mem_nil) dX0_roomInKilograms_4

set_option maxHeartbeats 4000000 in
set_option maxRecDepth 100000 in
theorem k_placeAt (l : Launch) (g : GG) (b : BinT) (i : Nat) (hi : i < 32) : Rd l yX0_placeAt wsX0_placeAt 0 0 [.ref (bA b 0), .int (nI (i))] g (wB g b) (nI (bPl b i)) := by
  refine Met.ofW (cc := cX0_placeAt) (maxL := 2) (ret := (some .int)) (by decide) rfl ?_
  intro p e s m args below meth c s₁ BB hml hv
  obtain ⟨hargs, hP, hK⟩ := hv
  have hx := BB.exec
  have hb := BB.bytes
  have hr := BB.returns
  have hts : ∀ w ∈ BIG, w.before args s = true := fun w h => atoms_spec (ws := wsX0_placeAt) BB.pre w (List.mem_cons_of_mem _ h)
  have hown : s.vm.findClass RX0 = some m.cls := findClass_of_methodNamed BB.named
  have hlocks := BB.notSynchronized
  obtain ⟨RR, hRR⟩ : ∃ RR, RR = (headSpec wsX0_placeAt ⟨0, 0, 0, 0⟩).room := ⟨_, rfl⟩
  have hR1 : RR.frames = 0 := by rw [hRR]; rfl
  have hR2 : RR.locals = 0 := by rw [hRR]; rfl
  have hR3 : RR.cells = 0 := by rw [hRR]; rfl
  have hR4 : RR.slots = 0 := by rw [hRR]; rfl
  have hl := lv_entry ([.ref (bA b 0), .int (nI (i))]) (n := 2) (Nat.le_of_ble_eq_true rfl)
  have hent : entryFrame m args 2 = F0 m 0 ((lg_sl ([.ref (bA b 0), .int (nI (i))]) ++ List.replicate (2 - (lg_sl ([.ref (bA b 0), .int (nI (i))])).length) Slot.unset).toArray) [] := by rw [hargs, lg_entry_eq]
  rw [hent]
  generalize (lg_sl ([.ref (bA b 0), .int (nI (i))]) ++ List.replicate (2 - (lg_sl ([.ref (bA b 0), .int (nI (i))])).length) Slot.unset).toArray = ls at hl ⊢
  have hl : lv_has ls 2 [(0, .ref (bA b 0)), (1, .int (nI (i)))] := hl
  refine q_ab (R := RR) hRR ?_
  generalize hQQ : MQ below _ args s _ _ _ = QQ
  refine lv_aload_n hx hb dX0_placeAt_0 rfl (lv_at hl 0 rfl) ?_
  refine va_get (D := g.1) (ci := 0) (v := .ref (bA b 1)) (C := RX0) (T := TX0) (N := 8) hx hb hts hiX0 hown hK.1 hP 0 rfl rfl 2 (by decide) (hts _ w_fl_X0_18) (fun _ h9 => h9) rfl dX0_placeAt_1 ?_
  refine lv_iload_n hx hb dX0_placeAt_4 rfl (lv_at hl 1 rfl) ?_
  refine n_iald (k := i) (v := nI (bPl b i)) hx hb hK.1 hP 1 0 rfl rfl (by omega) (by decide) (rfl) dX0_placeAt_5 ?_
  subst hQQ
  exact W.iret hx hb hr (fun t9 ht _ => rdI (rfl) ht) (fun q h => absurd h List.not_mem_nil) dX0_placeAt_6

set_option maxHeartbeats 4000000 in
set_option maxRecDepth 100000 in
theorem k_amountAt (l : Launch) (g : GG) (b : BinT) (i : Nat) (hi : i < 32) : Rd l yX0_amountAt wsX0_amountAt 0 0 [.ref (bA b 0), .int (nI (i))] g (wB g b) (nI (bAm b i)) := by
  refine Met.ofW (cc := cX0_amountAt) (maxL := 2) (ret := (some .int)) (by decide) rfl ?_
  intro p e s m args below meth c s₁ BB hml hv
  obtain ⟨hargs, hP, hK⟩ := hv
  have hx := BB.exec
  have hb := BB.bytes
  have hr := BB.returns
  have hts : ∀ w ∈ BIG, w.before args s = true := fun w h => atoms_spec (ws := wsX0_amountAt) BB.pre w (List.mem_cons_of_mem _ h)
  have hown : s.vm.findClass RX0 = some m.cls := findClass_of_methodNamed BB.named
  have hlocks := BB.notSynchronized
  obtain ⟨RR, hRR⟩ : ∃ RR, RR = (headSpec wsX0_amountAt ⟨0, 0, 0, 0⟩).room := ⟨_, rfl⟩
  have hR1 : RR.frames = 0 := by rw [hRR]; rfl
  have hR2 : RR.locals = 0 := by rw [hRR]; rfl
  have hR3 : RR.cells = 0 := by rw [hRR]; rfl
  have hR4 : RR.slots = 0 := by rw [hRR]; rfl
  have hl := lv_entry ([.ref (bA b 0), .int (nI (i))]) (n := 2) (Nat.le_of_ble_eq_true rfl)
  have hent : entryFrame m args 2 = F0 m 0 ((lg_sl ([.ref (bA b 0), .int (nI (i))]) ++ List.replicate (2 - (lg_sl ([.ref (bA b 0), .int (nI (i))])).length) Slot.unset).toArray) [] := by rw [hargs, lg_entry_eq]
  rw [hent]
  generalize (lg_sl ([.ref (bA b 0), .int (nI (i))]) ++ List.replicate (2 - (lg_sl ([.ref (bA b 0), .int (nI (i))])).length) Slot.unset).toArray = ls at hl ⊢
  have hl : lv_has ls 2 [(0, .ref (bA b 0)), (1, .int (nI (i)))] := hl
  refine q_ab (R := RR) hRR ?_
  generalize hQQ : MQ below _ args s _ _ _ = QQ
  refine lv_aload_n hx hb dX0_amountAt_0 rfl (lv_at hl 0 rfl) ?_
  refine va_get (D := g.1) (ci := 0) (v := .ref (bA b 2)) (C := RX0) (T := TX0) (N := 8) hx hb hts hiX0 hown hK.1 hP 0 rfl rfl 3 (by decide) (hts _ w_fl_X0_22) (fun _ h9 => h9) rfl dX0_amountAt_1 ?_
  refine lv_iload_n hx hb dX0_amountAt_4 rfl (lv_at hl 1 rfl) ?_
  refine n_iald (k := i) (v := nI (bAm b i)) hx hb hK.1 hP 2 0 rfl rfl (by omega) (by decide) (rfl) dX0_amountAt_5 ?_
  subst hQQ
  exact W.iret hx hb hr (fun t9 ht _ => rdI (rfl) ht) (fun q h => absurd h List.not_mem_nil) dX0_amountAt_6

set_option maxHeartbeats 4000000 in
set_option maxRecDepth 100000 in
theorem k_hourAt (l : Launch) (g : GG) (b : BinT) (i : Nat) (hi : i < 32) (hp : bPl b i < 2 ^ 31) : Rd l yX0_hourAt wsX0_hourAt 0 0 [.ref (bA b 0), .int (nI (i))] g (wB g b) (nI (hrB b i)) := by
  refine Met.ofW (cc := cX0_hourAt) (maxL := 2) (ret := (some .int)) (by decide) rfl ?_
  intro p e s m args below meth c s₁ BB hml hv
  obtain ⟨hargs, hP, hK⟩ := hv
  have hx := BB.exec
  have hb := BB.bytes
  have hr := BB.returns
  have hts : ∀ w ∈ BIG, w.before args s = true := fun w h => atoms_spec (ws := wsX0_hourAt) BB.pre w (List.mem_cons_of_mem _ h)
  have hown : s.vm.findClass RX0 = some m.cls := findClass_of_methodNamed BB.named
  have hlocks := BB.notSynchronized
  obtain ⟨RR, hRR⟩ : ∃ RR, RR = (headSpec wsX0_hourAt ⟨0, 0, 0, 0⟩).room := ⟨_, rfl⟩
  have hR1 : RR.frames = 0 := by rw [hRR]; rfl
  have hR2 : RR.locals = 0 := by rw [hRR]; rfl
  have hR3 : RR.cells = 0 := by rw [hRR]; rfl
  have hR4 : RR.slots = 0 := by rw [hRR]; rfl
  have hl := lv_entry ([.ref (bA b 0), .int (nI (i))]) (n := 2) (Nat.le_of_ble_eq_true rfl)
  have hent : entryFrame m args 2 = F0 m 0 ((lg_sl ([.ref (bA b 0), .int (nI (i))]) ++ List.replicate (2 - (lg_sl ([.ref (bA b 0), .int (nI (i))])).length) Slot.unset).toArray) [] := by rw [hargs, lg_entry_eq]
  rw [hent]
  generalize (lg_sl ([.ref (bA b 0), .int (nI (i))]) ++ List.replicate (2 - (lg_sl ([.ref (bA b 0), .int (nI (i))])).length) Slot.unset).toArray = ls at hl ⊢
  have hl : lv_has ls 2 [(0, .ref (bA b 0)), (1, .int (nI (i)))] := hl
  refine q_ab (R := RR) hRR ?_
  generalize hQQ : MQ below _ args s _ _ _ = QQ
  refine lv_aload_n hx hb dX0_hourAt_0 rfl (lv_at hl 0 rfl) ?_
  refine va_get (D := g.1) (ci := 0) (v := .ref (bA b 1)) (C := RX0) (T := TX0) (N := 8) hx hb hts hiX0 hown hK.1 hP 0 rfl rfl 2 (by decide) (hts _ w_fl_X0_18) (fun _ h9 => h9) rfl dX0_hourAt_1 ?_
  refine lv_iload_n hx hb dX0_hourAt_4 rfl (lv_at hl 1 rfl) ?_
  refine n_iald (k := i) (v := nI (bPl b i)) hx hb hK.1 hP 1 0 rfl rfl (by omega) (by decide) (rfl) dX0_hourAt_5 ?_
  refine lv_iconst (v := nI (2)) hx hb dX0_hourAt_6 (by decide) ?_
  refine n_idiv hx hb (by omega) (by omega) (by omega) dX0_hourAt_7 ?_
  subst hQQ
  exact W.iret hx hb hr (fun t9 ht _ => rdI (rfl) ht) (fun q h => absurd h List.not_mem_nil) dX0_hourAt_8

set_option maxHeartbeats 4000000 in
set_option maxRecDepth 100000 in
theorem k_isRow (l : Launch) (g : GG) (b : BinT) (i : Nat) (hi : i < 32) (hp : bPl b i < 2 ^ 31) : Rz l yX0_isRow wsX0_isRow 0 0 [.ref (bA b 0), .int (nI (i))] g (wB g b) (bI (rowB b i)) := by
  refine Met.ofW (cc := cX0_isRow) (maxL := 2) (ret := (some .boolean)) (by decide) rfl ?_
  intro p e s m args below meth c s₁ BB hml hv
  obtain ⟨hargs, hP, hK⟩ := hv
  have hx := BB.exec
  have hb := BB.bytes
  have hr := BB.returns
  have hts : ∀ w ∈ BIG, w.before args s = true := fun w h => atoms_spec (ws := wsX0_isRow) BB.pre w (List.mem_cons_of_mem _ h)
  have hown : s.vm.findClass RX0 = some m.cls := findClass_of_methodNamed BB.named
  have hlocks := BB.notSynchronized
  obtain ⟨RR, hRR⟩ : ∃ RR, RR = (headSpec wsX0_isRow ⟨0, 0, 0, 0⟩).room := ⟨_, rfl⟩
  have hR1 : RR.frames = 0 := by rw [hRR]; rfl
  have hR2 : RR.locals = 0 := by rw [hRR]; rfl
  have hR3 : RR.cells = 0 := by rw [hRR]; rfl
  have hR4 : RR.slots = 0 := by rw [hRR]; rfl
  have hl := lv_entry ([.ref (bA b 0), .int (nI (i))]) (n := 2) (Nat.le_of_ble_eq_true rfl)
  have hent : entryFrame m args 2 = F0 m 0 ((lg_sl ([.ref (bA b 0), .int (nI (i))]) ++ List.replicate (2 - (lg_sl ([.ref (bA b 0), .int (nI (i))])).length) Slot.unset).toArray) [] := by rw [hargs, lg_entry_eq]
  rw [hent]
  generalize (lg_sl ([.ref (bA b 0), .int (nI (i))]) ++ List.replicate (2 - (lg_sl ([.ref (bA b 0), .int (nI (i))])).length) Slot.unset).toArray = ls at hl ⊢
  have hl : lv_has ls 2 [(0, .ref (bA b 0)), (1, .int (nI (i)))] := hl
  refine q_ab (R := RR) hRR ?_
  generalize hQQ : MQ below _ args s _ _ _ = QQ
  refine lv_aload_n hx hb dX0_isRow_0 rfl (lv_at hl 0 rfl) ?_
  refine va_get (D := g.1) (ci := 0) (v := .ref (bA b 1)) (C := RX0) (T := TX0) (N := 8) hx hb hts hiX0 hown hK.1 hP 0 rfl rfl 2 (by decide) (hts _ w_fl_X0_18) (fun _ h9 => h9) rfl dX0_isRow_1 ?_
  refine lv_iload_n hx hb dX0_isRow_4 rfl (lv_at hl 1 rfl) ?_
  refine n_iald (k := i) (v := nI (bPl b i)) hx hb hK.1 hP 1 0 rfl rfl (by omega) (by decide) (rfl) dX0_isRow_5 ?_
  refine lv_iconst (v := nI (2)) hx hb dX0_isRow_6 (by decide) ?_
  refine n_irem hx hb (by omega) (by omega) (by omega) dX0_isRow_7 ?_
  refine bz_ne (tgt := 15) hx hb (by omega) dX0_isRow_8 (by decide) (fun h1 => ?_) (fun h1 => ?_)
  · refine lv_iconst (v := bI (false)) hx hb dX0_isRow_15 (by decide) ?_
    subst hQQ
    exact W.zret hx hb hr (nar_b _) (fun t9 ht _ => rdI (by rw [rowB, decide_eq_false h1]) ht) (fun q h => absurd h List.not_mem_nil) dX0_isRow_16
  · refine lv_iconst (v := bI (true)) hx hb dX0_isRow_11 (by decide) ?_
    refine lv_goto (tgt := 16) hx hb dX0_isRow_12 (by decide) ?_
    subst hQQ
    exact W.zret hx hb hr (nar_b _) (fun t9 ht _ => rdI (by rw [rowB, decide_eq_true h1]) ht) (fun q h => absurd h List.not_mem_nil) dX0_isRow_16

