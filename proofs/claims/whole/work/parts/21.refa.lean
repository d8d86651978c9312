set_option maxHeartbeats 4000000 in
set_option maxRecDepth 100000 in
theorem m_isIn (l : Launch) (g : GG) (x lo hi : Int32) : Rz l yX5_isIn wsX5_isIn 0 0 [.int (x), .int (lo), .int (hi)] g ([]) (bI (decide (lo ≤ x ∧ x ≤ hi))) := by
  refine Met.ofW (cc := cX5_isIn) (maxL := 3) (ret := (some .boolean)) (by decide) rfl ?_
  intro p e s m args below meth c s₁ BB hml hv
  obtain ⟨hargs, hP, hK⟩ := hv
  have hx := BB.exec
  have hb := BB.bytes
  have hr := BB.returns
  have hts : ∀ w ∈ BIG, w.before args s = true := fun w h => atoms_spec (ws := wsX5_isIn) BB.pre w (List.mem_cons_of_mem _ h)
  have hown : s.vm.findClass RX5 = some m.cls := findClass_of_methodNamed BB.named
  have hlocks := BB.notSynchronized
  obtain ⟨RR, hRR⟩ : ∃ RR, RR = (headSpec wsX5_isIn ⟨0, 0, 0, 0⟩).room := ⟨_, rfl⟩
  have hR1 : RR.frames = 0 := by rw [hRR]; rfl
  have hR2 : RR.locals = 0 := by rw [hRR]; rfl
  have hR3 : RR.cells = 0 := by rw [hRR]; rfl
  have hR4 : RR.slots = 0 := by rw [hRR]; rfl
  have hl := lv_entry ([.int (x), .int (lo), .int (hi)]) (n := 3) (Nat.le_of_ble_eq_true rfl)
  have hent : entryFrame m args 3 = F0 m 0 ((lg_sl ([.int (x), .int (lo), .int (hi)]) ++ List.replicate (3 - (lg_sl ([.int (x), .int (lo), .int (hi)])).length) Slot.unset).toArray) [] := by rw [hargs, lg_entry_eq]
  rw [hent]
  generalize (lg_sl ([.int (x), .int (lo), .int (hi)]) ++ List.replicate (3 - (lg_sl ([.int (x), .int (lo), .int (hi)])).length) Slot.unset).toArray = ls at hl ⊢
  have hl : lv_has ls 3 [(0, .int (x)), (1, .int (lo)), (2, .int (hi))] := hl
  refine q_ab (R := RR) hRR ?_
  generalize hQQ : MQ below _ args s _ _ _ = QQ
  refine lv_iload_n hx hb dX5_isIn_0 rfl (lv_at hl 0 rfl) ?_
  refine lv_iload_n hx hb dX5_isIn_1 rfl (lv_at hl 1 rfl) ?_
  refine lv_icmp_lt (tgt := 14) hx hb dX5_isIn_2 (by decide) (fun h1 => ?_) (fun h1 => ?_)
  · refine lv_iconst (v := bI (false)) hx hb dX5_isIn_14 (by decide) ?_
    subst hQQ
    exact W.zret hx hb hr (nar_b _) (fun t9 ht _ => rdI (by rw [decide_eq_false (fun q => absurd h1 (by rw [Int32.not_lt]; exact q.1))]) ht) (fun q h => absurd h List.not_mem_nil) dX5_isIn_15
  · refine lv_iload_n hx hb dX5_isIn_5 rfl (lv_at hl 0 rfl) ?_
    refine lv_iload_n hx hb dX5_isIn_6 rfl (lv_at hl 2 rfl) ?_
    refine lv_icmp_gt (tgt := 14) hx hb dX5_isIn_7 (by decide) (fun h2 => ?_) (fun h2 => ?_)
    · refine lv_iconst (v := bI (false)) hx hb dX5_isIn_14 (by decide) ?_
      subst hQQ
      exact W.zret hx hb hr (nar_b _) (fun t9 ht _ => rdI (by rw [decide_eq_false (fun q => absurd h2 (by rw [Int32.not_lt]; exact q.2))]) ht) (fun q h => absurd h List.not_mem_nil) dX5_isIn_15
    · refine lv_iconst (v := bI (true)) hx hb dX5_isIn_10 (by decide) ?_
      refine lv_goto (tgt := 15) hx hb dX5_isIn_11 (by decide) ?_
      subst hQQ
      exact W.zret hx hb hr (nar_b _) (fun t9 ht _ => rdI (by rw [decide_eq_true ⟨by rw [← Int32.not_lt]; exact h1, by rw [← Int32.not_lt]; exact h2⟩]) ht) (fun q h => absurd h List.not_mem_nil) dX5_isIn_15

set_option maxHeartbeats 4000000 in
set_option maxRecDepth 100000 in
theorem m_isHour (l : Launch) (g : GG) (x : Int32) : Rz l yX5_isHour wsX5_isHour 1 22 [.int (x)] g ([]) (bI (decide (nI 0 ≤ x ∧ x ≤ nI 9999))) := by
  refine Met.ofW (cc := cX5_isHour) (maxL := 1) (ret := (some .boolean)) (by decide) rfl ?_
  intro p e s m args below meth c s₁ BB hml hv
  obtain ⟨hargs, hP, hK⟩ := hv
  have hx := BB.exec
  have hb := BB.bytes
  have hr := BB.returns
  have hts : ∀ w ∈ BIG, w.before args s = true := fun w h => atoms_spec (ws := wsX5_isHour) BB.pre w (List.mem_cons_of_mem _ h)
  have hown : s.vm.findClass RX5 = some m.cls := findClass_of_methodNamed BB.named
  have hlocks := BB.notSynchronized
  obtain ⟨RR, hRR⟩ : ∃ RR, RR = (headSpec wsX5_isHour ⟨1, 0, 0, 22⟩).room := ⟨_, rfl⟩
  have hR1 : RR.frames = 1 := by rw [hRR]; rfl
  have hR2 : RR.locals = 22 := by rw [hRR]; rfl
  have hR3 : RR.cells = 0 := by rw [hRR]; rfl
  have hR4 : RR.slots = 0 := by rw [hRR]; rfl
  have hl := lv_entry ([.int (x)]) (n := 1) (Nat.le_of_ble_eq_true rfl)
  have hent : entryFrame m args 1 = F0 m 0 ((lg_sl ([.int (x)]) ++ List.replicate (1 - (lg_sl ([.int (x)])).length) Slot.unset).toArray) [] := by rw [hargs, lg_entry_eq]
  rw [hent]
  generalize (lg_sl ([.int (x)]) ++ List.replicate (1 - (lg_sl ([.int (x)])).length) Slot.unset).toArray = ls at hl ⊢
  have hl : lv_has ls 1 [(0, .int (x))] := hl
  refine q_ab (R := RR) hRR ?_
  generalize hQQ : MQ below _ args s _ _ _ = QQ
  refine lv_iload_n hx hb dX5_isHour_0 rfl (lv_at hl 0 rfl) ?_
  refine lv_iconst (v := nI (0)) hx hb dX5_isHour_1 (by decide) ?_
  refine lv_sipush (v := nI (9999)) hx hb dX5_isHour_2 (by decide) ?_
  refine cR_i (W.runS (As := [.int (x), .int (nI (0)), .int (nI (9999))]) (rest := []) ⟨hx, hb, hml, hown, hts⟩ (m_isIn l g x (nI 0) (nI 9999)) (va_cwS 3 hts (gS w_ml_X5_79 w_sm_X5_isIn w_ini_X5 w_co_X5_isIn) rfl rfl rfl (by decide +kernel) (by rw [hR1, hR2]; exact ⟨Nat.le_of_ble_eq_true rfl, Nat.le_of_ble_eq_true rfl⟩)) (preS_rd hP hK) rfl rfl hl.1 rfl (lv_room (Nat.le_of_ble_eq_true rfl)) dX5_isHour_5 ⟨by rw [hR3]; omega, by rw [hR4]; omega⟩) ?_
  subst hQQ
  exact W.zret hx hb hr (nar_b _) (fun t9 ht _ => rdI (rfl) ht) (fun q h => absurd h List.not_mem_nil) dX5_isHour_8

set_option maxHeartbeats 4000000 in
set_option maxRecDepth 100000 in
theorem m_isDay (l : Launch) (g : GG) (x : Int32) : Rz l yX5_isDay wsX5_isDay 1 22 [.int (x)] g ([]) (bI (decide (nI 0 ≤ x ∧ x ≤ nI 416))) := by
  refine Met.ofW (cc := cX5_isDay) (maxL := 1) (ret := (some .boolean)) (by decide) rfl ?_
  intro p e s m args below meth c s₁ BB hml hv
  obtain ⟨hargs, hP, hK⟩ := hv
  have hx := BB.exec
  have hb := BB.bytes
  have hr := BB.returns
  have hts : ∀ w ∈ BIG, w.before args s = true := fun w h => atoms_spec (ws := wsX5_isDay) BB.pre w (List.mem_cons_of_mem _ h)
  have hown : s.vm.findClass RX5 = some m.cls := findClass_of_methodNamed BB.named
  have hlocks := BB.notSynchronized
  obtain ⟨RR, hRR⟩ : ∃ RR, RR = (headSpec wsX5_isDay ⟨1, 0, 0, 22⟩).room := ⟨_, rfl⟩
  have hR1 : RR.frames = 1 := by rw [hRR]; rfl
  have hR2 : RR.locals = 22 := by rw [hRR]; rfl
  have hR3 : RR.cells = 0 := by rw [hRR]; rfl
  have hR4 : RR.slots = 0 := by rw [hRR]; rfl
  have hl := lv_entry ([.int (x)]) (n := 1) (Nat.le_of_ble_eq_true rfl)
  have hent : entryFrame m args 1 = F0 m 0 ((lg_sl ([.int (x)]) ++ List.replicate (1 - (lg_sl ([.int (x)])).length) Slot.unset).toArray) [] := by rw [hargs, lg_entry_eq]
  rw [hent]
  generalize (lg_sl ([.int (x)]) ++ List.replicate (1 - (lg_sl ([.int (x)])).length) Slot.unset).toArray = ls at hl ⊢
  have hl : lv_has ls 1 [(0, .int (x))] := hl
  refine q_ab (R := RR) hRR ?_
  generalize hQQ : MQ below _ args s _ _ _ = QQ
  refine lv_iload_n hx hb dX5_isDay_0 rfl (lv_at hl 0 rfl) ?_
  refine lv_iconst (v := nI (0)) hx hb dX5_isDay_1 (by decide) ?_
  refine lv_sipush (v := nI (416)) hx hb dX5_isDay_2 (by decide) ?_
  refine cR_i (W.runS (As := [.int (x), .int (nI (0)), .int (nI (416))]) (rest := []) ⟨hx, hb, hml, hown, hts⟩ (m_isIn l g x (nI 0) (nI 416)) (va_cwS 3 hts (gS w_ml_X5_79 w_sm_X5_isIn w_ini_X5 w_co_X5_isIn) rfl rfl rfl (by decide +kernel) (by rw [hR1, hR2]; exact ⟨Nat.le_of_ble_eq_true rfl, Nat.le_of_ble_eq_true rfl⟩)) (preS_rd hP hK) rfl rfl hl.1 rfl (lv_room (Nat.le_of_ble_eq_true rfl)) dX5_isDay_5 ⟨by rw [hR3]; omega, by rw [hR4]; omega⟩) ?_
  subst hQQ
  exact W.zret hx hb hr (nar_b _) (fun t9 ht _ => rdI (rfl) ht) (fun q h => absurd h List.not_mem_nil) dX5_isDay_8

set_option maxHeartbeats 4000000 in
set_option maxRecDepth 100000 in
theorem m_isBin_n (l : Launch) (g : GG) (ma : Nat → Nat) (P : PT) (S : ST) (x : FT) (k : Int32) (hb9 : pB P = (xB x).length) (h8 : (xB x).length ≤ 8) (hk : binAt (xB x) k = none) : Rz l yX5_isBin wsX5_isBin 0 0 [.ref (ma 0), .int (k)] g (wM g ma P S) (bI false) := by
  refine Met.ofW (cc := cX5_isBin) (maxL := 2) (ret := (some .boolean)) (by decide) rfl ?_
  intro p e s m args below meth c s₁ BB hml hv
  obtain ⟨hargs, hP, hK⟩ := hv
  have hx := BB.exec
  have hb := BB.bytes
  have hr := BB.returns
  have hts : ∀ w ∈ BIG, w.before args s = true := fun w h => atoms_spec (ws := wsX5_isBin) BB.pre w (List.mem_cons_of_mem _ h)
  have hown : s.vm.findClass RX5 = some m.cls := findClass_of_methodNamed BB.named
  have hlocks := BB.notSynchronized
  obtain ⟨RR, hRR⟩ : ∃ RR, RR = (headSpec wsX5_isBin ⟨0, 0, 0, 0⟩).room := ⟨_, rfl⟩
  have hR1 : RR.frames = 0 := by rw [hRR]; rfl
  have hR2 : RR.locals = 0 := by rw [hRR]; rfl
  have hR3 : RR.cells = 0 := by rw [hRR]; rfl
  have hR4 : RR.slots = 0 := by rw [hRR]; rfl
  have hl := lv_entry ([.ref (ma 0), .int (k)]) (n := 2) (Nat.le_of_ble_eq_true rfl)
  have hent : entryFrame m args 2 = F0 m 0 ((lg_sl ([.ref (ma 0), .int (k)]) ++ List.replicate (2 - (lg_sl ([.ref (ma 0), .int (k)])).length) Slot.unset).toArray) [] := by rw [hargs, lg_entry_eq]
  rw [hent]
  generalize (lg_sl ([.ref (ma 0), .int (k)]) ++ List.replicate (2 - (lg_sl ([.ref (ma 0), .int (k)])).length) Slot.unset).toArray = ls at hl ⊢
  have hl : lv_has ls 2 [(0, .ref (ma 0)), (1, .int (k))] := hl
  refine q_ab (R := RR) hRR ?_
  generalize hQQ : MQ below _ args s _ _ _ = QQ
  have hkk := isBin_n (P := P) h8 hk
  rw [← hb9] at hkk
  refine lv_iload_n hx hb dX5_isBin_0 rfl (lv_at hl 1 rfl) ?_
  refine lv_if_lt (tgt := 16) hx hb dX5_isBin_1 (by decide) (fun c1 => ?_) (fun c1 => ?_)
  · refine lv_iconst (v := bI (false)) hx hb dX5_isBin_16 (by decide) ?_
    subst hQQ
    exact W.zret hx hb hr (nar_b _) (fun t9 ht _ => rdI (rfl) ht) (fun q h => absurd h List.not_mem_nil) dX5_isBin_17
  · refine lv_iload_n hx hb dX5_isBin_4 rfl (lv_at hl 1 rfl) ?_
    refine lv_aload_n hx hb dX5_isBin_5 rfl (lv_at hl 0 rfl) ?_
    refine va_get (D := g.1) (ci := 5) (v := .int (nI (pB P))) (C := RX5) (T := TX5) (N := 23) hx hb hts hiX5 hown hK.1 hP 0 rfl rfl 0 (by decide) (hts _ w_fl_X5_76) (fun _ h9 => h9) rfl dX5_isBin_6 ?_
    refine lv_icmp_ge (tgt := 16) hx hb dX5_isBin_9 (by decide) (fun c2 => ?_) (fun c2 => ?_)
    · refine lv_iconst (v := bI (false)) hx hb dX5_isBin_16 (by decide) ?_
      subst hQQ
      exact W.zret hx hb hr (nar_b _) (fun t9 ht _ => rdI (rfl) ht) (fun q h => absurd h List.not_mem_nil) dX5_isBin_17
    · exact absurd hkk (by rintro (z | z); exact c1 z; exact c2 z)

set_option maxHeartbeats 4000000 in
set_option maxRecDepth 100000 in
theorem m_isBin_s (l : Launch) (g : GG) (ma : Nat → Nat) (P : PT) (S : ST) (j : Nat) (hj : j < pB P) (h8 : pB P ≤ 8) : Rz l yX5_isBin wsX5_isBin 0 0 [.ref (ma 0), .int (nI (j))] g (wM g ma P S) (bI true) := by
  refine Met.ofW (cc := cX5_isBin) (maxL := 2) (ret := (some .boolean)) (by decide) rfl ?_
  intro p e s m args below meth c s₁ BB hml hv
  obtain ⟨hargs, hP, hK⟩ := hv
  have hx := BB.exec
  have hb := BB.bytes
  have hr := BB.returns
  have hts : ∀ w ∈ BIG, w.before args s = true := fun w h => atoms_spec (ws := wsX5_isBin) BB.pre w (List.mem_cons_of_mem _ h)
  have hown : s.vm.findClass RX5 = some m.cls := findClass_of_methodNamed BB.named
  have hlocks := BB.notSynchronized
  obtain ⟨RR, hRR⟩ : ∃ RR, RR = (headSpec wsX5_isBin ⟨0, 0, 0, 0⟩).room := ⟨_, rfl⟩
  have hR1 : RR.frames = 0 := by rw [hRR]; rfl
  have hR2 : RR.locals = 0 := by rw [hRR]; rfl
  have hR3 : RR.cells = 0 := by rw [hRR]; rfl
  have hR4 : RR.slots = 0 := by rw [hRR]; rfl
  have hl := lv_entry ([.ref (ma 0), .int (nI (j))]) (n := 2) (Nat.le_of_ble_eq_true rfl)
  have hent : entryFrame m args 2 = F0 m 0 ((lg_sl ([.ref (ma 0), .int (nI (j))]) ++ List.replicate (2 - (lg_sl ([.ref (ma 0), .int (nI (j))])).length) Slot.unset).toArray) [] := by rw [hargs, lg_entry_eq]
  rw [hent]
  generalize (lg_sl ([.ref (ma 0), .int (nI (j))]) ++ List.replicate (2 - (lg_sl ([.ref (ma 0), .int (nI (j))])).length) Slot.unset).toArray = ls at hl ⊢
  have hl : lv_has ls 2 [(0, .ref (ma 0)), (1, .int (nI (j)))] := hl
  refine q_ab (R := RR) hRR ?_
  generalize hQQ : MQ below _ args s _ _ _ = QQ
  refine lv_iload_n hx hb dX5_isBin_0 rfl (lv_at hl 1 rfl) ?_
  refine lv_if_lt (tgt := 16) hx hb dX5_isBin_1 (by decide) (fun c1 => ?_) (fun c1 => ?_)
  · exact absurd c1 (nI_pos (by omega))
  · refine lv_iload_n hx hb dX5_isBin_4 rfl (lv_at hl 1 rfl) ?_
    refine lv_aload_n hx hb dX5_isBin_5 rfl (lv_at hl 0 rfl) ?_
    refine va_get (D := g.1) (ci := 5) (v := .int (nI (pB P))) (C := RX5) (T := TX5) (N := 23) hx hb hts hiX5 hown hK.1 hP 0 rfl rfl 0 (by decide) (hts _ w_fl_X5_76) (fun _ h9 => h9) rfl dX5_isBin_6 ?_
    refine bn_ge (tgt := 16) hx hb (by omega) (by omega) dX5_isBin_9 (by decide) (fun c2 => ?_) (fun c2 => ?_)
    · exact absurd c2 (by omega)
    · refine lv_iconst (v := bI (true)) hx hb dX5_isBin_12 (by decide) ?_
      refine lv_goto (tgt := 17) hx hb dX5_isBin_13 (by decide) ?_
      subst hQQ
      exact W.zret hx hb hr (nar_b _) (fun t9 ht _ => rdI (rfl) ht) (fun q h => absurd h List.not_mem_nil) dX5_isBin_17

set_option maxHeartbeats 4000000 in
set_option maxRecDepth 100000 in
theorem m_weekdayOf (l : Launch) (g : GG) (ma : Nat → Nat) (P : PT) (S : ST) (d : Nat) (hd : d < 417) : Rd l yX5_weekdayOf wsX5_weekdayOf 0 0 [.ref (ma 0), .int (nI (d))] g (wM g ma P S) (nI (wdy (aHo P) d)) := by
  refine Met.ofW (cc := cX5_weekdayOf) (maxL := 2) (ret := (some .int)) (by decide) rfl ?_
  intro p e s m args below meth c s₁ BB hml hv
  obtain ⟨hargs, hP, hK⟩ := hv
  have hx := BB.exec
  have hb := BB.bytes
  have hr := BB.returns
  have hts : ∀ w ∈ BIG, w.before args s = true := fun w h => atoms_spec (ws := wsX5_weekdayOf) BB.pre w (List.mem_cons_of_mem _ h)
  have hown : s.vm.findClass RX5 = some m.cls := findClass_of_methodNamed BB.named
  have hlocks := BB.notSynchronized
  obtain ⟨RR, hRR⟩ : ∃ RR, RR = (headSpec wsX5_weekdayOf ⟨0, 0, 0, 0⟩).room := ⟨_, rfl⟩
  have hR1 : RR.frames = 0 := by rw [hRR]; rfl
  have hR2 : RR.locals = 0 := by rw [hRR]; rfl
  have hR3 : RR.cells = 0 := by rw [hRR]; rfl
  have hR4 : RR.slots = 0 := by rw [hRR]; rfl
  have hl := lv_entry ([.ref (ma 0), .int (nI (d))]) (n := 2) (Nat.le_of_ble_eq_true rfl)
  have hent : entryFrame m args 2 = F0 m 0 ((lg_sl ([.ref (ma 0), .int (nI (d))]) ++ List.replicate (2 - (lg_sl ([.ref (ma 0), .int (nI (d))])).length) Slot.unset).toArray) [] := by rw [hargs, lg_entry_eq]
  rw [hent]
  generalize (lg_sl ([.ref (ma 0), .int (nI (d))]) ++ List.replicate (2 - (lg_sl ([.ref (ma 0), .int (nI (d))])).length) Slot.unset).toArray = ls at hl ⊢
  have hl : lv_has ls 2 [(0, .ref (ma 0)), (1, .int (nI (d)))] := hl
  refine q_ab (R := RR) hRR ?_
  generalize hQQ : MQ below _ args s _ _ _ = QQ
  refine lv_aload_n hx hb dX5_weekdayOf_0 rfl (lv_at hl 0 rfl) ?_
  refine va_get (D := g.1) (ci := 5) (v := .ref (ma 9)) (C := RX5) (T := TX5) (N := 23) hx hb hts hiX5 hown hK.1 hP 0 rfl rfl 11 (by decide) (hts _ w_fl_X5_41) (fun _ h9 => h9) rfl dX5_weekdayOf_1 ?_
  refine lv_iload_n hx hb dX5_weekdayOf_4 rfl (lv_at hl 1 rfl) ?_
  refine n_zald (k := d) (v := bI (aHo P d)) hx hb hK.1 hP 9 1 rfl rfl (by omega) (by decide) (rfl) dX5_weekdayOf_5 ?_
  refine bb_eq (tgt := 14) hx hb dX5_weekdayOf_6 (by decide) (fun c1 => ?_) (fun c1 => ?_)
  · refine lv_iload_n hx hb dX5_weekdayOf_14 rfl (lv_at hl 1 rfl) ?_
    refine lv_bipush (v := nI (7)) hx hb dX5_weekdayOf_15 (by decide) ?_
    refine n_irem hx hb (by omega) (by omega) (by omega) dX5_weekdayOf_17 ?_
    subst hQQ
    exact W.iret hx hb hr (fun t9 ht _ => rdI (by rw [wdy, c1]; rfl) ht) (fun q h => absurd h List.not_mem_nil) dX5_weekdayOf_18
  · refine lv_bipush (v := nI (6)) hx hb dX5_weekdayOf_9 (by decide) ?_
    refine lv_goto (tgt := 18) hx hb dX5_weekdayOf_11 (by decide) ?_
    subst hQQ
    exact W.iret hx hb hr (fun t9 ht _ => rdI (by rw [wdy, c1]; rfl) ht) (fun q h => absurd h List.not_mem_nil) dX5_weekdayOf_18

set_option maxHeartbeats 4000000 in
set_option maxRecDepth 100000 in
theorem m_weightOf (l : Launch) (g : GG) (ma : Nat → Nat) (P : PT) (S : ST) (a : Nat) (ha : a < 8) : Rd l yX5_weightOf wsX5_weightOf 0 0 [.ref (ma 0), .int (nI (a))] g (wM g ma P S) (nI (wtP (pO P) (pU P) a 7)) := by
  refine Met.ofW (cc := cX5_weightOf) (maxL := 4) (ret := (some .int)) (by decide) rfl ?_
  intro p e s m args below meth c s₁ BB hml hv
  obtain ⟨hargs, hP, hK⟩ := hv
  have hx := BB.exec
  have hb := BB.bytes
  have hr := BB.returns
  have hts : ∀ w ∈ BIG, w.before args s = true := fun w h => atoms_spec (ws := wsX5_weightOf) BB.pre w (List.mem_cons_of_mem _ h)
  have hown : s.vm.findClass RX5 = some m.cls := findClass_of_methodNamed BB.named
  have hlocks := BB.notSynchronized
  obtain ⟨RR, hRR⟩ : ∃ RR, RR = (headSpec wsX5_weightOf ⟨0, 0, 0, 0⟩).room := ⟨_, rfl⟩
  have hR1 : RR.frames = 0 := by rw [hRR]; rfl
  have hR2 : RR.locals = 0 := by rw [hRR]; rfl
  have hR3 : RR.cells = 0 := by rw [hRR]; rfl
  have hR4 : RR.slots = 0 := by rw [hRR]; rfl
  have hl := lv_entry ([.ref (ma 0), .int (nI (a))]) (n := 4) (Nat.le_of_ble_eq_true rfl)
  have hent : entryFrame m args 4 = F0 m 0 ((lg_sl ([.ref (ma 0), .int (nI (a))]) ++ List.replicate (4 - (lg_sl ([.ref (ma 0), .int (nI (a))])).length) Slot.unset).toArray) [] := by rw [hargs, lg_entry_eq]
  rw [hent]
  generalize (lg_sl ([.ref (ma 0), .int (nI (a))]) ++ List.replicate (4 - (lg_sl ([.ref (ma 0), .int (nI (a))])).length) Slot.unset).toArray = ls at hl ⊢
  have hl : lv_has ls 4 [(0, .ref (ma 0)), (1, .int (nI (a)))] := hl
  refine q_ab (R := RR) hRR ?_
  generalize hQQ : MQ below _ args s _ _ _ = QQ
  refine lv_iconst (v := nI (1)) hx hb dX5_weightOf_0 (by decide) ?_
  refine lv_istore_n (lv' := [(2, .int (nI (1))), (0, .ref (ma 0)), (1, .int (nI (a)))]) hx hb dX5_weightOf_1 rfl hl (by decide) rfl (fun ls hl => ?_)
  refine lv_iconst (v := nI (0)) hx hb dX5_weightOf_2 (by decide) ?_
  refine lv_istore_n (lv' := [(3, .int (nI (0))), (2, .int (nI (1))), (0, .ref (ma 0)), (1, .int (nI (a)))]) hx hb dX5_weightOf_3 rfl hl (by decide) rfl (fun ls hl => ?_)
  have loop : ∀ (k : Nat) (i : Nat) (ls : Array Slot), (i ≤ 7) → (7 < i + k) → lv_has ls 4 [(0, .ref (ma 0)), (1, .int (nI (a))), (2, .int (nI (wtP (pO P) (pU P) a i))), (3, .int (nI (i)))] → W p l e RR s m args below meth c s.heap [] 0 0 QQ (F0 m 4 ls []) := by
    intro k
    induction k with
    | zero => intro i ls hi hk hl; exact absurd hk (by omega)
    | succ k ih =>
      intro i ls hi hk hl
      refine lv_iload_n hx hb dX5_weightOf_4 rfl (lv_at hl 3 rfl) ?_
      refine lv_bipush (v := nI (7)) hx hb dX5_weightOf_5 (by decide) ?_
      refine bn_ge (tgt := 35) hx hb (by omega) (by omega) dX5_weightOf_7 (by decide) (fun c1 => ?_) (fun c1 => ?_)
      · have hi7 : i = 7 := by omega
        subst hi7
        refine lv_iload_n hx hb dX5_weightOf_35 rfl (lv_at hl 2 rfl) ?_
        subst hQQ
        exact W.iret hx hb hr (fun t9 ht _ => rdI (rfl) ht) (fun q h => absurd h List.not_mem_nil) dX5_weightOf_36
      · refine lv_iload_n hx hb dX5_weightOf_10 rfl (lv_at hl 2 rfl) ?_
        refine lv_iload_n hx hb dX5_weightOf_11 rfl (lv_at hl 3 rfl) ?_
        refine lv_iload_n hx hb dX5_weightOf_12 rfl (lv_at hl 1 rfl) ?_
        refine bn_ge (tgt := 23) hx hb (by omega) (by omega) dX5_weightOf_13 (by decide) (fun c2 => ?_) (fun c2 => ?_)
        · refine lv_aload_n hx hb dX5_weightOf_23 rfl (lv_at hl 0 rfl) ?_
          refine va_get (D := g.1) (ci := 5) (v := .int (nI (pU P))) (C := RX5) (T := TX5) (N := 23) hx hb hts hiX5 hown hK.1 hP 0 rfl rfl 10 (by decide) (hts _ w_fl_X5_38) (fun _ h9 => h9) rfl dX5_weightOf_24 ?_
          refine n_imul hx hb dX5_weightOf_27 ?_
          refine tp_i (y := nI (wtP (pO P) (pU P) a (i + 1))) (by rw [wtP, if_neg (by omega)]) ?_
          refine lv_istore_n (lv' := [(2, .int (nI (wtP (pO P) (pU P) a (i + 1)))), (0, .ref (ma 0)), (1, .int (nI (a))), (3, .int (nI (i)))]) hx hb dX5_weightOf_28 rfl hl (by decide) rfl (fun ls hl => ?_)
          refine lv_iinc (v := nI (i + 1)) (lv' := [(3, .int (nI (i + 1))), (2, .int (nI (wtP (pO P) (pU P) a (i + 1)))), (0, .ref (ma 0)), (1, .int (nI (a)))]) hx hb dX5_weightOf_29 hl (k := 3) rfl (nI_1 _) (by decide) rfl (fun ls hl => ?_)
          refine lv_goto (tgt := 4) hx hb dX5_weightOf_32 (by decide) ?_
          exact ih (i + 1) ls (by omega) (by omega) (lv_sub hl [2, 3, 1, 0] rfl)
        · refine lv_aload_n hx hb dX5_weightOf_16 rfl (lv_at hl 0 rfl) ?_
          refine va_get (D := g.1) (ci := 5) (v := .int (nI (pO P))) (C := RX5) (T := TX5) (N := 23) hx hb hts hiX5 hown hK.1 hP 0 rfl rfl 9 (by decide) (hts _ w_fl_X5_34) (fun _ h9 => h9) rfl dX5_weightOf_17 ?_
          refine lv_goto (tgt := 27) hx hb dX5_weightOf_20 (by decide) ?_
          refine n_imul hx hb dX5_weightOf_27 ?_
          refine tp_i (y := nI (wtP (pO P) (pU P) a (i + 1))) (by rw [wtP, if_pos c2]) ?_
          refine lv_istore_n (lv' := [(2, .int (nI (wtP (pO P) (pU P) a (i + 1)))), (0, .ref (ma 0)), (1, .int (nI (a))), (3, .int (nI (i)))]) hx hb dX5_weightOf_28 rfl hl (by decide) rfl (fun ls hl => ?_)
          refine lv_iinc (v := nI (i + 1)) (lv' := [(3, .int (nI (i + 1))), (2, .int (nI (wtP (pO P) (pU P) a (i + 1)))), (0, .ref (ma 0)), (1, .int (nI (a)))]) hx hb dX5_weightOf_29 hl (k := 3) rfl (nI_1 _) (by decide) rfl (fun ls hl => ?_)
          refine lv_goto (tgt := 4) hx hb dX5_weightOf_32 (by decide) ?_
          exact ih (i + 1) ls (by omega) (by omega) (lv_sub hl [2, 3, 1, 0] rfl)
  exact loop 8 0 ls (by omega) (by omega) (lv_sub hl [2, 3, 1, 0] rfl)

