set_option maxHeartbeats 4000000 in
set_option maxRecDepth 100000 in
theorem m_bin (l : Launch) (g : GG) (ma : Nat → Nat) (P : PT) (S : ST) (x : FT) (hx9 : Xok x) (hRl : Rel x P) (hR0 : Rel0 P) (k d : Int32) (u9 : Nat → Nat) (sz : Nat) : Mi l yX5_bin wsX5_bin 1 22 0 0 [.ref (ma 0), .int (k), .int (d)] g (wM g ma P S) sz ma S (fun r u => r = (binS x k d u9).1 ∧ Rel (binS x k d u9).2 u ∧ Rel0 u) := by
  refine Met.ofW (cc := cX5_bin) (maxL := 3) (ret := (some .int)) (by decide) rfl ?_
  intro p e s m args below meth c s₁ BB hml hv
  obtain ⟨hargs, hsz, hP, hK, hD0⟩ := hv
  have hx := BB.exec
  have hb := BB.bytes
  have hr := BB.returns
  have hts : ∀ w ∈ BIG, w.before args s = true := fun w h => atoms_spec (ws := wsX5_bin) BB.pre w (List.mem_cons_of_mem _ h)
  have hown : s.vm.findClass RX5 = some m.cls := findClass_of_methodNamed BB.named
  have hlocks := BB.notSynchronized
  obtain ⟨RR, hRR⟩ : ∃ RR, RR = (headSpec wsX5_bin ⟨1, 0, 0, 22⟩).room := ⟨_, rfl⟩
  have hR1 : RR.frames = 1 := by rw [hRR]; rfl
  have hR2 : RR.locals = 22 := by rw [hRR]; rfl
  have hR3 : RR.cells = 0 := by rw [hRR]; rfl
  have hR4 : RR.slots = 0 := by rw [hRR]; rfl
  have hl := lv_entry ([.ref (ma 0), .int (k), .int (d)]) (n := 3) (Nat.le_of_ble_eq_true rfl)
  have hent : entryFrame m args 3 = F0 m 0 ((lg_sl ([.ref (ma 0), .int (k), .int (d)]) ++ List.replicate (3 - (lg_sl ([.ref (ma 0), .int (k), .int (d)])).length) Slot.unset).toArray) [] := by rw [hargs, lg_entry_eq]
  rw [hent]
  generalize (lg_sl ([.ref (ma 0), .int (k), .int (d)]) ++ List.replicate (3 - (lg_sl ([.ref (ma 0), .int (k), .int (d)])).length) Slot.unset).toArray = ls at hl ⊢
  have hl : lv_has ls 3 [(0, .ref (ma 0)), (1, .int (k)), (2, .int (d))] := hl
  subst hsz
  have hD := hD0.self (sz := s.heap.size)
  generalize hAe : va_A (wM g ma P S) s.heap.size = A at hD ⊢
  have hA : ∀ q : Nat, s.heap.size ≤ q → A q := fun q h => by rw [← hAe]; exact Or.inr h
  have hS : va_S A s.heap s.heap [] := va_S.rf
  refine q_ab (R := RR) hRR ?_
  generalize hQQ : MQ below _ args s _ _ _ = QQ
  have h8 := hx9.1
  have hpB := hRl.1
  refine lv_aload_n hx hb dX5_bin_0 rfl (lv_at hl 0 rfl) ?_
  refine va_get (D := g.1) (ci := 5) (v := .int (nI (pB P))) (C := RX5) (T := TX5) (N := 23) hx hb hts hiX5 hown hK.1 hP 0 rfl rfl 0 (by decide) (hts _ w_fl_X5_76) (fun _ h9 => h9) rfl dX5_bin_1 ?_
  refine lv_bipush (v := nI (8)) hx hb dX5_bin_4 (by decide) ?_
  refine bn_eq (tgt := 29) hx hb (by omega) (by omega) dX5_bin_6 (by decide) (fun c1 => ?_) (fun c1 => ?_)
  · refine lv_iconst (v := (-1)) hx hb dX5_bin_29 (by decide) ?_
    subst hQQ
    exact W.iret hx hb hr (fun t9 ht _ => ⟨⟨_, P, rfl, by unfold binS; rw [if_pos (by omega)]; exact ⟨rfl, hRl, hR0⟩, hpT ht hP⟩, hS.F ht⟩) hS.2.2 dX5_bin_30
  · refine lv_iload_n hx hb dX5_bin_9 rfl (lv_at hl 1 rfl) ?_
    refine lv_iconst (v := nI (0)) hx hb dX5_bin_10 (by decide) ?_
    refine lv_iconst (v := nI (3)) hx hb dX5_bin_11 (by decide) ?_
    refine cR_i (W.runS (As := [.int (k), .int (nI (0)), .int (nI (3))]) (rest := []) ⟨hx, hb, hml, hown, hts⟩ (m_isIn l g k (nI 0) (nI 3)) (va_cwS 3 hts (gS w_ml_X5_79 w_sm_X5_isIn w_ini_X5 w_co_X5_isIn) rfl rfl rfl (by decide +kernel) (by rw [hR1, hR2]; exact ⟨Nat.le_of_ble_eq_true rfl, Nat.le_of_ble_eq_true rfl⟩)) (preS_rd va_P.nil hK) rfl rfl hl.1 rfl (lv_room (Nat.le_of_ble_eq_true rfl)) dX5_bin_12 ⟨by rw [hR3]; omega, by rw [hR4]; omega⟩) ?_
    refine bb_eq (tgt := 29) hx hb dX5_bin_15 (by decide) (fun hhc => ?_) (fun hhc => ?_)
    · cases hh : inL 0 3 k with
      | none =>
        refine lv_iconst (v := (-1)) hx hb dX5_bin_29 (by decide) ?_
        subst hQQ
        exact W.iret hx hb hr (fun t9 ht _ => ⟨⟨_, P, rfl, by unfold binS; rw [if_neg (by omega), hh]; exact ⟨rfl, hRl, hR0⟩, hpT ht hP⟩, hS.F ht⟩) hS.2.2 dX5_bin_30
      | some a => exact absurd hhc (by rw [(inL_s (by decide) (by decide) hh).2.2.2]; decide)
    · cases hh : inL 0 3 k with
      | none => exact absurd hhc (by rw [inL_n hh]; decide)
      | some a =>
        obtain ⟨hhl, hhn, hhe, -⟩ := inL_s (by decide) (by decide) hh
        subst hhe
        refine lv_iload_n hx hb dX5_bin_18 rfl (lv_at hl 2 rfl) ?_
        refine lv_iconst (v := nI (1)) hx hb dX5_bin_19 (by decide) ?_
        refine lv_sipush (v := nI (10000)) hx hb dX5_bin_20 (by decide) ?_
        refine cR_i (W.runS (As := [.int (d), .int (nI (1)), .int (nI (10000))]) (rest := []) ⟨hx, hb, hml, hown, hts⟩ (m_isIn l g d (nI 1) (nI 10000)) (va_cwS 3 hts (gS w_ml_X5_79 w_sm_X5_isIn w_ini_X5 w_co_X5_isIn) rfl rfl rfl (by decide +kernel) (by rw [hR1, hR2]; exact ⟨Nat.le_of_ble_eq_true rfl, Nat.le_of_ble_eq_true rfl⟩)) (preS_rd va_P.nil hK) rfl rfl hl.1 rfl (lv_room (Nat.le_of_ble_eq_true rfl)) dX5_bin_23 ⟨by rw [hR3]; omega, by rw [hR4]; omega⟩) ?_
        refine bb_ne (tgt := 31) hx hb dX5_bin_26 (by decide) (fun hic => ?_) (fun hic => ?_)
        · cases hi : inL 1 10000 d with
          | none => exact absurd hic (by rw [inL_n hi]; decide)
          | some e1 =>
            obtain ⟨hil, hin, hie, -⟩ := inL_s (by decide) (by decide) hi
            subst hie
            refine lv_aload_n hx hb dX5_bin_31 rfl (lv_at hl 0 rfl) ?_
            refine va_get (D := g.1) (ci := 5) (v := .ref (ma 1)) (C := RX5) (T := TX5) (N := 23) hx hb hts hiX5 hown hK.1 hP 0 rfl rfl 1 (by decide) (hts _ w_fl_X5_7) (fun _ h9 => h9) rfl dX5_bin_32 ?_
            refine lv_aload_n hx hb dX5_bin_35 rfl (lv_at hl 0 rfl) ?_
            refine va_get (D := g.1) (ci := 5) (v := .int (nI (pB P))) (C := RX5) (T := TX5) (N := 23) hx hb hts hiX5 hown hK.1 hP 0 rfl rfl 0 (by decide) (hts _ w_fl_X5_76) (fun _ h9 => h9) rfl dX5_bin_36 ?_
            refine lv_iload_n hx hb dX5_bin_39 rfl (lv_at hl 1 rfl) ?_
            refine n_iastE (enc := nI) (f := aSt P) (x := a) (k := pB P) hx hb hK.1 hP hD hS 1 0 rfl rfl (by omega) (by decide) dX5_bin_40 (fun H locs hP hD hS => ?_)
            have hP : va_P g.1 vwCl (wM g ma (uaSt P (va_up (aSt P) (pB P) a)) S) H := hP
            have hD : va_D A (wM g ma (uaSt P (va_up (aSt P) (pB P) a)) S) := hD
            refine lv_aload_n hx hb dX5_bin_41 rfl (lv_at hl 0 rfl) ?_
            refine va_get (D := g.1) (ci := 5) (v := .ref (ma 2)) (C := RX5) (T := TX5) (N := 23) hx hb hts hiX5 hown hK.1 hP 0 rfl rfl 2 (by decide) (hts _ w_fl_X5_13) (fun _ h9 => h9) rfl dX5_bin_42 ?_
            refine lv_aload_n hx hb dX5_bin_45 rfl (lv_at hl 0 rfl) ?_
            refine va_get (D := g.1) (ci := 5) (v := .int (nI (pB P))) (C := RX5) (T := TX5) (N := 23) hx hb hts hiX5 hown hK.1 hP 0 rfl rfl 0 (by decide) (hts _ w_fl_X5_76) (fun _ h9 => h9) rfl dX5_bin_46 ?_
            refine lv_iload_n hx hb dX5_bin_49 rfl (lv_at hl 2 rfl) ?_
            refine n_iastE (enc := nI) (f := aRm P) (x := e1) (k := pB P) hx hb hK.1 hP hD hS 2 0 rfl rfl (by omega) (by decide) dX5_bin_50 (fun H locs hP hD hS => ?_)
            have hP : va_P g.1 vwCl (wM g ma (uaRm (uaSt P (va_up (aSt P) (pB P) a)) (va_up (aRm P) (pB P) e1)) S) H := hP
            have hD : va_D A (wM g ma (uaRm (uaSt P (va_up (aSt P) (pB P) a)) (va_up (aRm P) (pB P) e1)) S) := hD
            refine lv_aload_n hx hb dX5_bin_51 rfl (lv_at hl 0 rfl) ?_
            refine lv_dup hx hb dX5_bin_52 rfl ?_
            refine va_get (D := g.1) (ci := 5) (v := .int (nI (pB P))) (C := RX5) (T := TX5) (N := 23) hx hb hts hiX5 hown hK.1 hP 0 rfl rfl 0 (by decide) (hts _ w_fl_X5_76) (fun _ h9 => h9) rfl dX5_bin_53 ?_
            refine lv_iconst (v := nI (1)) hx hb dX5_bin_56 (by decide) ?_
            refine n_iadd hx hb dX5_bin_57 ?_
            refine va_put (D := g.1) (ci := 5) (v := .int (nI (pB P + 1))) (ty := .int) (C := RX5) (T := TX5) (N := 23) hx hb hts hiX5 tyX5 tyX5_ok nmX5 hown hK.1 hP hD hS 0 rfl rfl 0 (by decide) (hts _ w_fl_X5_76) (fun _ h9 => h9) rfl (by decide +kernel) rfl rfl (Nat.le_of_ble_eq_true rfl) dX5_bin_58 (fun H locs hP hD hS => ?_)
            have hP : va_P g.1 vwCl (wM g ma (upB (uaRm (uaSt P (va_up (aSt P) (pB P) a)) (va_up (aRm P) (pB P) e1)) (pB P + 1)) S) H := hP
            have hD : va_D A (wM g ma (upB (uaRm (uaSt P (va_up (aSt P) (pB P) a)) (va_up (aRm P) (pB P) e1)) (pB P + 1)) S) := hD
            refine lv_aload_n hx hb dX5_bin_61 rfl (lv_at hl 0 rfl) ?_
            refine va_get (D := g.1) (ci := 5) (v := .int (nI (pB P + 1))) (C := RX5) (T := TX5) (N := 23) hx hb hts hiX5 hown hK.1 hP 0 rfl rfl 0 (by decide) (hts _ w_fl_X5_76) (fun _ h9 => h9) rfl dX5_bin_62 ?_
            refine lv_iconst (v := nI (1)) hx hb dX5_bin_65 (by decide) ?_
            refine n_isub hx hb (by omega) dX5_bin_66 ?_
            subst hQQ
            exact W.iret hx hb hr (fun t9 ht _ => ⟨⟨_, nwB P a e1, rfl, by unfold binS; rw [if_neg (by omega), hh]; dsimp only; rw [hi]; exact ⟨by show nI (pB P + 1 - 1) = nI (xB x).length; rw [hpB]; rfl, Rel_bin hx9 hRl hR0⟩, hpT ht hP⟩, hS.F ht⟩) hS.2.2 dX5_bin_67
        · cases hi : inL 1 10000 d with
          | none =>
            refine lv_iconst (v := (-1)) hx hb dX5_bin_29 (by decide) ?_
            subst hQQ
            exact W.iret hx hb hr (fun t9 ht _ => ⟨⟨_, P, rfl, by unfold binS; rw [if_neg (by omega), hh]; dsimp only; rw [hi]; exact ⟨rfl, hRl, hR0⟩, hpT ht hP⟩, hS.F ht⟩) hS.2.2 dX5_bin_30
          | some e1 => exact absurd hic (by rw [(inL_s (by decide) (by decide) hi).2.2.2]; decide)

