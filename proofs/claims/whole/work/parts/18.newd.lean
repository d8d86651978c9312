set_option maxHeartbeats 4000000 in
set_option maxRecDepth 100000 in
theorem k_bin (l : Launch) (g : GG) (x : FT) (hx9 : Xok x) (k d : Int32) (sz : Nat) : Ai l yX4_bin wsX4_bin 2 34 5 136 [.ref (xA x 0), .int (k), .int (d)] g (x) sz (fun r v => ∃ u, (r, v) = binS x k d u) := by
  refine Met.ofW (cc := cX4_bin) (maxL := 3) (ret := (some .int)) (by decide) rfl ?_
  intro p e s m args below meth c s₁ BB hml hv
  obtain ⟨hargs, hsz, hP, hK, hD0⟩ := hv
  have hx := BB.exec
  have hb := BB.bytes
  have hr := BB.returns
  have hts : ∀ w ∈ BIG, w.before args s = true := fun w h => atoms_spec (ws := wsX4_bin) BB.pre w (List.mem_cons_of_mem _ h)
  have hown : s.vm.findClass RX4 = some m.cls := findClass_of_methodNamed BB.named
  have hlocks := BB.notSynchronized
  obtain ⟨RR, hRR⟩ : ∃ RR, RR = (headSpec wsX4_bin ⟨2, 5, 136, 34⟩).room := ⟨_, rfl⟩
  have hR1 : RR.frames = 2 := by rw [hRR]; rfl
  have hR2 : RR.locals = 34 := by rw [hRR]; rfl
  have hR3 : RR.cells = 5 := by rw [hRR]; rfl
  have hR4 : RR.slots = 136 := by rw [hRR]; rfl
  have hl := lv_entry ([.ref (xA x 0), .int (k), .int (d)]) (n := 3) (Nat.le_of_ble_eq_true rfl)
  have hent : entryFrame m args 3 = F0 m 0 ((lg_sl ([.ref (xA x 0), .int (k), .int (d)]) ++ List.replicate (3 - (lg_sl ([.ref (xA x 0), .int (k), .int (d)])).length) Slot.unset).toArray) [] := by rw [hargs, lg_entry_eq]
  rw [hent]
  generalize (lg_sl ([.ref (xA x 0), .int (k), .int (d)]) ++ List.replicate (3 - (lg_sl ([.ref (xA x 0), .int (k), .int (d)])).length) Slot.unset).toArray = ls at hl ⊢
  have hl : lv_has ls 3 [(0, .ref (xA x 0)), (1, .int (k)), (2, .int (d))] := hl
  subst hsz
  have hD := hD0.self (sz := s.heap.size)
  generalize hAe : va_A (wX g x) s.heap.size = A at hD ⊢
  have hA : ∀ q : Nat, s.heap.size ≤ q → A q := fun q h => by rw [← hAe]; exact Or.inr h
  have hS : va_S A s.heap s.heap [] := va_S.rf
  refine q_ab (R := RR) hRR ?_
  generalize hQQ : MQ below _ args s _ _ _ = QQ
  obtain ⟨h8, hB, hW, hq9, he9, hl9⟩ := id hx9
  refine lv_aload_n hx hb dX4_bin_0 rfl (lv_at hl 0 rfl) ?_
  refine va_get (D := g.1) (ci := 4) (v := .int (nI ((xB x).length))) (C := RX4) (T := TX4) (N := 8) hx hb hts hiX4 hown hK.1 hP 0 rfl rfl 4 (by decide) (hts _ w_fl_X4_36) (fun _ h9 => h9) rfl dX4_bin_1 ?_
  refine lv_bipush (v := nI (8)) hx hb dX4_bin_4 (by decide) ?_
  refine bn_ge (tgt := 29) hx hb (by omega) (by omega) dX4_bin_6 (by decide) (fun c1 => ?_) (fun c1 => ?_)
  · refine lv_iconst (v := (-1)) hx hb dX4_bin_29 (by decide) ?_
    refine W.widen (k := 5) (n := 136) (Nat.zero_le _) (Nat.zero_le _) ?_
    subst hQQ
    exact W.iret hx hb hr (fun t9 ht _ => ⟨⟨_, x, rfl, ⟨fun _ => 0, by unfold binS; rw [if_pos c1]⟩, hpT ht hP, hD⟩, hS.F ht⟩) hS.2.2 dX4_bin_30
  · refine lv_iload_n hx hb dX4_bin_9 rfl (lv_at hl 1 rfl) ?_
    refine lv_iconst (v := nI (0)) hx hb dX4_bin_10 (by decide) ?_
    refine lv_iconst (v := nI (3)) hx hb dX4_bin_11 (by decide) ?_
    refine cR_i (W.runS (As := [.int (k), .int (nI (0)), .int (nI (3))]) (rest := []) ⟨hx, hb, hml, hown, hts⟩ (k_isWithin l g k (nI 0) (nI 3)) (va_cwS 3 hts (gS w_ml_X4_49 w_sm_X4_isWithin w_ini_X4 w_co_X4_isWithin) rfl rfl rfl (by decide +kernel) (by rw [hR1, hR2]; exact ⟨Nat.le_of_ble_eq_true rfl, Nat.le_of_ble_eq_true rfl⟩)) (preS_rd va_P.nil hK) rfl rfl hl.1 rfl (lv_room (Nat.le_of_ble_eq_true rfl)) dX4_bin_12 ⟨by rw [hR3]; omega, by rw [hR4]; omega⟩) ?_
    refine bb_eq (tgt := 29) hx hb dX4_bin_15 (by decide) (fun hhc => ?_) (fun hhc => ?_)
    · cases hh : inL 0 3 k with
      | none =>
        refine lv_iconst (v := (-1)) hx hb dX4_bin_29 (by decide) ?_
        refine W.widen (k := 5) (n := 136) (Nat.zero_le _) (Nat.zero_le _) ?_
        subst hQQ
        exact W.iret hx hb hr (fun t9 ht _ => ⟨⟨_, x, rfl, ⟨fun _ => 0, by unfold binS; rw [if_neg (by omega), hh]⟩, hpT ht hP, hD⟩, hS.F ht⟩) hS.2.2 dX4_bin_30
      | some a => exact absurd hhc (by rw [(inL_s (by decide) (by decide) hh).2.2.2]; decide)
    · cases hh : inL 0 3 k with
      | none => exact absurd hhc (by rw [inL_n hh]; decide)
      | some a =>
        obtain ⟨hhl, hhn, hhe, -⟩ := inL_s (by decide) (by decide) hh
        subst hhe
        refine lv_iload_n hx hb dX4_bin_18 rfl (lv_at hl 2 rfl) ?_
        refine lv_iconst (v := nI (1)) hx hb dX4_bin_19 (by decide) ?_
        refine lv_sipush (v := nI (10000)) hx hb dX4_bin_20 (by decide) ?_
        refine cR_i (W.runS (As := [.int (d), .int (nI (1)), .int (nI (10000))]) (rest := []) ⟨hx, hb, hml, hown, hts⟩ (k_isWithin l g d (nI 1) (nI 10000)) (va_cwS 3 hts (gS w_ml_X4_49 w_sm_X4_isWithin w_ini_X4 w_co_X4_isWithin) rfl rfl rfl (by decide +kernel) (by rw [hR1, hR2]; exact ⟨Nat.le_of_ble_eq_true rfl, Nat.le_of_ble_eq_true rfl⟩)) (preS_rd va_P.nil hK) rfl rfl hl.1 rfl (lv_room (Nat.le_of_ble_eq_true rfl)) dX4_bin_23 ⟨by rw [hR3]; omega, by rw [hR4]; omega⟩) ?_
        refine bb_ne (tgt := 31) hx hb dX4_bin_26 (by decide) (fun hic => ?_) (fun hic => ?_)
        · cases hi : inL 1 10000 d with
          | none => exact absurd hic (by rw [inL_n hi]; decide)
          | some e =>
            obtain ⟨hil, hin, hie, -⟩ := inL_s (by decide) (by decide) hi
            subst hie
            refine lv_aload_n hx hb dX4_bin_31 rfl (lv_at hl 0 rfl) ?_
            refine va_get (D := g.1) (ci := 4) (v := .ref (xA x 1)) (C := RX4) (T := TX4) (N := 8) hx hb hts hiX4 hown hK.1 hP 0 rfl rfl 3 (by decide) (hts _ w_fl_X4_32) (fun _ h9 => h9) rfl dX4_bin_32 ?_
            refine lv_aload_n hx hb dX4_bin_35 rfl (lv_at hl 0 rfl) ?_
            refine va_get (D := g.1) (ci := 4) (v := .int (nI ((xB x).length))) (C := RX4) (T := TX4) (N := 8) hx hb hts hiX4 hown hK.1 hP 0 rfl rfl 4 (by decide) (hts _ w_fl_X4_36) (fun _ h9 => h9) rfl dX4_bin_36 ?_
            refine va_new (ci := 0) (fs := [.int 0, .int 0, .null, .null, .null, .null, .int 0, .int 0]) (C := RX0) (T := TX0) (N := 8) hx hb hts hiX0 tyX0 tyX0_ok hown (hts _ w_cl_X4_30) (hts _ w_ins_X0) (hts _ w_ini_X0) hK.1 hP hD hS hA rfl (fun j hj => by rcases (show j = 0 ∨ j = 1 ∨ j = 2 ∨ j = 3 ∨ j = 4 ∨ j = 5 ∨ j = 6 ∨ j = 7 by omega) with rfl | rfl | rfl | rfl | rfl | rfl | rfl | rfl <;> rfl) (by rw [hR3]; omega) (by rw [hR4]; omega) dX4_bin_39 (fun qb H hP hD hS => ?_)
            refine lv_dup hx hb dX4_bin_42 rfl ?_
            refine lv_iload_n hx hb dX4_bin_43 rfl (lv_at hl 1 rfl) ?_
            refine lv_iload_n hx hb dX4_bin_44 rfl (lv_at hl 2 rfl) ?_
            have hP3 : va_P g.1 vwCl ((wX g x) ++ ([(qb, .inr (0, [.int 0, .int 0, .null, .null, .null, .null, .int 0, .int 0]))] ++ [])) _ := hP
            have hD3 : va_D A ((wX g x) ++ ([(qb, .inr (0, [.int 0, .int 0, .null, .null, .null, .null, .int 0, .int 0]))] ++ [])) := hD
            refine cN_v (q := qb) (w1 := fun u => wB g (newB u a e)) (va_runI (As := [.int (nI (a)), .int (nI (e))]) (rest := [.ref (qb), .int (nI ((xB x).length)), .ref (xA x 1)]) ⟨hx, hb, hml, hown, hts⟩ (k_Bin_init l g qb a e _) (cwI 2 hts (gI0 w_co_X0_init) rfl rfl rfl (hts _ w_ini_X0) (hts _ w_ml_X4_53) (hts _ w_im_X0_init) rfl (by decide +kernel) (by rw [hR1, hR2]; exact ⟨Nat.le_of_ble_eq_true rfl, Nat.le_of_ble_eq_true rfl⟩)) (preI_wr (P_mid hP3) hK (D_mid hD3)) rfl rfl hl.1 rfl (lv_room (Nat.le_of_ble_eq_true rfl)) dX4_bin_45 ⟨by rw [hR3]; omega, by rw [hR4]; omega⟩) hP3 hD3 hS hA (fun ub H locs hu hPn hDn hSn => ?_)
            subst hu
            have hP := hPn
            have hD := hDn
            have hS := hSn
            have hpm : (wB g (newB ub a e) ++ (wXk g x (xB x).length (bRef (xB x)) ++ (wF g (xF x) (xW x) ++ (wO g (xO x) (xR x) (xS x) ++ (wC g (xC x) (xH x) ++ bw g (xB x))))) : va_W).Perm (wX g x ++ (wB g (newB ub a e) ++ [])) := by rw [List.append_nil]; exact List.perm_append_comm
            have hP : va_P g.1 vwCl (wB g (newB ub a e) ++ (wXk g x (xB x).length (bRef (xB x)) ++ (wF g (xF x) (xW x) ++ (wO g (xO x) (xR x) (xS x) ++ (wC g (xC x) (xH x) ++ bw g (xB x)))))) H := P_perm hP hpm
            have hD : va_D A (wB g (newB ub a e) ++ (wXk g x (xB x).length (bRef (xB x)) ++ (wF g (xF x) (xW x) ++ (wO g (xO x) (xR x) (xS x) ++ (wC g (xC x) (xH x) ++ bw g (xB x)))))) := D_perm hD hpm
            refine va_astq (q0 := 6) (t0 := 2) (qk := 0) (ci := 0) hx hb hK.1 hP hD hS rfl rfl rfl rfl (vp_in_nI (show (xB x).length < 8 by omega) (by decide)) dX4_bin_48 (fun H locs hP hD hS => ?_)
            rw [nI_clamp (show (xB x).length < 2 ^ 31 by omega)] at hP hD
            have hP : va_P g.1 vwCl (wB g (newB ub a e) ++ (wXk g x (xB x).length (va_up (bRef (xB x)) (xB x).length (some (ub 0))) ++ (wF g (xF x) (xW x) ++ (wO g (xO x) (xR x) (xS x) ++ (wC g (xC x) (xH x) ++ bw g (xB x)))))) H := hP
            have hD : va_D A (wB g (newB ub a e) ++ (wXk g x (xB x).length (va_up (bRef (xB x)) (xB x).length (some (ub 0))) ++ (wF g (xF x) (xW x) ++ (wO g (xO x) (xR x) (xS x) ++ (wC g (xC x) (xH x) ++ bw g (xB x)))))) := hD
            refine lv_aload_n hx hb dX4_bin_49 rfl (lv_at hl 0 rfl) ?_
            refine lv_dup hx hb dX4_bin_50 rfl ?_
            refine va_get (D := g.1) (ci := 4) (v := .int (nI ((xB x).length))) (C := RX4) (T := TX4) (N := 8) hx hb hts hiX4 hown hK.1 hP 5 rfl rfl 4 (by decide) (hts _ w_fl_X4_36) (fun _ h9 => h9) rfl dX4_bin_51 ?_
            refine lv_iconst (v := nI (1)) hx hb dX4_bin_54 (by decide) ?_
            refine n_iadd hx hb dX4_bin_55 ?_
            refine va_put (D := g.1) (ci := 4) (v := .int (nI ((xB x).length + 1))) (ty := .int) (C := RX4) (T := TX4) (N := 8) hx hb hts hiX4 tyX4 tyX4_ok nmX4 hown hK.1 hP hD hS 5 rfl rfl 4 (by decide) (hts _ w_fl_X4_36) (fun _ h9 => h9) rfl (by decide +kernel) rfl rfl (Nat.le_of_ble_eq_true rfl) dX4_bin_56 (fun H locs hP hD hS => ?_)
            have hP : va_P g.1 vwCl (wB g (newB ub a e) ++ (wXk g x ((xB x).length + 1) (va_up (bRef (xB x)) (xB x).length (some (ub 0))) ++ (wF g (xF x) (xW x) ++ (wO g (xO x) (xR x) (xS x) ++ (wC g (xC x) (xH x) ++ bw g (xB x)))))) H := hP
            have hD : va_D A (wB g (newB ub a e) ++ (wXk g x ((xB x).length + 1) (va_up (bRef (xB x)) (xB x).length (some (ub 0))) ++ (wF g (xF x) (xW x) ++ (wO g (xO x) (xR x) (xS x) ++ (wC g (xC x) (xH x) ++ bw g (xB x)))))) := hD
            refine lv_aload_n hx hb dX4_bin_59 rfl (lv_at hl 0 rfl) ?_
            refine va_get (D := g.1) (ci := 4) (v := .int (nI ((xB x).length + 1))) (C := RX4) (T := TX4) (N := 8) hx hb hts hiX4 hown hK.1 hP 5 rfl rfl 4 (by decide) (hts _ w_fl_X4_36) (fun _ h9 => h9) rfl dX4_bin_60 ?_
            refine lv_iconst (v := nI (1)) hx hb dX4_bin_63 (by decide) ?_
            refine n_isub hx hb (by omega) dX4_bin_64 ?_
            have hP : va_P g.1 vwCl (wX g (xsB x (xB x ++ [newB ub a e]))) H := P_perm hP wX_push
            have hD : va_D A (wX g (xsB x (xB x ++ [newB ub a e]))) := D_perm hD wX_push
            subst hQQ
            exact W.iret hx hb hr (fun t9 ht _ => ⟨⟨_, xsB x (xB x ++ [newB ub a e]), rfl, ⟨ub, by unfold binS; rw [if_neg (by omega), hh]; dsimp only; rw [hi]; rfl⟩, hpT ht hP, hD⟩, hS.F ht⟩) hS.2.2 dX4_bin_65
        · cases hi : inL 1 10000 d with
          | none =>
            refine lv_iconst (v := (-1)) hx hb dX4_bin_29 (by decide) ?_
            refine W.widen (k := 5) (n := 136) (Nat.zero_le _) (Nat.zero_le _) ?_
            subst hQQ
            exact W.iret hx hb hr (fun t9 ht _ => ⟨⟨_, x, rfl, ⟨fun _ => 0, by unfold binS; rw [if_neg (by omega), hh]; dsimp only; rw [hi]⟩, hpT ht hP, hD⟩, hS.F ht⟩) hS.2.2 dX4_bin_30
          | some e => exact absurd hic (by rw [(inL_s (by decide) (by decide) hi).2.2.2]; decide)
