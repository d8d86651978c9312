set_option maxHeartbeats 4000000 in
set_option maxRecDepth 100000 in
theorem k_open (l : Launch) (g : GG) (b : BinT) (i q : Nat) (hn : bN b < 32) (hi : i ≤ bN b) (sz : Nat) : Wv l yX0_open wsX0_open 0 0 0 0 [.ref (bA b 0), .int (nI (i)), .int (nI (q))] g (wB g b) sz (wB g (opB b i q)) := by
  refine Met.ofW (cc := cX0_open) (maxL := 4) (ret := none) (by decide) rfl ?_
  intro p e s m args below meth c s₁ BB hml hv
  obtain ⟨hargs, hsz, hP, hK, hD0⟩ := hv
  have hx := BB.exec
  have hb := BB.bytes
  have hr := BB.returns
  have hts : ∀ w ∈ BIG, w.before args s = true := fun w h => atoms_spec (ws := wsX0_open) BB.pre w (List.mem_cons_of_mem _ h)
  have hown : s.vm.findClass RX0 = some m.cls := findClass_of_methodNamed BB.named
  have hlocks := BB.notSynchronized
  obtain ⟨RR, hRR⟩ : ∃ RR, RR = (headSpec wsX0_open ⟨0, 0, 0, 0⟩).room := ⟨_, rfl⟩
  have hR1 : RR.frames = 0 := by rw [hRR]; rfl
  have hR2 : RR.locals = 0 := by rw [hRR]; rfl
  have hR3 : RR.cells = 0 := by rw [hRR]; rfl
  have hR4 : RR.slots = 0 := by rw [hRR]; rfl
  have hl := lv_entry ([.ref (bA b 0), .int (nI (i)), .int (nI (q))]) (n := 4) (Nat.le_of_ble_eq_true rfl)
  have hent : entryFrame m args 4 = F0 m 0 ((lg_sl ([.ref (bA b 0), .int (nI (i)), .int (nI (q))]) ++ List.replicate (4 - (lg_sl ([.ref (bA b 0), .int (nI (i)), .int (nI (q))])).length) Slot.unset).toArray) [] := by rw [hargs, lg_entry_eq]
  rw [hent]
  generalize (lg_sl ([.ref (bA b 0), .int (nI (i)), .int (nI (q))]) ++ List.replicate (4 - (lg_sl ([.ref (bA b 0), .int (nI (i)), .int (nI (q))])).length) Slot.unset).toArray = ls at hl ⊢
  have hl : lv_has ls 4 [(0, .ref (bA b 0)), (1, .int (nI (i))), (2, .int (nI (q)))] := hl
  subst hsz
  have hD := hD0.self (sz := s.heap.size)
  generalize hAe : va_A (wB g b) s.heap.size = A at hD ⊢
  have hA : ∀ q : Nat, s.heap.size ≤ q → A q := fun q h => by rw [← hAe]; exact Or.inr h
  have hS : va_S A s.heap s.heap [] := va_S.rf
  refine q_ab (R := RR) hRR ?_
  generalize hQQ : MQ below _ args s _ _ _ = QQ
  refine lv_aload_n hx hb dX0_open_0 rfl (lv_at hl 0 rfl) ?_
  refine va_get (D := g.1) (ci := 0) (v := .int (nI (bN b))) (C := RX0) (T := TX0) (N := 8) hx hb hts hiX0 hown hK.1 hP 0 rfl rfl 6 (by decide) (hts _ w_fl_X0_32) (fun _ h9 => h9) rfl dX0_open_1 ?_
  refine lv_istore_n (lv' := [(3, .int (nI (bN b))), (0, .ref (bA b 0)), (1, .int (nI (i))), (2, .int (nI (q)))]) hx hb dX0_open_4 rfl hl (by decide) rfl (fun ls hl => ?_)
  have loop : ∀ (k : Nat) (j : Nat) (H : Heap) (locs : List Loc) (ls : Array Slot), (i ≤ j) → (j ≤ bN b) → (j < i + k) → va_P g.1 vwCl (wB g (bsAm (bsPl b (shf (bPl b) j (bN b))) (shf (bAm b) j (bN b)))) H → va_D A (wB g (bsAm (bsPl b (shf (bPl b) j (bN b))) (shf (bAm b) j (bN b)))) → va_S A s.heap H locs → lv_has ls 4 [(0, .ref (bA b 0)), (1, .int (nI (i))), (2, .int (nI (q))), (3, .int (nI (j)))] → W p l e RR s m args below meth c H locs 0 0 QQ (F0 m 5 ls []) := by
    intro k
    induction k with
    | zero => intro j H locs ls hj hj2 hk hP hD hS hl; exact absurd hk (by omega)
    | succ k ih =>
      intro j H locs ls hj hj2 hk hP hD hS hl
      refine lv_iload_n hx hb dX0_open_5 rfl (lv_at hl 3 rfl) ?_
      refine lv_iload_n hx hb dX0_open_6 rfl (lv_at hl 1 rfl) ?_
      refine bn_le (tgt := 44) hx hb (by omega) (by omega) dX0_open_7 (by decide) (fun c1 => ?_) (fun c1 => ?_)
      · have hji : j = i := by omega
        subst hji
        refine lv_aload_n hx hb dX0_open_44 rfl (lv_at hl 0 rfl) ?_
        refine va_get (D := g.1) (ci := 0) (v := .ref (bA b 1)) (C := RX0) (T := TX0) (N := 8) hx hb hts hiX0 hown hK.1 hP 0 rfl rfl 2 (by decide) (hts _ w_fl_X0_18) (fun _ h9 => h9) rfl dX0_open_45 ?_
        refine lv_iload_n hx hb dX0_open_48 rfl (lv_at hl 1 rfl) ?_
        refine lv_iload_n hx hb dX0_open_49 rfl (lv_at hl 2 rfl) ?_
        refine n_iastE (enc := nI) (f := shf (bPl b) j (bN b)) (x := q) (k := j) hx hb hK.1 hP hD hS 1 0 rfl rfl (by omega) (by decide) dX0_open_50 (fun H locs hP hD hS => ?_)
        have hP : va_P g.1 vwCl (wB g (bsAm (bsPl b (va_up (shf (bPl b) j (bN b)) j q)) (shf (bAm b) j (bN b)))) H := hP
        have hD : va_D A (wB g (bsAm (bsPl b (va_up (shf (bPl b) j (bN b)) j q)) (shf (bAm b) j (bN b)))) := hD
        refine lv_aload_n hx hb dX0_open_51 rfl (lv_at hl 0 rfl) ?_
        refine lv_dup hx hb dX0_open_52 rfl ?_
        refine va_get (D := g.1) (ci := 0) (v := .int (nI (bN (bsAm (bsPl b (va_up (shf (bPl b) j (bN b)) j q)) (shf (bAm b) j (bN b)))))) (C := RX0) (T := TX0) (N := 8) hx hb hts hiX0 hown hK.1 hP 0 rfl rfl 6 (by decide) (hts _ w_fl_X0_32) (fun _ h9 => h9) rfl dX0_open_53 ?_
        refine lv_iconst (v := nI (1)) hx hb dX0_open_56 (by decide) ?_
        refine n_iadd hx hb dX0_open_57 ?_
        refine va_put (D := g.1) (ci := 0) (v := .int (nI (bN b + 1))) (ty := .int) (C := RX0) (T := TX0) (N := 8) hx hb hts hiX0 tyX0 tyX0_ok nmX0 hown hK.1 hP hD hS 0 rfl rfl 6 (by decide) (hts _ w_fl_X0_32) (fun _ h9 => h9) rfl (by decide +kernel) rfl rfl (Nat.le_of_ble_eq_true rfl) dX0_open_58 (fun H locs hP hD hS => ?_)
        have hP : va_P g.1 vwCl (wB g (bsN (bsAm (bsPl b (va_up (shf (bPl b) j (bN b)) j q)) (shf (bAm b) j (bN b))) (bN b + 1))) H := hP
        have hD : va_D A (wB g (bsN (bsAm (bsPl b (va_up (shf (bPl b) j (bN b)) j q)) (shf (bAm b) j (bN b))) (bN b + 1))) := hD
        subst hQQ
        exact W.vret hx hb hr (fun t9 ht _ => ⟨⟨(), rfl, trivial, hpT ht hP⟩, hS.F ht⟩) hS.2.2 dX0_open_61
      · refine lv_aload_n hx hb dX0_open_10 rfl (lv_at hl 0 rfl) ?_
        refine va_get (D := g.1) (ci := 0) (v := .ref (bA b 1)) (C := RX0) (T := TX0) (N := 8) hx hb hts hiX0 hown hK.1 hP 0 rfl rfl 2 (by decide) (hts _ w_fl_X0_18) (fun _ h9 => h9) rfl dX0_open_11 ?_
        refine lv_iload_n hx hb dX0_open_14 rfl (lv_at hl 3 rfl) ?_
        refine lv_aload_n hx hb dX0_open_15 rfl (lv_at hl 0 rfl) ?_
        refine va_get (D := g.1) (ci := 0) (v := .ref (bA b 1)) (C := RX0) (T := TX0) (N := 8) hx hb hts hiX0 hown hK.1 hP 0 rfl rfl 2 (by decide) (hts _ w_fl_X0_18) (fun _ h9 => h9) rfl dX0_open_16 ?_
        refine lv_iload_n hx hb dX0_open_19 rfl (lv_at hl 3 rfl) ?_
        refine lv_iconst (v := nI (1)) hx hb dX0_open_20 (by decide) ?_
        refine n_isub hx hb (by omega) dX0_open_21 ?_
        refine n_iald (k := j - 1) (v := nI (bPl (bsAm (bsPl b (shf (bPl b) j (bN b))) (shf (bAm b) j (bN b))) (j - 1))) hx hb hK.1 hP 1 0 rfl rfl (by omega) (by decide) (rfl) dX0_open_22 ?_
        refine n_iastE (enc := nI) (f := shf (bPl b) j (bN b)) (x := shf (bPl b) j (bN b) (j - 1)) (k := j) hx hb hK.1 hP hD hS 1 0 rfl rfl (by omega) (by decide) dX0_open_23 (fun H locs hP hD hS => ?_)
        have hP : va_P g.1 vwCl (wB g (bsAm (bsPl b (va_up (shf (bPl b) j (bN b)) j (shf (bPl b) j (bN b) (j - 1)))) (shf (bAm b) j (bN b)))) H := hP
        have hD : va_D A (wB g (bsAm (bsPl b (va_up (shf (bPl b) j (bN b)) j (shf (bPl b) j (bN b) (j - 1)))) (shf (bAm b) j (bN b)))) := hD
        refine lv_aload_n hx hb dX0_open_24 rfl (lv_at hl 0 rfl) ?_
        refine va_get (D := g.1) (ci := 0) (v := .ref (bA b 2)) (C := RX0) (T := TX0) (N := 8) hx hb hts hiX0 hown hK.1 hP 0 rfl rfl 3 (by decide) (hts _ w_fl_X0_22) (fun _ h9 => h9) rfl dX0_open_25 ?_
        refine lv_iload_n hx hb dX0_open_28 rfl (lv_at hl 3 rfl) ?_
        refine lv_aload_n hx hb dX0_open_29 rfl (lv_at hl 0 rfl) ?_
        refine va_get (D := g.1) (ci := 0) (v := .ref (bA b 2)) (C := RX0) (T := TX0) (N := 8) hx hb hts hiX0 hown hK.1 hP 0 rfl rfl 3 (by decide) (hts _ w_fl_X0_22) (fun _ h9 => h9) rfl dX0_open_30 ?_
        refine lv_iload_n hx hb dX0_open_33 rfl (lv_at hl 3 rfl) ?_
        refine lv_iconst (v := nI (1)) hx hb dX0_open_34 (by decide) ?_
        refine n_isub hx hb (by omega) dX0_open_35 ?_
        refine n_iald (k := j - 1) (v := nI (bAm (bsAm (bsPl b (va_up (shf (bPl b) j (bN b)) j (shf (bPl b) j (bN b) (j - 1)))) (shf (bAm b) j (bN b))) (j - 1))) hx hb hK.1 hP 2 0 rfl rfl (by omega) (by decide) (rfl) dX0_open_36 ?_
        refine n_iastE (enc := nI) (f := shf (bAm b) j (bN b)) (x := shf (bAm b) j (bN b) (j - 1)) (k := j) hx hb hK.1 hP hD hS 2 0 rfl rfl (by omega) (by decide) dX0_open_37 (fun H locs hP hD hS => ?_)
        have hP : va_P g.1 vwCl (wB g (bsAm (bsPl b (va_up (shf (bPl b) j (bN b)) j (shf (bPl b) j (bN b) (j - 1)))) (va_up (shf (bAm b) j (bN b)) j (shf (bAm b) j (bN b) (j - 1))))) H := hP
        have hD : va_D A (wB g (bsAm (bsPl b (va_up (shf (bPl b) j (bN b)) j (shf (bPl b) j (bN b) (j - 1)))) (va_up (shf (bAm b) j (bN b)) j (shf (bAm b) j (bN b) (j - 1))))) := hD
        rw [shf_s (bPl b) (by omega) hj2, shf_s (bAm b) (by omega) hj2] at hP hD
        refine lv_iinc (v := nI (j - 1)) (lv' := [(3, .int (nI (j - 1))), (0, .ref (bA b 0)), (1, .int (nI (i))), (2, .int (nI (q)))]) hx hb dX0_open_38 hl (k := 3) rfl (n_dec (by omega)) (by decide) rfl (fun ls hl => ?_)
        refine lv_goto (tgt := 5) hx hb dX0_open_41 (by decide) ?_
        exact ih (j - 1) H locs ls (by omega) (by omega) (by omega) hP hD hS (lv_sub hl [1, 2, 3, 0] rfl)
  have e0 : wB g (bsAm (bsPl b (shf (bPl b) (bN b) (bN b))) (shf (bAm b) (bN b) (bN b))) = wB g b := by rw [shf_n, shf_n]; rfl
  exact loop (bN b + 1) (bN b) _ _ ls hi (Nat.le_refl _) (by omega) (by rw [e0]; exact hP) (by rw [e0]; exact hD) hS (lv_sub hl [1, 2, 3, 0] rfl)

