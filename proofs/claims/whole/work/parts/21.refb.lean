set_option maxHeartbeats 4000000 in
set_option maxRecDepth 100000 in
theorem m_place (l : Launch) (g : GG) (ma : Nat → Nat) (P : PT) (S : ST) (h v i : Nat) (ee : Bool) (hn : sN S < 32) (hb9 : ∀ k, k < sN S → sH S k < 2 ^ 31) (hh : h < 2 ^ 31) (hi : i ≤ sN S) (h1 : ∀ k, i ≤ k → k < sN S → (h < sH S k ∨ (sH S k = h ∧ ee = false))) (h2 : ∀ k, k + 1 = i → ¬ (h < sH S k ∨ (sH S k = h ∧ ee = false))) (sz : Nat) : Wv l yX5_place wsX5_place 0 0 0 0 [.ref (ma 0), .int (nI (h)), .int (nI (v)), .int (bI (ee))] g (wM g ma P S) sz (wM g ma P (plS S i h v ee)) := by
  refine Met.ofW (cc := cX5_place) (maxL := 5) (ret := none) (by decide) rfl ?_
  intro p e s m args below meth c s₁ BB hml hv
  obtain ⟨hargs, hsz, hP, hK, hD0⟩ := hv
  have hx := BB.exec
  have hb := BB.bytes
  have hr := BB.returns
  have hts : ∀ w ∈ BIG, w.before args s = true := fun w h => atoms_spec (ws := wsX5_place) BB.pre w (List.mem_cons_of_mem _ h)
  have hown : s.vm.findClass RX5 = some m.cls := findClass_of_methodNamed BB.named
  have hlocks := BB.notSynchronized
  obtain ⟨RR, hRR⟩ : ∃ RR, RR = (headSpec wsX5_place ⟨0, 0, 0, 0⟩).room := ⟨_, rfl⟩
  have hR1 : RR.frames = 0 := by rw [hRR]; rfl
  have hR2 : RR.locals = 0 := by rw [hRR]; rfl
  have hR3 : RR.cells = 0 := by rw [hRR]; rfl
  have hR4 : RR.slots = 0 := by rw [hRR]; rfl
  have hl := lv_entry ([.ref (ma 0), .int (nI (h)), .int (nI (v)), .int (bI (ee))]) (n := 5) (Nat.le_of_ble_eq_true rfl)
  have hent : entryFrame m args 5 = F0 m 0 ((lg_sl ([.ref (ma 0), .int (nI (h)), .int (nI (v)), .int (bI (ee))]) ++ List.replicate (5 - (lg_sl ([.ref (ma 0), .int (nI (h)), .int (nI (v)), .int (bI (ee))])).length) Slot.unset).toArray) [] := by rw [hargs, lg_entry_eq]
  rw [hent]
  generalize (lg_sl ([.ref (ma 0), .int (nI (h)), .int (nI (v)), .int (bI (ee))]) ++ List.replicate (5 - (lg_sl ([.ref (ma 0), .int (nI (h)), .int (nI (v)), .int (bI (ee))])).length) Slot.unset).toArray = ls at hl ⊢
  have hl : lv_has ls 5 [(0, .ref (ma 0)), (1, .int (nI (h))), (2, .int (nI (v))), (3, .int (bI (ee)))] := hl
  subst hsz
  have hD := hD0.self (sz := s.heap.size)
  generalize hAe : va_A (wM g ma P S) s.heap.size = A at hD ⊢
  have hA : ∀ q : Nat, s.heap.size ≤ q → A q := fun q h => by rw [← hAe]; exact Or.inr h
  have hS : va_S A s.heap s.heap [] := va_S.rf
  refine q_ab (R := RR) hRR ?_
  generalize hQQ : MQ below _ args s _ _ _ = QQ
  refine lv_aload_n hx hb dX5_place_0 rfl (lv_at hl 0 rfl) ?_
  refine va_get (D := g.1) (ci := 5) (v := .int (nI (sN S))) (C := RX5) (T := TX5) (N := 23) hx hb hts hiX5 hown hK.1 hP 0 rfl rfl 15 (by decide) (hts _ w_fl_X5_94) (fun _ h9 => h9) rfl dX5_place_1 ?_
  refine lv_istore (lv' := [(4, .int (nI (sN S))), (0, .ref (ma 0)), (1, .int (nI (h))), (2, .int (nI (v))), (3, .int (bI (ee)))]) hx hb dX5_place_4 hl (by decide) rfl (fun ls hl => ?_)
  have loop : ∀ (k9 : Nat) (j : Nat) (H : Heap) (locs : List Loc) (ls : Array Slot), (i ≤ j) → (j ≤ sN S) → (j < i + k9) → va_P g.1 vwCl (wM g ma P (usE (usS (usH S (shf (sH S) j (sN S))) (shf (sS S) j (sN S))) (shf (sE S) j (sN S)))) H → va_D A (wM g ma P (usE (usS (usH S (shf (sH S) j (sN S))) (shf (sS S) j (sN S))) (shf (sE S) j (sN S)))) → va_S A s.heap H locs → lv_has ls 5 [(0, .ref (ma 0)), (1, .int (nI (h))), (2, .int (nI (v))), (3, .int (bI (ee))), (4, .int (nI (j)))] → W p l e RR s m args below meth c H locs 0 0 QQ (F0 m 6 ls []) := by
    intro k9
    induction k9 with
    | zero => intro j H locs ls hj hj2 hk hP hD hS hl; exact absurd hk (by omega)
    | succ k9 ih =>
      intro j H locs ls hj hj2 hk hP hD hS hl
      refine lv_iload hx hb dX5_place_6 (lv_at hl 4 rfl) ?_
      refine bz_le (tgt := 95) hx hb (by omega) dX5_place_8 (by decide) (fun c1 => ?_) (fun c1 => ?_)
      · have hji : i = j := by omega
        subst hji
        refine lv_aload_n hx hb dX5_place_95 rfl (lv_at hl 0 rfl) ?_
        refine va_get (D := g.1) (ci := 5) (v := .ref (ma 10)) (C := RX5) (T := TX5) (N := 23) hx hb hts hiX5 hown hK.1 hP 0 rfl rfl 16 (by decide) (hts _ w_fl_X5_54) (fun _ h9 => h9) rfl dX5_place_96 ?_
        refine lv_iload hx hb dX5_place_99 (lv_at hl 4 rfl) ?_
        refine lv_iload_n hx hb dX5_place_101 rfl (lv_at hl 1 rfl) ?_
        refine n_iastE (enc := nI) (f := shf (sH S) i (sN S)) (x := h) (k := i) hx hb hK.1 hP hD hS 10 0 rfl rfl (by omega) (by decide) dX5_place_102 (fun H locs hP hD hS => ?_)
        have hP : va_P g.1 vwCl (wM g ma P (usE (usS (usH S (insA (sH S) i (sN S) h)) (shf (sS S) i (sN S))) (shf (sE S) i (sN S)))) H := hP
        have hD : va_D A (wM g ma P (usE (usS (usH S (insA (sH S) i (sN S) h)) (shf (sS S) i (sN S))) (shf (sE S) i (sN S)))) := hD
        refine lv_aload_n hx hb dX5_place_103 rfl (lv_at hl 0 rfl) ?_
        refine va_get (D := g.1) (ci := 5) (v := .ref (ma 11)) (C := RX5) (T := TX5) (N := 23) hx hb hts hiX5 hown hK.1 hP 0 rfl rfl 17 (by decide) (hts _ w_fl_X5_57) (fun _ h9 => h9) rfl dX5_place_104 ?_
        refine lv_iload hx hb dX5_place_107 (lv_at hl 4 rfl) ?_
        refine lv_iload_n hx hb dX5_place_109 rfl (lv_at hl 2 rfl) ?_
        refine n_iastE (enc := nI) (f := shf (sS S) i (sN S)) (x := v) (k := i) hx hb hK.1 hP hD hS 11 0 rfl rfl (by omega) (by decide) dX5_place_110 (fun H locs hP hD hS => ?_)
        have hP : va_P g.1 vwCl (wM g ma P (usE (usS (usH S (insA (sH S) i (sN S) h)) (insA (sS S) i (sN S) v)) (shf (sE S) i (sN S)))) H := hP
        have hD : va_D A (wM g ma P (usE (usS (usH S (insA (sH S) i (sN S) h)) (insA (sS S) i (sN S) v)) (shf (sE S) i (sN S)))) := hD
        refine lv_aload_n hx hb dX5_place_111 rfl (lv_at hl 0 rfl) ?_
        refine va_get (D := g.1) (ci := 5) (v := .ref (ma 12)) (C := RX5) (T := TX5) (N := 23) hx hb hts hiX5 hown hK.1 hP 0 rfl rfl 18 (by decide) (hts _ w_fl_X5_60) (fun _ h9 => h9) rfl dX5_place_112 ?_
        refine lv_iload hx hb dX5_place_115 (lv_at hl 4 rfl) ?_
        refine lv_iload_n hx hb dX5_place_117 rfl (lv_at hl 3 rfl) ?_
        refine n_zastE (f := shf (sE S) i (sN S)) (x := ee) (k := i) hx hb hK.1 hP hD hS 12 1 rfl rfl (by omega) (by decide) dX5_place_118 (fun H locs hP hD hS => ?_)
        have hP : va_P g.1 vwCl (wM g ma P (usE (usS (usH S (insA (sH S) i (sN S) h)) (insA (sS S) i (sN S) v)) (insA (sE S) i (sN S) ee))) H := hP
        have hD : va_D A (wM g ma P (usE (usS (usH S (insA (sH S) i (sN S) h)) (insA (sS S) i (sN S) v)) (insA (sE S) i (sN S) ee))) := hD
        refine lv_aload_n hx hb dX5_place_119 rfl (lv_at hl 0 rfl) ?_
        refine lv_dup hx hb dX5_place_120 rfl ?_
        refine va_get (D := g.1) (ci := 5) (v := .int (nI (sN (usE (usS (usH S (insA (sH S) i (sN S) h)) (insA (sS S) i (sN S) v)) (insA (sE S) i (sN S) ee))))) (C := RX5) (T := TX5) (N := 23) hx hb hts hiX5 hown hK.1 hP 0 rfl rfl 15 (by decide) (hts _ w_fl_X5_94) (fun _ h9 => h9) rfl dX5_place_121 ?_
        refine lv_iconst (v := nI (1)) hx hb dX5_place_124 (by decide) ?_
        refine n_iadd hx hb dX5_place_125 ?_
        refine va_put (D := g.1) (ci := 5) (v := .int (nI (sN S + 1))) (ty := .int) (C := RX5) (T := TX5) (N := 23) hx hb hts hiX5 tyX5 tyX5_ok nmX5 hown hK.1 hP hD hS 0 rfl rfl 15 (by decide) (hts _ w_fl_X5_94) (fun _ h9 => h9) rfl (by decide +kernel) rfl rfl (Nat.le_of_ble_eq_true rfl) dX5_place_126 (fun H locs hP hD hS => ?_)
        have hP : va_P g.1 vwCl (wM g ma P (plS S i h v ee)) H := hP
        have hD : va_D A (wM g ma P (plS S i h v ee)) := hD
        subst hQQ
        exact W.vret hx hb hr (fun t9 ht _ => ⟨⟨(), rfl, trivial, hpT ht hP⟩, hS.F ht⟩) hS.2.2 dX5_place_129
      · have hbj := hb9 (j - 1) (by omega)
        refine lv_aload_n hx hb dX5_place_11 rfl (lv_at hl 0 rfl) ?_
        refine va_get (D := g.1) (ci := 5) (v := .ref (ma 10)) (C := RX5) (T := TX5) (N := 23) hx hb hts hiX5 hown hK.1 hP 0 rfl rfl 16 (by decide) (hts _ w_fl_X5_54) (fun _ h9 => h9) rfl dX5_place_12 ?_
        refine lv_iload hx hb dX5_place_15 (lv_at hl 4 rfl) ?_
        refine lv_iconst (v := nI (1)) hx hb dX5_place_17 (by decide) ?_
        refine n_isub hx hb (by omega) dX5_place_18 ?_
        refine n_iald (k := j - 1) (v := nI (sH S (j - 1))) hx hb hK.1 hP 10 0 rfl rfl (by omega) (by decide) (by show nI (shf (sH S) j (sN S) (j - 1)) = _; rw [shf_lo (by omega)]) dX5_place_19 ?_
        refine lv_iload_n hx hb dX5_place_20 rfl (lv_at hl 1 rfl) ?_
        refine bn_gt (tgt := 41) hx hb (by omega) (by omega) dX5_place_21 (by decide) (fun c2 => ?_) (fun c2 => ?_)
        · have hcd : h < sH S (j - 1) ∨ (sH S (j - 1) = h ∧ ee = false) := Or.inl c2
          have hij : i < j := by
            rcases Nat.lt_or_ge i j with z | z
            · exact z
            · exact absurd hcd (h2 (j - 1) (by omega))
          refine lv_aload_n hx hb dX5_place_41 rfl (lv_at hl 0 rfl) ?_
          refine va_get (D := g.1) (ci := 5) (v := .ref (ma 10)) (C := RX5) (T := TX5) (N := 23) hx hb hts hiX5 hown hK.1 hP 0 rfl rfl 16 (by decide) (hts _ w_fl_X5_54) (fun _ h9 => h9) rfl dX5_place_42 ?_
          refine lv_iload hx hb dX5_place_45 (lv_at hl 4 rfl) ?_
          refine lv_aload_n hx hb dX5_place_47 rfl (lv_at hl 0 rfl) ?_
          refine va_get (D := g.1) (ci := 5) (v := .ref (ma 10)) (C := RX5) (T := TX5) (N := 23) hx hb hts hiX5 hown hK.1 hP 0 rfl rfl 16 (by decide) (hts _ w_fl_X5_54) (fun _ h9 => h9) rfl dX5_place_48 ?_
          refine lv_iload hx hb dX5_place_51 (lv_at hl 4 rfl) ?_
          refine lv_iconst (v := nI (1)) hx hb dX5_place_53 (by decide) ?_
          refine n_isub hx hb (by omega) dX5_place_54 ?_
          refine n_iald (k := j - 1) (v := nI (sH S (j - 1))) hx hb hK.1 hP 10 0 rfl rfl (by omega) (by decide) (by show nI (shf (sH S) j (sN S) (j - 1)) = _; rw [shf_lo (by omega)]) dX5_place_55 ?_
          refine tp_i (y := nI (shf (sH S) j (sN S) (j - 1))) (by rw [shf_lo (by omega)]) ?_
          refine n_iastE (enc := nI) (f := shf (sH S) j (sN S)) (x := shf (sH S) j (sN S) (j - 1)) (k := j) hx hb hK.1 hP hD hS 10 0 rfl rfl (by omega) (by decide) dX5_place_56 (fun H locs hP hD hS => ?_)
          have hP : va_P g.1 vwCl (wM g ma P (usE (usS (usH S (va_up (shf (sH S) j (sN S)) j (shf (sH S) j (sN S) (j - 1)))) (shf (sS S) j (sN S))) (shf (sE S) j (sN S)))) H := hP
          have hD : va_D A (wM g ma P (usE (usS (usH S (va_up (shf (sH S) j (sN S)) j (shf (sH S) j (sN S) (j - 1)))) (shf (sS S) j (sN S))) (shf (sE S) j (sN S)))) := hD
          refine lv_aload_n hx hb dX5_place_57 rfl (lv_at hl 0 rfl) ?_
          refine va_get (D := g.1) (ci := 5) (v := .ref (ma 11)) (C := RX5) (T := TX5) (N := 23) hx hb hts hiX5 hown hK.1 hP 0 rfl rfl 17 (by decide) (hts _ w_fl_X5_57) (fun _ h9 => h9) rfl dX5_place_58 ?_
          refine lv_iload hx hb dX5_place_61 (lv_at hl 4 rfl) ?_
          refine lv_aload_n hx hb dX5_place_63 rfl (lv_at hl 0 rfl) ?_
          refine va_get (D := g.1) (ci := 5) (v := .ref (ma 11)) (C := RX5) (T := TX5) (N := 23) hx hb hts hiX5 hown hK.1 hP 0 rfl rfl 17 (by decide) (hts _ w_fl_X5_57) (fun _ h9 => h9) rfl dX5_place_64 ?_
          refine lv_iload hx hb dX5_place_67 (lv_at hl 4 rfl) ?_
          refine lv_iconst (v := nI (1)) hx hb dX5_place_69 (by decide) ?_
          refine n_isub hx hb (by omega) dX5_place_70 ?_
          refine n_iald (k := j - 1) (v := nI (sS S (j - 1))) hx hb hK.1 hP 11 0 rfl rfl (by omega) (by decide) (by show nI (shf (sS S) j (sN S) (j - 1)) = _; rw [shf_lo (by omega)]) dX5_place_71 ?_
          refine tp_i (y := nI (shf (sS S) j (sN S) (j - 1))) (by rw [shf_lo (by omega)]) ?_
          refine n_iastE (enc := nI) (f := shf (sS S) j (sN S)) (x := shf (sS S) j (sN S) (j - 1)) (k := j) hx hb hK.1 hP hD hS 11 0 rfl rfl (by omega) (by decide) dX5_place_72 (fun H locs hP hD hS => ?_)
          have hP : va_P g.1 vwCl (wM g ma P (usE (usS (usH S (va_up (shf (sH S) j (sN S)) j (shf (sH S) j (sN S) (j - 1)))) (va_up (shf (sS S) j (sN S)) j (shf (sS S) j (sN S) (j - 1)))) (shf (sE S) j (sN S)))) H := hP
          have hD : va_D A (wM g ma P (usE (usS (usH S (va_up (shf (sH S) j (sN S)) j (shf (sH S) j (sN S) (j - 1)))) (va_up (shf (sS S) j (sN S)) j (shf (sS S) j (sN S) (j - 1)))) (shf (sE S) j (sN S)))) := hD
          refine lv_aload_n hx hb dX5_place_73 rfl (lv_at hl 0 rfl) ?_
          refine va_get (D := g.1) (ci := 5) (v := .ref (ma 12)) (C := RX5) (T := TX5) (N := 23) hx hb hts hiX5 hown hK.1 hP 0 rfl rfl 18 (by decide) (hts _ w_fl_X5_60) (fun _ h9 => h9) rfl dX5_place_74 ?_
          refine lv_iload hx hb dX5_place_77 (lv_at hl 4 rfl) ?_
          refine lv_aload_n hx hb dX5_place_79 rfl (lv_at hl 0 rfl) ?_
          refine va_get (D := g.1) (ci := 5) (v := .ref (ma 12)) (C := RX5) (T := TX5) (N := 23) hx hb hts hiX5 hown hK.1 hP 0 rfl rfl 18 (by decide) (hts _ w_fl_X5_60) (fun _ h9 => h9) rfl dX5_place_80 ?_
          refine lv_iload hx hb dX5_place_83 (lv_at hl 4 rfl) ?_
          refine lv_iconst (v := nI (1)) hx hb dX5_place_85 (by decide) ?_
          refine n_isub hx hb (by omega) dX5_place_86 ?_
          refine n_zald (k := j - 1) (v := bI (sE S (j - 1))) hx hb hK.1 hP 12 1 rfl rfl (by omega) (by decide) (by show bI (shf (sE S) j (sN S) (j - 1)) = _; rw [shf_lo (by omega)]) dX5_place_87 ?_
          refine tp_i (y := bI (shf (sE S) j (sN S) (j - 1))) (by rw [shf_lo (by omega)]) ?_
          refine n_zastE (f := shf (sE S) j (sN S)) (x := shf (sE S) j (sN S) (j - 1)) (k := j) hx hb hK.1 hP hD hS 12 1 rfl rfl (by omega) (by decide) dX5_place_88 (fun H locs hP hD hS => ?_)
          have hP : va_P g.1 vwCl (wM g ma P (usE (usS (usH S (va_up (shf (sH S) j (sN S)) j (shf (sH S) j (sN S) (j - 1)))) (va_up (shf (sS S) j (sN S)) j (shf (sS S) j (sN S) (j - 1)))) (va_up (shf (sE S) j (sN S)) j (shf (sE S) j (sN S) (j - 1))))) H := hP
          have hD : va_D A (wM g ma P (usE (usS (usH S (va_up (shf (sH S) j (sN S)) j (shf (sH S) j (sN S) (j - 1)))) (va_up (shf (sS S) j (sN S)) j (shf (sS S) j (sN S) (j - 1)))) (va_up (shf (sE S) j (sN S)) j (shf (sE S) j (sN S) (j - 1))))) := hD
          rw [shf_s (sH S) (by omega) hj2, shf_s (sS S) (by omega) hj2, shf_s (sE S) (by omega) hj2] at hP hD
          refine lv_iinc (v := nI (j - 1)) (lv' := [(4, .int (nI (j - 1))), (0, .ref (ma 0)), (1, .int (nI (h))), (2, .int (nI (v))), (3, .int (bI (ee)))]) hx hb dX5_place_89 hl (k := 4) rfl (n_dec (by omega)) (by decide) rfl (fun ls hl => ?_)
          refine lv_goto (tgt := 6) hx hb dX5_place_92 (by decide) ?_
          exact ih (j - 1) H locs ls (by omega) (by omega) (by omega) hP hD hS (lv_sub hl [1, 2, 3, 4, 0] rfl)
        · refine lv_aload_n hx hb dX5_place_24 rfl (lv_at hl 0 rfl) ?_
          refine va_get (D := g.1) (ci := 5) (v := .ref (ma 10)) (C := RX5) (T := TX5) (N := 23) hx hb hts hiX5 hown hK.1 hP 0 rfl rfl 16 (by decide) (hts _ w_fl_X5_54) (fun _ h9 => h9) rfl dX5_place_25 ?_
          refine lv_iload hx hb dX5_place_28 (lv_at hl 4 rfl) ?_
          refine lv_iconst (v := nI (1)) hx hb dX5_place_30 (by decide) ?_
          refine n_isub hx hb (by omega) dX5_place_31 ?_
          refine n_iald (k := j - 1) (v := nI (sH S (j - 1))) hx hb hK.1 hP 10 0 rfl rfl (by omega) (by decide) (by show nI (shf (sH S) j (sN S) (j - 1)) = _; rw [shf_lo (by omega)]) dX5_place_32 ?_
          refine lv_iload_n hx hb dX5_place_33 rfl (lv_at hl 1 rfl) ?_
          refine bn_ne (tgt := 95) hx hb (by omega) (by omega) dX5_place_34 (by decide) (fun c3 => ?_) (fun c3 => ?_)
          · have hji : i = j := by
              rcases Nat.lt_or_ge i j with z | z
              · exact absurd (h1 (j - 1) (by omega) (by omega)) (by rintro (z2 | z2); exact absurd z2 (by omega); exact c3 z2.1)
              · omega
            subst hji
            refine lv_aload_n hx hb dX5_place_95 rfl (lv_at hl 0 rfl) ?_
            refine va_get (D := g.1) (ci := 5) (v := .ref (ma 10)) (C := RX5) (T := TX5) (N := 23) hx hb hts hiX5 hown hK.1 hP 0 rfl rfl 16 (by decide) (hts _ w_fl_X5_54) (fun _ h9 => h9) rfl dX5_place_96 ?_
            refine lv_iload hx hb dX5_place_99 (lv_at hl 4 rfl) ?_
            refine lv_iload_n hx hb dX5_place_101 rfl (lv_at hl 1 rfl) ?_
            refine n_iastE (enc := nI) (f := shf (sH S) i (sN S)) (x := h) (k := i) hx hb hK.1 hP hD hS 10 0 rfl rfl (by omega) (by decide) dX5_place_102 (fun H locs hP hD hS => ?_)
            have hP : va_P g.1 vwCl (wM g ma P (usE (usS (usH S (insA (sH S) i (sN S) h)) (shf (sS S) i (sN S))) (shf (sE S) i (sN S)))) H := hP
            have hD : va_D A (wM g ma P (usE (usS (usH S (insA (sH S) i (sN S) h)) (shf (sS S) i (sN S))) (shf (sE S) i (sN S)))) := hD
            refine lv_aload_n hx hb dX5_place_103 rfl (lv_at hl 0 rfl) ?_
            refine va_get (D := g.1) (ci := 5) (v := .ref (ma 11)) (C := RX5) (T := TX5) (N := 23) hx hb hts hiX5 hown hK.1 hP 0 rfl rfl 17 (by decide) (hts _ w_fl_X5_57) (fun _ h9 => h9) rfl dX5_place_104 ?_
            refine lv_iload hx hb dX5_place_107 (lv_at hl 4 rfl) ?_
            refine lv_iload_n hx hb dX5_place_109 rfl (lv_at hl 2 rfl) ?_
            refine n_iastE (enc := nI) (f := shf (sS S) i (sN S)) (x := v) (k := i) hx hb hK.1 hP hD hS 11 0 rfl rfl (by omega) (by decide) dX5_place_110 (fun H locs hP hD hS => ?_)
            have hP : va_P g.1 vwCl (wM g ma P (usE (usS (usH S (insA (sH S) i (sN S) h)) (insA (sS S) i (sN S) v)) (shf (sE S) i (sN S)))) H := hP
            have hD : va_D A (wM g ma P (usE (usS (usH S (insA (sH S) i (sN S) h)) (insA (sS S) i (sN S) v)) (shf (sE S) i (sN S)))) := hD
            refine lv_aload_n hx hb dX5_place_111 rfl (lv_at hl 0 rfl) ?_
            refine va_get (D := g.1) (ci := 5) (v := .ref (ma 12)) (C := RX5) (T := TX5) (N := 23) hx hb hts hiX5 hown hK.1 hP 0 rfl rfl 18 (by decide) (hts _ w_fl_X5_60) (fun _ h9 => h9) rfl dX5_place_112 ?_
            refine lv_iload hx hb dX5_place_115 (lv_at hl 4 rfl) ?_
            refine lv_iload_n hx hb dX5_place_117 rfl (lv_at hl 3 rfl) ?_
            refine n_zastE (f := shf (sE S) i (sN S)) (x := ee) (k := i) hx hb hK.1 hP hD hS 12 1 rfl rfl (by omega) (by decide) dX5_place_118 (fun H locs hP hD hS => ?_)
            have hP : va_P g.1 vwCl (wM g ma P (usE (usS (usH S (insA (sH S) i (sN S) h)) (insA (sS S) i (sN S) v)) (insA (sE S) i (sN S) ee))) H := hP
            have hD : va_D A (wM g ma P (usE (usS (usH S (insA (sH S) i (sN S) h)) (insA (sS S) i (sN S) v)) (insA (sE S) i (sN S) ee))) := hD
            refine lv_aload_n hx hb dX5_place_119 rfl (lv_at hl 0 rfl) ?_
            refine lv_dup hx hb dX5_place_120 rfl ?_
            refine va_get (D := g.1) (ci := 5) (v := .int (nI (sN (usE (usS (usH S (insA (sH S) i (sN S) h)) (insA (sS S) i (sN S) v)) (insA (sE S) i (sN S) ee))))) (C := RX5) (T := TX5) (N := 23) hx hb hts hiX5 hown hK.1 hP 0 rfl rfl 15 (by decide) (hts _ w_fl_X5_94) (fun _ h9 => h9) rfl dX5_place_121 ?_
            refine lv_iconst (v := nI (1)) hx hb dX5_place_124 (by decide) ?_
            refine n_iadd hx hb dX5_place_125 ?_
            refine va_put (D := g.1) (ci := 5) (v := .int (nI (sN S + 1))) (ty := .int) (C := RX5) (T := TX5) (N := 23) hx hb hts hiX5 tyX5 tyX5_ok nmX5 hown hK.1 hP hD hS 0 rfl rfl 15 (by decide) (hts _ w_fl_X5_94) (fun _ h9 => h9) rfl (by decide +kernel) rfl rfl (Nat.le_of_ble_eq_true rfl) dX5_place_126 (fun H locs hP hD hS => ?_)
            have hP : va_P g.1 vwCl (wM g ma P (plS S i h v ee)) H := hP
            have hD : va_D A (wM g ma P (plS S i h v ee)) := hD
            subst hQQ
            exact W.vret hx hb hr (fun t9 ht _ => ⟨⟨(), rfl, trivial, hpT ht hP⟩, hS.F ht⟩) hS.2.2 dX5_place_129
          · refine lv_iload_n hx hb dX5_place_37 rfl (lv_at hl 3 rfl) ?_
            refine bb_ne (tgt := 95) hx hb dX5_place_38 (by decide) (fun c4 => ?_) (fun c4 => ?_)
            · have hji : i = j := by
                rcases Nat.lt_or_ge i j with z | z
                · exact absurd (h1 (j - 1) (by omega) (by omega)) (by rintro (z2 | z2); exact absurd z2 (by omega); rw [c4] at z2; exact absurd z2.2 (by decide))
                · omega
              subst hji
              refine lv_aload_n hx hb dX5_place_95 rfl (lv_at hl 0 rfl) ?_
              refine va_get (D := g.1) (ci := 5) (v := .ref (ma 10)) (C := RX5) (T := TX5) (N := 23) hx hb hts hiX5 hown hK.1 hP 0 rfl rfl 16 (by decide) (hts _ w_fl_X5_54) (fun _ h9 => h9) rfl dX5_place_96 ?_
              refine lv_iload hx hb dX5_place_99 (lv_at hl 4 rfl) ?_
              refine lv_iload_n hx hb dX5_place_101 rfl (lv_at hl 1 rfl) ?_
              refine n_iastE (enc := nI) (f := shf (sH S) i (sN S)) (x := h) (k := i) hx hb hK.1 hP hD hS 10 0 rfl rfl (by omega) (by decide) dX5_place_102 (fun H locs hP hD hS => ?_)
              have hP : va_P g.1 vwCl (wM g ma P (usE (usS (usH S (insA (sH S) i (sN S) h)) (shf (sS S) i (sN S))) (shf (sE S) i (sN S)))) H := hP
              have hD : va_D A (wM g ma P (usE (usS (usH S (insA (sH S) i (sN S) h)) (shf (sS S) i (sN S))) (shf (sE S) i (sN S)))) := hD
              refine lv_aload_n hx hb dX5_place_103 rfl (lv_at hl 0 rfl) ?_
              refine va_get (D := g.1) (ci := 5) (v := .ref (ma 11)) (C := RX5) (T := TX5) (N := 23) hx hb hts hiX5 hown hK.1 hP 0 rfl rfl 17 (by decide) (hts _ w_fl_X5_57) (fun _ h9 => h9) rfl dX5_place_104 ?_
              refine lv_iload hx hb dX5_place_107 (lv_at hl 4 rfl) ?_
              refine lv_iload_n hx hb dX5_place_109 rfl (lv_at hl 2 rfl) ?_
              refine n_iastE (enc := nI) (f := shf (sS S) i (sN S)) (x := v) (k := i) hx hb hK.1 hP hD hS 11 0 rfl rfl (by omega) (by decide) dX5_place_110 (fun H locs hP hD hS => ?_)
              have hP : va_P g.1 vwCl (wM g ma P (usE (usS (usH S (insA (sH S) i (sN S) h)) (insA (sS S) i (sN S) v)) (shf (sE S) i (sN S)))) H := hP
              have hD : va_D A (wM g ma P (usE (usS (usH S (insA (sH S) i (sN S) h)) (insA (sS S) i (sN S) v)) (shf (sE S) i (sN S)))) := hD
              refine lv_aload_n hx hb dX5_place_111 rfl (lv_at hl 0 rfl) ?_
              refine va_get (D := g.1) (ci := 5) (v := .ref (ma 12)) (C := RX5) (T := TX5) (N := 23) hx hb hts hiX5 hown hK.1 hP 0 rfl rfl 18 (by decide) (hts _ w_fl_X5_60) (fun _ h9 => h9) rfl dX5_place_112 ?_
              refine lv_iload hx hb dX5_place_115 (lv_at hl 4 rfl) ?_
              refine lv_iload_n hx hb dX5_place_117 rfl (lv_at hl 3 rfl) ?_
              refine n_zastE (f := shf (sE S) i (sN S)) (x := ee) (k := i) hx hb hK.1 hP hD hS 12 1 rfl rfl (by omega) (by decide) dX5_place_118 (fun H locs hP hD hS => ?_)
              have hP : va_P g.1 vwCl (wM g ma P (usE (usS (usH S (insA (sH S) i (sN S) h)) (insA (sS S) i (sN S) v)) (insA (sE S) i (sN S) ee))) H := hP
              have hD : va_D A (wM g ma P (usE (usS (usH S (insA (sH S) i (sN S) h)) (insA (sS S) i (sN S) v)) (insA (sE S) i (sN S) ee))) := hD
              refine lv_aload_n hx hb dX5_place_119 rfl (lv_at hl 0 rfl) ?_
              refine lv_dup hx hb dX5_place_120 rfl ?_
              refine va_get (D := g.1) (ci := 5) (v := .int (nI (sN (usE (usS (usH S (insA (sH S) i (sN S) h)) (insA (sS S) i (sN S) v)) (insA (sE S) i (sN S) ee))))) (C := RX5) (T := TX5) (N := 23) hx hb hts hiX5 hown hK.1 hP 0 rfl rfl 15 (by decide) (hts _ w_fl_X5_94) (fun _ h9 => h9) rfl dX5_place_121 ?_
              refine lv_iconst (v := nI (1)) hx hb dX5_place_124 (by decide) ?_
              refine n_iadd hx hb dX5_place_125 ?_
              refine va_put (D := g.1) (ci := 5) (v := .int (nI (sN S + 1))) (ty := .int) (C := RX5) (T := TX5) (N := 23) hx hb hts hiX5 tyX5 tyX5_ok nmX5 hown hK.1 hP hD hS 0 rfl rfl 15 (by decide) (hts _ w_fl_X5_94) (fun _ h9 => h9) rfl (by decide +kernel) rfl rfl (Nat.le_of_ble_eq_true rfl) dX5_place_126 (fun H locs hP hD hS => ?_)
              have hP : va_P g.1 vwCl (wM g ma P (plS S i h v ee)) H := hP
              have hD : va_D A (wM g ma P (plS S i h v ee)) := hD
              subst hQQ
              exact W.vret hx hb hr (fun t9 ht _ => ⟨⟨(), rfl, trivial, hpT ht hP⟩, hS.F ht⟩) hS.2.2 dX5_place_129
            · have hcd : h < sH S (j - 1) ∨ (sH S (j - 1) = h ∧ ee = false) := Or.inr ⟨c3, c4⟩
              have hij : i < j := by
                rcases Nat.lt_or_ge i j with z | z
                · exact z
                · exact absurd hcd (h2 (j - 1) (by omega))
              refine lv_aload_n hx hb dX5_place_41 rfl (lv_at hl 0 rfl) ?_
              refine va_get (D := g.1) (ci := 5) (v := .ref (ma 10)) (C := RX5) (T := TX5) (N := 23) hx hb hts hiX5 hown hK.1 hP 0 rfl rfl 16 (by decide) (hts _ w_fl_X5_54) (fun _ h9 => h9) rfl dX5_place_42 ?_
              refine lv_iload hx hb dX5_place_45 (lv_at hl 4 rfl) ?_
              refine lv_aload_n hx hb dX5_place_47 rfl (lv_at hl 0 rfl) ?_
              refine va_get (D := g.1) (ci := 5) (v := .ref (ma 10)) (C := RX5) (T := TX5) (N := 23) hx hb hts hiX5 hown hK.1 hP 0 rfl rfl 16 (by decide) (hts _ w_fl_X5_54) (fun _ h9 => h9) rfl dX5_place_48 ?_
              refine lv_iload hx hb dX5_place_51 (lv_at hl 4 rfl) ?_
              refine lv_iconst (v := nI (1)) hx hb dX5_place_53 (by decide) ?_
              refine n_isub hx hb (by omega) dX5_place_54 ?_
              refine n_iald (k := j - 1) (v := nI (sH S (j - 1))) hx hb hK.1 hP 10 0 rfl rfl (by omega) (by decide) (by show nI (shf (sH S) j (sN S) (j - 1)) = _; rw [shf_lo (by omega)]) dX5_place_55 ?_
              refine tp_i (y := nI (shf (sH S) j (sN S) (j - 1))) (by rw [shf_lo (by omega)]) ?_
              refine n_iastE (enc := nI) (f := shf (sH S) j (sN S)) (x := shf (sH S) j (sN S) (j - 1)) (k := j) hx hb hK.1 hP hD hS 10 0 rfl rfl (by omega) (by decide) dX5_place_56 (fun H locs hP hD hS => ?_)
              have hP : va_P g.1 vwCl (wM g ma P (usE (usS (usH S (va_up (shf (sH S) j (sN S)) j (shf (sH S) j (sN S) (j - 1)))) (shf (sS S) j (sN S))) (shf (sE S) j (sN S)))) H := hP
              have hD : va_D A (wM g ma P (usE (usS (usH S (va_up (shf (sH S) j (sN S)) j (shf (sH S) j (sN S) (j - 1)))) (shf (sS S) j (sN S))) (shf (sE S) j (sN S)))) := hD
              refine lv_aload_n hx hb dX5_place_57 rfl (lv_at hl 0 rfl) ?_
              refine va_get (D := g.1) (ci := 5) (v := .ref (ma 11)) (C := RX5) (T := TX5) (N := 23) hx hb hts hiX5 hown hK.1 hP 0 rfl rfl 17 (by decide) (hts _ w_fl_X5_57) (fun _ h9 => h9) rfl dX5_place_58 ?_
              refine lv_iload hx hb dX5_place_61 (lv_at hl 4 rfl) ?_
              refine lv_aload_n hx hb dX5_place_63 rfl (lv_at hl 0 rfl) ?_
              refine va_get (D := g.1) (ci := 5) (v := .ref (ma 11)) (C := RX5) (T := TX5) (N := 23) hx hb hts hiX5 hown hK.1 hP 0 rfl rfl 17 (by decide) (hts _ w_fl_X5_57) (fun _ h9 => h9) rfl dX5_place_64 ?_
              refine lv_iload hx hb dX5_place_67 (lv_at hl 4 rfl) ?_
              refine lv_iconst (v := nI (1)) hx hb dX5_place_69 (by decide) ?_
              refine n_isub hx hb (by omega) dX5_place_70 ?_
              refine n_iald (k := j - 1) (v := nI (sS S (j - 1))) hx hb hK.1 hP 11 0 rfl rfl (by omega) (by decide) (by show nI (shf (sS S) j (sN S) (j - 1)) = _; rw [shf_lo (by omega)]) dX5_place_71 ?_
              refine tp_i (y := nI (shf (sS S) j (sN S) (j - 1))) (by rw [shf_lo (by omega)]) ?_
              refine n_iastE (enc := nI) (f := shf (sS S) j (sN S)) (x := shf (sS S) j (sN S) (j - 1)) (k := j) hx hb hK.1 hP hD hS 11 0 rfl rfl (by omega) (by decide) dX5_place_72 (fun H locs hP hD hS => ?_)
              have hP : va_P g.1 vwCl (wM g ma P (usE (usS (usH S (va_up (shf (sH S) j (sN S)) j (shf (sH S) j (sN S) (j - 1)))) (va_up (shf (sS S) j (sN S)) j (shf (sS S) j (sN S) (j - 1)))) (shf (sE S) j (sN S)))) H := hP
              have hD : va_D A (wM g ma P (usE (usS (usH S (va_up (shf (sH S) j (sN S)) j (shf (sH S) j (sN S) (j - 1)))) (va_up (shf (sS S) j (sN S)) j (shf (sS S) j (sN S) (j - 1)))) (shf (sE S) j (sN S)))) := hD
              refine lv_aload_n hx hb dX5_place_73 rfl (lv_at hl 0 rfl) ?_
              refine va_get (D := g.1) (ci := 5) (v := .ref (ma 12)) (C := RX5) (T := TX5) (N := 23) hx hb hts hiX5 hown hK.1 hP 0 rfl rfl 18 (by decide) (hts _ w_fl_X5_60) (fun _ h9 => h9) rfl dX5_place_74 ?_
              refine lv_iload hx hb dX5_place_77 (lv_at hl 4 rfl) ?_
              refine lv_aload_n hx hb dX5_place_79 rfl (lv_at hl 0 rfl) ?_
              refine va_get (D := g.1) (ci := 5) (v := .ref (ma 12)) (C := RX5) (T := TX5) (N := 23) hx hb hts hiX5 hown hK.1 hP 0 rfl rfl 18 (by decide) (hts _ w_fl_X5_60) (fun _ h9 => h9) rfl dX5_place_80 ?_
              refine lv_iload hx hb dX5_place_83 (lv_at hl 4 rfl) ?_
              refine lv_iconst (v := nI (1)) hx hb dX5_place_85 (by decide) ?_
              refine n_isub hx hb (by omega) dX5_place_86 ?_
              refine n_zald (k := j - 1) (v := bI (sE S (j - 1))) hx hb hK.1 hP 12 1 rfl rfl (by omega) (by decide) (by show bI (shf (sE S) j (sN S) (j - 1)) = _; rw [shf_lo (by omega)]) dX5_place_87 ?_
              refine tp_i (y := bI (shf (sE S) j (sN S) (j - 1))) (by rw [shf_lo (by omega)]) ?_
              refine n_zastE (f := shf (sE S) j (sN S)) (x := shf (sE S) j (sN S) (j - 1)) (k := j) hx hb hK.1 hP hD hS 12 1 rfl rfl (by omega) (by decide) dX5_place_88 (fun H locs hP hD hS => ?_)
              have hP : va_P g.1 vwCl (wM g ma P (usE (usS (usH S (va_up (shf (sH S) j (sN S)) j (shf (sH S) j (sN S) (j - 1)))) (va_up (shf (sS S) j (sN S)) j (shf (sS S) j (sN S) (j - 1)))) (va_up (shf (sE S) j (sN S)) j (shf (sE S) j (sN S) (j - 1))))) H := hP
              have hD : va_D A (wM g ma P (usE (usS (usH S (va_up (shf (sH S) j (sN S)) j (shf (sH S) j (sN S) (j - 1)))) (va_up (shf (sS S) j (sN S)) j (shf (sS S) j (sN S) (j - 1)))) (va_up (shf (sE S) j (sN S)) j (shf (sE S) j (sN S) (j - 1))))) := hD
              rw [shf_s (sH S) (by omega) hj2, shf_s (sS S) (by omega) hj2, shf_s (sE S) (by omega) hj2] at hP hD
              refine lv_iinc (v := nI (j - 1)) (lv' := [(4, .int (nI (j - 1))), (0, .ref (ma 0)), (1, .int (nI (h))), (2, .int (nI (v))), (3, .int (bI (ee)))]) hx hb dX5_place_89 hl (k := 4) rfl (n_dec (by omega)) (by decide) rfl (fun ls hl => ?_)
              refine lv_goto (tgt := 6) hx hb dX5_place_92 (by decide) ?_
              exact ih (j - 1) H locs ls (by omega) (by omega) (by omega) hP hD hS (lv_sub hl [1, 2, 3, 4, 0] rfl)
  have e0 : wM g ma P (usE (usS (usH S (shf (sH S) (sN S) (sN S))) (shf (sS S) (sN S) (sN S))) (shf (sE S) (sN S) (sN S))) = wM g ma P S := by rw [shf_n, shf_n, shf_n]; rfl
  exact loop (sN S + 1) (sN S) _ _ ls hi (Nat.le_refl _) (by omega) (by rw [e0]; exact hP) (by rw [e0]; exact hD) hS (lv_sub hl [1, 2, 3, 4, 0] rfl)
