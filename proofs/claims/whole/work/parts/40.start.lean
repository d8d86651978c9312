set_option maxHeartbeats 4000000 in
set_option maxRecDepth 100000 in
theorem arr_K {s : State} {args : Array Value} {ty : FieldType} (h : (Cond.arrayClass ty).before args s = true) : ∃ cA : ClassId, ArrOfT s cA ty ∧ s.vm.findClass ("[" ++ ty.toString) = some cA := by
  obtain ⟨c, k, comp, h1, h2, h3⟩ := Cond.arrayClass_spec h
  exact ⟨c, fun n z => ⟨fun k h => (by cases h), k, h2, comp, h3⟩, h1⟩
set_option maxHeartbeats 4000000 in
set_option maxRecDepth 100000 in
theorem know {s : State} {b : Nat} (hts0 : ∀ w ∈ lw_tbl, w.before #[Value.ref b] s = true) : ∃ g : GG, KK g s := by
  have hts : ∀ w ∈ BIG, w.before #[Value.ref b] s = true := fun w hw => hts0 w (BIG_in w hw)
  obtain ⟨cX0, iX0, hKX0⟩ := u_known (C := RX0) (T := TX0) (N := 8) (n := 8) hts hiX0 (hts _ w_ins_X0)
  obtain ⟨cX1, iX1, hKX1⟩ := u_known (C := RX1) (T := TX1) (N := 1) (n := 1) hts hiX1 (hts _ w_ins_X1)
  obtain ⟨cX2, iX2, hKX2⟩ := u_known (C := RX2) (T := TX2) (N := 1) (n := 1) hts hiX2 (hts _ w_ins_X2)
  obtain ⟨cX3, iX3, hKX3⟩ := u_known (C := RX3) (T := TX3) (N := 2) (n := 2) hts hiX3 (hts _ w_ins_X3)
  obtain ⟨cX4, iX4, hKX4⟩ := u_known (C := RX4) (T := TX4) (N := 8) (n := 8) hts hiX4 (hts _ w_ins_X4)
  obtain ⟨cX5, iX5, hKX5⟩ := u_known (C := RX5) (T := TX5) (N := 23) (n := 23) hts hiX5 (hts _ w_ins_X5)
  obtain ⟨a0, r0, f0⟩ := arr_K (hts _ w_ac_int)
  obtain ⟨a1, r1, f1⟩ := arr_K (hts _ w_ac_boolean)
  obtain ⟨a3, r3, f3⟩ := arr_K (hts _ w_ac_long)
  have hao : (Cond.arrayOver (.object "FillForecast$Bin")).before #[Value.ref b] s = true := hts0 _ (List.mem_of_getElem? (i := 79) (by decide +kernel))
  have hne : (Cond.methodLinkNest "FillForecast$Bin" 66 yX4_isWithin "FillForecast").before #[Value.ref b] s = true := hts0 _ (List.mem_of_getElem? (i := 316) (by decide +kernel))
  obtain ⟨comp, a2, k2, g1, -, g3, g4, g5⟩ := Cond.arrayOver_spec hao
  refine ⟨((fun k => match k with | 0 => cX0 | 1 => cX1 | 2 => cX2 | 3 => cX3 | 4 => cX4 | _ => cX5, fun k => match k with | 0 => iX0 | 1 => iX1 | 2 => iX2 | 3 => iX3 | 4 => iX4 | _ => iX5), fun k => match k with | 0 => a0 | 1 => a1 | 2 => a2 | _ => a3), ⟨fun k q hq => ?_, fun k q hq => ?_⟩, va_Nw.of rfl hne, va_AO.of hao⟩
  · match k, hq with
    | 0, hq => cases hq; exact hKX0
    | 1, hq => cases hq; exact hKX1
    | 2, hq => cases hq; exact hKX2
    | 3, hq => cases hq; exact hKX3
    | 4, hq => cases hq; exact hKX4
    | 5, hq => cases hq; exact hKX5
    | k + 6, hq => simp [vwCl] at hq
  · match k, hq with
    | 0, hq => cases hq; exact ⟨r0, f0⟩
    | 1, hq => cases hq; exact ⟨r1, f1⟩
    | 2, hq => cases hq; exact ⟨fun n z => ⟨fun k h => (by cases h), k2, g3, comp, g4⟩, k2, comp, g3, g4, g1, g5⟩
    | 3, hq => cases hq; exact ⟨r3, f3⟩
    | k + 4, hq => simp [tysG] at hq
set_option maxHeartbeats 4000000 in
set_option maxRecDepth 100000 in
theorem whole_start {p : Program} {e : Env} {s : State} {m : MethodId} {below : List Frame} {meth : Method} {c : Code} (l : Launch) {b L : Nat} {xs : Nat → Int32} (hL : L ≤ 2048) (C0 : lw_At p s m meth c b L xs) : W p l e room_1 s m #[Value.ref b] below meth c s.heap [] 0 0 (lw_Z below #[Value.ref b] s) (entryFrame m ([Value.ref b] : List Value).toArray 4) := by
  obtain ⟨hx, hb, hr, hml, hown, hts0, hX, hbl, hlocks, hgv⟩ := id C0
  have hown : s.vm.findClass RL = some m.cls := hown
  have hts : ∀ w ∈ BIG, w.before #[Value.ref b] s = true := fun w hw => hts0 w (BIG_in w hw)
  obtain ⟨g, hK⟩ := know hts0
  have hR1 : room_1.frames = 9 := rfl
  have hR2 : room_1.locals = 342 := rfl
  have hR3 : room_1.cells = 600000 := rfl
  have hR4 : room_1.slots = 7302250 := rfl
  have hA : ∀ q : Nat, s.heap.size ≤ q → (fun q : Nat => s.heap.size ≤ q) q := fun _ h => h
  have hS : va_S (fun q : Nat => s.heap.size ≤ q) s.heap s.heap [] := va_S.rf
  have hP : va_P g.1 vwCl [] s.heap := fun k q h => by simp at h
  have hD : va_D (fun q : Nat => s.heap.size ≤ q) [] := ⟨fun i j p q h => by simp at h, fun k q h => by simp at h⟩
  have hl := lv_entry ([.ref b]) (n := 4) (Nat.le_of_ble_eq_true rfl)
  rw [lg_entry_eq]
  generalize (lg_sl ([.ref b]) ++ List.replicate (4 - (lg_sl ([.ref b])).length) Slot.unset).toArray = ls at hl ⊢
  have hl : lv_has ls 4 [(0, .ref b)] := hl
  refine va_new (ci := 4) (fs := [.null, .null, .null, .null, .int 0, .int 0, .int 0, .int 0]) (C := RX4) (T := TX4) (N := 8) hx hb hts hiX4 tyX4 tyX4_ok hown (hts _ w_cl_L_7) (hts _ w_ins_X4) (hts _ w_ini_X4) hK.1 hP hD hS hA rfl (fun j hj => by rcases (show j = 0 ∨ j = 1 ∨ j = 2 ∨ j = 3 ∨ j = 4 ∨ j = 5 ∨ j = 6 ∨ j = 7 by omega) with rfl | rfl | rfl | rfl | rfl | rfl | rfl | rfl <;> rfl) (by rw [hR3]; omega) (by rw [hR4]; omega) dL_law_0 (fun q1 H hP hD hS => ?_)
  have hP : va_P g.1 vwCl ([(q1, .inr (4, [.null, .null, .null, .null, .int 0, .int 0, .int 0, .int 0]))] ++ []) H := hP
  have hD : va_D (fun q : Nat => s.heap.size ≤ q) ([(q1, .inr (4, [.null, .null, .null, .null, .int 0, .int 0, .int 0, .int 0]))] ++ []) := hD
  refine lv_dup hx hb dL_law_3 rfl ?_
  refine cL_v (wc := [(q1, .inr (4, [.null, .null, .null, .null, .int 0, .int 0, .int 0, .int 0]))]) (wr := []) (w1 := fun u => wX g u) (va_runI (As := []) (rest := [.ref q1]) ⟨hx, hb, hml, hown, hts⟩ (k_X_init l g q1 _) (cwI 0 hts (gI0 w_co_X4_init) rfl rfl rfl (hts _ w_ini_X4) (hts _ w_ml_L_9) (hts _ w_im_X4_init) rfl (by decide +kernel) (by rw [hR1, hR2]; exact ⟨Nat.le_of_ble_eq_true rfl, Nat.le_of_ble_eq_true rfl⟩)) (preI_wr (P_left hP) hK (D_left hD)) rfl rfl hl.1 rfl (lv_room (Nat.le_of_ble_eq_true rfl)) dL_law_4 ⟨by rw [hR3]; omega, by rw [hR4]; omega⟩) hP hD hS hA (fun x H locs hux hP hD hS => ?_)
  obtain ⟨hq1, ua, ca, fa, oa, hxe⟩ := hux
  rw [List.append_nil] at hP hD
  refine lv_astore_n (lv' := [(1, .ref q1), (0, .ref b)]) hx hb dL_law_7 rfl hl (by decide) rfl (fun ls hl => ?_)
  refine va_new (ci := 5) (fs := [.int 0, .null, .null, .null, .null, .null, .null, .null, .null, .int 0, .int 0, .null, .int 0, .int 0, .int 0, .int 0, .null, .null, .null, .null, .null, .null, .null]) (C := RX5) (T := TX5) (N := 23) hx hb hts hiX5 tyX5 tyX5_ok hown (hts _ w_cl_L_10) (hts _ w_ins_X5) (hts _ w_ini_X5) hK.1 hP hD hS hA rfl (fun j hj => by rcases (show j = 0 ∨ j = 1 ∨ j = 2 ∨ j = 3 ∨ j = 4 ∨ j = 5 ∨ j = 6 ∨ j = 7 ∨ j = 8 ∨ j = 9 ∨ j = 10 ∨ j = 11 ∨ j = 12 ∨ j = 13 ∨ j = 14 ∨ j = 15 ∨ j = 16 ∨ j = 17 ∨ j = 18 ∨ j = 19 ∨ j = 20 ∨ j = 21 ∨ j = 22 by omega) with rfl | rfl | rfl | rfl | rfl | rfl | rfl | rfl | rfl | rfl | rfl | rfl | rfl | rfl | rfl | rfl | rfl | rfl | rfl | rfl | rfl | rfl | rfl <;> rfl) (by rw [hR3]; omega) (by rw [hR4]; omega) dL_law_8 (fun q2 H hP hD hS => ?_)
  refine lv_dup hx hb dL_law_11 rfl ?_
  have hP3 : va_P g.1 vwCl (wX g x ++ ([(q2, .inr (5, [.int 0, .null, .null, .null, .null, .null, .null, .null, .null, .int 0, .int 0, .null, .int 0, .int 0, .int 0, .int 0, .null, .null, .null, .null, .null, .null, .null]))] ++ [])) H := by rw [List.append_nil]; exact hP
  have hD3 : va_D (fun q : Nat => s.heap.size ≤ q) (wX g x ++ ([(q2, .inr (5, [.int 0, .null, .null, .null, .null, .null, .null, .null, .null, .int 0, .int 0, .null, .int 0, .int 0, .int 0, .int 0, .null, .null, .null, .null, .null, .null, .null]))] ++ [])) := by rw [List.append_nil]; exact hD
  refine cN_v (q := q2) (wl := wX g x) (wc := [(q2, .inr (5, [.int 0, .null, .null, .null, .null, .null, .null, .null, .null, .int 0, .int 0, .null, .int 0, .int 0, .int 0, .int 0, .null, .null, .null, .null, .null, .null, .null]))]) (wr := []) (w1 := fun u => wM g u PT0 ST0) (va_runI (As := []) (rest := [.ref q2]) ⟨hx, hb, hml, hown, hts⟩ (m_init l g q2 _) (cwI 0 hts (gI0 w_co_X5_init) rfl rfl rfl (hts _ w_ini_X5) (hts _ w_ml_L_12) (hts _ w_im_X5_init) rfl (by decide +kernel) (by rw [hR1, hR2]; exact ⟨Nat.le_of_ble_eq_true rfl, Nat.le_of_ble_eq_true rfl⟩)) (preI_wr (P_mid hP3) hK (D_mid hD3)) rfl rfl hl.1 rfl (lv_room (Nat.le_of_ble_eq_true rfl)) dL_law_12 ⟨by rw [hR3]; omega, by rw [hR4]; omega⟩) hP3 hD3 hS hA (fun ma H locs hma hP hD hS => ?_)
  rw [List.append_nil] at hP hD
  refine lv_astore_n (lv' := [(2, .ref q2), (1, .ref q1), (0, .ref b)]) hx hb dL_law_15 rfl hl (by decide) rfl (fun ls hl => ?_)
  refine lv_iconst (v := nI 0) hx hb dL_law_16 (by decide) ?_
  refine lv_istore_n (lv' := [(3, .int (nI 0)), (2, .ref q2), (1, .ref q1), (0, .ref b)]) hx hb dL_law_17 rfl hl (by decide) rfl (fun ls hl => ?_)
  have hl : lv_has ls 4 [(3, .int (nI 0)), (2, .ref (ma 0)), (1, .ref q1), (0, .ref b)] := by rw [hma]; exact hl
  refine W.widen (k := 100 + 5 * 0) (n := 20000 + 136 * 0) (by omega) (by omega) ?_
  exact lw_loop (g := g) (ma := ma) (q1 := q1) (L := L) (xs := xs) hr hlocks ⟨hx, hb, hml, hown, hts, hX, hbl, hK, hR1, hR2, hR3, hR4⟩ hL (L + 1) 0 x PT0 ST0 H locs ls (Nat.zero_le _) (by omega) ⟨⟨by rw [hxe]; exact Sok_new, by rw [hxe]; exact Rel_new, Rel0_new, rfl⟩, hq1, hP, hD, hS⟩ (lv_sub hl [3, 2, 1, 0] rfl)
