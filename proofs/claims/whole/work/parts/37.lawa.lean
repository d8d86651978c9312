set_option maxHeartbeats 4000000 in
set_option maxRecDepth 100000 in
theorem lw_c0 {p : Program} {l : Launch} {e : Env} {RR : Room} {s : State} {m : MethodId} {below : List Frame} {meth : Method} {c : Code} {QQ : State → Prop} {b L : Nat} {xs : Nat → Int32} {g : GG} {ma : Nat → Nat} {q1 i cells slots : Nat} {x : FT} {P : PT} {S : ST} {H : Heap} {locs : List Loc} {ls : Array Slot} (C0 : LwC RR p s m c b L xs g) (hi4 : i + 4 ≤ L) (hL : L ≤ 2048) (hc5 : cells + 5 ≤ 600000) (hs5 : slots + 136 ≤ 7302250) (hI : LI g ma q1 s.heap x P S H locs) (hl : lv_has ls 4 [(0, .ref (b)), (1, .ref (q1)), (2, .ref (ma 0)), (3, .int (nI (i)))]) (hn : LN p l e RR s m below meth c b QQ g ma q1 i cells slots) : W p l e RR s m #[Value.ref b] below meth c H locs cells slots QQ (F0 m 116 ls []) := by
  obtain ⟨hx, hb, hml, hown, hts, hX, hbl, hK, hR1, hR2, hR3, hR4⟩ := C0
  obtain ⟨⟨hSo, hRl, hR0, hs0⟩, hq1, hP, hD, hS⟩ := hI
  subst hq1
  have hx9 := hSo.1
  have hA : ∀ q : Nat, s.heap.size ≤ q → (fun q : Nat => s.heap.size ≤ q) q := fun _ h => h
  have hbA : ¬ (fun q : Nat => s.heap.size ≤ q) b := Nat.not_le.mpr hbl
  refine lv_aload_n hx hb dL_law_116 rfl (lv_at hl 1 rfl) ?_
  refine lv_aload_n hx hb dL_law_117 rfl (lv_at hl 0 rfl) ?_
  refine lv_iload_n hx hb dL_law_118 rfl (lv_at hl 3 rfl) ?_
  refine lv_iconst (v := nI (1)) hx hb dL_law_119 (by decide) ?_
  refine n_iadd hx hb dL_law_120 ?_
  refine n_sld (k := i + 1) hx hb hX hbl hbA hS (by omega) (by omega) dL_law_121 ?_
  refine lv_aload_n hx hb dL_law_122 rfl (lv_at hl 0 rfl) ?_
  refine lv_iload_n hx hb dL_law_123 rfl (lv_at hl 3 rfl) ?_
  refine lv_iconst (v := nI (2)) hx hb dL_law_124 (by decide) ?_
  refine n_iadd hx hb dL_law_125 ?_
  refine n_sld (k := i + 2) hx hb hX hbl hbA hS (by omega) (by omega) dL_law_126 ?_
  refine cL_i (wc := wX g x) (wr := wM g ma P S) (w1 := fun u => wX g u) (va_runV (As := [.int (xs (i + 1)), .int (xs (i + 2))]) (rest := []) ⟨hx, hb, hml, hown, hts⟩ (k_bin l g x hx9 (xs (i + 1)) (xs (i + 2)) _) (cwV 2 hts (gV w_ml_L_13 w_im_X4_bin w_sel_X4_bin w_ini_X4 w_co_X4_bin) rfl rfl rfl (by decide +kernel) (by rw [hR1, hR2]; exact ⟨Nat.le_of_ble_eq_true rfl, Nat.le_of_ble_eq_true rfl⟩)) (preV_wr (P_left hP) hK (D_left hD) (va_recv hK.1 (P_left hP) (ci := 4) (q0 := 0) rfl rfl)) rfl rfl hl.1 rfl (lv_room (Nat.le_of_ble_eq_true rfl)) dL_law_127 ⟨by rw [hR3]; omega, by rw [hR4]; omega⟩) hP hD hS hA (fun r u H locs hpx hP hD hS => ?_)
  obtain ⟨ua, hpx⟩ := hpx
  have hr1 : r = (binS x (xs (i + 1)) (xs (i + 2)) ua).1 := congrArg Prod.fst hpx
  have hu1 : u = (binS x (xs (i + 1)) (xs (i + 2)) ua).2 := congrArg Prod.snd hpx
  subst hr1 hu1
  refine lv_aload_n hx hb dL_law_130 rfl (lv_at hl 2 rfl) ?_
  refine lv_aload_n hx hb dL_law_131 rfl (lv_at hl 0 rfl) ?_
  refine lv_iload_n hx hb dL_law_132 rfl (lv_at hl 3 rfl) ?_
  refine lv_iconst (v := nI (1)) hx hb dL_law_133 (by decide) ?_
  refine n_iadd hx hb dL_law_134 ?_
  refine n_sld (k := i + 1) hx hb hX hbl hbA hS (by omega) (by omega) dL_law_135 ?_
  refine lv_aload_n hx hb dL_law_136 rfl (lv_at hl 0 rfl) ?_
  refine lv_iload_n hx hb dL_law_137 rfl (lv_at hl 3 rfl) ?_
  refine lv_iconst (v := nI (2)) hx hb dL_law_138 (by decide) ?_
  refine n_iadd hx hb dL_law_139 ?_
  refine n_sld (k := i + 2) hx hb hX hbl hbA hS (by omega) (by omega) dL_law_140 ?_
  refine cM_i (wl := wX g (binS x (xs (i + 1)) (xs (i + 2)) ua).2) (wc := wM g ma P S) (w1 := fun v => wM g ma v S) (va_runV (As := [.int (xs (i + 1)), .int (xs (i + 2))]) (rest := [.int ((binS x (xs (i + 1)) (xs (i + 2)) ua).1)]) ⟨hx, hb, hml, hown, hts⟩ (m_bin l g ma P S x hx9 hRl hR0 (xs (i + 1)) (xs (i + 2)) ua _) (cwV 2 hts (gV w_ml_L_17 w_im_X5_bin w_sel_X5_bin w_ini_X5 w_co_X5_bin) rfl rfl rfl (by decide +kernel) (by rw [hR1, hR2]; exact ⟨Nat.le_of_ble_eq_true rfl, Nat.le_of_ble_eq_true rfl⟩)) (preV_wr (P_right hP) hK (D_right hD) (va_recv hK.1 (P_right hP) (ci := 5) (q0 := 0) rfl rfl)) rfl rfl hl.1 rfl (lv_room (Nat.le_of_ble_eq_true rfl)) dL_law_141 ⟨by rw [hR3]; omega, by rw [hR4]; omega⟩) hP hD hS hA (fun _ => rfl) (fun r2 P2 H locs hpm hP hD hS => ?_)
  obtain ⟨hr2, hRl2, hR02⟩ := hpm
  subst hr2
  refine lv_icmp_eq (tgt := 706) hx hb dL_law_144 (by decide) (fun c1 => ?_) (fun c1 => ?_)
  · refine W.widen (k := cells + 5) (n := slots + 136) (by omega) (by omega) ?_
    exact hn _ P2 S H locs ls ⟨⟨Sok_bin hSo, hRl2, hR02, hs0⟩, congrFun xA_bin 0, hP, hD, hS⟩ (lv_sub hl [0, 1, 2, 3] rfl)
  · exact absurd rfl c1

set_option maxHeartbeats 4000000 in
set_option maxRecDepth 100000 in
theorem lw_c1 {p : Program} {l : Launch} {e : Env} {RR : Room} {s : State} {m : MethodId} {below : List Frame} {meth : Method} {c : Code} {QQ : State → Prop} {b L : Nat} {xs : Nat → Int32} {g : GG} {ma : Nat → Nat} {q1 i cells slots : Nat} {x : FT} {P : PT} {S : ST} {H : Heap} {locs : List Loc} {ls : Array Slot} (C0 : LwC RR p s m c b L xs g) (hi4 : i + 4 ≤ L) (hL : L ≤ 2048) (hc5 : cells + 5 ≤ 600000) (hs5 : slots + 136 ≤ 7302250) (hI : LI g ma q1 s.heap x P S H locs) (hl : lv_has ls 4 [(0, .ref (b)), (1, .ref (q1)), (2, .ref (ma 0)), (3, .int (nI (i)))]) (hn : LN p l e RR s m below meth c b QQ g ma q1 i cells slots) : W p l e RR s m #[Value.ref b] below meth c H locs cells slots QQ (F0 m 149 ls []) := by
  obtain ⟨hx, hb, hml, hown, hts, hX, hbl, hK, hR1, hR2, hR3, hR4⟩ := C0
  obtain ⟨⟨hSo, hRl, hR0, hs0⟩, hq1, hP, hD, hS⟩ := hI
  subst hq1
  have hx9 := hSo.1
  have hA : ∀ q : Nat, s.heap.size ≤ q → (fun q : Nat => s.heap.size ≤ q) q := fun _ h => h
  have hbA : ¬ (fun q : Nat => s.heap.size ≤ q) b := Nat.not_le.mpr hbl
  refine lv_aload_n hx hb dL_law_149 rfl (lv_at hl 1 rfl) ?_
  refine lv_aload_n hx hb dL_law_150 rfl (lv_at hl 0 rfl) ?_
  refine lv_iload_n hx hb dL_law_151 rfl (lv_at hl 3 rfl) ?_
  refine lv_iconst (v := nI (1)) hx hb dL_law_152 (by decide) ?_
  refine n_iadd hx hb dL_law_153 ?_
  refine n_sld (k := i + 1) hx hb hX hbl hbA hS (by omega) (by omega) dL_law_154 ?_
  refine lv_aload_n hx hb dL_law_155 rfl (lv_at hl 0 rfl) ?_
  refine lv_iload_n hx hb dL_law_156 rfl (lv_at hl 3 rfl) ?_
  refine lv_iconst (v := nI (2)) hx hb dL_law_157 (by decide) ?_
  refine n_iadd hx hb dL_law_158 ?_
  refine n_sld (k := i + 2) hx hb hX hbl hbA hS (by omega) (by omega) dL_law_159 ?_
  refine lv_aload_n hx hb dL_law_160 rfl (lv_at hl 0 rfl) ?_
  refine lv_iload_n hx hb dL_law_161 rfl (lv_at hl 3 rfl) ?_
  refine lv_iconst (v := nI (3)) hx hb dL_law_162 (by decide) ?_
  refine n_iadd hx hb dL_law_163 ?_
  refine n_sld (k := i + 3) hx hb hX hbl hbA hS (by omega) (by omega) dL_law_164 ?_
  refine cL_i (wc := wX g x) (wr := wM g ma P S) (w1 := fun u => wX g u) (va_runV (As := [.int (xs (i + 1)), .int (xs (i + 2)), .int (xs (i + 3))]) (rest := []) ⟨hx, hb, hml, hown, hts⟩ (k_row l g x hx9 (xs (i + 1)) (xs (i + 2)) (xs (i + 3)) _) (cwV 3 hts (gV w_ml_L_18 w_im_X4_row w_sel_X4_row w_ini_X4 w_co_X4_row) rfl rfl rfl (by decide +kernel) (by rw [hR1, hR2]; exact ⟨Nat.le_of_ble_eq_true rfl, Nat.le_of_ble_eq_true rfl⟩)) (preV_wr (P_left hP) hK (D_left hD) (va_recv hK.1 (P_left hP) (ci := 4) (q0 := 0) rfl rfl)) rfl rfl hl.1 rfl (lv_room (Nat.le_of_ble_eq_true rfl)) dL_law_165 ⟨by rw [hR3]; omega, by rw [hR4]; omega⟩) hP hD hS hA (fun r u H locs hpx hP hD hS => ?_)
  have hr1 : r = (rowS true x (xs (i + 1)) (xs (i + 2)) (xs (i + 3))).1 := congrArg Prod.fst hpx
  have hu1 : u = (rowS true x (xs (i + 1)) (xs (i + 2)) (xs (i + 3))).2 := congrArg Prod.snd hpx
  subst hr1 hu1
  refine lv_aload_n hx hb dL_law_168 rfl (lv_at hl 2 rfl) ?_
  refine lv_aload_n hx hb dL_law_169 rfl (lv_at hl 0 rfl) ?_
  refine lv_iload_n hx hb dL_law_170 rfl (lv_at hl 3 rfl) ?_
  refine lv_iconst (v := nI (1)) hx hb dL_law_171 (by decide) ?_
  refine n_iadd hx hb dL_law_172 ?_
  refine n_sld (k := i + 1) hx hb hX hbl hbA hS (by omega) (by omega) dL_law_173 ?_
  refine lv_aload_n hx hb dL_law_174 rfl (lv_at hl 0 rfl) ?_
  refine lv_iload_n hx hb dL_law_175 rfl (lv_at hl 3 rfl) ?_
  refine lv_iconst (v := nI (2)) hx hb dL_law_176 (by decide) ?_
  refine n_iadd hx hb dL_law_177 ?_
  refine n_sld (k := i + 2) hx hb hX hbl hbA hS (by omega) (by omega) dL_law_178 ?_
  refine lv_aload_n hx hb dL_law_179 rfl (lv_at hl 0 rfl) ?_
  refine lv_iload_n hx hb dL_law_180 rfl (lv_at hl 3 rfl) ?_
  refine lv_iconst (v := nI (3)) hx hb dL_law_181 (by decide) ?_
  refine n_iadd hx hb dL_law_182 ?_
  refine n_sld (k := i + 3) hx hb hX hbl hbA hS (by omega) (by omega) dL_law_183 ?_
  refine cM_i (wl := wX g (rowS true x (xs (i + 1)) (xs (i + 2)) (xs (i + 3))).2) (wc := wM g ma P S) (w1 := fun v => wM g ma v S) (va_runV (As := [.int (xs (i + 1)), .int (xs (i + 2)), .int (xs (i + 3))]) (rest := [.int ((rowS true x (xs (i + 1)) (xs (i + 2)) (xs (i + 3))).1)]) ⟨hx, hb, hml, hown, hts⟩ (m_row l g ma P S x hx9 hRl hR0 (xs (i + 1)) (xs (i + 2)) (xs (i + 3)) _) (cwV 3 hts (gV w_ml_L_22 w_im_X5_row w_sel_X5_row w_ini_X5 w_co_X5_row) rfl rfl rfl (by decide +kernel) (by rw [hR1, hR2]; exact ⟨Nat.le_of_ble_eq_true rfl, Nat.le_of_ble_eq_true rfl⟩)) (preV_wr (P_right hP) hK (D_right hD) (va_recv hK.1 (P_right hP) (ci := 5) (q0 := 0) rfl rfl)) rfl rfl hl.1 rfl (lv_room (Nat.le_of_ble_eq_true rfl)) dL_law_184 ⟨by rw [hR3]; omega, by rw [hR4]; omega⟩) hP hD hS hA (fun _ => rfl) (fun r2 P2 H locs hpm hP hD hS => ?_)
  obtain ⟨hr2, hRl2, hR02⟩ := hpm
  subst hr2
  refine lv_icmp_eq (tgt := 706) hx hb dL_law_187 (by decide) (fun c1 => ?_) (fun c1 => ?_)
  · refine W.widen (k := cells + 5) (n := slots + 136) (by omega) (by omega) ?_
    exact hn _ P2 S H locs ls ⟨⟨Sok_row hSo, hRl2, hR02, hs0⟩, congrFun xA_row 0, hP, hD, hS⟩ (lv_sub hl [0, 1, 2, 3] rfl)
  · exact absurd rfl c1

set_option maxHeartbeats 4000000 in
set_option maxRecDepth 100000 in
theorem lw_c2 {p : Program} {l : Launch} {e : Env} {RR : Room} {s : State} {m : MethodId} {below : List Frame} {meth : Method} {c : Code} {QQ : State → Prop} {b L : Nat} {xs : Nat → Int32} {g : GG} {ma : Nat → Nat} {q1 i cells slots : Nat} {x : FT} {P : PT} {S : ST} {H : Heap} {locs : List Loc} {ls : Array Slot} (C0 : LwC RR p s m c b L xs g) (hi4 : i + 4 ≤ L) (hL : L ≤ 2048) (hc5 : cells + 5 ≤ 600000) (hs5 : slots + 136 ≤ 7302250) (hI : LI g ma q1 s.heap x P S H locs) (hl : lv_has ls 4 [(0, .ref (b)), (1, .ref (q1)), (2, .ref (ma 0)), (3, .int (nI (i)))]) (hn : LN p l e RR s m below meth c b QQ g ma q1 i cells slots) : W p l e RR s m #[Value.ref b] below meth c H locs cells slots QQ (F0 m 192 ls []) := by
  obtain ⟨hx, hb, hml, hown, hts, hX, hbl, hK, hR1, hR2, hR3, hR4⟩ := C0
  obtain ⟨⟨hSo, hRl, hR0, hs0⟩, hq1, hP, hD, hS⟩ := hI
  subst hq1
  have hx9 := hSo.1
  have hA : ∀ q : Nat, s.heap.size ≤ q → (fun q : Nat => s.heap.size ≤ q) q := fun _ h => h
  have hbA : ¬ (fun q : Nat => s.heap.size ≤ q) b := Nat.not_le.mpr hbl
  refine lv_aload_n hx hb dL_law_192 rfl (lv_at hl 1 rfl) ?_
  refine lv_aload_n hx hb dL_law_193 rfl (lv_at hl 0 rfl) ?_
  refine lv_iload_n hx hb dL_law_194 rfl (lv_at hl 3 rfl) ?_
  refine lv_iconst (v := nI (1)) hx hb dL_law_195 (by decide) ?_
  refine n_iadd hx hb dL_law_196 ?_
  refine n_sld (k := i + 1) hx hb hX hbl hbA hS (by omega) (by omega) dL_law_197 ?_
  refine lv_aload_n hx hb dL_law_198 rfl (lv_at hl 0 rfl) ?_
  refine lv_iload_n hx hb dL_law_199 rfl (lv_at hl 3 rfl) ?_
  refine lv_iconst (v := nI (2)) hx hb dL_law_200 (by decide) ?_
  refine n_iadd hx hb dL_law_201 ?_
  refine n_sld (k := i + 2) hx hb hX hbl hbA hS (by omega) (by omega) dL_law_202 ?_
  refine lv_aload_n hx hb dL_law_203 rfl (lv_at hl 0 rfl) ?_
  refine lv_iload_n hx hb dL_law_204 rfl (lv_at hl 3 rfl) ?_
  refine lv_iconst (v := nI (3)) hx hb dL_law_205 (by decide) ?_
  refine n_iadd hx hb dL_law_206 ?_
  refine n_sld (k := i + 3) hx hb hX hbl hbA hS (by omega) (by omega) dL_law_207 ?_
  refine cL_i (wc := wX g x) (wr := wM g ma P S) (w1 := fun u => wX g u) (va_runV (As := [.int (xs (i + 1)), .int (xs (i + 2)), .int (xs (i + 3))]) (rest := []) ⟨hx, hb, hml, hown, hts⟩ (k_emptied l g x hx9 (xs (i + 1)) (xs (i + 2)) (xs (i + 3)) _) (cwV 3 hts (gV w_ml_L_23 w_im_X4_emptied w_sel_X4_emptied w_ini_X4 w_co_X4_emptied) rfl rfl rfl (by decide +kernel) (by rw [hR1, hR2]; exact ⟨Nat.le_of_ble_eq_true rfl, Nat.le_of_ble_eq_true rfl⟩)) (preV_wr (P_left hP) hK (D_left hD) (va_recv hK.1 (P_left hP) (ci := 4) (q0 := 0) rfl rfl)) rfl rfl hl.1 rfl (lv_room (Nat.le_of_ble_eq_true rfl)) dL_law_208 ⟨by rw [hR3]; omega, by rw [hR4]; omega⟩) hP hD hS hA (fun r u H locs hpx hP hD hS => ?_)
  have hr1 : r = (rowS false x (xs (i + 1)) (xs (i + 2)) (xs (i + 3))).1 := congrArg Prod.fst hpx
  have hu1 : u = (rowS false x (xs (i + 1)) (xs (i + 2)) (xs (i + 3))).2 := congrArg Prod.snd hpx
  subst hr1 hu1
  refine lv_aload_n hx hb dL_law_211 rfl (lv_at hl 2 rfl) ?_
  refine lv_aload_n hx hb dL_law_212 rfl (lv_at hl 0 rfl) ?_
  refine lv_iload_n hx hb dL_law_213 rfl (lv_at hl 3 rfl) ?_
  refine lv_iconst (v := nI (1)) hx hb dL_law_214 (by decide) ?_
  refine n_iadd hx hb dL_law_215 ?_
  refine n_sld (k := i + 1) hx hb hX hbl hbA hS (by omega) (by omega) dL_law_216 ?_
  refine lv_aload_n hx hb dL_law_217 rfl (lv_at hl 0 rfl) ?_
  refine lv_iload_n hx hb dL_law_218 rfl (lv_at hl 3 rfl) ?_
  refine lv_iconst (v := nI (2)) hx hb dL_law_219 (by decide) ?_
  refine n_iadd hx hb dL_law_220 ?_
  refine n_sld (k := i + 2) hx hb hX hbl hbA hS (by omega) (by omega) dL_law_221 ?_
  refine lv_aload_n hx hb dL_law_222 rfl (lv_at hl 0 rfl) ?_
  refine lv_iload_n hx hb dL_law_223 rfl (lv_at hl 3 rfl) ?_
  refine lv_iconst (v := nI (3)) hx hb dL_law_224 (by decide) ?_
  refine n_iadd hx hb dL_law_225 ?_
  refine n_sld (k := i + 3) hx hb hX hbl hbA hS (by omega) (by omega) dL_law_226 ?_
  refine cM_i (wl := wX g (rowS false x (xs (i + 1)) (xs (i + 2)) (xs (i + 3))).2) (wc := wM g ma P S) (w1 := fun v => wM g ma v S) (va_runV (As := [.int (xs (i + 1)), .int (xs (i + 2)), .int (xs (i + 3))]) (rest := [.int ((rowS false x (xs (i + 1)) (xs (i + 2)) (xs (i + 3))).1)]) ⟨hx, hb, hml, hown, hts⟩ (m_emptied l g ma P S x hx9 hRl hR0 (xs (i + 1)) (xs (i + 2)) (xs (i + 3)) _) (cwV 3 hts (gV w_ml_L_26 w_im_X5_emptied w_sel_X5_emptied w_ini_X5 w_co_X5_emptied) rfl rfl rfl (by decide +kernel) (by rw [hR1, hR2]; exact ⟨Nat.le_of_ble_eq_true rfl, Nat.le_of_ble_eq_true rfl⟩)) (preV_wr (P_right hP) hK (D_right hD) (va_recv hK.1 (P_right hP) (ci := 5) (q0 := 0) rfl rfl)) rfl rfl hl.1 rfl (lv_room (Nat.le_of_ble_eq_true rfl)) dL_law_227 ⟨by rw [hR3]; omega, by rw [hR4]; omega⟩) hP hD hS hA (fun _ => rfl) (fun r2 P2 H locs hpm hP hD hS => ?_)
  obtain ⟨hr2, hRl2, hR02⟩ := hpm
  subst hr2
  refine lv_icmp_eq (tgt := 706) hx hb dL_law_230 (by decide) (fun c1 => ?_) (fun c1 => ?_)
  · refine W.widen (k := cells + 5) (n := slots + 136) (by omega) (by omega) ?_
    exact hn _ P2 S H locs ls ⟨⟨Sok_row hSo, hRl2, hR02, hs0⟩, congrFun xA_row 0, hP, hD, hS⟩ (lv_sub hl [0, 1, 2, 3] rfl)
  · exact absurd rfl c1

set_option maxHeartbeats 4000000 in
set_option maxRecDepth 100000 in
theorem lw_c3 {p : Program} {l : Launch} {e : Env} {RR : Room} {s : State} {m : MethodId} {below : List Frame} {meth : Method} {c : Code} {QQ : State → Prop} {b L : Nat} {xs : Nat → Int32} {g : GG} {ma : Nat → Nat} {q1 i cells slots : Nat} {x : FT} {P : PT} {S : ST} {H : Heap} {locs : List Loc} {ls : Array Slot} (C0 : LwC RR p s m c b L xs g) (hi4 : i + 4 ≤ L) (hL : L ≤ 2048) (hc5 : cells + 5 ≤ 600000) (hs5 : slots + 136 ≤ 7302250) (hI : LI g ma q1 s.heap x P S H locs) (hl : lv_has ls 4 [(0, .ref (b)), (1, .ref (q1)), (2, .ref (ma 0)), (3, .int (nI (i)))]) (hn : LN p l e RR s m below meth c b QQ g ma q1 i cells slots) : W p l e RR s m #[Value.ref b] below meth c H locs cells slots QQ (F0 m 235 ls []) := by
  obtain ⟨hx, hb, hml, hown, hts, hX, hbl, hK, hR1, hR2, hR3, hR4⟩ := C0
  obtain ⟨⟨hSo, hRl, hR0, hs0⟩, hq1, hP, hD, hS⟩ := hI
  subst hq1
  have hx9 := hSo.1
  have hA : ∀ q : Nat, s.heap.size ≤ q → (fun q : Nat => s.heap.size ≤ q) q := fun _ h => h
  have hbA : ¬ (fun q : Nat => s.heap.size ≤ q) b := Nat.not_le.mpr hbl
  refine lv_aload_n hx hb dL_law_235 rfl (lv_at hl 1 rfl) ?_
  refine lv_aload_n hx hb dL_law_236 rfl (lv_at hl 0 rfl) ?_
  refine lv_iload_n hx hb dL_law_237 rfl (lv_at hl 3 rfl) ?_
  refine lv_iconst (v := nI (1)) hx hb dL_law_238 (by decide) ?_
  refine n_iadd hx hb dL_law_239 ?_
  refine n_sld (k := i + 1) hx hb hX hbl hbA hS (by omega) (by omega) dL_law_240 ?_
  refine lv_aload_n hx hb dL_law_241 rfl (lv_at hl 0 rfl) ?_
  refine lv_iload_n hx hb dL_law_242 rfl (lv_at hl 3 rfl) ?_
  refine lv_iconst (v := nI (2)) hx hb dL_law_243 (by decide) ?_
  refine n_iadd hx hb dL_law_244 ?_
  refine n_sld (k := i + 2) hx hb hX hbl hbA hS (by omega) (by omega) dL_law_245 ?_
  refine cL_i (wc := wX g x) (wr := wM g ma P S) (w1 := fun u => wX g u) (va_runV (As := [.int (xs (i + 1)), .int (xs (i + 2))]) (rest := []) ⟨hx, hb, hml, hown, hts⟩ (k_fade l g x hx9 (xs (i + 1)) (xs (i + 2)) _) (cwV 2 hts (gV w_ml_L_27 w_im_X4_fade w_sel_X4_fade w_ini_X4 w_co_X4_fade) rfl rfl rfl (by decide +kernel) (by rw [hR1, hR2]; exact ⟨Nat.le_of_ble_eq_true rfl, Nat.le_of_ble_eq_true rfl⟩)) (preV_wr (P_left hP) hK (D_left hD) (va_recv hK.1 (P_left hP) (ci := 4) (q0 := 0) rfl rfl)) rfl rfl hl.1 rfl (lv_room (Nat.le_of_ble_eq_true rfl)) dL_law_246 ⟨by rw [hR3]; omega, by rw [hR4]; omega⟩) hP hD hS hA (fun r u H locs hpx hP hD hS => ?_)
  have hr1 : r = (fadeS x (xs (i + 1)) (xs (i + 2))).1 := congrArg Prod.fst hpx
  have hu1 : u = (fadeS x (xs (i + 1)) (xs (i + 2))).2 := congrArg Prod.snd hpx
  subst hr1 hu1
  refine lv_aload_n hx hb dL_law_249 rfl (lv_at hl 2 rfl) ?_
  refine lv_aload_n hx hb dL_law_250 rfl (lv_at hl 0 rfl) ?_
  refine lv_iload_n hx hb dL_law_251 rfl (lv_at hl 3 rfl) ?_
  refine lv_iconst (v := nI (1)) hx hb dL_law_252 (by decide) ?_
  refine n_iadd hx hb dL_law_253 ?_
  refine n_sld (k := i + 1) hx hb hX hbl hbA hS (by omega) (by omega) dL_law_254 ?_
  refine lv_aload_n hx hb dL_law_255 rfl (lv_at hl 0 rfl) ?_
  refine lv_iload_n hx hb dL_law_256 rfl (lv_at hl 3 rfl) ?_
  refine lv_iconst (v := nI (2)) hx hb dL_law_257 (by decide) ?_
  refine n_iadd hx hb dL_law_258 ?_
  refine n_sld (k := i + 2) hx hb hX hbl hbA hS (by omega) (by omega) dL_law_259 ?_
  refine cM_i (wl := wX g (fadeS x (xs (i + 1)) (xs (i + 2))).2) (wc := wM g ma P S) (w1 := fun v => wM g ma v S) (va_runV (As := [.int (xs (i + 1)), .int (xs (i + 2))]) (rest := [.int ((fadeS x (xs (i + 1)) (xs (i + 2))).1)]) ⟨hx, hb, hml, hown, hts⟩ (m_fade l g ma P S x hx9 hRl hR0 (xs (i + 1)) (xs (i + 2)) _) (cwV 2 hts (gV w_ml_L_31 w_im_X5_fade w_sel_X5_fade w_ini_X5 w_co_X5_fade) rfl rfl rfl (by decide +kernel) (by rw [hR1, hR2]; exact ⟨Nat.le_of_ble_eq_true rfl, Nat.le_of_ble_eq_true rfl⟩)) (preV_wr (P_right hP) hK (D_right hD) (va_recv hK.1 (P_right hP) (ci := 5) (q0 := 0) rfl rfl)) rfl rfl hl.1 rfl (lv_room (Nat.le_of_ble_eq_true rfl)) dL_law_260 ⟨by rw [hR3]; omega, by rw [hR4]; omega⟩) hP hD hS hA (fun _ => rfl) (fun r2 P2 H locs hpm hP hD hS => ?_)
  obtain ⟨hr2, hRl2, hR02⟩ := hpm
  subst hr2
  refine lv_icmp_eq (tgt := 706) hx hb dL_law_263 (by decide) (fun c1 => ?_) (fun c1 => ?_)
  · refine W.widen (k := cells + 5) (n := slots + 136) (by omega) (by omega) ?_
    exact hn _ P2 S H locs ls ⟨⟨Sok_fade hSo, hRl2, hR02, hs0⟩, congrFun xA_fade 0, hP, hD, hS⟩ (lv_sub hl [0, 1, 2, 3] rfl)
  · exact absurd rfl c1

