set_option maxHeartbeats 4000000 in
set_option maxRecDepth 100000 in
theorem lw_loop {p : Program} {l : Launch} {e : Env} {s : State} {m : MethodId} {below : List Frame} {meth : Method} {c : Code} {b L : Nat} {xs : Nat → Int32} {g : GG} {ma : Nat → Nat} {q1 : Nat} (hr : meth.sig.returnType = ret) (hlocks : meth.locks = false) (C0 : LwC room_1 p s m c b L xs g) (hL : L ≤ 2048) : ∀ (n t : Nat) (x : FT) (P : PT) (S : ST) (H : Heap) (locs : List Loc) (ls : Array Slot), 4 * t ≤ L → L < 4 * t + 4 * n → LI g ma q1 s.heap x P S H locs → lv_has ls 4 [(0, .ref b), (1, .ref q1), (2, .ref (ma 0)), (3, .int (nI (4 * t)))] → W p l e room_1 s m #[Value.ref b] below meth c H locs (100 + 5 * t) (20000 + 136 * t) (lw_Z below #[Value.ref b] s) (F0 m 18 ls []) := by
  intro n
  induction n with
  | zero => intro t x P S H locs ls h1 h2; exact absurd h2 (by omega)
  | succ n ih =>
    intro t x P S H locs ls h1 h2 hI hl
    obtain ⟨hx, hb, hml, hown, hts, hX, hbl, hK, hR1, hR2, hR3, hR4⟩ := id C0
    obtain ⟨hI1, hI2, hP, hD, hS⟩ := id hI
    have hbA : ¬ (fun q : Nat => s.heap.size ≤ q) b := Nat.not_le.mpr hbl
    have hexit : ∀ ls : Array Slot, W p l e room_1 s m #[Value.ref b] below meth c H locs (100 + 5 * t) (20000 + 136 * t) (lw_Z below #[Value.ref b] s) (F0 m 712 ls []) := by
      intro ls
      refine lv_iconst (v := 1) hx hb dL_law_712 (by decide) ?_
      refine va_forget (fun q h => hS.2.2 q h) ?_
      refine W.widen (k := 600000) (n := 7302250) (by omega) (by omega) ?_
      exact lw_ret hx hb hr hlocks dL_law_713
    refine lv_iload_n hx hb dL_law_18 rfl (lv_at hl 3 rfl) ?_
    refine lv_aload_n hx hb dL_law_19 rfl (lv_at hl 0 rfl) ?_
    refine va_slen hx hb hX hbl hbA hS dL_law_20 ?_
    refine tp_i (y := nI L) rfl ?_
    refine lv_iconst (v := nI 4) hx hb dL_law_21 (by decide) ?_
    by_cases h4 : 4 ≤ L
    · refine n_isub hx hb h4 dL_law_22 ?_
      refine bn_gt (tgt := 712) hx hb (by omega) (by omega) dL_law_23 (by decide) (fun _ => hexit ls) (fun h5 => ?_)
      have hn : LN p l e room_1 s m below meth c b (lw_Z below #[Value.ref b] s) g ma q1 (4 * t) (100 + 5 * t) (20000 + 136 * t) := by
        intro x P S H locs ls hI hl
        refine lv_iinc (v := nI (4 * t + 4)) (lv' := [(3, .int (nI (4 * t + 4))), (0, .ref b), (1, .ref q1), (2, .ref (ma 0))]) hx hb dL_law_706 hl (k := 3) rfl (by rw [show Int32.ofInt 4 = nI 4 by decide, nI_add]) (by decide) rfl (fun ls hl => ?_)
        refine lv_goto (tgt := 18) hx hb dL_law_709 (by decide) ?_
        refine W.widen (k := 100 + 5 * (t + 1)) (n := 20000 + 136 * (t + 1)) (by omega) (by omega) ?_
        exact ih (t + 1) x P S H locs ls (by omega) (by omega) hI (by rw [show 4 * (t + 1) = 4 * t + 4 by omega]; exact lv_sub hl [1, 2, 3, 0] rfl)
      refine lv_aload_n hx hb dL_law_26 rfl (lv_at hl 0 rfl) ?_
      refine lv_iload_n hx hb dL_law_27 rfl (lv_at hl 3 rfl) ?_
      refine n_sld (k := 4 * t) hx hb hX hbl hbA hS (by omega) (by omega) dL_law_28 ?_
      refine lv_bipush (v := nI 31) hx hb dL_law_29 (by decide) ?_
      refine lv_iand hx hb dL_law_31 ?_
      obtain ⟨k, hk, ek⟩ := and31 (xs (4 * t))
      refine tp_i ek ?_
      rcases (show k = 0 ∨ k = 1 ∨ k = 2 ∨ k = 3 ∨ k = 4 ∨ k = 5 ∨ k = 6 ∨ k = 7 ∨ k = 8 ∨ k = 9 ∨ k = 10 ∨ k = 11 ∨ k = 12 ∨ k = 13 ∨ k = 14 ∨ k = 15 ∨ k = 16 ∨ 17 ≤ k by omega) with ek2 | ek2 | ek2 | ek2 | ek2 | ek2 | ek2 | ek2 | ek2 | ek2 | ek2 | ek2 | ek2 | ek2 | ek2 | ek2 | ek2 | hk2
      · subst ek2
        refine lv_tableIn (tgt := 116) (off := 84) hx hb dL_law_32 (by decide +kernel) (by decide +kernel) (by decide +kernel) (by decide) ?_
        exact lw_c0 C0 (by omega) hL (by omega) (by omega) hI hl hn
      · subst ek2
        refine lv_tableIn (tgt := 149) (off := 117) hx hb dL_law_32 (by decide +kernel) (by decide +kernel) (by decide +kernel) (by decide) ?_
        exact lw_c1 C0 (by omega) hL (by omega) (by omega) hI hl hn
      · subst ek2
        refine lv_tableIn (tgt := 192) (off := 160) hx hb dL_law_32 (by decide +kernel) (by decide +kernel) (by decide +kernel) (by decide) ?_
        exact lw_c2 C0 (by omega) hL (by omega) (by omega) hI hl hn
      · subst ek2
        refine lv_tableIn (tgt := 235) (off := 203) hx hb dL_law_32 (by decide +kernel) (by decide +kernel) (by decide +kernel) (by decide) ?_
        exact lw_c3 C0 (by omega) hL (by omega) (by omega) hI hl hn
      · subst ek2
        refine lv_tableIn (tgt := 268) (off := 236) hx hb dL_law_32 (by decide +kernel) (by decide +kernel) (by decide +kernel) (by decide) ?_
        exact lw_c4 C0 (by omega) hL (by omega) (by omega) hI hl hn
      · subst ek2
        refine lv_tableIn (tgt := 317) (off := 285) hx hb dL_law_32 (by decide +kernel) (by decide +kernel) (by decide +kernel) (by decide) ?_
        exact lw_c5 C0 (by omega) hL (by omega) (by omega) hI hl hn
      · subst ek2
        refine lv_tableIn (tgt := 350) (off := 318) hx hb dL_law_32 (by decide +kernel) (by decide +kernel) (by decide +kernel) (by decide) ?_
        exact lw_c6 C0 (by omega) hL (by omega) (by omega) hI hl hn
      · subst ek2
        refine lv_tableIn (tgt := 383) (off := 351) hx hb dL_law_32 (by decide +kernel) (by decide +kernel) (by decide +kernel) (by decide) ?_
        exact lw_c7 C0 (by omega) hL (by omega) (by omega) hI hl hn
      · subst ek2
        refine lv_tableIn (tgt := 406) (off := 374) hx hb dL_law_32 (by decide +kernel) (by decide +kernel) (by decide +kernel) (by decide) ?_
        exact lw_c8 C0 (by omega) hL (by omega) (by omega) hI hl hn
      · subst ek2
        refine lv_tableIn (tgt := 440) (off := 408) hx hb dL_law_32 (by decide +kernel) (by decide +kernel) (by decide +kernel) (by decide) ?_
        exact lw_c9 C0 (by omega) hL (by omega) (by omega) hI hl hn
      · subst ek2
        refine lv_tableIn (tgt := 473) (off := 441) hx hb dL_law_32 (by decide +kernel) (by decide +kernel) (by decide +kernel) (by decide) ?_
        exact lw_c10 C0 (by omega) hL (by omega) (by omega) hI hl hn
      · subst ek2
        refine lv_tableIn (tgt := 496) (off := 464) hx hb dL_law_32 (by decide +kernel) (by decide +kernel) (by decide +kernel) (by decide) ?_
        exact lw_c11 C0 (by omega) hL (by omega) (by omega) hI hl hn
      · subst ek2
        refine lv_tableIn (tgt := 529) (off := 497) hx hb dL_law_32 (by decide +kernel) (by decide +kernel) (by decide +kernel) (by decide) ?_
        exact lw_c12 C0 (by omega) hL (by omega) (by omega) hI hl hn
      · subst ek2
        refine lv_tableIn (tgt := 562) (off := 530) hx hb dL_law_32 (by decide +kernel) (by decide +kernel) (by decide +kernel) (by decide) ?_
        exact lw_c13 C0 (by omega) hL (by omega) (by omega) hI hl hn
      · subst ek2
        refine lv_tableIn (tgt := 595) (off := 563) hx hb dL_law_32 (by decide +kernel) (by decide +kernel) (by decide +kernel) (by decide) ?_
        exact lw_c14 C0 (by omega) hL (by omega) (by omega) hI hl hn
      · subst ek2
        refine lv_tableIn (tgt := 629) (off := 597) hx hb dL_law_32 (by decide +kernel) (by decide +kernel) (by decide +kernel) (by decide) ?_
        exact lw_c15 C0 (by omega) hL (by omega) (by omega) hI hl hn
      · subst ek2
        refine lv_tableIn (tgt := 672) (off := 640) hx hb dL_law_32 (by decide +kernel) (by decide +kernel) (by decide +kernel) (by decide) ?_
        exact lw_c16 C0 (by omega) hL (by omega) (by omega) hI hl hn
      · refine lv_tableOut (tgt := 706) hx hb dL_law_32 (Or.inr (by rw [nI_toInt (by omega)]; omega)) (by decide) ?_
        refine W.widen (k := 100 + 5 * t + 5) (n := 20000 + 136 * t + 136) (by omega) (by omega) ?_
        exact hn x P S H locs ls hI hl
    · refine lv_isub hx hb dL_law_22 ?_
      refine lv_icmp_gt (tgt := 712) hx hb dL_law_23 (by decide) (fun _ => hexit ls) (fun h5 => ?_)
      refine absurd ?_ h5
      have e0 : (nI L - nI 4).toInt < 0 := by
        rcases (show L = 0 ∨ L = 1 ∨ L = 2 ∨ L = 3 by omega) with z | z | z | z <;> subst z <;> decide
      have e1 : (nI (4 * t)).toInt = ((4 * t : Nat) : Int) := nI_toInt (by omega)
      show nI L - nI 4 < nI (4 * t)
      rw [Int32.lt_iff_toInt_lt]
      omega
