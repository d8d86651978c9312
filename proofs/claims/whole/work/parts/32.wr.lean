/-! what the reference's writing methods leave -/
theorem up_o {α : Type} {f : Nat → α} {k i : Nat} {v : α} (h : i ≠ k) : va_up f k v i = f i := by
  unfold va_up
  rw [if_neg h]
theorem Rel_Q {x : FT} {P : PT} (h : Rel x P) (a : Nat) : Rel (xsQ x a) (upQ P a) := ⟨h.1, h.2.1, h.2.2.1, h.2.2.2.1, rfl, h.2.2.2.2.2⟩
theorem Rel_EL {x : FT} {P : PT} (h : Rel x P) (a e : Nat) : Rel (xsL (xsE x a) e) (upL (upE P a) e) := ⟨h.1, h.2.1, h.2.2.1, h.2.2.2.1, h.2.2.2.2.1, rfl, rfl⟩
theorem Rel_H {x : FT} {P : PT} (h : Rel x P) (a : Nat) (on : Bool) : Rel (xsH x (va_up (xH x) a on)) (uaHo P (va_up (aHo P) a on)) := ⟨h.1, h.2.1, by show va_up (aHo P) a on = va_up (xH x) a on; rw [h.2.2.1], h.2.2.2⟩
theorem Rel_W {x : FT} {P : PT} (h : Rel x P) (a e : Nat) : Rel (xsW x (wtU a e (xW x) 8)) (upU (upO P a) e) := ⟨h.1, h.2.1, h.2.2.1, fun q hq => wtU_at hq, h.2.2.2.2⟩
/-- a further bin -/
def nwB (P : PT) (st rm : Nat) : PT := upB (uaRm (uaSt P (va_up (aSt P) (pB P) st)) (va_up (aRm P) (pB P) rm)) (pB P + 1)
theorem Rel_bin {x : FT} {P : PT} {u : Nat → Nat} {st rm : Nat} (hx : Xok x) (h : Rel x P) (h0 : Rel0 P) : Rel (xsB x (xB x ++ [newB u st rm])) (nwB P st rm) ∧ Rel0 (nwB P st rm) := by
  obtain ⟨h1, h2, h3, h4, h5⟩ := h
  refine ⟨⟨?_, fun k d hd => ?_, h3, h4, h5⟩, fun k hk => h0 k (by have hk : pB P + 1 ≤ k := hk; omega)⟩
  · show pB P + 1 = (xB x ++ [newB u st rm]).length
    rw [List.length_append, h1]
    rfl
  · have hd : (xB x ++ [newB u st rm])[k]? = some d := hd
    rcases Nat.lt_or_ge k (xB x).length with z | z
    · rw [List.getElem?_append_left z] at hd
      refine RelB_congr (hx.2.1 d (List.mem_of_getElem? hd)) (h2 k d hd) ⟨?_, ?_, rfl, rfl⟩ (fun _ _ => ⟨rfl, rfl⟩) (fun _ _ => ⟨rfl, rfl⟩)
      · show va_up (aSt P) (pB P) st k = _
        exact up_o (by omega)
      · show va_up (aRm P) (pB P) rm k = _
        exact up_o (by omega)
    · rw [List.getElem?_append_right z] at hd
      have hk0 : k - (xB x).length = 0 := by
        rcases Nat.eq_zero_or_pos (k - (xB x).length) with q | q
        · exact q
        · rw [List.getElem?_eq_none (by show 1 ≤ _; omega)] at hd
          cases hd
      rw [hk0] at hd
      cases hd
      have hk : k = pB P := by omega
      subst hk
      obtain ⟨z1, z2⟩ := h0 (pB P) (Nat.le_refl _)
      refine ⟨⟨?_, ?_, z1, z2⟩, fun r hr => absurd hr (Nat.not_lt_zero _), fun r hr => absurd hr (Nat.not_lt_zero _), fun r hr => absurd hr (Nat.not_lt_zero _), fun r q _ hr => absurd hr (Nat.not_lt_zero _), fun r q _ hr => absurd hr (Nat.not_lt_zero _), rfl⟩
      · show va_up (aSt P) (pB P) st (pB P) = _
        rw [va_up_self]
        rfl
      · show va_up (aRm P) (pB P) rm (pB P) = _
        rw [va_up_self]
        rfl
theorem ptR_not {b : BinT} {j h : Nat} {P : PT} (hR : RelB b j P) (hf : ∀ r, r < bR b → aRh P (24 * j + r) ≠ h) : ¬ (ixB b (plQ true h) < bN b ∧ bPl b (ixB b (plQ true h)) = plQ true h) := by
  rintro ⟨h1, h2⟩
  have e0 : plQ true h = 2 * h := rfl
  rw [e0] at h1 h2
  rcases hR.2.2.2.1 _ h1 with ⟨r, hr, e⟩ | ⟨r, hr, e⟩
  · exact hf r hr (by omega)
  · omega
theorem ptR_t {x : FT} {P : PT} {j h v r0 : Nat} {b : BinT} (hx : Xok x) (hRl : Rel x P) (h0 : Rel0 P) (hbj : (xB x)[j]? = some b) (hr : r0 < bR b) (he : aRh P (24 * j + r0) = h) : (putB true b (plQ true h) v).1 = nI (bR b) ∧ Rel (xsB x ((xB x).set j (putB true b (plQ true h) v).2)) (uaRs P (va_up (aRs P) (24 * j + r0) v)) ∧ Rel0 (uaRs P (va_up (aRs P) (24 * j + r0) v)) := by
  have hb := hx.2.1 b (List.mem_of_getElem? hbj)
  have hR := hRl.2.1 j b hbj
  have hc2 := hb.2.2.2.2.2.2.1
  have hc3 := hb.2.2.2.2.2.2.2.1
  obtain ⟨k, hk, e1, -⟩ := hR.2.1 r0 hr
  have ht := ixB_tk (q := plQ true h) hb.1.2.2.1 hk (by rw [e1, he]; rfl)
  rw [putB_t ht]
  refine ⟨rfl, Rel_set hx hRl hbj (RelB_j (RelB_amR hb hR ht.1 hr (by rw [ht.2, he]; rfl))) ⟨rfl, rfl, rfl, rfl, rfl, rfl, rfl⟩ (fun k9 hk9 => ⟨⟨rfl, rfl, rfl, rfl⟩, ?_, ?_⟩), h0⟩
  · exact fun r hr9 => ⟨rfl, up_o (by omega)⟩
  · exact fun r hr9 => ⟨rfl, rfl⟩
theorem ptR_f {x : FT} {P : PT} {j h v : Nat} {b : BinT} (hRl : Rel x P) (hbj : (xB x)[j]? = some b) (hf : ∀ r, r < bR b → aRh P (24 * j + r) ≠ h) (hn : bR b = 24) : (putB true b (plQ true h) v).1 = -1 ∧ Rel (xsB x ((xB x).set j (putB true b (plQ true h) v).2)) P := by
  rw [putB_f (row := true) (ptR_not (hRl.2.1 j b hbj) hf) (by show decide _ = true; rw [decide_eq_true_iff]; omega)]
  exact ⟨rfl, by rw [set_same hbj]; exact hRl⟩
theorem ptR_n {x : FT} {P : PT} {j h v : Nat} {b : BinT} (hx : Xok x) (hRl : Rel x P) (h0 : Rel0 P) (hbj : (xB x)[j]? = some b) (hf : ∀ r, r < bR b → aRh P (24 * j + r) ≠ h) (hn : bR b ≠ 24) : (putB true b (plQ true h) v).1 = nI (bR b + 1) ∧ Rel (xsB x ((xB x).set j (putB true b (plQ true h) v).2)) (nwR P j (bR b) h v) ∧ Rel0 (nwR P j (bR b) h v) := by
  have hb := hx.2.1 b (List.mem_of_getElem? hbj)
  have hR := hRl.2.1 j b hbj
  have hc2 := hb.2.2.2.2.2.2.1
  have hc3 := hb.2.2.2.2.2.2.2.1
  have hjl : j < pB P := by rw [hRl.1]; exact (List.getElem?_eq_some_iff.mp hbj).1
  have hi := (ixB_ok (b := b) (q := plQ true h) hb.1.2.2.1).1
  rw [putB_n (ptR_not hR hf) (by show ¬ decide _ = true; rw [decide_eq_true_iff]; omega)]
  refine ⟨rfl, Rel_set hx hRl hbj (RelB_j (RelB_opR hb hR hi hf)) ⟨rfl, rfl, rfl, rfl, rfl, rfl, rfl⟩ (fun k9 hk9 => ⟨⟨rfl, rfl, ?_, ?_⟩, ?_, ?_⟩), Rel0_of h0 rfl (fun k9 hk9 => ⟨?_, ?_⟩)⟩
  · exact up_o hk9
  · rfl
  · exact fun r hr9 => ⟨up_o (by omega), up_o (by omega)⟩
  · exact fun r hr9 => ⟨rfl, rfl⟩
  · exact up_o (by omega)
  · rfl
theorem ptE_not {b : BinT} {j h : Nat} {P : PT} (hR : RelB b j P) (hf : ∀ r, r < bN b - bR b → aEh P (8 * j + r) ≠ h) : ¬ (ixB b (plQ false h) < bN b ∧ bPl b (ixB b (plQ false h)) = plQ false h) := by
  rintro ⟨h1, h2⟩
  have e0 : plQ false h = 2 * h + 1 := rfl
  rw [e0] at h1 h2
  rcases hR.2.2.2.1 _ h1 with ⟨r, hr, e⟩ | ⟨r, hr, e⟩
  · omega
  · exact hf r hr (by omega)
theorem ptE_t {x : FT} {P : PT} {j h v r0 : Nat} {b : BinT} (hx : Xok x) (hRl : Rel x P) (h0 : Rel0 P) (hbj : (xB x)[j]? = some b) (hr : r0 < bN b - bR b) (he : aEh P (8 * j + r0) = h) : (putB false b (plQ false h) v).1 = nI (bN b - bR b) ∧ Rel (xsB x ((xB x).set j (putB false b (plQ false h) v).2)) (uaKg P (va_up (aKg P) (8 * j + r0) v)) ∧ Rel0 (uaKg P (va_up (aKg P) (8 * j + r0) v)) := by
  have hb := hx.2.1 b (List.mem_of_getElem? hbj)
  have hR := hRl.2.1 j b hbj
  have hc2 := hb.2.2.2.2.2.2.1
  have hc3 := hb.2.2.2.2.2.2.2.1
  obtain ⟨k, hk, e1, -⟩ := hR.2.2.1 r0 hr
  have ht := ixB_tk (q := plQ false h) hb.1.2.2.1 hk (by rw [e1, he]; rfl)
  rw [putB_t ht]
  refine ⟨rfl, Rel_set hx hRl hbj (RelB_j (RelB_amE hb hR ht.1 hr (by rw [ht.2, he]; rfl))) ⟨rfl, rfl, rfl, rfl, rfl, rfl, rfl⟩ (fun k9 hk9 => ⟨⟨rfl, rfl, rfl, rfl⟩, ?_, ?_⟩), h0⟩
  · exact fun r hr9 => ⟨rfl, rfl⟩
  · exact fun r hr9 => ⟨rfl, up_o (by omega)⟩
theorem ptE_f {x : FT} {P : PT} {j h v : Nat} {b : BinT} (hRl : Rel x P) (hbj : (xB x)[j]? = some b) (hf : ∀ r, r < bN b - bR b → aEh P (8 * j + r) ≠ h) (hn : bN b - bR b = 8) : (putB false b (plQ false h) v).1 = -1 ∧ Rel (xsB x ((xB x).set j (putB false b (plQ false h) v).2)) P := by
  rw [putB_f (row := false) (ptE_not (hRl.2.1 j b hbj) hf) (by show decide _ = true; rw [decide_eq_true_iff]; omega)]
  exact ⟨rfl, by rw [set_same hbj]; exact hRl⟩
theorem ptE_n {x : FT} {P : PT} {j h v : Nat} {b : BinT} (hx : Xok x) (hRl : Rel x P) (h0 : Rel0 P) (hbj : (xB x)[j]? = some b) (hf : ∀ r, r < bN b - bR b → aEh P (8 * j + r) ≠ h) (hn : bN b - bR b ≠ 8) : (putB false b (plQ false h) v).1 = nI (bN b - bR b + 1) ∧ Rel (xsB x ((xB x).set j (putB false b (plQ false h) v).2)) (nwE P j (bN b - bR b) h v) ∧ Rel0 (nwE P j (bN b - bR b) h v) := by
  have hb := hx.2.1 b (List.mem_of_getElem? hbj)
  have hR := hRl.2.1 j b hbj
  have hc2 := hb.2.2.2.2.2.2.1
  have hc3 := hb.2.2.2.2.2.2.2.1
  have hjl : j < pB P := by rw [hRl.1]; exact (List.getElem?_eq_some_iff.mp hbj).1
  have hi := (ixB_ok (b := b) (q := plQ false h) hb.1.2.2.1).1
  rw [putB_n (ptE_not hR hf) (by show ¬ decide _ = true; rw [decide_eq_true_iff]; omega)]
  refine ⟨rfl, Rel_set hx hRl hbj (RelB_j (RelB_opE hb hR hi hf)) ⟨rfl, rfl, rfl, rfl, rfl, rfl, rfl⟩ (fun k9 hk9 => ⟨⟨rfl, rfl, ?_, ?_⟩, ?_, ?_⟩), Rel0_of h0 rfl (fun k9 hk9 => ⟨?_, ?_⟩)⟩
  · rfl
  · exact up_o hk9
  · exact fun r hr9 => ⟨rfl, rfl⟩
  · exact fun r hr9 => ⟨up_o (by omega), up_o (by omega)⟩
  · rfl
  · exact up_o (by omega)
theorem nwR_eq {P P1 P2 : PT} {i j n h v : Nat} (h1 : P1 = uaRh P (va_up (aRh P) i h)) (h2 : P2 = uaRs P1 (va_up (aRs P1) i v)) : uaRc P2 (va_up (aRc P2) j n) = uaRc (uaRs (uaRh P (va_up (aRh P) i h)) (va_up (aRs P) i v)) (va_up (aRc P) j n) := by
  have e1 : aRs P1 = aRs P := by rw [h1]; rfl
  have e0 : aRc P1 = aRc P := by rw [h1]; rfl
  have e2 : aRc P2 = aRc P1 := by rw [h2]; rfl
  rw [e2, e0, h2, e1, h1]
theorem nwE_eq {P P1 P2 : PT} {i j n h v : Nat} (h1 : P1 = uaEh P (va_up (aEh P) i h)) (h2 : P2 = uaKg P1 (va_up (aKg P1) i v)) : uaEc P2 (va_up (aEc P2) j n) = uaEc (uaKg (uaEh P (va_up (aEh P) i h)) (va_up (aKg P) i v)) (va_up (aEc P) j n) := by
  have e1 : aKg P1 = aKg P := by rw [h1]; rfl
  have e0 : aEc P1 = aEc P := by rw [h1]; rfl
  have e2 : aEc P2 = aEc P1 := by rw [h2]; rfl
  rw [e2, e0, h2, e1, h1]
