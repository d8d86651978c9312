/-! what holds between calls -/
def PT0 : PT := (0, 1, 2, 72, 1, 1, fun _ => 0, fun _ => 0, fun _ => 0, fun _ => 0, fun _ => 0, fun _ => 0, fun _ => 0, fun _ => 0, fun _ => false)
def ST0 : ST := (0, fun _ => 0, fun _ => 0, fun _ => false, fun _ => false, fun _ => some 0, fun _ => 0, fun _ => 0)
def Sok (x : FT) : Prop := Xok x ∧ xS x 0 = 0
theorem Rel_new {u ca fa oa : Nat → Nat} : Rel (newX u ca fa oa) PT0 := by
  refine ⟨rfl, fun j b h => ?_, rfl, fun a ha => wtU_at ha, rfl, rfl, rfl⟩
  have h : ([] : List BinT)[j]? = some b := h
  rw [List.getElem?_nil] at h
  cases h
theorem Rel0_new : Rel0 PT0 := fun _ _ => ⟨rfl, rfl⟩
theorem wtU_ok {x y : Nat} {wt : Nat → Nat} (hx : 1 ≤ x ∧ x ≤ 9) (hy : 1 ≤ y ∧ y ≤ 9) : ∀ a, a < 8 → 1 ≤ wtU x y wt 8 a ∧ wtU x y wt 8 a ≤ 4782969 := fun a ha => by
  rw [wtU_at ha]
  exact wtP_le hx hy 7
theorem Sok_new {u ca fa oa : Nat → Nat} : Sok (newX u ca fa oa) := ⟨⟨Nat.zero_le _, fun b hb => (by cases (show b ∈ ([] : List BinT) from hb)), wtU_ok (by decide) (by decide), show 72 ≤ 1000 by decide, show 1 ≤ 1000 by decide, show 1 ≤ 1000 by decide⟩, rfl⟩
theorem Sok_al {u x : FT} (h : Sok x) (ha : alX u x) : Sok u := by
  obtain ⟨r, v, rfl, h0⟩ := ha
  exact ⟨h.1, h0⟩
theorem Rel_al {u x : FT} {P : PT} (h : Rel x P) (ha : alX u x) : Rel u P := by
  obtain ⟨r, v, rfl, h0⟩ := ha
  exact h
theorem Sok_quiet {x : FT} {k : Int32} (h : Sok x) : Sok (quietS x k).2 := by
  obtain ⟨⟨h1, h2, h3, h4, h5, h6⟩, h0⟩ := id h
  unfold quietS
  cases hh : inL 0 1000 k with
  | none => exact h
  | some a => exact ⟨⟨h1, h2, h3, (inL_s (by decide) (by decide) hh).2.1, h5, h6⟩, h0⟩
theorem Sok_cost {x : FT} {k d : Int32} (h : Sok x) : Sok (costS x k d).2 := by
  obtain ⟨⟨h1, h2, h3, h4, h5, h6⟩, h0⟩ := id h
  unfold costS
  cases hh : inL 0 1000 k with
  | none => exact h
  | some a =>
    cases hi : inL 0 1000 d with
    | none => exact h
    | some c => exact ⟨⟨h1, h2, h3, h4, (inL_s (by decide) (by decide) hh).2.1, (inL_s (by decide) (by decide) hi).2.1⟩, h0⟩
theorem Sok_hol {x : FT} {k : Int32} {on : Bool} (h : Sok x) : Sok (holS x k on).2 := by
  unfold holS
  cases hh : inL 0 416 k with
  | none => exact h
  | some a => exact h
theorem Sok_fade {x : FT} {k d : Int32} (h : Sok x) : Sok (fadeS x k d).2 := by
  obtain ⟨⟨h1, h2, h3, h4, h5, h6⟩, h0⟩ := id h
  unfold fadeS
  cases hh : inL 1 9 k with
  | none => exact h
  | some a =>
    cases hi : inL 1 9 d with
    | none => exact h
    | some c =>
      have q1 := inL_s (by decide) (by decide) hh
      have q2 := inL_s (by decide) (by decide) hi
      dsimp only
      split
      · exact ⟨⟨h1, h2, wtU_ok ⟨q1.1, q1.2.1⟩ ⟨q2.1, q2.2.1⟩, h4, h5, h6⟩, h0⟩
      · exact h
theorem Sok_row {row : Bool} {x : FT} {k t d : Int32} (h : Sok x) : Sok (rowS row x k t d).2 := by
  obtain ⟨⟨h1, h2, h3, h4, h5, h6⟩, h0⟩ := id h
  cases hb : binAt (xB x) k with
  | none => rw [rowS_0 hb]; exact h
  | some b =>
    cases hh : inL 0 9999 t with
    | none => rw [rowS_1 hh]; exact h
    | some q =>
      cases hi : inL 0 (mxV row) d with
      | none => rw [rowS_2 hi]; exact h
      | some v =>
        obtain ⟨j, hj, ek, hbj, -⟩ := binAt_s h1 hb
        subst ek
        rw [rowS_3 (by omega) hb hh hi]
        have q1 := inL_s (by decide) (by decide) hh
        have q2 := (inL_s (N := mxV row) (by unfold mxV; split <;> decide) (Nat.zero_le _) hi).2.1
        refine ⟨⟨?_, fun c hc => ?_, h3, h4, h5, h6⟩, h0⟩
        · show ((xB x).set j _).length ≤ 8
          rw [List.length_set]
          exact h1
        · have hc : c ∈ (xB x).set j _ := hc
          rcases List.mem_or_eq_of_mem_set hc with z | z
          · exact h2 c z
          · rw [z]
            exact (putB_ok (h2 b (List.mem_of_getElem? hbj)) (by omega) q2).1
theorem newB_ok {u : Nat → Nat} {st rm : Nat} (hs : st < 4) (hr : 1 ≤ rm ∧ rm ≤ 10000) : Bok (newB u st rm) := by
  have n0 : ∀ {i : Nat}, ¬ i < bN (newB u st rm) := fun {i} h => absurd h (Nat.not_lt_zero i)
  exact ⟨⟨Nat.zero_le _, fun i h => absurd h n0, fun i j _ h => absurd h n0, fun i h => absurd h n0⟩, fun i h => absurd h n0, fun i h => absurd h n0, hs, hr, Nat.le_refl _, Nat.zero_le _, Nat.zero_le _, fun i h => absurd h n0⟩
theorem Sok_bin {x : FT} {k d : Int32} {u : Nat → Nat} (h : Sok x) : Sok (binS x k d u).2 := by
  obtain ⟨⟨h1, h2, h3, h4, h5, h6⟩, h0⟩ := id h
  unfold binS
  split
  · exact h
  · rename_i hl
    cases hh : inL 0 3 k with
    | none => exact h
    | some a =>
      cases hi : inL 1 10000 d with
      | none => exact h
      | some c =>
        have q1 := inL_s (by decide) (by decide) hh
        have q2 := inL_s (by decide) (by decide) hi
        refine ⟨⟨?_, fun b hb => ?_, h3, h4, h5, h6⟩, h0⟩
        · show (xB x ++ [newB u a c]).length ≤ 8
          rw [List.length_append]
          show (xB x).length + 1 ≤ 8
          omega
        · have hb : b ∈ xB x ++ [newB u a c] := hb
          rcases List.mem_append.mp hb with z | z
          · exact h2 b z
          · rw [List.mem_singleton.mp z]
            exact newB_ok (by omega) ⟨q2.1, q2.2.1⟩
