/-! where a place stands among a bin's points; a point put: numbers alone -/
theorem lst_none {P : Nat → Bool} : ∀ {n : Nat}, lst P n = none → ∀ i, i < n → P i = false
  | 0, _, i, h => by omega
  | n + 1, h, i, hi => by
    rw [lst] at h
    split at h
    · cases h
    · rename_i hp
      rcases Nat.lt_or_ge i n with z | z
      · exact lst_none h i z
      · rw [show i = n by omega]
        cases hq : P n with
        | false => rfl
        | true => exact absurd hq hp
theorem lst_last {P : Nat → Bool} : ∀ {n i : Nat}, lst P n = some i → ∀ j, i < j → j < n → P j = false
  | 0, i, h, _, _, _ => by cases h
  | n + 1, i, h, j, h1, h2 => by
    rw [lst] at h
    split at h
    · cases h
      omega
    · rename_i hp
      rcases Nat.lt_or_ge j n with z | z
      · exact lst_last h j h1 z
      · rw [show j = n by omega]
        cases hq : P n with
        | false => rfl
        | true => exact absurd hq hp
def ixB (b : BinT) (q : Nat) : Nat := match lst (fun i => decide (bPl b i < q)) (bN b) with
  | none => 0
  | some i => i + 1
theorem ixB_ok {b : BinT} {q : Nat} (hso : ∀ i j, i < j → j < bN b → bPl b i < bPl b j) : ixB b q ≤ bN b ∧ (∀ j, j < ixB b q → bPl b j < q) ∧ (ixB b q < bN b → q ≤ bPl b (ixB b q)) := by
  unfold ixB
  cases h : lst (fun i => decide (bPl b i < q)) (bN b) with
  | none =>
    refine ⟨Nat.zero_le _, fun j hj => absurd hj (Nat.not_lt_zero _), fun h0 => ?_⟩
    have := lst_none h 0 h0
    have := of_decide_eq_false this
    show q ≤ bPl b 0
    omega
  | some i =>
    obtain ⟨h1, h2⟩ := lst_some h
    have h2 := of_decide_eq_true h2
    refine ⟨h1, fun j hj => ?_, fun h0 => ?_⟩
    · rcases Nat.lt_or_ge j i with z | z
      · exact Nat.lt_trans (hso j i z h1) h2
      · have hj : j < i + 1 := hj
        rw [show j = i by omega]
        exact h2
    · have := lst_last h (i + 1) (by omega) h0
      have := of_decide_eq_false this
      show q ≤ bPl b (i + 1)
      omega
/-- how many of a kind; full of them; a place opened for one -/
def cntB (row : Bool) (b : BinT) : Nat := if row = true then bR b else bN b - bR b
def fullB (row : Bool) (b : BinT) : Bool := if row = true then decide (24 ≤ bR b) else decide (8 ≤ bN b - bR b)
def opR (row : Bool) (b : BinT) (i q : Nat) : BinT := if row = true then bsR (opB b i q) (bR b + 1) else opB b i q
def plQ (row : Bool) (h : Nat) : Nat := if row = true then 2 * h else 2 * h + 1
def putB (row : Bool) (b : BinT) (q v : Nat) : Int32 × BinT :=
  if ixB b q < bN b ∧ bPl b (ixB b q) = q then (nI (cntB row b), jB (amB b (ixB b q) v) (bN b))
  else if fullB row b = true then (-1, b)
  else (nI (cntB row b + 1), jB (amB (opR row b (ixB b q) q) (ixB b q) v) (bN b + 1))
theorem bef_congr {b c : BinT} (hp : bPl b = bPl c) (ha : bAm b = bAm c) : ∀ i, bef b i = bef c i
  | 0 => rfl
  | i + 1 => by
    rw [bef, bef, bef_congr hp ha i]
    have : wrgF b = wrgF c := by
      funext o j
      unfold wrgF rowB shB
      rw [hp, ha]
    rw [this]
/-- judging gives what a bin keeps -/
theorem jB_ok {b : BinT} : (∀ i, i < bN b → bWr (jB b (bN b)) i = wrgF (jB b (bN b)) (bef (jB b (bN b)) i) i) ∧ ∀ i, i < bN b → bGn (jB b (bN b)) i = gnF (jB b (bN b)) (bef (jB b (bN b)) i) i := by
  constructor
  · intro i hi
    rw [bef_congr (b := jB b (bN b)) (c := b) rfl rfl]
    show jW b (bN b) i = _
    unfold jW
    rw [if_pos hi]
    rfl
  · intro i hi
    rw [bef_congr (b := jB b (bN b)) (c := b) rfl rfl]
    show jG b (bN b) i = _
    unfold jG
    rw [if_pos hi]
    rfl
theorem Jok_am {b : BinT} {i v : Nat} (h : Jok b) (hv : bPl b i % 2 = 0 → v ≤ 1500) : Jok (amB b i v) := by
  obtain ⟨h1, h2, h3, h4⟩ := h
  refine ⟨h1, h2, h3, fun j hj => ?_⟩
  have h5 := h4 j hj
  show (if bPl b j % 2 = 0 then va_up (bAm b) i v j else 0) ≤ 1500
  unfold shB at h5
  unfold va_up
  split
  · rename_i he
    rw [if_pos he] at h5
    split
    · rename_i e
      subst e
      exact hv he
    · exact h5
  · omega
theorem Jok_op {b : BinT} {i q v : Nat} (h : Jok b) (hn : bN b < 32) (hq : q < 20000) (hi : i ≤ bN b) (h1 : ∀ j, j < i → bPl b j < q) (h2 : i < bN b → q < bPl b i) (hv : q % 2 = 0 → v ≤ 1500) : Jok (amB (opB b i q) i v) := by
  obtain ⟨k1, k2, k3, k4⟩ := h
  have epl : ∀ j, bPl (amB (opB b i q) i v) j = if j = i then q else if i < j ∧ j ≤ bN b then bPl b (j - 1) else bPl b j := fun j => rfl
  have eam : ∀ j, bAm (amB (opB b i q) i v) j = if j = i then v else if i < j ∧ j ≤ bN b then bAm b (j - 1) else bAm b j := fun j => rfl
  refine ⟨show bN b + 1 ≤ 32 by omega, fun j hj => ?_, fun j k hjk hk => ?_, fun j hj => ?_⟩
  · have hj : j < bN b + 1 := hj
    rw [epl]
    split
    · exact hq
    · split
      · exact k2 _ (by omega)
      · exact k2 _ (by omega)
  · have hk : k < bN b + 1 := hk
    rw [epl, epl]
    by_cases a1 : j = i
    · rw [if_pos a1, if_neg (by omega), if_pos (by omega)]
      rcases Nat.lt_or_ge i (k - 1) with z | z
      · exact Nat.lt_trans (h2 (by omega)) (k3 i (k - 1) z (by omega))
      · rw [show k - 1 = i by omega]
        exact h2 (by omega)
    · rw [if_neg a1]
      by_cases a2 : k = i
      · rw [if_pos a2, if_neg (by omega)]
        exact h1 j (by omega)
      · rw [if_neg a2]
        by_cases a3 : i < j
        · rw [if_pos (by omega), if_pos (by omega)]
          exact k3 _ _ (by omega) (by omega)
        · rw [if_neg (by omega)]
          by_cases a4 : i < k
          · rw [if_pos (by omega)]
            rcases Nat.lt_or_ge j (k - 1) with z | z
            · exact k3 _ _ z (by omega)
            · omega
          · rw [if_neg (by omega)]
            exact k3 _ _ hjk (by omega)
  · have hj : j < bN b + 1 := hj
    unfold shB
    rw [epl, eam]
    by_cases a1 : j = i
    · rw [if_pos a1, if_pos a1]
      split
      · rename_i e
        exact hv e
      · omega
    · rw [if_neg a1, if_neg a1]
      by_cases a2 : i < j ∧ j ≤ bN b
      · rw [if_pos a2, if_pos a2]
        exact k4 (j - 1) (by omega)
      · rw [if_neg a2, if_neg a2]
        exact k4 j (by omega)
