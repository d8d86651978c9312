theorem gI_neg {o : Option Nat} (h : ∀ v, o = some v → v < 2 ^ 31) : gI o < 0 ↔ o = none := by
  cases o with
  | none => exact ⟨fun _ => rfl, fun _ => by decide⟩
  | some v => exact ⟨fun e => absurd e (nI_pos (h v rfl)), fun e => by cases e⟩
theorem gI_nneg {o : Option Nat} (h : ∀ v, o = some v → v < 2 ^ 31) : 0 ≤ gI o ↔ ∃ v, o = some v := by
  cases o with
  | none => exact ⟨fun e => absurd e (by decide), fun ⟨v, e⟩ => by cases e⟩
  | some v => exact ⟨fun _ => ⟨v, rfl⟩, fun _ => nI_pos' (h v rfl)⟩
/-- in 24ths: the rates of all hours before an hour -/
def hsum (x : FT) (b : BinT) : Nat → Nat := dsum (fun i => rateV x b (wdy (xH x) (i / 24)))
theorem rsum_mono {x : FT} {b : BinT} (d : Nat) : rsum x b d ≤ rsum x b (d + 1) := by
  unfold rsum
  rw [dsum]
  omega
theorem gup_hsum {x : FT} {b : BinT} : ∀ {h : Nat}, h < 10000 → gup (rsum x b) h = hsum x b h
  | 0, _ => by
    unfold gup hsum rsum
    simp [dsum]
  | h + 1, hh => by
    rw [gup_step (fun d _ => rsum_mono d) hh, gup_hsum (by omega)]
    unfold hsum
    rw [dsum]
    unfold rsum
    rw [dsum]
    omega
def exY (b : BinT) (hs : Nat → Nat) (o : Option Nat) (h : Nat) : Nat := match o with
  | none => (24 * 0 + hs h - 0) / 24
  | some i => (24 * shB b i + hs h - hs (hrB b i)) / 24
def exP (b : BinT) (h : Nat) : Nat → Bool := fun k => !bWr b k && decide (hrB b k ≤ h)
theorem lst_congr {P Q : Nat → Bool} : ∀ {n : Nat}, (∀ i, i < n → P i = Q i) → lst P n = lst Q n
  | 0, _ => rfl
  | n + 1, h => by rw [lst, lst, h n (by omega), lst_congr (fun i hi => h i (by omega))]
theorem lst_cut {P : Nat → Bool} {m : Nat} : ∀ {n : Nat}, m ≤ n → (∀ i, m ≤ i → i < n → P i = false) → lst P n = lst P m
  | 0, h, _ => by rw [show m = 0 by omega]
  | n + 1, h, hf => by
    rcases Nat.lt_or_ge m (n + 1) with z | z
    · rw [lst, hf n (by omega) (by omega), if_neg (by decide)]
      exact lst_cut (by omega) (fun i h1 h2 => hf i h1 (by omega))
    · rw [show m = n + 1 by omega]
theorem ltB_ex {b : BinT} {h : Nat} : ltB b (2 * h + 1) = lst (exP b h) (bN b) := by
  unfold ltB
  apply lst_congr
  intro i hi
  unfold exP hrB
  rw [Bool.and_comm, show decide (bPl b i ≤ 2 * h + 1) = decide (bPl b i / 2 ≤ h) from decide_eq_decide.mpr (by omega)]
theorem ltB_ex2 {b : BinT} {i : Nat} (hso : ∀ i j, i < j → j < bN b → bPl b i < bPl b j) (hi : i < bN b) (h1 : 1 ≤ bPl b i) : ltB b (bPl b i - 1) = lst (exP b (hrB b i)) i := by
  unfold ltB
  rw [lst_cut (m := i) (by omega) (fun k h2 h3 => by
    have : bPl b i ≤ bPl b k := by
      rcases Nat.lt_or_ge i k with z | z
      · exact Nat.le_of_lt (hso i k z h3)
      · rw [show k = i by omega]; exact Nat.le_refl _
    rw [decide_eq_false (by omega), Bool.false_and])]
  apply lst_congr
  intro k hk
  have := hso k i hk hi
  unfold exP hrB
  rw [Bool.and_comm, decide_eq_true (by omega), decide_eq_true (by omega)]
theorem exY_sh {x : FT} {b : BinT} {o : Option Nat} {h : Nat} (hh : h < 10000) (ho : ∀ i, o = some i → i < bN b ∧ hrB b i ≤ h) : exY b (hsum x b) o h = shY b (rsum x b) o h := by
  unfold exY shY
  cases o with
  | none =>
    show (24 * 0 + hsum x b h - 0) / 24 = (24 * 0 + gup (rsum x b) h - gup (rsum x b) 0) / 24
    rw [gup_hsum hh, gup_hsum (by omega)]
    rfl
  | some i =>
    have := (ho i rfl).2
    show (24 * shB b i + hsum x b h - hsum x b (hrB b i)) / 24 = (24 * shB b i + gup (rsum x b) h - gup (rsum x b) (hrB b i)) / 24
    rw [gup_hsum hh, gup_hsum (by omega)]
theorem exP_ok {b : BinT} {h n : Nat} (hn : n ≤ bN b) : ∀ i, lst (exP b h) n = some i → i < n ∧ i < bN b ∧ hrB b i ≤ h := by
  intro i hi
  obtain ⟨h1, h2⟩ := lst_some hi
  exact ⟨h1, by omega, of_decide_eq_true (Bool.and_eq_true_iff.mp h2).2⟩
theorem exY_A {x : FT} {b : BinT} {h : Nat} (hh : h < 10000) : exY b (hsum x b) (lst (exP b h) (bN b)) h = shA b (rsum x b) h := by
  rw [exY_sh hh (fun i hi => (exP_ok (Nat.le_refl _) i hi).2), ← ltB_ex]
  rfl
theorem hsum_mono {x : FT} {b : BinT} {i h : Nat} (hi : i ≤ h) : hsum x b i ≤ hsum x b h := by
  induction h with
  | zero => rw [show i = 0 by omega]; exact Nat.le_refl _
  | succ h ih =>
    rcases Nat.lt_or_ge i (h + 1) with z | z
    · refine Nat.le_trans (ih (by omega)) ?_
      unfold hsum
      rw [dsum]
      omega
    · rw [show i = h + 1 by omega]
      exact Nat.le_refl _
theorem hsum_le {x : FT} {b : BinT} (hx : Xok x) (hb : b ∈ xB x) (h : Nat) : hsum x b h ≤ h * 36000 := dsum_le (fun i => rateV_le hx hb) h
