def rinS (P : PT) (j h r : Nat) : Bool := decide (nI 0 ≤ nI h - nI (aRh P (24 * j + r)) ∧ nI h - nI (aRh P (24 * j + r)) ≤ nI (pQ P))
def silR (P : PT) (j h : Nat) : Nat → Bool
  | 0 => true
  | r + 1 => silR P j h r && !rinS P j h r
theorem silR_eq {P : PT} {j h : Nat} : ∀ {n : Nat}, silR P j h n = true ↔ ∀ r, r < n → rinS P j h r = false
  | 0 => ⟨fun _ _ h => absurd h (Nat.not_lt_zero _), fun _ => rfl⟩
  | n + 1 => by
    rw [silR, Bool.and_eq_true_iff, silR_eq (n := n)]
    constructor
    · rintro ⟨h1, h2⟩ r hr
      rcases Nat.lt_or_ge r n with z | z
      · exact h1 r z
      · rw [show r = n by omega]
        simpa using h2
    · intro h1
      exact ⟨fun r hr => h1 r (by omega), by rw [h1 n (by omega)]; rfl⟩
theorem hr_in {h t q : Nat} (hh : h < 10000) (ht : t < 10000) (hq : q ≤ 1000) : (nI h - nI q ≤ nI t ∧ nI t ≤ nI h) ↔ (nI 0 ≤ nI h - nI t ∧ nI h - nI t ≤ nI q) := by
  rw [Int32.le_iff_toInt_le, Int32.le_iff_toInt_le, Int32.le_iff_toInt_le, Int32.le_iff_toInt_le, pk_sub_toInt (by omega) (by omega), pk_sub_toInt (by omega) (by omega), nI_toInt (by omega), nI_toInt (by omega), nI_toInt (by omega), nI_toInt (by omega)]
  omega
theorem silR_B {x : FT} {P : PT} {b : BinT} {j h : Nat} (hb : Bok b) (hR : RelB b j P) (hQ : pQ P = xQ x) (hq : xQ x ≤ 1000) (hh : h < 10000) : silR P j h (bR b) = !silB b (nI h - nI (xQ x)) (nI h) := by
  have key : silR P j h (bR b) = true ↔ silB b (nI h - nI (xQ x)) (nI h) = false := by
    rw [silR_eq]
    unfold silB
    rw [List.any_eq_false]
    constructor
    · intro h1 i hi
      have hi := List.mem_range.mp hi
      intro h2
      obtain ⟨h3, h4⟩ := Bool.and_eq_true_iff.mp h2
      have h3 := of_decide_eq_true h3
      have h4 := of_decide_eq_true h4
      rcases hR.2.2.2.1 i hi with ⟨r, hr, e⟩ | ⟨r, hr, e⟩
      · have h5 := of_decide_eq_false (h1 r hr)
        have e2 : hrB b i = aRh P (24 * j + r) := by unfold hrB; omega
        rw [e2] at h4
        rw [hQ] at h5
        exact h5 ((hr_in hh (hR.rh hb r hr).1 hq).mp h4)
      · omega
    · intro h1 r hr
      apply decide_eq_false
      intro h2
      obtain ⟨k, hk, e1, e2⟩ := hR.2.1 r hr
      have e3 : hrB b k = aRh P (24 * j + r) := by unfold hrB; omega
      apply h1 k (List.mem_range.mpr hk)
      apply Bool.and_eq_true_iff.mpr
      refine ⟨decide_eq_true (by omega), decide_eq_true ?_⟩
      rw [e3]
      rw [hQ] at h2
      exact (hr_in hh (hR.rh hb r hr).1 hq).mpr h2
  cases h1 : silR P j h (bR b) with
  | true => rw [key.mp h1]; rfl
  | false =>
    cases h2 : silB b (nI h - nI (xQ x)) (nI h) with
    | true => rfl
    | false => rw [key.mpr h2] at h1; cases h1
theorem shR_lt {x : FT} {b : BinT} {h : Nat} (hx : Xok x) (hb : b ∈ xB x) (hh : h < 10000) : shA b (rsum x b) h < 2 ^ 40 := by
  rw [← exY_A hh]
  have h1 := hsum_le (b := b) hx hb h
  obtain ⟨⟨-, -, -, hba⟩, -⟩ := hx.2.1 b hb
  unfold exY
  cases ho : lst (exP b h) (bN b) with
  | none =>
    show (24 * 0 + hsum x b h - 0) / 24 < 2 ^ 40
    omega
  | some i =>
    have := hba i (exP_ok (Nat.le_refl _) i ho).1
    show (24 * shB b i + hsum x b h - hsum x b (hrB b i)) / 24 < 2 ^ 40
    omega
