theorem plc_1 {H : Nat → Nat} {E : Nat → Bool} {h k : Nat} {e : Bool} (hq : 2 * h + (if e = true then 1 else 0) < kyS H E k) : h < H k ∨ (H k = h ∧ e = false) := by
  unfold kyS at hq
  cases e with
  | true =>
    rw [if_pos rfl] at hq
    left
    split at hq <;> omega
  | false =>
    rw [if_neg (show ¬ (false = true) by decide)] at hq
    rcases Nat.lt_or_ge h (H k) with z | z
    · exact Or.inl z
    · refine Or.inr ⟨?_, rfl⟩
      split at hq <;> omega
theorem plc_2 {H : Nat → Nat} {E : Nat → Bool} {h k : Nat} {e : Bool} (hq : kyS H E k < 2 * h + (if e = true then 1 else 0)) : ¬ (h < H k ∨ (H k = h ∧ e = false)) := by
  unfold kyS at hq
  rintro (z | ⟨z, z2⟩)
  · cases e with
    | true => rw [if_pos (show true = true from rfl)] at hq; split at hq <;> omega
    | false => rw [if_neg (show ¬ (false = true) by decide)] at hq; split at hq <;> omega
  · subst z2
    rw [if_neg (show ¬ (false = true) by decide)] at hq
    split at hq <;> omega
theorem Srt.congr {n : Nat} {K V : Nat → Nat} {M M2 : Nat → Nat → Prop} (h : Srt n K V M) (hm : ∀ a b, M a b ↔ M2 a b) : Srt n K V M2 := ⟨h.1, fun a b => (h.2 a b).trans (hm a b)⟩
theorem Mrow_s {P : PT} {j r : Nat} (a b : Nat) : (Mrow P j r a b ∨ (a = 2 * aRh P (24 * j + r) ∧ b = aRs P (24 * j + r))) ↔ Mrow P j (r + 1) a b := by
  constructor
  · rintro (⟨k, hk, h⟩ | h)
    · exact ⟨k, by omega, h⟩
    · exact ⟨r, by omega, h⟩
  · rintro ⟨k, hk, h⟩
    rcases Nat.lt_or_ge k r with z | z
    · exact Or.inl ⟨k, z, h⟩
    · have e : k = r := by omega
      subst e
      exact Or.inr h
theorem Memp_s {P : PT} {j r e : Nat} (a b : Nat) : (Memp P j r e a b ∨ (a = 2 * aEh P (8 * j + e) + 1 ∧ b = 0)) ↔ Memp P j r (e + 1) a b := by
  constructor
  · rintro ((h | ⟨k, hk, h⟩) | h)
    · exact Or.inl h
    · exact Or.inr ⟨k, by omega, h⟩
    · exact Or.inr ⟨e, by omega, h⟩
  · rintro (h | ⟨k, hk, h⟩)
    · exact Or.inl (Or.inl h)
    · rcases Nat.lt_or_ge k e with z | z
      · exact Or.inl (Or.inr ⟨k, z, h⟩)
      · have e2 : k = e := by omega
        subst e2
        exact Or.inr h
theorem Memp_0 {P : PT} {j r : Nat} (a b : Nat) : Mrow P j r a b ↔ Memp P j r 0 a b := ⟨Or.inl, fun h => h.elim id (fun ⟨k, hk, _⟩ => absurd hk (Nat.not_lt_zero _))⟩
theorem Mrow_0 {P : PT} {j : Nat} {K V : Nat → Nat} : Srt 0 K V (Mrow P j 0) := ⟨fun _ _ _ h => absurd h (Nat.not_lt_zero _), fun _ _ => ⟨fun ⟨_, h, _⟩ => absurd h (Nat.not_lt_zero _), fun ⟨_, h, _⟩ => absurd h (Nat.not_lt_zero _)⟩⟩
theorem RelB.rh {b : BinT} {j : Nat} {P : PT} (hb : Bok b) (h : RelB b j P) : ∀ r, r < bR b → aRh P (24 * j + r) < 10000 ∧ aRs P (24 * j + r) ≤ 1500 := by
  intro r hr
  obtain ⟨k, hk, e1, e2⟩ := h.2.1 r hr
  have h1 := hb.1.2.1 k hk
  have h2 := hb.1.2.2.2 k hk
  unfold shB at h2
  rw [if_pos (by omega)] at h2
  omega
theorem RelB.eh {b : BinT} {j : Nat} {P : PT} (hb : Bok b) (h : RelB b j P) : ∀ r, r < bN b - bR b → aEh P (8 * j + r) < 10000 ∧ aKg P (8 * j + r) ≤ 100000 := by
  intro r hr
  obtain ⟨k, hk, e1, e2⟩ := h.2.2.1 r hr
  have h1 := hb.1.2.1 k hk
  have h2 := hb.2.2.2.2.2.2.2.2 k hk
  omega
theorem Memp_key {b : BinT} {j r e : Nat} {P : PT} (hb : Bok b) (h : RelB b j P) (hr : r ≤ bR b) (he : e ≤ bN b - bR b) {a v : Nat} (hm : Memp P j r e a v) : a < 20000 := by
  rcases hm with ⟨k, hk, e1, -⟩ | ⟨k, hk, e1, -⟩
  · have := (h.rh hb k (by omega)).1; omega
  · have := (h.eh hb k (by omega)).1; omega
theorem kyS_H {H : Nat → Nat} {E : Nat → Bool} {k N : Nat} (h : kyS H E k < 2 * N) : H k < N := by
  unfold kyS at h
  split at h <;> omega
