/-! the k-th emptying, its weight; places taken -/
def cntF (P : Nat → Bool) : Nat → Nat → Nat
  | 0, _ => 0
  | f + 1, i => (if P i = true then 1 else 0) + cntF P f (i + 1)
theorem cntF_eq {P : Nat → Bool} : ∀ {f i : Nat}, cnt P (i + f) = cnt P i + cntF P f i
  | 0, i => rfl
  | f + 1, i => by
    rw [show i + (f + 1) = (i + 1) + f by omega, cntF_eq (f := f) (i := i + 1), cnt, cntF]
    omega
theorem kth_some {P : Nat → Bool} {kk : Nat} (hk : kk < 2 ^ 31) : ∀ {f i c : Nat}, c ≤ kk → kk < c + cntF P f i → ∃ r, kth P (nI kk) f i c = some r
  | 0, i, c, h1, h2 => by
    have h2 : kk < c + 0 := h2
    omega
  | f + 1, i, c, h1, h2 => by
    rw [kth]
    rw [cntF] at h2
    by_cases hp : P i = true
    · rw [if_pos hp]
      rw [if_pos hp] at h2
      by_cases hc : nI c = nI kk
      · rw [if_pos hc]
        exact ⟨i, rfl⟩
      · rw [if_neg hc]
        have hne : c ≠ kk := fun e => hc (by rw [e])
        exact kth_some hk (by omega) (by omega)
    · rw [if_neg hp]
      rw [if_neg hp] at h2
      exact kth_some hk h1 (by omega)
theorem kth_none {P : Nat → Bool} {kk : Nat} (hk : kk < 2 ^ 31) : ∀ {f i c : Nat}, c + cntF P f i ≤ kk → kth P (nI kk) f i c = none
  | 0, i, c, h => rfl
  | f + 1, i, c, h => by
    rw [kth]
    rw [cntF] at h
    by_cases hp : P i = true
    · rw [if_pos hp]
      rw [if_pos hp] at h
      rw [if_neg (by rw [nI_eq (by omega) hk]; omega)]
      exact kth_none hk (by omega)
    · rw [if_neg hp]
      rw [if_neg hp] at h
      exact kth_none hk (by omega)
theorem kth_neg {P : Nat → Bool} {k : Int32} (hk : k < 0) : ∀ {f i c : Nat}, c + f < 2 ^ 31 → kth P k f i c = none
  | 0, i, c, h => rfl
  | f + 1, i, c, h => by
    rw [kth]
    split
    · rw [if_neg (fun e => by rw [← e] at hk; exact nI_pos (by omega) hk)]
      exact kth_neg hk (by omega)
    · exact kth_neg hk (by omega)
def wgE (P : PT) (j h : Nat) : Nat → Nat
  | 0 => 0
  | e + 1 => if aEh P (8 * j + e) = h then aKg P (8 * j + e) else wgE P j h e
theorem wgE_at {P : PT} {j h e0 : Nat} (he : aEh P (8 * j + e0) = h) : ∀ {n : Nat}, e0 < n → (∀ r, e0 < r → r < n → aEh P (8 * j + r) ≠ h) → wgE P j h n = aKg P (8 * j + e0)
  | 0, h1, _ => absurd h1 (Nat.not_lt_zero _)
  | n + 1, h1, h2 => by
    rw [wgE]
    by_cases e : e0 = n
    · subst e
      rw [if_pos he]
    · rw [if_neg (h2 n (by omega) (by omega))]
      exact wgE_at he (by omega) (fun r h3 h4 => h2 r h3 (by omega))
theorem wgE_B {b : BinT} {P : PT} {j r : Nat} (hb : Bok b) (hR : RelB b j P) (hr : r < bN b) (ho : rowB b r = false) : wgE P j (hrB b r) (bN b - bR b) = bAm b r := by
  have ho := of_decide_eq_false ho
  obtain ⟨-, -, k2, k3, -, k5, -⟩ := hR
  rcases k3 r hr with ⟨e0, h0, e⟩ | ⟨e0, h0, e⟩
  · omega
  · obtain ⟨k, hk, e1, e2⟩ := k2 e0 h0
    have hkr : k = r := by
      rcases Nat.lt_trichotomy k r with z | z | z
      · have := hb.1.2.2.1 k r z hr; omega
      · exact z
      · have := hb.1.2.2.1 r k z hk; omega
    subst hkr
    have hh : aEh P (8 * j + e0) = hrB b k := by unfold hrB; omega
    rw [wgE_at hh h0 (fun q h1 h2 h3 => k5 e0 q h1 h2 (by rw [hh, h3])), e2]
theorem wgE_le {P : PT} {j h M : Nat} : ∀ {n : Nat}, (∀ r, r < n → aKg P (8 * j + r) ≤ M) → wgE P j h n ≤ M
  | 0, _ => Nat.zero_le _
  | n + 1, hm => by
    rw [wgE]
    split
    · exact hm n (by omega)
    · exact wgE_le (fun r hr => hm r (by omega))
theorem ixB_tk {b : BinT} {q k : Nat} (hso : ∀ i j, i < j → j < bN b → bPl b i < bPl b j) (hk : k < bN b) (e : bPl b k = q) : ixB b q < bN b ∧ bPl b (ixB b q) = q := by
  obtain ⟨i1, i2, i3⟩ := ixB_ok (b := b) (q := q) hso
  have hge : ixB b q ≤ k := by
    rcases Nat.lt_or_ge k (ixB b q) with z | z
    · have := i2 k z; omega
    · exact z
  have hlt : ixB b q < bN b := by omega
  refine ⟨hlt, ?_⟩
  have h1 := i3 hlt
  rcases Nat.lt_or_ge (ixB b q) k with z | z
  · have := hso _ _ z hk; omega
  · rw [show ixB b q = k by omega]; exact e
theorem set_same {x : FT} {j : Nat} {b : BinT} (h : (xB x)[j]? = some b) : xsB x ((xB x).set j b) = x := by
  have e : (xB x).set j b = xB x := by
    apply List.ext_getElem?
    intro k
    rw [List.getElem?_set]
    by_cases e : j = k
    · subst e
      rw [if_pos rfl, h]
      obtain ⟨hj, -⟩ := List.getElem?_eq_some_iff.mp h
      rw [if_pos hj]
    · rw [if_neg e]
  rw [e]
  rfl
theorem exY_lt {x : FT} {b : BinT} {h n : Nat} (hx : Xok x) (hb : b ∈ xB x) (hn : n ≤ bN b) (hh : h < 10000) : exY b (hsum x b) (lst (exP b h) n) h < 2 ^ 40 := by
  have h1 := hsum_le (b := b) hx hb h
  obtain ⟨⟨-, -, -, hba⟩, -⟩ := hx.2.1 b hb
  unfold exY
  cases ho : lst (exP b h) n with
  | none =>
    show (24 * 0 + hsum x b h - 0) / 24 < 2 ^ 40
    omega
  | some i =>
    have := hba i (exP_ok hn i ho).2.1
    show (24 * shB b i + hsum x b h - hsum x b (hrB b i)) / 24 < 2 ^ 40
    omega
