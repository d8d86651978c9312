/-! the relation between the two sides, kept by what is written -/
def Rel0 (P : PT) : Prop := ∀ j, pB P ≤ j → aRc P j = 0 ∧ aEc P j = 0
abbrev Mi (l : Launch) (y : MethodName) (ws : List Cond) (fr lo mc ms : Nat) (as : List Value) (g : GG) (w : va_W) (sz : Nat) (ma : Nat → Nat) (S : ST) (post : Int32 → PT → Prop) : Prop := Met l y ws ⟨fr, mc, ms, lo⟩ (PreW as g w sz) (va_Qi post (fun u t => va_P g.1 vwCl (wM g ma u S) t.heap) (va_A w sz)) mc ms (va_A w sz)
theorem RelB_congr {b : BinT} {j : Nat} {P P2 : PT} (hb : Bok b) (h : RelB b j P) (h1 : aSt P2 j = aSt P j ∧ aRm P2 j = aRm P j ∧ aRc P2 j = aRc P j ∧ aEc P2 j = aEc P j) (h2 : ∀ r, r < 24 → aRh P2 (24 * j + r) = aRh P (24 * j + r) ∧ aRs P2 (24 * j + r) = aRs P (24 * j + r)) (h3 : ∀ r, r < 8 → aEh P2 (8 * j + r) = aEh P (8 * j + r) ∧ aKg P2 (8 * j + r) = aKg P (8 * j + r)) : RelB b j P2 := by
  obtain ⟨-, -, -, -, -, c1, c2, c3, -⟩ := hb
  obtain ⟨⟨a1, a2, a3, a4⟩, k1, k2, k3, k4, k5, k6⟩ := h
  refine ⟨⟨by rw [h1.1, a1], by rw [h1.2.1, a2], by rw [h1.2.2.1, a3], by rw [h1.2.2.2, a4]⟩, fun r hr => ?_, fun e he => ?_, fun k hk => ?_, fun r q h5 h6 => ?_, fun r q h5 h6 => ?_, k6⟩
  · rw [(h2 r (by omega)).1, (h2 r (by omega)).2]
    exact k1 r hr
  · rw [(h3 e (by omega)).1, (h3 e (by omega)).2]
    exact k2 e he
  · rcases k3 k hk with ⟨r, hr, e⟩ | ⟨r, hr, e⟩
    · exact Or.inl ⟨r, hr, by rw [(h2 r (by omega)).1]; exact e⟩
    · exact Or.inr ⟨r, hr, by rw [(h3 r (by omega)).1]; exact e⟩
  · rw [(h2 r (by omega)).1, (h2 q (by omega)).1]
    exact k4 r q h5 h6
  · rw [(h3 r (by omega)).1, (h3 q (by omega)).1]
    exact k5 r q h5 h6
theorem RelB_j {b : BinT} {j n : Nat} {P : PT} (h : RelB b j P) : RelB (jB b n) j P := h
theorem RelB_amR {b : BinT} {j i r0 v : Nat} {P : PT} (hb : Bok b) (h : RelB b j P) (hi : i < bN b) (hr : r0 < bR b) (he : bPl b i = 2 * aRh P (24 * j + r0)) : RelB (amB b i v) j (uaRs P (va_up (aRs P) (24 * j + r0) v)) := by
  obtain ⟨a, k1, k2, k3, k4, k5, k6⟩ := h
  have hu : ∀ k, bAm (amB b i v) k = if k = i then v else bAm b k := fun _ => rfl
  have hs : ∀ q, aRs (uaRs P (va_up (aRs P) (24 * j + r0) v)) q = if q = 24 * j + r0 then v else aRs P q := fun _ => rfl
  refine ⟨a, fun r hr2 => ?_, fun e he2 => ?_, k3, k4, k5, k6⟩
  · by_cases er : r = r0
    · subst er
      exact ⟨i, hi, he, by rw [hu, if_pos rfl, hs, if_pos rfl]⟩
    · obtain ⟨k, hk, e1, e2⟩ := k1 r hr2
      have hne : k ≠ i := by
        intro e
        subst e
        have e3 : aRh P (24 * j + r) = aRh P (24 * j + r0) := by omega
        rcases Nat.lt_or_ge r r0 with z | z
        · exact k4 r r0 z hr e3
        · exact k4 r0 r (by omega) hr2 e3.symm
      exact ⟨k, hk, e1, by rw [hu, if_neg hne, hs, if_neg (by omega)]; exact e2⟩
  · obtain ⟨k, hk, e1, e2⟩ := k2 e he2
    have hne : k ≠ i := by
      intro e3
      subst e3
      omega
    exact ⟨k, hk, e1, by rw [hu, if_neg hne]; exact e2⟩
theorem RelB_amE {b : BinT} {j i r0 v : Nat} {P : PT} (hb : Bok b) (h : RelB b j P) (hi : i < bN b) (hr : r0 < bN b - bR b) (he : bPl b i = 2 * aEh P (8 * j + r0) + 1) : RelB (amB b i v) j (uaKg P (va_up (aKg P) (8 * j + r0) v)) := by
  obtain ⟨a, k1, k2, k3, k4, k5, k6⟩ := h
  have hu : ∀ k, bAm (amB b i v) k = if k = i then v else bAm b k := fun _ => rfl
  have hs : ∀ q, aKg (uaKg P (va_up (aKg P) (8 * j + r0) v)) q = if q = 8 * j + r0 then v else aKg P q := fun _ => rfl
  refine ⟨a, fun r hr2 => ?_, fun r hr2 => ?_, k3, k4, k5, k6⟩
  · obtain ⟨k, hk, e1, e2⟩ := k1 r hr2
    have hne : k ≠ i := by
      intro e3
      subst e3
      omega
    exact ⟨k, hk, e1, by rw [hu, if_neg hne]; exact e2⟩
  · by_cases er : r = r0
    · subst er
      exact ⟨i, hi, he, by rw [hu, if_pos rfl, hs, if_pos rfl]⟩
    · obtain ⟨k, hk, e1, e2⟩ := k2 r hr2
      have hne : k ≠ i := by
        intro e
        subst e
        have e3 : aEh P (8 * j + r) = aEh P (8 * j + r0) := by omega
        rcases Nat.lt_or_ge r r0 with z | z
        · exact k5 r r0 z hr e3
        · exact k5 r0 r (by omega) hr2 e3.symm
      exact ⟨k, hk, e1, by rw [hu, if_neg hne, hs, if_neg (by omega)]; exact e2⟩
theorem opB_pl {b : BinT} {i q v : Nat} : bPl (amB (opB b i q) i v) = insA (bPl b) i (bN b) q := rfl
theorem opB_am {b : BinT} {i q v : Nat} : bAm (amB (opB b i q) i v) = insA (bAm b) i (bN b) v := rfl
theorem insA_out {α : Type} {f : Nat → α} {i n k : Nat} {x : α} (h : i < k) (h2 : n < k) : insA f i n x k = f k := by rw [insA_at, if_neg (by omega), if_neg (by omega)]
theorem cnt_op {b c : BinT} {i q : Nat} (hc : bPl c = insA (bPl b) i (bN b) q) (hi : i ≤ bN b) : cnt (fun k => !rowB c k) (bN b + 1) = cnt (fun k => !rowB b k) (bN b) + (if q % 2 = 0 then 0 else 1) := by
  have e : (fun k => !rowB c k) = insA (fun k => !rowB b k) i (bN b) (!decide (q % 2 = 0)) := by
    funext k
    show (!decide (bPl c k % 2 = 0)) = _
    rw [hc]
    rcases Nat.lt_trichotomy k i with z | z | z
    · rw [insA_lo z, insA_lo z]; rfl
    · subst z; rw [insA_i, insA_i]
    · rcases Nat.lt_or_ge (bN b) k with z2 | z2
      · rw [insA_out z z2, insA_out z z2]; rfl
      · rw [insA_hi z z2, insA_hi z z2]; rfl
  rw [e, cnt_ins hi]
  by_cases hq : q % 2 = 0
  · rw [decide_eq_true hq, if_pos hq]; rfl
  · rw [decide_eq_false hq, if_neg hq]; rfl
theorem insA_all {K : Nat → Nat} {i n q : Nat} {Pr : Nat → Prop} (hK : ∀ k, k < n → Pr (K k)) (hq : Pr q) : ∀ k, k < n + 1 → i ≤ n → Pr (insA K i n q k) := by
  intro k hk hi
  rcases Nat.lt_trichotomy k i with z | z | z
  · rw [insA_lo z]; exact hK k (by omega)
  · subst z; rw [insA_i]; exact hq
  · rw [insA_hi z (by omega)]; exact hK _ (by omega)
/-- the reference's side of a new row, of a new emptying -/
def nwR (P : PT) (j n h v : Nat) : PT := uaRc (uaRs (uaRh P (va_up (aRh P) (24 * j + n) h)) (va_up (aRs P) (24 * j + n) v)) (va_up (aRc P) j (n + 1))
def nwE (P : PT) (j n h v : Nat) : PT := uaEc (uaKg (uaEh P (va_up (aEh P) (8 * j + n) h)) (va_up (aKg P) (8 * j + n) v)) (va_up (aEc P) j (n + 1))
theorem RelB_opR {b : BinT} {j i h v : Nat} {P : PT} (hb : Bok b) (hR : RelB b j P) (hi : i ≤ bN b) (hf : ∀ r, r < bR b → aRh P (24 * j + r) ≠ h) : RelB (amB (opR true b i (2 * h)) i v) j (nwR P j (bR b) h v) := by
  obtain ⟨-, -, -, -, -, c1, c2, c3, -⟩ := hb
  obtain ⟨⟨a1, a2, a3, a4⟩, k1, k2, k3, k4, k5, k6⟩ := hR
  have hN : bN (amB (opR true b i (2 * h)) i v) = bN b + 1 := rfl
  have hRr : bR (amB (opR true b i (2 * h)) i v) = bR b + 1 := rfl
  have hpl : bPl (amB (opR true b i (2 * h)) i v) = insA (bPl b) i (bN b) (2 * h) := rfl
  have ham : bAm (amB (opR true b i (2 * h)) i v) = insA (bAm b) i (bN b) v := rfl
  have e1 : ∀ q, aRh (nwR P j (bR b) h v) q = if q = 24 * j + bR b then h else aRh P q := fun _ => rfl
  have e2 : ∀ q, aRs (nwR P j (bR b) h v) q = if q = 24 * j + bR b then v else aRs P q := fun _ => rfl
  have mem := fun (X Y : Nat) => insA_mem (K := bPl b) (V := bAm b) (i := i) (n := bN b) (q := 2 * h) (v := v) hi (fun a c => a = X ∧ c = Y)
  refine ⟨⟨a1, a2, ?_, ?_⟩, fun r hr => ?_, fun e he => ?_, fun k hk => ?_, fun r q h5 h6 => ?_, fun r q h5 h6 => ?_, ?_⟩
  · show va_up (aRc P) j (bR b + 1) j = _
    rw [va_up_self]
    rfl
  · rw [hN, hRr]
    show aEc P j = _
    rw [a4]
    omega
  · rw [hN, hpl, ham, e1, e2]
    have hr : r < bR b + 1 := hr
    by_cases er : r = bR b
    · subst er
      rw [if_pos rfl, if_pos rfl]
      exact (mem _ _).mpr (Or.inr ⟨rfl, rfl⟩)
    · rw [if_neg (by omega), if_neg (by omega)]
      exact (mem _ _).mpr (Or.inl (k1 r (by omega)))
  · rw [hN, hRr] at he
    rw [hN, hpl, ham]
    exact (mem _ _).mpr (Or.inl (k2 e (by omega)))
  · rw [hN] at hk
    rw [hpl, hN, hRr]
    refine insA_all (Pr := fun z => (∃ r, r < bR b + 1 ∧ z = 2 * aRh (nwR P j (bR b) h v) (24 * j + r)) ∨ ∃ e, e < bN b + 1 - (bR b + 1) ∧ z = 2 * aEh (nwR P j (bR b) h v) (8 * j + e) + 1) (fun k hk => ?_) ?_ k hk hi
    · rcases k3 k hk with ⟨r, hr, e⟩ | ⟨r, hr, e⟩
      · exact Or.inl ⟨r, by omega, by rw [e1, if_neg (by omega)]; exact e⟩
      · exact Or.inr ⟨r, by omega, e⟩
    · exact Or.inl ⟨bR b, by omega, by rw [e1, if_pos rfl]⟩
  · rw [hRr] at h6
    rw [e1, e1, if_neg (by omega)]
    by_cases eq : q = bR b
    · rw [if_pos (by omega)]
      exact hf r (by omega)
    · rw [if_neg (by omega)]
      exact k4 r q h5 (by omega)
  · rw [hN, hRr] at h6
    exact k5 r q h5 (by omega)
  · rw [hN, hRr]
    rw [cnt_op (b := b) hpl hi, k6, if_pos (by omega)]
    omega
theorem RelB_opE {b : BinT} {j i h v : Nat} {P : PT} (hb : Bok b) (hR : RelB b j P) (hi : i ≤ bN b) (hf : ∀ r, r < bN b - bR b → aEh P (8 * j + r) ≠ h) : RelB (amB (opR false b i (2 * h + 1)) i v) j (nwE P j (bN b - bR b) h v) := by
  obtain ⟨-, -, -, -, -, c1, c2, c3, -⟩ := hb
  obtain ⟨⟨a1, a2, a3, a4⟩, k1, k2, k3, k4, k5, k6⟩ := hR
  have hN : bN (amB (opR false b i (2 * h + 1)) i v) = bN b + 1 := rfl
  have hRr : bR (amB (opR false b i (2 * h + 1)) i v) = bR b := rfl
  have hpl : bPl (amB (opR false b i (2 * h + 1)) i v) = insA (bPl b) i (bN b) (2 * h + 1) := rfl
  have ham : bAm (amB (opR false b i (2 * h + 1)) i v) = insA (bAm b) i (bN b) v := rfl
  have e1 : ∀ q, aEh (nwE P j (bN b - bR b) h v) q = if q = 8 * j + (bN b - bR b) then h else aEh P q := fun _ => rfl
  have e2 : ∀ q, aKg (nwE P j (bN b - bR b) h v) q = if q = 8 * j + (bN b - bR b) then v else aKg P q := fun _ => rfl
  have mem := fun (X Y : Nat) => insA_mem (K := bPl b) (V := bAm b) (i := i) (n := bN b) (q := 2 * h + 1) (v := v) hi (fun a c => a = X ∧ c = Y)
  refine ⟨⟨a1, a2, a3, ?_⟩, fun r hr => ?_, fun e he => ?_, fun k hk => ?_, fun r q h5 h6 => ?_, fun r q h5 h6 => ?_, ?_⟩
  · show va_up (aEc P) j (bN b - bR b + 1) j = _
    rw [va_up_self, hN, hRr]
    omega
  · rw [hN, hpl, ham]
    exact (mem _ _).mpr (Or.inl (k1 r hr))
  · rw [hN, hRr] at he
    rw [hN, hpl, ham, e1, e2]
    by_cases er : e = bN b - bR b
    · subst er
      rw [if_pos rfl, if_pos rfl]
      exact (mem _ _).mpr (Or.inr ⟨rfl, rfl⟩)
    · rw [if_neg (by omega), if_neg (by omega)]
      exact (mem _ _).mpr (Or.inl (k2 e (by omega)))
  · rw [hN] at hk
    rw [hpl, hN, hRr]
    refine insA_all (Pr := fun z => (∃ r, r < bR b ∧ z = 2 * aRh (nwE P j (bN b - bR b) h v) (24 * j + r)) ∨ ∃ e, e < bN b + 1 - bR b ∧ z = 2 * aEh (nwE P j (bN b - bR b) h v) (8 * j + e) + 1) (fun k hk => ?_) ?_ k hk hi
    · rcases k3 k hk with ⟨r, hr, e⟩ | ⟨r, hr, e⟩
      · exact Or.inl ⟨r, hr, e⟩
      · exact Or.inr ⟨r, by omega, by rw [e1, if_neg (by omega)]; exact e⟩
    · exact Or.inr ⟨bN b - bR b, by omega, by rw [e1, if_pos rfl]⟩
  · exact k4 r q h5 h6
  · rw [hN, hRr] at h6
    rw [e1, e1, if_neg (by omega)]
    by_cases eq : q = bN b - bR b
    · rw [if_pos (by omega)]
      exact hf r (by omega)
    · rw [if_neg (by omega)]
      exact k5 r q h5 (by omega)
  · rw [hN, hRr]
    rw [cnt_op (b := b) hpl hi, k6, if_neg (by omega)]
    omega
theorem Rel_set {x : FT} {P P2 : PT} {j : Nat} {b c : BinT} (hx : Xok x) (h : Rel x P) (hj : (xB x)[j]? = some b) (hc : RelB c j P2) (hs : pB P2 = pB P ∧ aHo P2 = aHo P ∧ pO P2 = pO P ∧ pU P2 = pU P ∧ pQ P2 = pQ P ∧ pE P2 = pE P ∧ pL P2 = pL P) (ho : ∀ k, k ≠ j → (aSt P2 k = aSt P k ∧ aRm P2 k = aRm P k ∧ aRc P2 k = aRc P k ∧ aEc P2 k = aEc P k) ∧ (∀ r, r < 24 → aRh P2 (24 * k + r) = aRh P (24 * k + r) ∧ aRs P2 (24 * k + r) = aRs P (24 * k + r)) ∧ ∀ r, r < 8 → aEh P2 (8 * k + r) = aEh P (8 * k + r) ∧ aKg P2 (8 * k + r) = aKg P (8 * k + r)) : Rel (xsB x ((xB x).set j c)) P2 := by
  obtain ⟨h1, h2, h3, h4, h5, h6, h7⟩ := h
  obtain ⟨s1, s2, s3, s4, s5, s6, s7⟩ := hs
  refine ⟨?_, fun k d hd => ?_, by rw [s2, h3]; rfl, fun a ha => by rw [s3, s4]; exact h4 a ha, by rw [s5, h5]; rfl, by rw [s6, h6]; rfl, by rw [s7, h7]; rfl⟩
  · show pB P2 = ((xB x).set j c).length
    rw [List.length_set, s1, h1]
  · have hd : ((xB x).set j c)[k]? = some d := hd
    rw [List.getElem?_set] at hd
    by_cases e : j = k
    · subst e
      rw [if_pos rfl] at hd
      split at hd
      · cases hd; exact hc
      · cases hd
    · rw [if_neg e] at hd
      obtain ⟨o1, o2, o3⟩ := ho k (Ne.symm e)
      exact RelB_congr (hx.2.1 d (List.mem_of_getElem? hd)) (h2 k d hd) o1 o2 o3
theorem Rel0_of {P P2 : PT} (h : Rel0 P) (hb : pB P2 = pB P) (ho : ∀ k, pB P ≤ k → aRc P2 k = aRc P k ∧ aEc P2 k = aEc P k) : Rel0 P2 := fun k hk => by
  rw [hb] at hk
  rw [(ho k hk).1, (ho k hk).2]
  exact h k hk
theorem wtU_at {x y : Nat} {wt : Nat → Nat} : ∀ {j a : Nat}, a < j → wtU x y wt j a = wtP x y a 7
  | 0, a, h => absurd h (Nat.not_lt_zero _)
  | j + 1, a, h => by
    rw [wtU]
    unfold va_up
    split
    · rename_i e; rw [e]
    · exact wtU_at (by omega)
theorem wtP_le {x y a : Nat} (hx : 1 ≤ x ∧ x ≤ 9) (hy : 1 ≤ y ∧ y ≤ 9) : ∀ i, 1 ≤ wtP x y a i ∧ wtP x y a i ≤ 9 ^ i
  | 0 => ⟨Nat.le_refl _, Nat.le_refl _⟩
  | i + 1 => by
    have ih := wtP_le (a := a) hx hy i
    rw [wtP, Nat.pow_succ]
    split
    · exact ⟨Nat.mul_pos ih.1 hx.1, Nat.mul_le_mul ih.2 hx.2⟩
    · exact ⟨Nat.mul_pos ih.1 hy.1, Nat.mul_le_mul ih.2 hy.2⟩
/-- a fade that is one, as either side asks for it -/
theorem fade_y {k d : Int32} (h1 : nI 1 ≤ k) (h2 : k ≤ d) (h3 : d ≤ nI 9) : ∃ a e, inL 1 9 k = some a ∧ inL 1 9 d = some e ∧ a ≤ e ∧ k = nI a ∧ d = nI e ∧ 1 ≤ a ∧ e ≤ 9 := by
  rw [Int32.le_iff_toInt_le] at h1 h2 h3
  have e1 : (nI 1).toInt = 1 := by decide
  have e9 : (nI 9).toInt = 9 := by decide
  have hk : inL 1 9 k = some k.toNatClampNeg := by
    unfold inL
    rw [if_pos ⟨by rw [Int32.le_iff_toInt_le]; omega, by rw [Int32.le_iff_toInt_le]; omega⟩]
  have hd : inL 1 9 d = some d.toNatClampNeg := by
    unfold inL
    rw [if_pos ⟨by rw [Int32.le_iff_toInt_le]; omega, by rw [Int32.le_iff_toInt_le]; omega⟩]
  obtain ⟨a1, a2, a3, -⟩ := inL_s (by decide) (by decide) hk
  obtain ⟨b1, b2, b3, -⟩ := inL_s (by decide) (by decide) hd
  refine ⟨_, _, hk, hd, ?_, a3, b3, a1, b2⟩
  generalize k.toNatClampNeg = a at *
  generalize d.toNatClampNeg = e at *
  subst a3 b3
  rw [nI_toInt (by omega), nI_toInt (by omega)] at h2
  omega
theorem fade_n {x : FT} {k d : Int32} (h : ¬ (nI 1 ≤ k ∧ k ≤ d ∧ d ≤ nI 9)) : fadeS x k d = (bI false, x) := by
  unfold fadeS
  split
  · rfl
  · rename_i a ha
    split
    · rfl
    · rename_i e he
      obtain ⟨a1, a2, a3, -⟩ := inL_s (by decide) (by decide) ha
      obtain ⟨b1, b2, b3, -⟩ := inL_s (by decide) (by decide) he
      rw [if_neg ?_]
      intro hae
      subst a3 b3
      exact h ⟨nI_le a1 (by omega), nI_le hae (by omega), nI_le b2 (by decide)⟩
theorem ctN_lt2 {x : FT} {b : BinT} (hx : Xok x) (hb : b ∈ xB x) {d : Nat} (hd : d < 417) : ctN x b d < 2 ^ 60 := by
  have h1 := shR_lt (h := d * 24) hx hb (by omega)
  have h2 := hx.2.2.2.2.1
  have h3 := hx.2.2.2.2.2
  unfold ctN
  split
  · exact Nat.lt_of_le_of_lt (Nat.mul_le_mul (show _ ≤ 1000 by omega) h2) (by decide)
  · exact Nat.lt_of_le_of_lt (Nat.mul_le_mul (show _ ≤ 2 ^ 40 by omega) h3) (by decide)
