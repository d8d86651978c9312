/-! bins in their row: one of them changed, one more -/
def wXl (g : GG) (x : FT) (j : Nat) : va_W := wXh g x ++ (wF g (xF x) (xW x) ++ (wO g (xO x) (xR x) (xS x) ++ (wC g (xC x) (xH x) ++ bw g ((xB x).take j))))
theorem list_split {α : Type} {l : List α} {j : Nat} {b : α} (h : l[j]? = some b) : l = l.take j ++ b :: l.drop (j + 1) := by
  obtain ⟨hj, e⟩ := List.getElem?_eq_some_iff.mp h
  exact (List.take_append_drop j l).symm.trans (by rw [List.drop_eq_getElem_cons hj, e])
theorem bw_split {g : GG} {l : List BinT} {j : Nat} {b : BinT} (h : l[j]? = some b) : bw g l = bw g (l.take j) ++ (wB g b ++ bw g (l.drop (j + 1))) := by
  unfold bw
  conv => lhs; rw [list_split h]
  rw [List.flatMap_append, List.flatMap_cons]
theorem wX_split {g : GG} {x : FT} {j : Nat} {b : BinT} (h : (xB x)[j]? = some b) : wX g x = wXl g x j ++ (wB g b ++ bw g ((xB x).drop (j + 1))) := by
  unfold wX wXl
  rw [bw_split h]
  simp only [List.append_assoc]
theorem bRef_set {l : List BinT} {j : Nat} {b c : BinT} (h : l[j]? = some b) (ha : bA c = bA b) : bRef (l.set j c) = bRef l := by
  funext k
  unfold bRef
  rw [List.getElem?_set]
  obtain ⟨hj, -⟩ := List.getElem?_eq_some_iff.mp h
  by_cases e : j = k
  · subst e
    rw [if_pos rfl, if_pos hj, h]
    show some (bA c 0) = some (bA b 0)
    rw [ha]
  · rw [if_neg e]
theorem wXh_set {g : GG} {x : FT} {j : Nat} {b c : BinT} (h : (xB x)[j]? = some b) (ha : bA c = bA b) : wXh g (xsB x ((xB x).set j c)) = wXh g x := by
  unfold wXh
  rw [show xB (xsB x ((xB x).set j c)) = (xB x).set j c from rfl, bRef_set h ha, List.length_set]
  rfl
theorem wX_set {g : GG} {x : FT} {j : Nat} {b c : BinT} (h : (xB x)[j]? = some b) (ha : bA c = bA b) : wX g (xsB x ((xB x).set j c)) = wXl g x j ++ (wB g c ++ bw g ((xB x).drop (j + 1))) := by
  have h2 : ((xB x).set j c)[j]? = some c := by
    obtain ⟨hj, -⟩ := List.getElem?_eq_some_iff.mp h
    rw [List.getElem?_set_self hj]
  rw [wX_split (x := xsB x ((xB x).set j c)) (b := c) h2]
  unfold wXl
  rw [wXh_set h ha]
  show _ ++ (wB g c ++ bw g (((xB x).set j c).drop (j + 1))) = _
  rw [List.drop_set_of_lt (by omega)]
  show (_ ++ (_ ++ (_ ++ (_ ++ bw g (((xB x).set j c).take j))))) ++ _ = _
  rw [List.take_set_of_le (Nat.le_refl j)]
  rfl
/-- what a point put answers and leaves -/
def mxV (row : Bool) : Nat := if row = true then 1500 else 100000
def rowS (row : Bool) (x : FT) (k t d : Int32) : Int32 × FT := match binAt (xB x) k with
  | none => (-1, x)
  | some b => match inL 0 9999 t with
    | none => (-1, x)
    | some h => match inL 0 (mxV row) d with
      | none => (-1, x)
      | some v => ((putB row b (plQ row h) v).1, xsB x ((xB x).set k.toNatClampNeg (putB row b (plQ row h) v).2))
theorem rowS_0 {row : Bool} {x : FT} {k t d : Int32} (h : binAt (xB x) k = none) : rowS row x k t d = (-1, x) := by
  unfold rowS
  rw [h]
theorem rowS_1 {row : Bool} {x : FT} {k t d : Int32} (h : inL 0 9999 t = none) : rowS row x k t d = (-1, x) := by
  unfold rowS
  rw [h]
  split <;> rfl
theorem rowS_2 {row : Bool} {x : FT} {k t d : Int32} (h : inL 0 (mxV row) d = none) : rowS row x k t d = (-1, x) := by
  unfold rowS
  rw [h]
  split
  · rfl
  · split <;> rfl
theorem rowS_3 {row : Bool} {x : FT} {j h v : Nat} {t d : Int32} {b : BinT} (hj : j < 2 ^ 31) (h1 : binAt (xB x) (nI j) = some b) (h2 : inL 0 9999 t = some h) (h3 : inL 0 (mxV row) d = some v) : rowS row x (nI j) t d = ((putB row b (plQ row h) v).1, xsB x ((xB x).set j (putB row b (plQ row h) v).2)) := by
  unfold rowS
  rw [h1]
  dsimp only
  rw [h2]
  dsimp only
  rw [h3]
  dsimp only
  rw [nI_clamp hj]
theorem putB_t {row : Bool} {b : BinT} {q v : Nat} (h : ixB b q < bN b ∧ bPl b (ixB b q) = q) : putB row b q v = (nI (cntB row b), jB (amB b (ixB b q) v) (bN b)) := by
  unfold putB
  rw [if_pos h]
theorem putB_f {row : Bool} {b : BinT} {q v : Nat} (h : ¬ (ixB b q < bN b ∧ bPl b (ixB b q) = q)) (h2 : fullB row b = true) : putB row b q v = (-1, b) := by
  unfold putB
  rw [if_neg h, if_pos h2]
theorem putB_n {row : Bool} {b : BinT} {q v : Nat} (h : ¬ (ixB b q < bN b ∧ bPl b (ixB b q) = q)) (h2 : ¬ fullB row b = true) : putB row b q v = (nI (cntB row b + 1), jB (amB (opR row b (ixB b q) q) (ixB b q) v) (bN b + 1)) := by
  unfold putB
  rw [if_neg h, if_neg h2]
theorem jB_Jok {b : BinT} (h : Jok b) : Jok (jB b (bN b)) := h
/-- a bin with a point put is a bin as they are kept -/
theorem putB_ok {row : Bool} {b : BinT} {h v : Nat} (hb : Bok b) (hh : h < 10000) (hv : v ≤ mxV row) : Bok (putB row b (plQ row h) v).2 ∧ bA (putB row b (plQ row h) v).2 = bA b := by
  obtain ⟨hJ, hw, hg, hs, hr, c1, c2, c3, ham⟩ := id hb
  obtain ⟨i1, i2, i3⟩ := ixB_ok (b := b) (q := plQ row h) hJ.2.2.1
  have hq : plQ row h < 20000 := by unfold plQ; split <;> omega
  have hq2 : plQ row h % 2 = 0 → v ≤ 1500 := by
    intro e
    unfold plQ at e
    unfold mxV at hv
    split at e
    · rename_i r
      rw [if_pos r] at hv
      exact hv
    · omega
  have hv2 : v ≤ 100000 := by unfold mxV at hv; split at hv <;> omega
  by_cases ht : ixB b (plQ row h) < bN b ∧ bPl b (ixB b (plQ row h)) = plQ row h
  · rw [putB_t ht]
    refine ⟨⟨jB_Jok (b := amB b (ixB b (plQ row h)) v) (Jok_am hJ (fun e => hq2 (by rw [← ht.2]; exact e))), (jB_ok (b := amB b (ixB b (plQ row h)) v)).1, (jB_ok (b := amB b (ixB b (plQ row h)) v)).2, hs, hr, c1, c2, c3, fun i hi => ?_⟩, rfl⟩
    show va_up (bAm b) (ixB b (plQ row h)) v i ≤ 100000
    unfold va_up
    split
    · exact hv2
    · exact ham i hi
  · by_cases hf : fullB row b = true
    · rw [putB_f ht hf]
      exact ⟨hb, rfl⟩
    · rw [putB_n ht hf]
      have hn : bN b < 32 := by
        unfold fullB at hf
        split at hf
        · have := of_decide_eq_false (Bool.eq_false_iff.mpr hf)
          omega
        · have := of_decide_eq_false (Bool.eq_false_iff.mpr hf)
          omega
      have hJ2 : Jok (amB (opB b (ixB b (plQ row h)) (plQ row h)) (ixB b (plQ row h)) v) := Jok_op hJ hn hq i1 i2 (fun e => by
        have := i3 e
        rcases Nat.lt_or_ge (plQ row h) (bPl b (ixB b (plQ row h))) with z | z
        · exact z
        · exact absurd ⟨e, by omega⟩ ht) hq2
      have eam : ∀ j, j < bN b + 1 → bAm (amB (opB b (ixB b (plQ row h)) (plQ row h)) (ixB b (plQ row h)) v) j ≤ 100000 := by
        intro j hj
        show va_up (shf (bAm b) (ixB b (plQ row h)) (bN b)) (ixB b (plQ row h)) v j ≤ 100000
        unfold va_up shf
        split
        · exact hv2
        · split
          · exact ham _ (by omega)
          · exact ham _ (by omega)
      cases row with
      | true =>
        have hf2 : ¬ 24 ≤ bR b := fun z => hf (decide_eq_true z)
        refine ⟨⟨hJ2, (jB_ok (b := amB (opR true b (ixB b (plQ true h)) (plQ true h)) (ixB b (plQ true h)) v)).1, (jB_ok (b := amB (opR true b (ixB b (plQ true h)) (plQ true h)) (ixB b (plQ true h)) v)).2, hs, hr, show bR b + 1 ≤ bN b + 1 by omega, show bR b + 1 ≤ 24 by omega, show bN b + 1 - (bR b + 1) ≤ 8 by omega, eam⟩, rfl⟩
      | false =>
        have hf2 : ¬ 8 ≤ bN b - bR b := fun z => hf (decide_eq_true z)
        refine ⟨⟨hJ2, (jB_ok (b := amB (opR false b (ixB b (plQ false h)) (plQ false h)) (ixB b (plQ false h)) v)).1, (jB_ok (b := amB (opR false b (ixB b (plQ false h)) (plQ false h)) (ixB b (plQ false h)) v)).2, hs, hr, show bR b ≤ bN b + 1 by omega, c2, show bN b + 1 - bR b ≤ 8 by omega, eam⟩, rfl⟩
