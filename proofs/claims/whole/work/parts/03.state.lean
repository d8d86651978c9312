abbrev tysG (g : GG) : List (ClassId × FieldType) := [(g.2 0, .int), (g.2 1, .boolean), (g.2 2, .object "FillForecast$Bin"), (g.2 3, .long)]
def KK (g : GG) (U : State) : Prop := va_K g.1 vwCl (tysG g) U ∧ va_Nw (.methodLinkNest "FillForecast$Bin" 66 yX4_isWithin "FillForecast") U ∧ va_AO "FillForecast$Bin" U
theorem KK.warm {g : GG} {s U : State} (hW : s.WarmedH U.vm) (h : KK g s) : KK g U := ⟨va_K.moved hW.alike h.1, va_Nw.warmM hW h.2.1, va_AO.moved hW.alike h.2.2⟩
theorem KK.same {g : GG} {s U : State} (e : s.vm = U.vm) (h : KK g s) : KK g U := ⟨va_K.moved (by rw [e]; exact Vm.Alike.refl U.vm) h.1, va_Nw.same rfl e h.2.1, va_AO.moved (by rw [e]; exact Vm.Alike.refl U.vm) h.2.2⟩
abbrev Pre0 (as : List Value) (g : GG) (w : va_W) : Array Value → State → Prop := va_Pc as (fun U => va_P g.1 vwCl w U.heap ∧ KK g U)
theorem blind0 {as : List Value} {g : GG} {w : va_W} : FrameBlind (Pre0 as g w) := fun _ U gg mk q => ⟨q.1, q.2.1, KK.same (U := U.calling gg mk _) rfl q.2.2⟩
theorem preS_rd {s : State} {H : Heap} {g : GG} {w : va_W} {as : List Value} (hP : va_P g.1 vwCl w H) (hK : KK g s) : PreS s H (Pre0 as g w) as := ⟨blind0, fun U hU hW => ⟨rfl, by rw [hU]; exact hP, hK.warm hW⟩⟩
theorem preV_rd {s : State} {H : Heap} {g : GG} {w : va_W} {b : Nat} {C : String} {as : List Value} (hP : va_P g.1 vwCl w H) (hK : KK g s) (hr : ∃ cell : Cell, H[b]? = some cell ∧ cell.vm.isStatics = false ∧ s.vm.findClass C = some cell.cls) : PreV s H C b (Pre0 (.ref b :: as) g w) as := ⟨blind0, hr, fun U hU hW => ⟨rfl, by rw [hU]; exact hP, hK.warm hW⟩⟩
abbrev Rd (l : Launch) (y : MethodName) (ws : List Cond) (fr lo : Nat) (as : List Value) (g : GG) (w : va_W) (r : Int32) : Prop := Met l y ws ⟨fr, 0, 0, lo⟩ (Pre0 as g w) (QcRead r) 0 0 (fun _ => False)
abbrev Rz (l : Launch) (y : MethodName) (ws : List Cond) (fr lo : Nat) (as : List Value) (g : GG) (w : va_W) (r : Int32) : Prop := Met l y ws ⟨fr, 0, 0, lo⟩ (Pre0 as g w) (QcRead r) 0 0 (fun _ => False)
abbrev Rl (l : Launch) (y : MethodName) (ws : List Cond) (fr lo : Nat) (as : List Value) (g : GG) (w : va_W) (r : Int64) : Prop := Met l y ws ⟨fr, 0, 0, lo⟩ (Pre0 as g w) (QlRead r) 0 0 (fun _ => False)
abbrev Rq (l : Launch) (y : MethodName) (ws : List Cond) (fr lo : Nat) (as : List Value) (g : GG) (w : va_W) (r : Option Nat) : Prop := Met l y ws ⟨fr, 0, 0, lo⟩ (Pre0 as g w) (QqRead r) 0 0 (fun _ => False)
abbrev PreW (as : List Value) (g : GG) (w : va_W) (sz : Nat) : Array Value → State → Prop := va_Pc as (fun U => U.heap.size = sz ∧ va_P g.1 vwCl w U.heap ∧ KK g U ∧ va_D (fun _ => True) w)
theorem blindW {as : List Value} {g : GG} {w : va_W} {sz : Nat} : FrameBlind (PreW as g w sz) := fun _ U gg mk q => ⟨q.1, q.2.1, q.2.2.1, KK.same (U := U.calling gg mk _) rfl q.2.2.2.1, q.2.2.2.2⟩
theorem preV_wr {s : State} {H : Heap} {g : GG} {w : va_W} {b : Nat} {C : String} {as : List Value} {A : Nat → Prop} (hP : va_P g.1 vwCl w H) (hK : KK g s) (hD : va_D A w) (hr : ∃ cell : Cell, H[b]? = some cell ∧ cell.vm.isStatics = false ∧ s.vm.findClass C = some cell.cls) : PreV s H C b (PreW (.ref b :: as) g w H.size) as := ⟨blindW, hr, fun U hU hW => ⟨rfl, by rw [hU], by rw [hU]; exact hP, hK.warm hW, hD.weaken (fun _ _ _ _ => trivial)⟩⟩
theorem preI_wr {s : State} {H : Heap} {g : GG} {w : va_W} {as : List Value} {A : Nat → Prop} (hP : va_P g.1 vwCl w H) (hK : KK g s) (hD : va_D A w) : PreS s H (PreW as g w H.size) as := ⟨blindW, fun U hU hW => ⟨rfl, by rw [hU], by rw [hU]; exact hP, hK.warm hW, hD.weaken (fun _ _ _ _ => trivial)⟩⟩
abbrev Wv (l : Launch) (y : MethodName) (ws : List Cond) (fr lo mc ms : Nat) (as : List Value) (g : GG) (w : va_W) (sz : Nat) (w1 : va_W) : Prop := Met l y ws ⟨fr, mc, ms, lo⟩ (PreW as g w sz) (va_Qv (fun _ : Unit => True) (fun _ t => va_P g.1 vwCl w1 t.heap) (va_A w sz)) mc ms (va_A w sz)
abbrev Wi (l : Launch) (y : MethodName) (ws : List Cond) (fr lo mc ms : Nat) (as : List Value) (g : GG) (w : va_W) (sz : Nat) (r : Int32) (w1 : va_W) : Prop := Met l y ws ⟨fr, mc, ms, lo⟩ (PreW as g w sz) (va_Qi (fun r' (_ : Unit) => r' = r) (fun _ t => va_P g.1 vwCl w1 t.heap) (va_A w sz)) mc ms (va_A w sz)
abbrev Wz (l : Launch) (y : MethodName) (ws : List Cond) (fr lo mc ms : Nat) (as : List Value) (g : GG) (w : va_W) (sz : Nat) (r : Int32) (w1 : va_W) : Prop := Met l y ws ⟨fr, mc, ms, lo⟩ (PreW as g w sz) (va_Qi (fun r' (_ : Unit) => r' = r) (fun _ t => va_P g.1 vwCl w1 t.heap) (va_A w sz)) mc ms (va_A w sz)
abbrev Wl (l : Launch) (y : MethodName) (ws : List Cond) (fr lo mc ms : Nat) (as : List Value) (g : GG) (w : va_W) (sz : Nat) (r : Int64) (w1 : va_W) : Prop := Met l y ws ⟨fr, mc, ms, lo⟩ (PreW as g w sz) (va_Ql (fun r' (_ : Unit) => r' = r) (fun _ t => va_P g.1 vwCl w1 t.heap) (va_A w sz)) mc ms (va_A w sz)
/-! a bin: its addresses; street, room, points, rows; places, amounts, wrongs, gains -/
abbrev BinT : Type := (Nat → Nat) × (Nat × Nat × Nat × Nat) × (Nat → Nat) × (Nat → Nat) × (Nat → Bool) × (Nat → Option Nat)
def bA (b : BinT) : Nat → Nat := b.1
def bSt (b : BinT) : Nat := b.2.1.1
def bRm (b : BinT) : Nat := b.2.1.2.1
def bN (b : BinT) : Nat := b.2.1.2.2.1
def bR (b : BinT) : Nat := b.2.1.2.2.2
def bPl (b : BinT) : Nat → Nat := b.2.2.1
def bAm (b : BinT) : Nat → Nat := b.2.2.2.1
def bWr (b : BinT) : Nat → Bool := b.2.2.2.2.1
def bGn (b : BinT) : Nat → Option Nat := b.2.2.2.2.2
def bsN (b : BinT) (n : Nat) : BinT := (b.1, (b.2.1.1, b.2.1.2.1, n, b.2.1.2.2.2), b.2.2)
def bsR (b : BinT) (r : Nat) : BinT := (b.1, (b.2.1.1, b.2.1.2.1, b.2.1.2.2.1, r), b.2.2)
def bsPl (b : BinT) (f : Nat → Nat) : BinT := (b.1, b.2.1, f, b.2.2.2)
def bsAm (b : BinT) (f : Nat → Nat) : BinT := (b.1, b.2.1, b.2.2.1, f, b.2.2.2.2)
def bsWr (b : BinT) (f : Nat → Bool) : BinT := (b.1, b.2.1, b.2.2.1, b.2.2.2.1, f, b.2.2.2.2.2)
def bsGn (b : BinT) (f : Nat → Option Nat) : BinT := (b.1, b.2.1, b.2.2.1, b.2.2.2.1, b.2.2.2.2.1, f)
def wB (g : GG) (b : BinT) : va_W := [(bA b 0, .inr (0, [.int (nI (bSt b)), .int (nI (bRm b)), .ref (bA b 1), .ref (bA b 2), .ref (bA b 3), .ref (bA b 4), .int (nI (bN b)), .int (nI (bR b))])), (bA b 1, .inl (g.2 0, 32, .inl (fun j => nI (bPl b j)))), (bA b 2, .inl (g.2 0, 32, .inl (fun j => nI (bAm b j)))), (bA b 3, .inl (g.2 1, 32, .inl (fun j => bI (bWr b j)))), (bA b 4, .inl (g.2 0, 32, .inl (fun j => gI (bGn b j))))]
def wC (g : GG) (ca : Nat → Nat) (hol : Nat → Bool) : va_W := [(ca 0, .inr (1, [.ref (ca 1)])), (ca 1, .inl (g.2 1, 417, .inl (fun j => bI (hol j))))]
def wF (g : GG) (fa : Nat → Nat) (wt : Nat → Nat) : va_W := [(fa 0, .inr (2, [.ref (fa 1)])), (fa 1, .inl (g.2 0, 8, .inl (fun j => nI (wt j))))]
def wO (g : GG) (oa : Nat → Nat) (rt sm : Nat → Nat) : va_W := [(oa 0, .inr (3, [.ref (oa 1), .ref (oa 2)])), (oa 1, .inl (g.2 0, 7, .inl (fun j => nI (rt j)))), (oa 2, .inl (g.2 0, 418, .inl (fun j => nI (sm j))))]
/-- the share of a point; a wrong row by the one before it; a gain -/
def shB (b : BinT) (i : Nat) : Nat := if bPl b i % 2 = 0 then bAm b i else 0
def hrB (b : BinT) (i : Nat) : Nat := bPl b i / 2
def rowB (b : BinT) (i : Nat) : Bool := decide (bPl b i % 2 = 0)
/-- wrong by the latest right point before it; its gain; the latest right point below i -/
def wrgF (b : BinT) (o : Option Nat) (i : Nat) : Bool := match o with
  | none => false
  | some k => rowB b i && decide (shB b i < shB b k)
def gnF (b : BinT) (o : Option Nat) (i : Nat) : Option Nat := match o with
  | none => none
  | some k => if (rowB b i && !decide (shB b i < shB b k)) = true then some ((shB b i - shB b k) * 24 / (hrB b i - hrB b k)) else none
theorem wrgF_some {b : BinT} {a i : Nat} : wrgF b (some a) i = (rowB b i && decide (shB b i < shB b a)) := rfl
theorem gnF_some {b : BinT} {a i : Nat} : gnF b (some a) i = if (rowB b i && !decide (shB b i < shB b a)) = true then some ((shB b i - shB b a) * 24 / (hrB b i - hrB b a)) else none := rfl
def bef (b : BinT) : Nat → Option Nat
  | 0 => none
  | i + 1 => if wrgF b (bef b i) i = true then bef b i else some i
theorem bef_lt {b : BinT} : ∀ {i k : Nat}, bef b i = some k → k < i
  | 0, k, h => by cases h
  | i + 1, k, h => by
    rw [bef] at h
    split at h
    · have := bef_lt h
      omega
    · cases h
      omega
def jW (b : BinT) (j : Nat) : Nat → Bool := fun x => if x < j then wrgF b (bef b x) x else bWr b x
def jG (b : BinT) (j : Nat) : Nat → Option Nat := fun x => if x < j then gnF b (bef b x) x else bGn b x
/-- the bin, judged up to point j -/
def jB (b : BinT) (j : Nat) : BinT := bsGn (bsWr b (jW b j)) (jG b j)
theorem jW_s (b : BinT) (j : Nat) : va_up (jW b j) j (wrgF b (bef b j) j) = jW b (j + 1) := by
  funext x
  unfold va_up jW
  by_cases h : x = j
  · rw [if_pos h, if_pos (by omega), h]
  · rw [if_neg h]
    by_cases h2 : x < j
    · rw [if_pos h2, if_pos (by omega)]
    · rw [if_neg h2, if_neg (by omega)]
theorem jG_s (b : BinT) (j : Nat) : va_up (jG b j) j (gnF b (bef b j) j) = jG b (j + 1) := by
  funext x
  unfold va_up jG
  by_cases h : x = j
  · rw [if_pos h, if_pos (by omega), h]
  · rw [if_neg h]
    by_cases h2 : x < j
    · rw [if_pos h2, if_pos (by omega)]
    · rw [if_neg h2, if_neg (by omega)]
theorem jW_at {b : BinT} {j : Nat} : jW b (j + 1) j = wrgF b (bef b j) j := by
  unfold jW
  rw [if_pos (by omega)]
/-- f below j, the old ones above -/
def ptU {α : Type} (f old : Nat → α) (j : Nat) : Nat → α := fun i => if i < j then f i else old i
theorem ptU_0 {α : Type} (f old : Nat → α) : ptU f old 0 = old := by
  funext x
  unfold ptU
  rw [if_neg (by omega)]
theorem ptU_s {α : Type} (f old : Nat → α) (j : Nat) : va_up (ptU f old j) j (f j) = ptU f old (j + 1) := by
  funext x
  unfold va_up ptU
  by_cases h : x = j
  · rw [if_pos h, if_pos (by omega), h]
  · rw [if_neg h]
    by_cases h2 : x < j
    · rw [if_pos h2, if_pos (by omega)]
    · rw [if_neg h2, if_neg (by omega)]
/-- a row of numbers with a place opened at i (those of i .. n - 1 one on), done from n down to i -/
def shf {α : Type} (f : Nat → α) (i n : Nat) : Nat → α := fun j => if i < j ∧ j ≤ n then f (j - 1) else f j
theorem shf_n {α : Type} (f : Nat → α) (n : Nat) : shf f n n = f := by
  funext j
  unfold shf
  rw [if_neg (by omega)]
theorem shf_s {α : Type} (f : Nat → α) {i n : Nat} (h0 : 0 < i) (h : i ≤ n) : va_up (shf f i n) i (shf f i n (i - 1)) = shf f (i - 1) n := by
  funext j
  unfold va_up shf
  by_cases h2 : j = i
  · rw [if_pos h2, if_neg (by omega), if_pos (by omega), h2]
  · rw [if_neg h2]
    by_cases h3 : i < j ∧ j ≤ n
    · rw [if_pos h3, if_pos (by omega)]
    · rw [if_neg h3, if_neg (by omega)]
/-- what judging asks of a bin -/
def Jok (b : BinT) : Prop := bN b ≤ 32 ∧ (∀ i, i < bN b → bPl b i < 20000) ∧ (∀ i j, i < j → j < bN b → bPl b i < bPl b j) ∧ ∀ i, i < bN b → shB b i ≤ 1500
/-- the bin with another amount at i; with a new point of place q and amount v at i -/
def amB (b : BinT) (i v : Nat) : BinT := bsAm b (va_up (bAm b) i v)
def opB (b : BinT) (i q : Nat) : BinT := bsN (bsAm (bsPl b (va_up (shf (bPl b) i (bN b)) i q)) (shf (bAm b) i (bN b))) (bN b + 1)
/-- the k-th of those that P names, counting from c, in i .. i + f -/
def kth (P : Nat → Bool) (k : Int32) : Nat → Nat → Nat → Option Nat
  | 0, _, _ => none
  | f + 1, i, c => if P i = true then (if nI c = k then some i else kth P k f (i + 1) (c + 1)) else kth P k f (i + 1) c
/-- the last below j that P names -/
def lst (P : Nat → Bool) : Nat → Option Nat
  | 0 => none
  | j + 1 => if P j = true then some j else lst P j
theorem lst_some {P : Nat → Bool} : ∀ {n i : Nat}, lst P n = some i → i < n ∧ P i = true
  | 0, i, h => by cases h
  | n + 1, i, h => by
    rw [lst] at h
    split at h
    · rename_i hp
      cases h
      exact ⟨Nat.lt_succ_self _, hp⟩
    · have := lst_some h
      exact ⟨by omega, this.2⟩
/-- sum of gains by weights and sum of weights, from j - 1 down, at age a -/
def mnR (G : Nat → Option Nat) (wt : Nat → Nat) : Nat → Nat → Nat × Nat
  | 0, _ => (0, 0)
  | j + 1, a => if a < 8 then (match G j with
      | none => mnR G wt j a
      | some v => ((mnR G wt j (a + 1)).1 + v * wt a, (mnR G wt j (a + 1)).2 + wt a)) else (0, 0)
def mnV (q : Nat × Nat) : Option Nat := if q.2 = 0 then none else some (q.1 / q.2)
def wdy (hol : Nat → Bool) (d : Nat) : Nat := if hol d = true then 6 else d % 7
theorem wdy_lt {hol : Nat → Bool} {d : Nat} : wdy hol d < 7 := by
  unfold wdy
  split <;> omega
/-- sums of days, written up to day j -/
def smU (rt : Nat → Nat) (hol : Nat → Bool) (sm : Nat → Nat) : Nat → Nat → Nat
  | 0 => sm
  | j + 1 => va_up (smU rt hol sm j) (j + 1) (smU rt hol sm j j + rt (wdy hol j))
/-- a weight's product after i factors; the weights, written up to age j -/
def wtP (x y j : Nat) : Nat → Nat
  | 0 => 1
  | i + 1 => wtP x y j i * (if i < j then x else y)
def wtU (x y : Nat) (wt : Nat → Nat) : Nat → Nat → Nat
  | 0 => wt
  | j + 1 => va_up (wtU x y wt j) j (wtP x y j 7)
/-- in 24ths: what is gained up to an hour, by the sums of days -/
def gup (sm : Nat → Nat) (h : Nat) : Nat := 24 * sm (h / 24) + h % 24 * (sm (h / 24 + 1) - sm (h / 24))
def shY (b : BinT) (sm : Nat → Nat) (o : Option Nat) (h : Nat) : Nat := match o with
  | none => (24 * 0 + gup sm h - gup sm 0) / 24
  | some i => (24 * shB b i + gup sm h - gup sm (hrB b i)) / 24
/-- the latest right point up to a place -/
def ltB (b : BinT) (q : Nat) : Option Nat := lst (fun i => decide (bPl b i ≤ q) && !bWr b i) (bN b)
def shA (b : BinT) (sm : Nat → Nat) (h : Nat) : Nat := shY b sm (ltB b (2 * h + 1)) h
def shE (b : BinT) (sm : Nat → Nat) (i : Nat) : Nat := shY b sm (ltB b (bPl b i - 1)) (hrB b i)
theorem ltB_ok {b : BinT} {q h : Nat} (hq : q ≤ 2 * h + 1) : ∀ i, ltB b q = some i → i < bN b ∧ hrB b i ≤ h := by
  intro i hi
  obtain ⟨h1, h2⟩ := lst_some hi
  refine ⟨h1, ?_⟩
  have h3 : bPl b i ≤ q := by
    have := (Bool.and_eq_true_iff.mp h2).1
    exact of_decide_eq_true this
  unfold hrB
  omega
theorem gup_lt {sm : Nat → Nat} {h : Nat} (hh : h < 10000) (hs : ∀ d, d < 418 → sm d ≤ 20000000) (hm : ∀ d, d < 417 → sm d ≤ sm (d + 1)) : gup sm h < 2 ^ 40 := by
  have h1 := hs (h / 24) (by omega)
  have h2 := hs (h / 24 + 1) (by omega)
  have h3 : h % 24 * (sm (h / 24 + 1) - sm (h / 24)) ≤ 24 * 20000000 := Nat.mul_le_mul (by omega) (by omega)
  unfold gup
  omega
theorem gup_step {sm : Nat → Nat} {h : Nat} (hm : ∀ d, d < 417 → sm d ≤ sm (d + 1)) (hh : h + 1 < 10000) : gup sm (h + 1) = gup sm h + (sm (h / 24 + 1) - sm (h / 24)) := by
  have h3 := hm (h / 24) (by omega)
  unfold gup
  rcases Nat.lt_or_ge (h % 24) 23 with z | z
  · rw [show (h + 1) / 24 = h / 24 by omega, show (h + 1) % 24 = h % 24 + 1 by omega, Nat.add_mul, Nat.one_mul]
    omega
  · rw [show (h + 1) / 24 = h / 24 + 1 by omega, show (h + 1) % 24 = 0 by omega, show h % 24 = 23 by omega, Nat.zero_mul]
    omega
theorem gup_le {sm : Nat → Nat} {i h : Nat} (hi : i ≤ h) (hh : h < 10000) (hm : ∀ d, d < 417 → sm d ≤ sm (d + 1)) : gup sm i ≤ gup sm h := by
  induction h with
  | zero => rw [show i = 0 by omega]; exact Nat.le_refl _
  | succ h ih =>
    rcases Nat.lt_or_ge i (h + 1) with z | z
    · have := ih (by omega) (by omega)
      rw [gup_step hm hh]
      omega
    · rw [show i = h + 1 by omega]
      exact Nat.le_refl _
/-! the object: its addresses (itself, its bins' row), those of calendar, fading, outlook; holidays, weights, rates, sums; silence and costs; bins -/
abbrev FT : Type := ((Nat → Nat) × (Nat → Nat) × (Nat → Nat) × (Nat → Nat)) × (Nat → Bool) × (Nat → Nat) × (Nat → Nat) × (Nat → Nat) × (Nat × Nat × Nat) × List BinT
def xA (x : FT) : Nat → Nat := x.1.1
def xC (x : FT) : Nat → Nat := x.1.2.1
def xF (x : FT) : Nat → Nat := x.1.2.2.1
def xO (x : FT) : Nat → Nat := x.1.2.2.2
def xH (x : FT) : Nat → Bool := x.2.1
def xW (x : FT) : Nat → Nat := x.2.2.1
def xR (x : FT) : Nat → Nat := x.2.2.2.1
def xS (x : FT) : Nat → Nat := x.2.2.2.2.1
def xQ (x : FT) : Nat := x.2.2.2.2.2.1.1
def xE (x : FT) : Nat := x.2.2.2.2.2.1.2.1
def xL (x : FT) : Nat := x.2.2.2.2.2.1.2.2
def xB (x : FT) : List BinT := x.2.2.2.2.2.2
def xsH (x : FT) (v : Nat → Bool) : FT := (x.1, v, x.2.2)
def xsW (x : FT) (v : Nat → Nat) : FT := (x.1, x.2.1, v, x.2.2.2)
def xsRS (x : FT) (r v : Nat → Nat) : FT := (x.1, x.2.1, x.2.2.1, r, v, x.2.2.2.2.2)
def xsQ (x : FT) (v : Nat) : FT := (x.1, x.2.1, x.2.2.1, x.2.2.2.1, x.2.2.2.2.1, (v, x.2.2.2.2.2.1.2), x.2.2.2.2.2.2)
def xsE (x : FT) (v : Nat) : FT := (x.1, x.2.1, x.2.2.1, x.2.2.2.1, x.2.2.2.2.1, (x.2.2.2.2.2.1.1, v, x.2.2.2.2.2.1.2.2), x.2.2.2.2.2.2)
def xsL (x : FT) (v : Nat) : FT := (x.1, x.2.1, x.2.2.1, x.2.2.2.1, x.2.2.2.2.1, (x.2.2.2.2.2.1.1, x.2.2.2.2.2.1.2.1, v), x.2.2.2.2.2.2)
def xsB (x : FT) (v : List BinT) : FT := (x.1, x.2.1, x.2.2.1, x.2.2.2.1, x.2.2.2.2.1, x.2.2.2.2.2.1, v)
def bw (g : GG) (bs : List BinT) : va_W := bs.flatMap (wB g)
def bRef (bs : List BinT) : Nat → Option Nat := fun j => (bs[j]?).map (fun b => bA b 0)
def wXh (g : GG) (x : FT) : va_W := [(xA x 0, .inr (4, [.ref (xC x 0), .ref (xF x 0), .ref (xO x 0), .ref (xA x 1), .int (nI ((xB x).length)), .int (nI (xQ x)), .int (nI (xE x)), .int (nI (xL x))])), (xA x 1, .inl (g.2 2, 8, .inr (.inr (.inr (.inr (bRef (xB x)))))))]
def wX (g : GG) (x : FT) : va_W := wXh g x ++ (wF g (xF x) (xW x) ++ (wO g (xO x) (xR x) (xS x) ++ (wC g (xC x) (xH x) ++ bw g (xB x))))
theorem wX_C {D : va_G} {cl : List vw_C} {g : GG} {x : FT} {H : Heap} (h : va_P D cl (wX g x) H) : va_P D cl (wC g (xC x) (xH x)) H := P_left (P_right (P_right (P_right h)))
theorem wX_F {D : va_G} {cl : List vw_C} {g : GG} {x : FT} {H : Heap} (h : va_P D cl (wX g x) H) : va_P D cl (wF g (xF x) (xW x)) H := P_left (P_right h)
theorem wX_O {D : va_G} {cl : List vw_C} {g : GG} {x : FT} {H : Heap} (h : va_P D cl (wX g x) H) : va_P D cl (wO g (xO x) (xR x) (xS x)) H := P_left (P_right (P_right h))
theorem wX_B {D : va_G} {cl : List vw_C} {g : GG} {x : FT} {H : Heap} (h : va_P D cl (wX g x) H) {b : BinT} (hb : b ∈ xB x) : va_P D cl (wB g b) H := P_sub (P_right (P_right (P_right (P_right h)))) (fun _ hq => List.mem_flatMap.mpr ⟨b, hb, hq⟩)
/-- the bin that a number names -/
def binAt (bs : List BinT) (k : Int32) : Option BinT := if 0 ≤ k then bs[k.toNatClampNeg]? else none
theorem binAt_n {bs : List BinT} {k : Int32} (h8 : bs.length ≤ 8) (h : binAt bs k = none) : decide (nI 0 ≤ k ∧ k ≤ nI bs.length - nI 1) = false := by
  apply decide_eq_false
  intro z
  rcases pk_ix k (n := bs.length) (by omega) with q | q | ⟨j, hj, q⟩
  · rw [← nI_0] at q
    exact absurd z.1 (by rw [Int32.not_le]; exact q)
  · have z2 := z.2
    rcases Nat.eq_zero_or_pos bs.length with q0 | q0
    · rw [q0] at z2
      have z3 : k ≤ -1 := z2
      have z1 := z.1
      rw [Int32.le_iff_toInt_le] at z1 z3
      have e0 : (nI 0).toInt = 0 := by decide
      have e1 : (-1 : Int32).toInt = -1 := by decide
      omega
    · rw [pk_sub q0, Int32.le_iff_toInt_le, nI_toInt (by omega)] at z2
      rw [Int32.le_iff_toInt_le, nI_toInt (by omega)] at q
      omega
  · subst q
    unfold binAt at h
    rw [if_pos (nI_pos' (by omega)), nI_clamp (by omega), List.getElem?_eq_getElem hj] at h
    cases h
theorem binAt_s {bs : List BinT} {k : Int32} {b : BinT} (h8 : bs.length ≤ 8) (h : binAt bs k = some b) : ∃ j, j < bs.length ∧ k = nI j ∧ bs[j]? = some b ∧ decide (nI 0 ≤ k ∧ k ≤ nI bs.length - nI 1) = true := by
  unfold binAt at h
  split at h
  case isFalse => cases h
  case isTrue h0 =>
    obtain ⟨hj, -⟩ := List.getElem?_eq_some_iff.mp h
    have hk : k = nI k.toNatClampNeg := by
      obtain ⟨j, hj2, e⟩ := nI_of (x := k) (by rw [Int32.not_lt]; exact h0)
      rw [e, nI_clamp hj2]
    refine ⟨k.toNatClampNeg, hj, hk, h, decide_eq_true ⟨?_, ?_⟩⟩
    · rw [nI_0]; exact h0
    · rw [pk_sub (by omega)]
      rw [hk]
      exact nI_le (by omega) (by omega)
def bin0 : BinT := (fun _ => 0, (0, 0, 0, 0), fun _ => 0, fun _ => 0, fun _ => false, fun _ => none)
/-- a row of the bin in a stretch of hours -/
def silB (b : BinT) (lo hi : Int32) : Bool := (List.range (bN b)).any (fun i => rowB b i && decide (lo ≤ nI (hrB b i) ∧ nI (hrB b i) ≤ hi))
/-- a number of lo .. N, or none -/
def inL (lo N : Nat) (k : Int32) : Option Nat := if nI lo ≤ k ∧ k ≤ nI N then some k.toNatClampNeg else none
theorem inL_n {lo N : Nat} {k : Int32} (h : inL lo N k = none) : decide (nI lo ≤ k ∧ k ≤ nI N) = false := by
  unfold inL at h
  split at h
  · cases h
  · rename_i h2
    exact decide_eq_false h2
theorem inL_s {lo N : Nat} {k : Int32} {j : Nat} (hN : N < 2 ^ 31) (hlo : lo ≤ N) (h : inL lo N k = some j) : lo ≤ j ∧ j ≤ N ∧ k = nI j ∧ decide (nI lo ≤ k ∧ k ≤ nI N) = true := by
  unfold inL at h
  split at h
  · rename_i h2
    cases h
    have h3 := h2.1
    have h4 := h2.2
    rw [Int32.le_iff_toInt_le, nI_toInt (by omega)] at h3 h4
    obtain ⟨j, hj, e⟩ := nI_of (x := k) (by rw [Int32.lt_iff_toInt_lt, Int32.toInt_zero]; omega)
    subst e
    rw [nI_clamp hj]
    rw [nI_toInt hj] at h3 h4
    exact ⟨by omega, by omega, rfl, decide_eq_true h2⟩
  · cases h
/-- a bin's mean of a weekday; sums over the bins of a street; its rate -/
def meanH (hol : Nat → Bool) (wt : Nat → Nat) (b : BinT) (wd : Nat) : Option Nat := mnV (mnR (fun i => if wdy hol (hrB b i / 24) = wd then bGn b i else none) wt (bN b) 0)
def stH (hol : Nat → Bool) (wt : Nat → Nat) (st wd : Nat) : List BinT → Nat × Nat
  | [] => (0, 0)
  | b :: t => if bSt b = st then (match meanH hol wt b wd with
      | none => stH hol wt st wd t
      | some v => ((stH hol wt st wd t).1 + v, (stH hol wt st wd t).2 + 1)) else stH hol wt st wd t
def stQ (q : Nat × Nat) : Nat := if q.2 = 0 then 100 else q.1 / q.2
def rateH (hol : Nat → Bool) (wt : Nat → Nat) (bs : List BinT) (b : BinT) (wd : Nat) : Nat := match meanH hol wt b wd with
  | none => stQ (stH hol wt (bSt b) wd bs)
  | some v => v
abbrev meanX (x : FT) (b : BinT) (wd : Nat) : Option Nat := meanH (xH x) (xW x) b wd
abbrev stR (x : FT) (st wd : Nat) (l : List BinT) : Nat × Nat := stH (xH x) (xW x) st wd l
abbrev stV (x : FT) (st wd : Nat) : Nat := stQ (stH (xH x) (xW x) st wd (xB x))
abbrev rateV (x : FT) (b : BinT) (wd : Nat) : Nat := rateH (xH x) (xW x) (xB x) b wd
/-- the outlook for a bin -/
def lkX (x : FT) (b : BinT) : FT := xsRS x (ptU (rateV x b) (xR x) 7) (smU (ptU (rateV x b) (xR x) 7) (xH x) (xS x) 417)
/-- the cost of a day -/
def ctV (x : FT) (b : BinT) (d : Nat) : Nat := if shA b (xS x) (d * 24) < 1000 then (1000 - shA b (xS x) (d * 24)) * xE x else (shA b (xS x) (d * 24) - 1000) * xL x
theorem shA_lt {b : BinT} {sm : Nat → Nat} {h : Nat} (ham : ∀ i, i < bN b → shB b i ≤ 1500) (hs : ∀ d, d < 418 → sm d ≤ 20000000) (hm : ∀ d, d < 417 → sm d ≤ sm (d + 1)) (hh : h < 10000) : shA b sm h < 2 ^ 40 := by
  have hg := gup_lt (sm := sm) hh hs hm
  unfold shA shY
  split
  · omega
  · rename_i i hi
    have := ham i (ltB_ok (Nat.le_refl _) i hi).1
    omega
/-- sums of days -/
def dsum (f : Nat → Nat) : Nat → Nat
  | 0 => 0
  | d + 1 => dsum f d + f d
theorem dsum_le {f : Nat → Nat} {M : Nat} (h : ∀ i, f i ≤ M) : ∀ d, dsum f d ≤ d * M
  | 0 => Nat.zero_le _
  | d + 1 => by
    have h1 := dsum_le h d
    have h2 := h d
    rw [dsum, Nat.add_mul, Nat.one_mul]
    omega
theorem smU_at {rt : Nat → Nat} {hol : Nat → Bool} {sm : Nat → Nat} (h0 : sm 0 = 0) : ∀ {j d : Nat}, d ≤ j → smU rt hol sm j d = dsum (fun i => rt (wdy hol i)) d
  | 0, d, h => by
    rw [show d = 0 by omega]
    exact h0
  | j + 1, d, h => by
    rw [smU]
    unfold va_up
    split
    · rename_i e
      subst e
      rw [dsum, smU_at h0 (Nat.le_refl j)]
    · exact smU_at h0 (by omega)
theorem smU_0 {rt : Nat → Nat} {hol : Nat → Bool} {sm : Nat → Nat} : ∀ (j : Nat), smU rt hol sm j 0 = sm 0
  | 0 => rfl
  | j + 1 => by
    rw [smU]
    unfold va_up
    rw [if_neg (by omega)]
    exact smU_0 j
theorem dsum_congr {f k : Nat → Nat} (h : ∀ i, f i = k i) (d : Nat) : dsum f d = dsum k d := by rw [show f = k from funext h]
/-- the sums of the days' rates of a bin -/
def rsum (x : FT) (b : BinT) : Nat → Nat := dsum (fun i => rateV x b (wdy (xH x) i))
theorem lkX_S {x : FT} {b : BinT} (h0 : xS x 0 = 0) {d : Nat} (hd : d ≤ 417) : xS (lkX x b) d = rsum x b d := by
  show smU (ptU (rateV x b) (xR x) 7) (xH x) (xS x) 417 d = _
  rw [smU_at h0 hd]
  apply dsum_congr
  intro i
  unfold ptU
  rw [if_pos wdy_lt]
theorem gup_congr {s1 s2 : Nat → Nat} (h : ∀ d, d ≤ 417 → s1 d = s2 d) {t : Nat} (ht : t < 10000) : gup s1 t = gup s2 t := by
  unfold gup
  rw [h (t / 24) (by omega), h (t / 24 + 1) (by omega)]
theorem shY_congr {b : BinT} {s1 s2 : Nat → Nat} (h : ∀ d, d ≤ 417 → s1 d = s2 d) {t : Nat} (ht : t < 10000) {o : Option Nat} (ho : ∀ i, o = some i → i < bN b ∧ hrB b i ≤ t) : shY b s1 o t = shY b s2 o t := by
  unfold shY
  cases o with
  | none =>
    show (24 * 0 + gup s1 t - gup s1 0) / 24 = (24 * 0 + gup s2 t - gup s2 0) / 24
    rw [gup_congr h ht, gup_congr h (by omega)]
  | some i =>
    have := (ho i rfl).2
    show (24 * shB b i + gup s1 t - gup s1 (hrB b i)) / 24 = (24 * shB b i + gup s2 t - gup s2 (hrB b i)) / 24
    rw [gup_congr h ht, gup_congr h (by omega)]
theorem lkX_shA {x : FT} {b : BinT} (h0 : xS x 0 = 0) {t : Nat} (ht : t < 10000) : shA b (xS (lkX x b)) t = shA b (rsum x b) t := by
  unfold shA
  exact shY_congr (fun d hd => lkX_S h0 hd) ht (ltB_ok (Nat.le_refl _))
/-- what a bin keeps; what the object keeps -/
def Bok (b : BinT) : Prop := Jok b ∧ (∀ i, i < bN b → bWr b i = wrgF b (bef b i) i) ∧ (∀ i, i < bN b → bGn b i = gnF b (bef b i) i) ∧ bSt b < 4 ∧ (1 ≤ bRm b ∧ bRm b ≤ 10000) ∧ bR b ≤ bN b ∧ bR b ≤ 24 ∧ bN b - bR b ≤ 8 ∧ ∀ i, i < bN b → bAm b i ≤ 100000
def Xok (x : FT) : Prop := (xB x).length ≤ 8 ∧ (∀ b ∈ xB x, Bok b) ∧ (∀ a, a < 8 → 1 ≤ xW x a ∧ xW x a ≤ 4782969) ∧ xQ x ≤ 1000 ∧ xE x ≤ 1000 ∧ xL x ≤ 1000
/-- the objects alike but for the outlook's rows of numbers -/
def alX (u x : FT) : Prop := ∃ r v, u = xsRS x r v ∧ v 0 = 0
theorem Bok.gain {b : BinT} (h : Bok b) : ∀ i v, i < bN b → bGn b i = some v → v ≤ 36000 := by
  intro i v hi hv
  obtain ⟨⟨h1, h2, h3, h4⟩, h5, h6, -⟩ := h
  rw [h6 i hi] at hv
  unfold gnF at hv
  split at hv
  · cases hv
  · split at hv
    · cases hv
      have hs := h4 i hi
      refine Nat.le_trans (Nat.div_le_self _ _) ?_
      omega
    · cases hv
theorem mnR_le {G : Nat → Option Nat} {wt : Nat → Nat} {M : Nat} : ∀ {n : Nat} (a : Nat), (∀ i v, i < n → G i = some v → v ≤ M) → (mnR G wt n a).1 ≤ M * (mnR G wt n a).2
  | 0, a, _ => by rw [mnR]; exact Nat.zero_le _
  | n + 1, a, h => by
    rw [mnR]
    split
    · cases hg : G n with
      | none => exact mnR_le a (fun i v hi => h i v (by omega))
      | some v =>
        have h1 := mnR_le (wt := wt) (a + 1) (fun i v hi => h i v (Nat.lt_succ_of_lt hi))
        have h2 := h n v (by omega) hg
        show _ + v * wt a ≤ M * (_ + wt a)
        rw [Nat.mul_add]
        exact Nat.add_le_add h1 (Nat.mul_le_mul_right _ h2)
    · exact Nat.zero_le _
theorem meanX_le {x : FT} {b : BinT} {wd v : Nat} (h : Bok b) (hv : meanX x b wd = some v) : v ≤ 36000 := by
  unfold meanX meanH mnV at hv
  split at hv
  · cases hv
  · cases hv
    rename_i h0
    refine Nat.div_le_of_le_mul ?_
    rw [Nat.mul_comm]
    exact mnR_le 0 (fun i v hi hg => by
      split at hg
      · exact h.gain i v hi hg
      · cases hg)
theorem stR_le {x : FT} {st wd : Nat} : ∀ {l : List BinT}, (∀ b ∈ l, Bok b) → (stR x st wd l).1 ≤ 36000 * (stR x st wd l).2 ∧ (stR x st wd l).2 ≤ l.length
  | [], _ => ⟨Nat.le_refl _, Nat.le_refl _⟩
  | b :: t, h => by
    have ih := stR_le (x := x) (st := st) (wd := wd) (l := t) (fun b hb => h b (List.mem_cons_of_mem _ hb))
    unfold stR at ih ⊢
    rw [stH]
    split
    · cases hm : meanH (xH x) (xW x) b wd with
      | none => exact ⟨ih.1, Nat.le_succ_of_le ih.2⟩
      | some v =>
        have hv := meanX_le (h b List.mem_cons_self) hm
        show _ + v ≤ 36000 * (_ + 1) ∧ _ + 1 ≤ _ + 1
        omega
    · exact ⟨ih.1, Nat.le_succ_of_le ih.2⟩
theorem rateV_le {x : FT} {b : BinT} {wd : Nat} (hx : Xok x) (hb : b ∈ xB x) : rateV x b wd ≤ 36000 := by
  unfold rateV rateH
  split
  · unfold stQ
    split
    · omega
    · have := stR_le (x := x) (st := bSt b) (wd := wd) (l := xB x) hx.2.1
      exact Nat.div_le_of_le_mul (by rw [Nat.mul_comm]; exact this.1)
  · rename_i v hv
    exact meanX_le (hx.2.1 b hb) hv
theorem lkX_le {x : FT} {b : BinT} (hx : Xok x) (hb : b ∈ xB x) (h0 : xS x 0 = 0) : (∀ d, d < 418 → xS (lkX x b) d ≤ 20000000) ∧ ∀ d, d < 417 → xS (lkX x b) d ≤ xS (lkX x b) (d + 1) := by
  constructor
  · intro d hd
    rw [lkX_S h0 (by omega)]
    have := dsum_le (f := fun i => rateV x b (wdy (xH x) i)) (M := 36000) (fun i => rateV_le hx hb) d
    have h2 : d * 36000 ≤ 417 * 36000 := Nat.mul_le_mul_right _ (by omega)
    unfold rsum
    omega
  · intro d hd
    rw [lkX_S h0 (by omega), lkX_S h0 (by omega)]
    unfold rsum
    rw [dsum]
    omega
theorem shE_lt {b : BinT} {sm : Nat → Nat} {i : Nat} (ham : ∀ i, i < bN b → shB b i ≤ 1500) (hs : ∀ d, d < 418 → sm d ≤ 20000000) (hm : ∀ d, d < 417 → sm d ≤ sm (d + 1)) (hh : hrB b i < 10000) : shE b sm i < 2 ^ 40 := by
  have hg := gup_lt (sm := sm) hh hs hm
  unfold shE shY
  split
  · omega
  · rename_i j hj
    have := ham j (ltB_ok (h := hrB b i) (by unfold hrB; omega) j hj).1
    omega
/-- numbers that the looking methods answer -/
def lE (o : Option Nat) : Int64 := match o with
  | none => -1
  | some v => lN v
def ctN (x : FT) (b : BinT) (d : Nat) : Nat := if shA b (rsum x b) (d * 24) < 1000 then (1000 - shA b (rsum x b) (d * 24)) * xE x else (shA b (rsum x b) (d * 24) - 1000) * xL x
theorem ctN_eq {x : FT} {b : BinT} (h0 : xS x 0 = 0) {d : Nat} (hd : d < 417) : ctV (lkX x b) b d = ctN x b d := by
  unfold ctV ctN
  rw [lkX_shA h0 (by omega)]
  rfl
theorem lkX_shE {x : FT} {b : BinT} (h0 : xS x 0 = 0) {i : Nat} (hi : hrB b i < 10000) : shE b (xS (lkX x b)) i = shE b (rsum x b) i := by
  unfold shE
  exact shY_congr (fun d hd => lkX_S h0 hd) hi (ltB_ok (by unfold hrB; omega))
theorem alX_lk {x : FT} {b : BinT} (h0 : xS x 0 = 0) : alX (lkX x b) x := ⟨_, _, rfl, by rw [smU_0]; exact h0⟩
theorem alX_rf {x : FT} (h0 : xS x 0 = 0) : alX x x := ⟨xR x, xS x, rfl, h0⟩
theorem ctN_lt {x : FT} {b : BinT} (hx : Xok x) (hb : b ∈ xB x) (h0 : xS x 0 = 0) {d : Nat} (hd : d < 417) : ctN x b d < 2 ^ 60 := by
  obtain ⟨hs, hm⟩ := lkX_le hx hb h0
  obtain ⟨⟨-, -, -, hba⟩, -⟩ := hx.2.1 b hb
  have h1 := shA_lt (sm := xS (lkX x b)) (h := d * 24) hba hs hm (by omega)
  rw [lkX_shA h0 (by omega)] at h1
  have h2 := hx.2.2.2.2.1
  have h3 := hx.2.2.2.2.2
  unfold ctN
  split
  · exact Nat.lt_of_le_of_lt (Nat.mul_le_mul (show _ ≤ 1000 by omega) h2) (by decide)
  · exact Nat.lt_of_le_of_lt (Nat.mul_le_mul (show _ ≤ 2 ^ 40 by omega) h3) (by decide)
def expO (x : FT) (k t : Int32) : Option Nat := (binAt (xB x) k).bind (fun b => (inL 0 9999 t).map (fun h => shA b (rsum x b) h))
def cosO (x : FT) (k t : Int32) : Option Nat := (binAt (xB x) k).bind (fun b => (inL 0 416 t).map (fun d => ctN x b d))
/-- the least of f at a .. a + n, the earliest -/
def bestD (f : Nat → Nat) (a : Nat) : Nat → Nat
  | 0 => a
  | n + 1 => if f (a + 1 + n) < f (bestD f a n) then a + 1 + n else bestD f a n
theorem bestD_in {f : Nat → Nat} {a : Nat} : ∀ (n : Nat), a ≤ bestD f a n ∧ bestD f a n ≤ a + n
  | 0 => ⟨Nat.le_refl _, Nat.le_refl _⟩
  | n + 1 => by
    have := bestD_in (f := f) (a := a) n
    rw [bestD]
    split <;> omega
def dayO (x : FT) (k a e : Int32) : Option Nat := (binAt (xB x) k).bind (fun b => (inL 0 416 a).bind (fun i => (inL 0 416 e).bind (fun j => if i ≤ j then some (bestD (ctN x b) i (j - i)) else none)))
def ovP (x : FT) (h : Nat) (i : Nat) : Bool := decide (1000 ≤ shA ((xB x).getD i bin0) (rsum x ((xB x).getD i bin0)) h)
def ovO (x : FT) (t k : Int32) : Option Nat := (inL 0 9999 t).bind (fun h => kth (ovP x h) k (xB x).length 0 0)
def chkV (x : FT) (k t : Int32) : Int64 := match (binAt (xB x) k).bind (fun b => (kth (fun i => !rowB b i) t (bN b) 0 0).map (fun i => (b, i))) with
  | none => -9223372036854775808
  | some q => lN (bAm q.1 q.2) - lN (shE q.1 (rsum x q.1) q.2 * bRm q.1 / 1000)
theorem kth_in {P : Nat → Bool} {k : Int32} : ∀ {f i c r : Nat}, kth P k f i c = some r → (i ≤ r ∧ r < i + f) ∧ P r = true
  | 0, i, c, r, h => by cases h
  | f + 1, i, c, r, h => by
    rw [kth] at h
    split at h
    · rename_i hp
      split at h
      · cases h
        exact ⟨⟨Nat.le_refl _, by omega⟩, hp⟩
      · have := kth_in h
        exact ⟨by omega, this.2⟩
    · have := kth_in h
      exact ⟨by omega, this.2⟩
/-- what the writing methods answer and leave -/
def quietS (x : FT) (k : Int32) : Int32 × FT := match inL 0 1000 k with
  | none => (bI false, x)
  | some a => (bI true, xsQ x a)
def costS (x : FT) (k d : Int32) : Int32 × FT := match inL 0 1000 k with
  | none => (bI false, x)
  | some a => match inL 0 1000 d with
    | none => (bI false, x)
    | some e => (bI true, xsL (xsE x a) e)
def holS (x : FT) (k : Int32) (on : Bool) : Int32 × FT := match inL 0 416 k with
  | none => (bI false, x)
  | some a => (bI true, xsH x (va_up (xH x) a on))
def fadeS (x : FT) (k d : Int32) : Int32 × FT := match inL 1 9 k with
  | none => (bI false, x)
  | some a => match inL 1 9 d with
    | none => (bI false, x)
    | some e => if a ≤ e then (bI true, xsW x (wtU a e (xW x) 8)) else (bI false, x)
abbrev Ai (l : Launch) (y : MethodName) (ws : List Cond) (fr lo mc ms : Nat) (as : List Value) (g : GG) (x : FT) (sz : Nat) (post : Int32 → FT → Prop) : Prop := Met l y ws ⟨fr, mc, ms, lo⟩ (PreW as g (wX g x) sz) (va_Qi post (fun u t => va_P g.1 vwCl (wX g u) t.heap ∧ va_D (va_A (wX g x) sz) (wX g u)) (va_A (wX g x) sz)) mc ms (va_A (wX g x) sz)
abbrev Al (l : Launch) (y : MethodName) (ws : List Cond) (fr lo mc ms : Nat) (as : List Value) (g : GG) (x : FT) (sz : Nat) (post : Int64 → FT → Prop) : Prop := Met l y ws ⟨fr, mc, ms, lo⟩ (PreW as g (wX g x) sz) (va_Ql post (fun u t => va_P g.1 vwCl (wX g u) t.heap ∧ va_D (va_A (wX g x) sz) (wX g u)) (va_A (wX g x) sz)) mc ms (va_A (wX g x) sz)
