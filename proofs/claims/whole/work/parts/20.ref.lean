abbrev PT : Type := (Nat) × (Nat) × (Nat) × (Nat) × (Nat) × (Nat) × (Nat → Nat) × (Nat → Nat) × (Nat → Nat) × (Nat → Nat) × (Nat → Nat) × (Nat → Nat) × (Nat → Nat) × (Nat → Nat) × (Nat → Bool)
def pB (p : PT) : Nat := p.1
def pO (p : PT) : Nat := p.2.1
def pU (p : PT) : Nat := p.2.2.1
def pQ (p : PT) : Nat := p.2.2.2.1
def pE (p : PT) : Nat := p.2.2.2.2.1
def pL (p : PT) : Nat := p.2.2.2.2.2.1
def aSt (p : PT) : Nat → Nat := p.2.2.2.2.2.2.1
def aRm (p : PT) : Nat → Nat := p.2.2.2.2.2.2.2.1
def aRc (p : PT) : Nat → Nat := p.2.2.2.2.2.2.2.2.1
def aRh (p : PT) : Nat → Nat := p.2.2.2.2.2.2.2.2.2.1
def aRs (p : PT) : Nat → Nat := p.2.2.2.2.2.2.2.2.2.2.1
def aEc (p : PT) : Nat → Nat := p.2.2.2.2.2.2.2.2.2.2.2.1
def aEh (p : PT) : Nat → Nat := p.2.2.2.2.2.2.2.2.2.2.2.2.1
def aKg (p : PT) : Nat → Nat := p.2.2.2.2.2.2.2.2.2.2.2.2.2.1
def aHo (p : PT) : Nat → Bool := p.2.2.2.2.2.2.2.2.2.2.2.2.2.2
def upB (p : PT) (v : Nat) : PT := (v, p.2)
def upO (p : PT) (v : Nat) : PT := (p.1, v, p.2.2)
def upU (p : PT) (v : Nat) : PT := (p.1, p.2.1, v, p.2.2.2)
def upQ (p : PT) (v : Nat) : PT := (p.1, p.2.1, p.2.2.1, v, p.2.2.2.2)
def upE (p : PT) (v : Nat) : PT := (p.1, p.2.1, p.2.2.1, p.2.2.2.1, v, p.2.2.2.2.2)
def upL (p : PT) (v : Nat) : PT := (p.1, p.2.1, p.2.2.1, p.2.2.2.1, p.2.2.2.2.1, v, p.2.2.2.2.2.2)
def uaSt (p : PT) (v : Nat → Nat) : PT := (p.1, p.2.1, p.2.2.1, p.2.2.2.1, p.2.2.2.2.1, p.2.2.2.2.2.1, v, p.2.2.2.2.2.2.2)
def uaRm (p : PT) (v : Nat → Nat) : PT := (p.1, p.2.1, p.2.2.1, p.2.2.2.1, p.2.2.2.2.1, p.2.2.2.2.2.1, p.2.2.2.2.2.2.1, v, p.2.2.2.2.2.2.2.2)
def uaRc (p : PT) (v : Nat → Nat) : PT := (p.1, p.2.1, p.2.2.1, p.2.2.2.1, p.2.2.2.2.1, p.2.2.2.2.2.1, p.2.2.2.2.2.2.1, p.2.2.2.2.2.2.2.1, v, p.2.2.2.2.2.2.2.2.2)
def uaRh (p : PT) (v : Nat → Nat) : PT := (p.1, p.2.1, p.2.2.1, p.2.2.2.1, p.2.2.2.2.1, p.2.2.2.2.2.1, p.2.2.2.2.2.2.1, p.2.2.2.2.2.2.2.1, p.2.2.2.2.2.2.2.2.1, v, p.2.2.2.2.2.2.2.2.2.2)
def uaRs (p : PT) (v : Nat → Nat) : PT := (p.1, p.2.1, p.2.2.1, p.2.2.2.1, p.2.2.2.2.1, p.2.2.2.2.2.1, p.2.2.2.2.2.2.1, p.2.2.2.2.2.2.2.1, p.2.2.2.2.2.2.2.2.1, p.2.2.2.2.2.2.2.2.2.1, v, p.2.2.2.2.2.2.2.2.2.2.2)
def uaEc (p : PT) (v : Nat → Nat) : PT := (p.1, p.2.1, p.2.2.1, p.2.2.2.1, p.2.2.2.2.1, p.2.2.2.2.2.1, p.2.2.2.2.2.2.1, p.2.2.2.2.2.2.2.1, p.2.2.2.2.2.2.2.2.1, p.2.2.2.2.2.2.2.2.2.1, p.2.2.2.2.2.2.2.2.2.2.1, v, p.2.2.2.2.2.2.2.2.2.2.2.2)
def uaEh (p : PT) (v : Nat → Nat) : PT := (p.1, p.2.1, p.2.2.1, p.2.2.2.1, p.2.2.2.2.1, p.2.2.2.2.2.1, p.2.2.2.2.2.2.1, p.2.2.2.2.2.2.2.1, p.2.2.2.2.2.2.2.2.1, p.2.2.2.2.2.2.2.2.2.1, p.2.2.2.2.2.2.2.2.2.2.1, p.2.2.2.2.2.2.2.2.2.2.2.1, v, p.2.2.2.2.2.2.2.2.2.2.2.2.2)
def uaKg (p : PT) (v : Nat → Nat) : PT := (p.1, p.2.1, p.2.2.1, p.2.2.2.1, p.2.2.2.2.1, p.2.2.2.2.2.1, p.2.2.2.2.2.2.1, p.2.2.2.2.2.2.2.1, p.2.2.2.2.2.2.2.2.1, p.2.2.2.2.2.2.2.2.2.1, p.2.2.2.2.2.2.2.2.2.2.1, p.2.2.2.2.2.2.2.2.2.2.2.1, p.2.2.2.2.2.2.2.2.2.2.2.2.1, v, p.2.2.2.2.2.2.2.2.2.2.2.2.2.2)
def uaHo (p : PT) (v : Nat → Bool) : PT := (p.1, p.2.1, p.2.2.1, p.2.2.2.1, p.2.2.2.2.1, p.2.2.2.2.2.1, p.2.2.2.2.2.2.1, p.2.2.2.2.2.2.2.1, p.2.2.2.2.2.2.2.2.1, p.2.2.2.2.2.2.2.2.2.1, p.2.2.2.2.2.2.2.2.2.2.1, p.2.2.2.2.2.2.2.2.2.2.2.1, p.2.2.2.2.2.2.2.2.2.2.2.2.1, p.2.2.2.2.2.2.2.2.2.2.2.2.2.1, v)
abbrev ST : Type := (Nat) × (Nat → Nat) × (Nat → Nat) × (Nat → Bool) × (Nat → Bool) × (Nat → Option Nat) × (Nat → Nat) × (Nat → Nat)
def sN (s : ST) : Nat := s.1
def sH (s : ST) : Nat → Nat := s.2.1
def sS (s : ST) : Nat → Nat := s.2.2.1
def sE (s : ST) : Nat → Bool := s.2.2.2.1
def sW (s : ST) : Nat → Bool := s.2.2.2.2.1
def sG (s : ST) : Nat → Option Nat := s.2.2.2.2.2.1
def sR (s : ST) : Nat → Nat := s.2.2.2.2.2.2.1
def sM (s : ST) : Nat → Nat := s.2.2.2.2.2.2.2
def usN (s : ST) (v : Nat) : ST := (v, s.2)
def usH (s : ST) (v : Nat → Nat) : ST := (s.1, v, s.2.2)
def usS (s : ST) (v : Nat → Nat) : ST := (s.1, s.2.1, v, s.2.2.2)
def usE (s : ST) (v : Nat → Bool) : ST := (s.1, s.2.1, s.2.2.1, v, s.2.2.2.2)
def usW (s : ST) (v : Nat → Bool) : ST := (s.1, s.2.1, s.2.2.1, s.2.2.2.1, v, s.2.2.2.2.2)
def usG (s : ST) (v : Nat → Option Nat) : ST := (s.1, s.2.1, s.2.2.1, s.2.2.2.1, s.2.2.2.2.1, v, s.2.2.2.2.2.2)
def usR (s : ST) (v : Nat → Nat) : ST := (s.1, s.2.1, s.2.2.1, s.2.2.2.1, s.2.2.2.2.1, s.2.2.2.2.2.1, v, s.2.2.2.2.2.2.2)
def usM (s : ST) (v : Nat → Nat) : ST := (s.1, s.2.1, s.2.2.1, s.2.2.2.1, s.2.2.2.2.1, s.2.2.2.2.2.1, s.2.2.2.2.2.2.1, v)
def wM (g : GG) (ma : Nat → Nat) (P : PT) (S : ST) : va_W := [(ma 0, .inr (5, [.int (nI (pB P)), .ref (ma 1), .ref (ma 2), .ref (ma 3), .ref (ma 4), .ref (ma 5), .ref (ma 6), .ref (ma 7), .ref (ma 8), .int (nI (pO P)), .int (nI (pU P)), .ref (ma 9), .int (nI (pQ P)), .int (nI (pE P)), .int (nI (pL P)), .int (nI (sN S)), .ref (ma 10), .ref (ma 11), .ref (ma 12), .ref (ma 13), .ref (ma 14), .ref (ma 15), .ref (ma 16)])), (ma 1, .inl (g.2 0, 8, .inl (fun j => nI (aSt P j)))), (ma 2, .inl (g.2 0, 8, .inl (fun j => nI (aRm P j)))), (ma 3, .inl (g.2 0, 8, .inl (fun j => nI (aRc P j)))), (ma 4, .inl (g.2 0, 192, .inl (fun j => nI (aRh P j)))), (ma 5, .inl (g.2 0, 192, .inl (fun j => nI (aRs P j)))), (ma 6, .inl (g.2 0, 8, .inl (fun j => nI (aEc P j)))), (ma 7, .inl (g.2 0, 64, .inl (fun j => nI (aEh P j)))), (ma 8, .inl (g.2 0, 64, .inl (fun j => nI (aKg P j)))), (ma 9, .inl (g.2 1, 417, .inl (fun j => bI (aHo P j)))), (ma 10, .inl (g.2 0, 32, .inl (fun j => nI (sH S j)))), (ma 11, .inl (g.2 0, 32, .inl (fun j => nI (sS S j)))), (ma 12, .inl (g.2 1, 32, .inl (fun j => bI (sE S j)))), (ma 13, .inl (g.2 1, 32, .inl (fun j => bI (sW S j)))), (ma 14, .inl (g.2 0, 32, .inl (fun j => gI (sG S j)))), (ma 15, .inl (g.2 0, 7, .inl (fun j => nI (sR S j)))), (ma 16, .inl (g.2 3, 10001, .inr (.inl (fun j => lN (sM S j)))))]
section LONGS
variable {p : Program} {l : Launch} {e : Env} {R : Room} {s : State} {m : MethodId} {args : Array Value} {below : List Frame} {meth : Method} {c : Code} {H : Heap} {locs : List Loc} {cells slots : Nat} {Q : State → Prop}
variable {cc : ByteArray} {pc : Nat} {ls : Array Slot} {rest st0 : List Value} {D : va_G} {cl : List vw_C} {tys : List (ClassId × FieldType)} {ws : va_W} {a : Nat} {A A0 : Nat → Prop} {H0 : Heap} {ar : Array Value}
theorem up_encL {α : Type} (enc : α → Int64) (f : Nat → α) (k : Nat) (x : α) : vp_updL (fun j => enc (f j)) k (enc x) = fun j => enc (va_up f k x j) := by
  funext j
  unfold vp_updL va_up
  split <;> rfl
theorem n_lald (hexec : p.tables.exec = Jvm.exec) (hb : c.code = cc) (hK : va_K D cl tys s) (hP : va_P D cl ws H) (q0 t0 : Nat) {cA : ClassId} {n k : Nat} {f : Nat → Int64} {v : Int64} (ha : ws[q0]? = some (a, .inl (cA, n, .inr (.inl f)))) (ht : tys[t0]? = some (cA, .long)) (hk : k < n) (hn : n < 2 ^ 31) (hv : f k = v) (hdg : decode cc pc = .ok (.laload, 1))
    (kk : W p l e R s m args below meth c H locs cells slots Q (F0 m (pc + 1) ls (.long v :: rest))) : W p l e R s m args below meth c H locs cells slots Q (F0 m pc ls (.int (nI k) :: .ref a :: rest)) :=
  va_lald hexec hb hK hP q0 t0 ha ht (vp_in_nI hk hn) hdg (tp_l (by rw [nI_clamp (Nat.lt_trans hk hn)]; exact hv) kk)
theorem n_lastE {α : Type} {enc : α → Int64} {f : Nat → α} {x : α} (hexec : p.tables.exec = Jvm.exec) (hb : c.code = cc) (hK : va_K D cl tys s) (hP : va_P D cl ws H) (hD : va_D A ws) (hS : va_S A H0 H locs) (q0 t0 : Nat) {cA : ClassId} {n k : Nat} (ha : ws[q0]? = some (a, .inl (cA, n, .inr (.inl (fun j => enc (f j)))))) (ht : tys[t0]? = some (cA, .long)) (hk : k < n) (hn : n < 2 ^ 31) (hdg : decode cc pc = .ok (.lastore, 1))
    (kk : ∀ (H1 : Heap) (locs1 : List Loc), va_P D cl (ws.set q0 (a, .inl (cA, n, .inr (.inl (fun j => enc (va_up f k x j)))))) H1 → va_D A (ws.set q0 (a, .inl (cA, n, .inr (.inl (fun j => enc (va_up f k x j)))))) → va_S A H0 H1 locs1 → W p l e R s m args below meth c H1 locs1 cells slots Q (F0 m (pc + 1) ls rest)) : W p l e R s m args below meth c H locs cells slots Q (F0 m pc ls (.long (enc x) :: .int (nI k) :: .ref a :: rest)) :=
  va_last hexec hb hK hP hD hS q0 t0 ha ht (vp_in_nI hk hn) hdg (by rw [nI_clamp (Nat.lt_trans hk hn), up_encL]; exact kk)
theorem cE_v {S : Type} {Q2 : S → Prop} {wc : va_W} {w1 : S → va_W} (hr : va_Run p l e R s m args below meth c H locs cells slots 0 0 (F0 m pc ls st0) rest (va_Qv Q2 (fun u t => va_P D cl (w1 u) t.heap) (va_A wc H.size) ar) (va_A wc H.size)) (hP : va_P D cl wc H) (hD : va_D A0 wc) (hS : va_S A0 H0 H locs) (hA : ∀ q, H0.size ≤ q → A0 q) (he : ∀ u, (w1 u).map (fun q => q.1) = wc.map (fun q => q.1))
    (kk : ∀ (u : S) (H1 : Heap) (locs1 : List Loc), Q2 u → va_P D cl (w1 u) H1 → va_D A0 (w1 u) → va_S A0 H0 H1 locs1 → W p l e R s m args below meth c H1 locs1 cells slots Q (F0 m (pc + 3) ls rest)) : W p l e R s m args below meth c H locs cells slots Q (F0 m pc ls st0) := by
  have hF : ∀ q, va_A wc H.size q → A0 q := F_mid (wl := []) (wr := []) (by rw [List.nil_append, List.append_nil]; exact hD) hS hA
  exact va_callv hr hS (fun q _ h => hF q h) hF (fun u t H1 locs1 ht hvm hq hB hz hk hS1 => kk u H1 locs1 hq (by rw [← ht]; exact hB) (D_addr hD (he u)) hS1)
theorem cE_i {S : Type} {r : Int32} {Q2 : S → Prop} {wc : va_W} {w1 : S → va_W} (hr : va_Run p l e R s m args below meth c H locs cells slots 0 0 (F0 m pc ls st0) rest (va_Qi (fun r' u => r' = r ∧ Q2 u) (fun u t => va_P D cl (w1 u) t.heap) (va_A wc H.size) ar) (va_A wc H.size)) (hP : va_P D cl wc H) (hD : va_D A0 wc) (hS : va_S A0 H0 H locs) (hA : ∀ q, H0.size ≤ q → A0 q) (he : ∀ u, (w1 u).map (fun q => q.1) = wc.map (fun q => q.1))
    (kk : ∀ (u : S) (H1 : Heap) (locs1 : List Loc), Q2 u → va_P D cl (w1 u) H1 → va_D A0 (w1 u) → va_S A0 H0 H1 locs1 → W p l e R s m args below meth c H1 locs1 cells slots Q (F0 m (pc + 3) ls (.int r :: rest))) : W p l e R s m args below meth c H locs cells slots Q (F0 m pc ls st0) := by
  have hF : ∀ q, va_A wc H.size q → A0 q := F_mid (wl := []) (wr := []) (by rw [List.nil_append, List.append_nil]; exact hD) hS hA
  exact va_calli hr hS (fun q _ h => hF q h) hF (fun r' u t H1 locs1 ht hvm hq hB hz hk hS1 => by rw [hq.1]; exact kk u H1 locs1 hq.2 (by rw [← ht]; exact hB) (D_addr hD (he u)) hS1)
theorem cE_l {S : Type} {r : Int64} {Q2 : S → Prop} {wc : va_W} {w1 : S → va_W} (hr : va_Run p l e R s m args below meth c H locs cells slots 0 0 (F0 m pc ls st0) rest (va_Ql (fun r' u => r' = r ∧ Q2 u) (fun u t => va_P D cl (w1 u) t.heap) (va_A wc H.size) ar) (va_A wc H.size)) (hP : va_P D cl wc H) (hD : va_D A0 wc) (hS : va_S A0 H0 H locs) (hA : ∀ q, H0.size ≤ q → A0 q) (he : ∀ u, (w1 u).map (fun q => q.1) = wc.map (fun q => q.1))
    (kk : ∀ (u : S) (H1 : Heap) (locs1 : List Loc), Q2 u → va_P D cl (w1 u) H1 → va_D A0 (w1 u) → va_S A0 H0 H1 locs1 → W p l e R s m args below meth c H1 locs1 cells slots Q (F0 m (pc + 3) ls (.long r :: rest))) : W p l e R s m args below meth c H locs cells slots Q (F0 m pc ls st0) := by
  have hF : ∀ q, va_A wc H.size q → A0 q := F_mid (wl := []) (wr := []) (by rw [List.nil_append, List.append_nil]; exact hD) hS hA
  exact va_calll hr hS (fun q _ h => hF q h) hF (fun r' u t H1 locs1 ht hvm hq hB hz hk hS1 => by rw [hq.1]; exact kk u H1 locs1 hq.2 (by rw [← ht]; exact hB) (D_addr hD (he u)) hS1)
end LONGS
abbrev Ev (l : Launch) (y : MethodName) (ws : List Cond) (fr lo mc ms : Nat) (as : List Value) (g : GG) (w : va_W) (sz : Nat) (ma : Nat → Nat) (P : PT) (Q : ST → Prop) : Prop := Met l y ws ⟨fr, mc, ms, lo⟩ (PreW as g w sz) (va_Qv Q (fun u t => va_P g.1 vwCl (wM g ma P u) t.heap) (va_A w sz)) mc ms (va_A w sz)
abbrev Ei (l : Launch) (y : MethodName) (ws : List Cond) (fr lo mc ms : Nat) (as : List Value) (g : GG) (w : va_W) (sz : Nat) (ma : Nat → Nat) (P : PT) (r : Int32) (Q : ST → Prop) : Prop := Met l y ws ⟨fr, mc, ms, lo⟩ (PreW as g w sz) (va_Qi (fun r' u => r' = r ∧ Q u) (fun u t => va_P g.1 vwCl (wM g ma P u) t.heap) (va_A w sz)) mc ms (va_A w sz)
abbrev El (l : Launch) (y : MethodName) (ws : List Cond) (fr lo mc ms : Nat) (as : List Value) (g : GG) (w : va_W) (sz : Nat) (ma : Nat → Nat) (P : PT) (r : Int64) (Q : ST → Prop) : Prop := Met l y ws ⟨fr, mc, ms, lo⟩ (PreW as g w sz) (va_Ql (fun r' u => r' = r ∧ Q u) (fun u t => va_P g.1 vwCl (wM g ma P u) t.heap) (va_A w sz)) mc ms (va_A w sz)
/-! sorted rows with a new one put in -/
def ixK (K : Nat → Nat) (n q : Nat) : Nat := match lst (fun i => decide (K i < q)) n with
  | none => 0
  | some i => i + 1
theorem ixK_ok {K : Nat → Nat} {n q : Nat} (hso : ∀ i j, i < j → j < n → K i < K j) : ixK K n q ≤ n ∧ (∀ j, j < ixK K n q → K j < q) ∧ (∀ j, ixK K n q ≤ j → j < n → q ≤ K j) := by
  unfold ixK
  cases h : lst (fun i => decide (K i < q)) n with
  | none =>
    refine ⟨Nat.zero_le _, fun j hj => absurd hj (Nat.not_lt_zero _), fun j _ hj => ?_⟩
    have := of_decide_eq_false (lst_none h j hj)
    omega
  | some i =>
    obtain ⟨h1, h2⟩ := lst_some h
    have h2 := of_decide_eq_true h2
    refine ⟨h1, fun j hj => ?_, fun j h0 hj => ?_⟩
    · rcases Nat.lt_or_ge j i with z | z
      · exact Nat.lt_trans (hso j i z h1) h2
      · have hj : j < i + 1 := hj
        rw [show j = i by omega]
        exact h2
    · have h0 : i + 1 ≤ j := h0
      have := of_decide_eq_false (lst_last h j (by omega) hj)
      omega
/-- a new one at i of a row of n -/
def insA {α : Type} (f : Nat → α) (i n : Nat) (x : α) : Nat → α := va_up (shf f i n) i x
theorem insA_at {α : Type} {f : Nat → α} {i n : Nat} {x : α} (k : Nat) : insA f i n x k = if k = i then x else if i < k ∧ k ≤ n then f (k - 1) else f k := rfl
theorem insA_i {α : Type} {f : Nat → α} {i n : Nat} {x : α} : insA f i n x i = x := by rw [insA_at, if_pos rfl]
theorem insA_lo {α : Type} {f : Nat → α} {i n k : Nat} {x : α} (h : k < i) : insA f i n x k = f k := by rw [insA_at, if_neg (by omega), if_neg (by omega)]
theorem insA_hi {α : Type} {f : Nat → α} {i n k : Nat} {x : α} (h : i < k) (h2 : k ≤ n) : insA f i n x k = f (k - 1) := by rw [insA_at, if_neg (by omega), if_pos ⟨h, h2⟩]
theorem insA_sorted {K : Nat → Nat} {i n q : Nat} (hso : ∀ i j, i < j → j < n → K i < K j) (hi : i ≤ n) (h1 : ∀ j, j < i → K j < q) (h2 : ∀ j, i ≤ j → j < n → q < K j) : ∀ a b, a < b → b < n + 1 → insA K i n q a < insA K i n q b := by
  intro j k hjk hk
  rw [insA_at, insA_at]
  by_cases a1 : j = i
  · rw [if_pos a1, if_neg (by omega), if_pos (by omega)]
    exact h2 _ (by omega) (by omega)
  · rw [if_neg a1]
    by_cases a2 : k = i
    · rw [if_pos a2, if_neg (by omega)]
      exact h1 j (by omega)
    · rw [if_neg a2]
      by_cases a3 : i < j
      · rw [if_pos (by omega), if_pos (by omega)]
        exact hso _ _ (by omega) (by omega)
      · rw [if_neg (by omega)]
        by_cases a4 : i < k
        · rw [if_pos (by omega)]
          rcases Nat.lt_or_ge j (k - 1) with z | z
          · exact hso _ _ z (by omega)
          · omega
        · rw [if_neg (by omega)]
          exact hso _ _ hjk (by omega)
theorem insA_mem {α β : Type} {K : Nat → α} {V : Nat → β} {i n : Nat} {q : α} {v : β} (hi : i ≤ n) (P : α → β → Prop) : (∃ k, k < n + 1 ∧ P (insA K i n q k) (insA V i n v k)) ↔ (∃ k, k < n ∧ P (K k) (V k)) ∨ P q v := by
  constructor
  · rintro ⟨k, hk, h⟩
    rw [insA_at, insA_at] at h
    by_cases a1 : k = i
    · rw [if_pos a1, if_pos a1] at h
      exact Or.inr h
    · rw [if_neg a1, if_neg a1] at h
      by_cases a2 : i < k ∧ k ≤ n
      · rw [if_pos a2, if_pos a2] at h
        exact Or.inl ⟨k - 1, by omega, h⟩
      · rw [if_neg a2, if_neg a2] at h
        exact Or.inl ⟨k, by omega, h⟩
  · rintro (⟨k, hk, h⟩ | h)
    · rcases Nat.lt_or_ge k i with z | z
      · refine ⟨k, by omega, ?_⟩
        rw [insA_lo z, insA_lo z]
        exact h
      · refine ⟨k + 1, by omega, ?_⟩
        rw [insA_hi (by omega) (by omega), insA_hi (by omega) (by omega)]
        exact h
    · refine ⟨i, by omega, ?_⟩
      rw [insA_i, insA_i]
      exact h
/-- rows n, K, V stand sorted by K and hold what M says -/
def Srt (n : Nat) (K V : Nat → Nat) (M : Nat → Nat → Prop) : Prop := (∀ i j, i < j → j < n → K i < K j) ∧ ∀ a b, (∃ i, i < n ∧ K i = a ∧ V i = b) ↔ M a b
theorem Srt.uniq {n m : Nat} {K V K2 V2 : Nat → Nat} {M : Nat → Nat → Prop} (h : Srt n K V M) (h2 : Srt m K2 V2 M) : n = m ∧ ∀ i, i < n → K i = K2 i ∧ V i = V2 i := by
  have inj : ∀ {n : Nat} {K V : Nat → Nat}, Srt n K V M → ∀ i j, i < n → j < n → K i = K j → i = j := by
    intro n K V h i j hi hj e
    rcases Nat.lt_trichotomy i j with z | z | z
    · have := h.1 i j z hj; omega
    · exact z
    · have := h.1 j i z hi; omega
  have key : ∀ i, (i < n → i < m ∧ K i = K2 i ∧ V i = V2 i) ∧ (i < m → i < n) := by
    intro i
    induction i using Nat.strongRecOn with
    | ind i ih =>
      have fwd : i < n → ∃ k, k < m ∧ K2 k = K i ∧ V2 k = V i ∧ i ≤ k := by
        intro hi
        obtain ⟨k, hk, e1, e2⟩ := (h2.2 (K i) (V i)).mpr ((h.2 (K i) (V i)).mp ⟨i, hi, rfl, rfl⟩)
        refine ⟨k, hk, e1, e2, ?_⟩
        rcases Nat.lt_or_ge k i with z | z
        · have hkn := (ih k z).2 hk
          have := ((ih k z).1 hkn).2.1
          have := h.1 k i z hi
          omega
        · exact z
      have bwd : i < m → ∃ k, k < n ∧ K k = K2 i ∧ V k = V2 i ∧ i ≤ k := by
        intro hi
        obtain ⟨k, hk, e1, e2⟩ := (h.2 (K2 i) (V2 i)).mpr ((h2.2 (K2 i) (V2 i)).mp ⟨i, hi, rfl, rfl⟩)
        refine ⟨k, hk, e1, e2, ?_⟩
        rcases Nat.lt_or_ge k i with z | z
        · have := ((ih k z).1 hk).2.1
          have := h2.1 k i z hi
          omega
        · exact z
      constructor
      · intro hi
        obtain ⟨k, hk, e1, e2, hik⟩ := fwd hi
        have him : i < m := by omega
        obtain ⟨k2, hk2, e3, e4, hik2⟩ := bwd him
        have hki : k = i := by
          rcases Nat.lt_or_ge i k with z | z
          · have a1 := h2.1 i k z hk
            rcases Nat.lt_or_ge i k2 with z2 | z2
            · have a2 := h.1 i k2 z2 hk2
              omega
            · have : k2 = i := by omega
              subst this
              omega
          · omega
        subst hki
        exact ⟨hk, e1.symm, e2.symm⟩
      · intro hi
        obtain ⟨k2, hk2, -, -, hik2⟩ := bwd hi
        omega
  refine ⟨?_, fun i hi => ((key i).1 hi).2⟩
  rcases Nat.lt_trichotomy n m with z | z | z
  · have := (key n).2 z; omega
  · exact z
  · have := ((key m).1 z).1; omega
theorem Srt.ins {n : Nat} {K V : Nat → Nat} {M : Nat → Nat → Prop} {q v : Nat} (h : Srt n K V M) (hf : ∀ b, ¬ M q b) : (ixK K n q ≤ n ∧ (∀ j, j < ixK K n q → K j < q) ∧ (∀ j, ixK K n q ≤ j → j < n → q < K j)) ∧ Srt (n + 1) (insA K (ixK K n q) n q) (insA V (ixK K n q) n v) (fun a b => M a b ∨ (a = q ∧ b = v)) := by
  obtain ⟨h1, h2, h3⟩ := ixK_ok (q := q) h.1
  have h4 : ∀ j, ixK K n q ≤ j → j < n → q < K j := by
    intro j hj hn
    have := h3 j hj hn
    rcases Nat.lt_or_ge q (K j) with z | z
    · exact z
    · exact absurd ((h.2 q (V j)).mp ⟨j, hn, by omega, rfl⟩) (hf _)
  refine ⟨⟨h1, h2, h4⟩, insA_sorted h.1 h1 h2 h4, fun a b => ?_⟩
  rw [insA_mem h1 (fun x y => x = a ∧ y = b), h.2 a b]
  constructor
  · rintro (z | z)
    · exact Or.inl z
    · exact Or.inr ⟨z.1.symm, z.2.symm⟩
  · rintro (z | z)
    · exact Or.inl z
    · exact Or.inr ⟨z.1.symm, z.2.symm⟩
/-- the key of a point: twice its hour, one more for an emptying -/
def kyS (H : Nat → Nat) (E : Nat → Bool) (k : Nat) : Nat := 2 * H k + (if E k = true then 1 else 0)
theorem kyS_ins {H : Nat → Nat} {E : Nat → Bool} {i n h : Nat} {e : Bool} : kyS (insA H i n h) (insA E i n e) = insA (kyS H E) i n (2 * h + (if e = true then 1 else 0)) := by
  funext k
  unfold kyS
  rw [insA_at, insA_at, insA_at]
  by_cases a1 : k = i
  · rw [if_pos a1, if_pos a1, if_pos a1]
  · rw [if_neg a1, if_neg a1, if_neg a1]
    by_cases a2 : i < k ∧ k ≤ n
    · rw [if_pos a2, if_pos a2, if_pos a2]
    · rw [if_neg a2, if_neg a2, if_neg a2]
theorem shf_lo {α : Type} {f : Nat → α} {i n k : Nat} (h : k ≤ i) : shf f i n k = f k := by
  unfold shf
  rw [if_neg (by omega)]
/-- a scratch with a point placed at i -/
def plS (S : ST) (i h v : Nat) (e : Bool) : ST := usN (usE (usS (usH S (insA (sH S) i (sN S) h)) (insA (sS S) i (sN S) v)) (insA (sE S) i (sN S) e)) (sN S + 1)
/-- how many below n -/
def cnt (P : Nat → Bool) : Nat → Nat
  | 0 => 0
  | n + 1 => cnt P n + (if P n = true then 1 else 0)
theorem cnt_congr {P Q : Nat → Bool} : ∀ {n : Nat}, (∀ i, i < n → P i = Q i) → cnt P n = cnt Q n
  | 0, _ => rfl
  | n + 1, h => by rw [cnt, cnt, cnt_congr (fun i hi => h i (by omega)), h n (by omega)]
theorem cnt_ins {P : Nat → Bool} {i : Nat} {x : Bool} : ∀ {n : Nat}, i ≤ n → cnt (insA P i n x) (n + 1) = cnt P n + (if x = true then 1 else 0)
  | 0, h => by
    have e : i = 0 := by omega
    subst e
    show 0 + (if insA P 0 0 x 0 = true then 1 else 0) = 0 + _
    rw [insA_i]
  | n + 1, h => by
    rw [cnt]
    by_cases a : i = n + 1
    · have e1 : cnt (insA P i (n + 1) x) (n + 1) = cnt P (n + 1) := cnt_congr (fun k hk => insA_lo (by omega))
      have e2 : insA P i (n + 1) x (n + 1) = x := by rw [← a]; exact insA_i
      rw [e1, e2]
    · have e1 : cnt (insA P i (n + 1) x) (n + 1) = cnt (insA P i n x) (n + 1) := cnt_congr (fun k hk => by
        rcases Nat.lt_trichotomy k i with z | z | z
        · rw [insA_lo z, insA_lo z]
        · subst z; rw [insA_i, insA_i]
        · rw [insA_hi z (by omega), insA_hi z (by omega)])
      have e2 : insA P i (n + 1) x (n + 1) = P n := insA_hi (by omega) (by omega)
      rw [e1, e2, cnt_ins (n := n) (by omega), cnt]
      omega
/-- a bin of the two sides holds the same -/
def RelB (b : BinT) (j : Nat) (P : PT) : Prop := (aSt P j = bSt b ∧ aRm P j = bRm b ∧ aRc P j = bR b ∧ aEc P j = bN b - bR b) ∧
  (∀ r, r < bR b → ∃ k, k < bN b ∧ bPl b k = 2 * aRh P (24 * j + r) ∧ bAm b k = aRs P (24 * j + r)) ∧
  (∀ e, e < bN b - bR b → ∃ k, k < bN b ∧ bPl b k = 2 * aEh P (8 * j + e) + 1 ∧ bAm b k = aKg P (8 * j + e)) ∧
  (∀ k, k < bN b → (∃ r, r < bR b ∧ bPl b k = 2 * aRh P (24 * j + r)) ∨ ∃ e, e < bN b - bR b ∧ bPl b k = 2 * aEh P (8 * j + e) + 1) ∧
  (∀ r q, r < q → q < bR b → aRh P (24 * j + r) ≠ aRh P (24 * j + q)) ∧ (∀ r q, r < q → q < bN b - bR b → aEh P (8 * j + r) ≠ aEh P (8 * j + q)) ∧
  cnt (fun i => !rowB b i) (bN b) = bN b - bR b
def Rel (x : FT) (P : PT) : Prop := pB P = (xB x).length ∧ (∀ j b, (xB x)[j]? = some b → RelB b j P) ∧ aHo P = xH x ∧ (∀ a, a < 8 → xW x a = wtP (pO P) (pU P) a 7) ∧ pQ P = xQ x ∧ pE P = xE x ∧ pL P = xL x
/-- a scratch that lays a bin out -/
def Lay (b : BinT) (S : ST) : Prop := sN S = bN b ∧ ∀ k, k < bN b → sH S k = hrB b k ∧ sS S k = shB b k ∧ sE S k = !rowB b k ∧ sW S k = bWr b k ∧ sG S k = bGn b k
/-- what a layout has put after r rows and e emptyings -/
def Mrow (P : PT) (j r : Nat) : Nat → Nat → Prop := fun a b => ∃ k, k < r ∧ a = 2 * aRh P (24 * j + k) ∧ b = aRs P (24 * j + k)
def Memp (P : PT) (j r e : Nat) : Nat → Nat → Prop := fun a b => Mrow P j r a b ∨ ∃ k, k < e ∧ a = 2 * aEh P (8 * j + k) + 1 ∧ b = 0
theorem RelB.srt {b : BinT} {j : Nat} {P : PT} (hb : Bok b) (h : RelB b j P) : Srt (bN b) (bPl b) (shB b) (Memp P j (bR b) (bN b - bR b)) := by
  obtain ⟨-, h1, h2, h3, -⟩ := h
  refine ⟨hb.1.2.2.1, fun a v => ⟨?_, ?_⟩⟩
  · rintro ⟨k, hk, rfl, rfl⟩
    rcases h3 k hk with ⟨r, hr, e⟩ | ⟨r, hr, e⟩
    · refine Or.inl ⟨r, hr, e, ?_⟩
      obtain ⟨k2, hk2, e2, e3⟩ := h1 r hr
      have hkk : k2 = k := by
        rcases Nat.lt_trichotomy k2 k with z | z | z
        · have := hb.1.2.2.1 k2 k z hk; omega
        · exact z
        · have := hb.1.2.2.1 k k2 z hk2; omega
      subst hkk
      unfold shB
      rw [if_pos (by omega), e3]
    · refine Or.inr ⟨r, hr, e, ?_⟩
      unfold shB
      rw [if_neg (by omega)]
  · rintro (⟨r, hr, rfl, rfl⟩ | ⟨r, hr, rfl, rfl⟩)
    · obtain ⟨k2, hk2, e2, e3⟩ := h1 r hr
      refine ⟨k2, hk2, e2, ?_⟩
      unfold shB
      rw [if_pos (by omega), e3]
    · obtain ⟨k2, hk2, e2, e3⟩ := h2 r hr
      refine ⟨k2, hk2, e2, ?_⟩
      unfold shB
      rw [if_neg (by omega)]
/-- the laid-out rows are the bin's own -/
theorem lay_of {b : BinT} {S : ST} (h : sN S = bN b ∧ ∀ k, k < sN S → kyS (sH S) (sE S) k = bPl b k ∧ sS S k = shB b k) : ∀ k, k < bN b → sH S k = hrB b k ∧ sS S k = shB b k ∧ sE S k = !rowB b k := by
  intro k hk
  obtain ⟨e1, e2⟩ := h.2 k (by omega)
  unfold kyS at e1
  unfold hrB rowB
  cases hE : sE S k with
  | true =>
    rw [hE, if_pos rfl] at e1
    refine ⟨by omega, e2, ?_⟩
    rw [decide_eq_false (by omega)]
    rfl
  | false =>
    rw [hE, if_neg (by decide)] at e1
    refine ⟨by omega, e2, ?_⟩
    rw [decide_eq_true (by omega)]
    rfl
theorem Lay.mk {b : BinT} {S : ST} (hb : Bok b) (hn : sN S = bN b) (h : ∀ k, k < bN b → sH S k = hrB b k ∧ sS S k = shB b k ∧ sE S k = !rowB b k) (hw : ∀ k, k < bN b → sW S k = wrgF b (bef b k) k) (hg : ∀ k, k < bN b → sG S k = gnF b (bef b k) k) : Lay b S :=
  ⟨hn, fun k hk => ⟨(h k hk).1, (h k hk).2.1, (h k hk).2.2, by rw [hw k hk, hb.2.1 k hk], by rw [hg k hk, hb.2.2.1 k hk]⟩⟩
theorem isBin_n {x : FT} {P : PT} {k : Int32} (h8 : (xB x).length ≤ 8) (h : binAt (xB x) k = none) : k < 0 ∨ nI (xB x).length ≤ k := by
  rcases pk_ix k (n := (xB x).length) (by omega) with q | q | ⟨j, hj, q⟩
  · exact Or.inl q
  · exact Or.inr q
  · subst q
    unfold binAt at h
    rw [if_pos (nI_pos' (by omega)), nI_clamp (by omega), List.getElem?_eq_getElem hj] at h
    cases h
