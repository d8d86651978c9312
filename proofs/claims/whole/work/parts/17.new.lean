/-! making: rows of numbers, objects by their constructors -/
theorem ra_i {U : State} {c : ClassId} (h : va_RA U c .int) : U.vm.findClass ("[" ++ FieldType.int.toString) = some c := h
theorem ra_z {U : State} {c : ClassId} (h : va_RA U c .boolean) : U.vm.findClass ("[" ++ FieldType.boolean.toString) = some c := h
theorem ra_l {U : State} {c : ClassId} (h : va_RA U c .long) : U.vm.findClass ("[" ++ FieldType.long.toString) = some c := h
theorem ra_o {C : String} {U : State} {c : ClassId} (h : va_RA U c (.object C)) : U.vm.findClass ("[" ++ (FieldType.object C).toString) = some c := by
  obtain ⟨_, _, _, _, _, h⟩ := h
  exact h
section MAKE
variable {p : Program} {l : Launch} {e : Env} {R : Room} {s : State} {m : MethodId} {args : Array Value} {below : List Frame} {meth : Method} {c : Code} {H : Heap} {locs : List Loc} {cells slots : Nat} {Q : State → Prop}
variable {cc : ByteArray} {pc : Nat} {ls : Array Slot} {rest st0 : List Value} {D : va_G} {cl : List vw_C} {tys : List (ClassId × FieldType)} {ws : va_W} {A : Nat → Prop} {H0 : Heap} {a : Array Value}
theorem n_newa (hexec : p.tables.exec = Jvm.exec) (hb : c.code = cc) {atype : ArrayType} {ty : FieldType} (hty : newarray.typeOf atype = ty) (harr : (Cond.arrayClass (newarray.typeOf atype)).before args s = true) (hK : va_K D cl tys s) (hP : va_P D cl ws H) (hD : va_D A ws) (hS : va_S A H0 H locs) (hA : ∀ q, H0.size ≤ q → A q)
    {N : Nat} {a0 : vp_A} (t0 : Nat) {c0 : ClassId} (ht : tys[t0]? = some (c0, ty)) (hra : ∀ {U : State} {c : ClassId}, va_RA U c ty → U.vm.findClass ("[" ++ ty.toString) = some c) (ha : ∀ cA : ClassId, vp_cell cA a0 = arrV cA N (fun _ => defaultValue ty)) (hN : N < 2 ^ 31) (hbytes : N * componentBytes ty ≤ 536870912) (hcells : cells + 1 ≤ R.cells) (hslots : slots + N ≤ R.slots) (hdg : decode cc pc = .ok (.newarray atype, 2))
    (kk : ∀ (q : Nat) (H1 : Heap), va_P D cl (ws ++ [(q, .inl (c0, a0))]) H1 → va_D A (ws ++ [(q, .inl (c0, a0))]) → va_S A H0 H1 locs → W p l e R s m args below meth c H1 locs (cells + 1) (slots + N) Q (F0 m (pc + 2) ls (.ref q :: rest))) : W p l e R s m args below meth c H locs cells slots Q (F0 m pc ls (.int (nI N) :: rest)) :=
  va_newa hexec hb harr hty hK hP hD hS hA ha (nI_pos hN) (nI_clamp hN) hbytes hcells hslots hdg (fun q cA H1 hK1 hP1 hD1 hS1 => by
    have e : cA = c0 := by
      have h1 := hra (hK.2 t0 _ ht).2
      have h2 := hra (hK1.2 tys.length (cA, ty) (by rw [List.getElem?_append_right (Nat.le_refl _), Nat.sub_self]; rfl)).2
      exact Option.some.inj (h2.symm.trans h1)
    subst e
    exact kk q H1 hP1 hD1 hS1)
theorem n_newq (hexec : p.tables.exec = Jvm.exec) (hb : c.code = cc) {own C : String} {index : Nat} (hown : s.vm.findClass own = some m.cls) (hclink : (Cond.classLink own index C).before args s = true) (hover : va_AO C s) (hK : va_K D cl tys s) (hP : va_P D cl ws H) (hD : va_D A ws) (hS : va_S A H0 H locs) (hA : ∀ q, H0.size ≤ q → A q)
    {N : Nat} (t0 : Nat) {c0 : ClassId} (ht : tys[t0]? = some (c0, .object C)) (hN : N < 2 ^ 31) (hbytes : N * 4 ≤ 536870912) (hcells : cells + 1 ≤ R.cells) (hslots : slots + N ≤ R.slots) (hdg : decode cc pc = .ok (.anewarray index, 3))
    (kk : ∀ (q : Nat) (H1 : Heap), va_P D cl (ws ++ [(q, .inl (c0, N, .inr (.inr (.inr (.inr (fun _ => none))))))]) H1 → va_D A (ws ++ [(q, .inl (c0, N, .inr (.inr (.inr (.inr (fun _ => none))))))]) → va_S A H0 H1 locs → W p l e R s m args below meth c H1 locs (cells + 1) (slots + N) Q (F0 m (pc + 3) ls (.ref q :: rest))) : W p l e R s m args below meth c H locs cells slots Q (F0 m pc ls (.int (nI N) :: rest)) :=
  va_newq hexec hb hown hclink hover hK hP hD hS hA (nI_pos hN) (nI_clamp hN) hbytes hcells hslots hdg (fun q cA H1 hK1 hP1 hD1 hS1 => by
    have e : cA = c0 := by
      have h1 := ra_o (hK.2 t0 _ ht).2
      have h2 := ra_o (hK1.2 tys.length (cA, .object C) (by rw [List.getElem?_append_right (Nat.le_refl _), Nat.sub_self]; rfl)).2
      exact Option.some.inj (h2.symm.trans h1)
    subst e
    exact kk q H1 hP1 hD1 hS1)
theorem cN_v {A0 : Nat → Prop} {wl wc wr : va_W} {w1 : (Nat → Nat) → va_W} {q mc ms : Nat} (hr : va_Run p l e R s m args below meth c H locs cells slots mc ms (F0 m pc ls st0) rest (va_Qv (fun u : Nat → Nat => u 0 = q) (fun u t => va_P D cl (w1 u) t.heap ∧ va_D (va_A wc H.size) (w1 u)) (va_A wc H.size) a) (va_A wc H.size)) (hP : va_P D cl (wl ++ (wc ++ wr)) H) (hD : va_D A0 (wl ++ (wc ++ wr))) (hS : va_S A0 H0 H locs) (hA : ∀ q, H0.size ≤ q → A0 q)
    (kk : ∀ (u : Nat → Nat) (H1 : Heap) (locs1 : List Loc), u 0 = q → va_P D cl (wl ++ (w1 u ++ wr)) H1 → va_D A0 (wl ++ (w1 u ++ wr)) → va_S A0 H0 H1 locs1 → W p l e R s m args below meth c H1 locs1 (cells + mc) (slots + ms) Q (F0 m (pc + 3) ls rest)) : W p l e R s m args below meth c H locs cells slots Q (F0 m pc ls st0) :=
  va_callv hr hS (fun q _ h => F_mid hD hS hA q h) (F_mid hD hS hA) (fun u t H1 locs1 ht hvm hu hB hz hk hS1 => by
    obtain ⟨hP2, hD2⟩ := jn3 hP hD hk (F_mid hD hS hA) (by rw [← ht]; exact hB.1) hB.2
    exact kk u H1 locs1 hu hP2 hD2 hS1)
end MAKE
theorem D_perm {A : Nat → Prop} {w1 w2 : va_W} (h : va_D A w1) (hp : w2.Perm w1) : va_D A w2 := by
  rw [D_mem] at h ⊢
  exact ⟨(hp.map _).nodup_iff.mpr h.1, fun q hq => h.2 q (hp.mem_iff.mp hq)⟩
theorem P_perm {D : va_G} {cl : List vw_C} {H : Heap} {w1 w2 : va_W} (h : va_P D cl w1 H) (hp : w2.Perm w1) : va_P D cl w2 H := P_sub h (fun _ hq => hp.mem_iff.mp hq)
abbrev Nv (l : Launch) (y : MethodName) (ws : List Cond) (fr lo mc ms : Nat) (as : List Value) (g : GG) (w : va_W) (sz q : Nat) (w1 : (Nat → Nat) → va_W) : Prop := Met l y ws ⟨fr, mc, ms, lo⟩ (PreW as g w sz) (va_Qv (fun u : Nat → Nat => u 0 = q) (fun u t => va_P g.1 vwCl (w1 u) t.heap ∧ va_D (va_A w sz) (w1 u)) (va_A w sz)) mc ms (va_A w sz)
def ad (l : List Nat) : Nat → Nat := fun k => l.getD k 0
def newB (u : Nat → Nat) (st rm : Nat) : BinT := (u, (st, rm, 0, 0), fun _ => 0, fun _ => 0, fun _ => false, fun _ => some 0)
def newX (u ca fa oa : Nat → Nat) : FT := ((u, ca, fa, oa), fun _ => false, wtU 1 2 (fun _ => 0) 8, fun _ => 0, fun _ => 0, (72, 1, 1), [])
/-- one more bin -/
def binS (x : FT) (k d : Int32) (u : Nat → Nat) : Int32 × FT := if 8 ≤ (xB x).length then (-1, x) else match inL 0 3 k with
  | none => (-1, x)
  | some st => match inL 1 10000 d with
    | none => (-1, x)
    | some rm => (nI (xB x).length, xsB x (xB x ++ [newB u st rm]))
abbrev Nx (l : Launch) (y : MethodName) (ws : List Cond) (fr lo mc ms : Nat) (as : List Value) (g : GG) (w : va_W) (sz q : Nat) : Prop := Met l y ws ⟨fr, mc, ms, lo⟩ (PreW as g w sz) (va_Qv (fun u : FT => xA u 0 = q ∧ ∃ ua ca fa oa, u = newX ua ca fa oa) (fun u t => va_P g.1 vwCl (wX g u) t.heap ∧ va_D (va_A w sz) (wX g u)) (va_A w sz)) mc ms (va_A w sz)
/-- the object's own two cells, with another count and another row of bins -/
def wXk (g : GG) (x : FT) (n : Nat) (f : Nat → Option Nat) : va_W := [(xA x 0, .inr (4, [.ref (xC x 0), .ref (xF x 0), .ref (xO x 0), .ref (xA x 1), .int (nI (n)), .int (nI (xQ x)), .int (nI (xE x)), .int (nI (xL x))])), (xA x 1, .inl (g.2 2, 8, .inr (.inr (.inr (.inr f)))))]
theorem wXk_eq {g : GG} {x : FT} : wXk g x (xB x).length (bRef (xB x)) = wXh g x := rfl
theorem bRef_push {l : List BinT} {b : BinT} : va_up (bRef l) l.length (some (bA b 0)) = bRef (l ++ [b]) := by
  funext k
  unfold va_up bRef
  by_cases h : k = l.length
  · subst h
    rw [if_pos rfl, List.getElem?_append_right (Nat.le_refl _), Nat.sub_self]
    rfl
  · rw [if_neg h]
    rcases Nat.lt_or_ge k l.length with z | z
    · rw [List.getElem?_append_left z]
    · rw [List.getElem?_eq_none z, List.getElem?_eq_none (by rw [List.length_append]; show l.length + 1 ≤ k; omega)]
theorem wX_push {g : GG} {x : FT} {b : BinT} : (wX g (xsB x (xB x ++ [b]))).Perm (wB g b ++ (wXk g x ((xB x).length + 1) (va_up (bRef (xB x)) (xB x).length (some (bA b 0))) ++ (wF g (xF x) (xW x) ++ (wO g (xO x) (xR x) (xS x) ++ (wC g (xC x) (xH x) ++ bw g (xB x)))))) := by
  have e1 : bw g (xB x ++ [b]) = bw g (xB x) ++ wB g b := by
    unfold bw
    rw [List.flatMap_append, List.flatMap_cons, List.flatMap_nil, List.append_nil]
  have e2 : wXh g (xsB x (xB x ++ [b])) = wXk g x ((xB x).length + 1) (va_up (bRef (xB x)) (xB x).length (some (bA b 0))) := by
    have hl : (xB x).length + 1 = (xB x ++ [b]).length := by rw [List.length_append]; rfl
    rw [bRef_push, hl]
    rfl
  have e3 : wX g (xsB x (xB x ++ [b])) = (wXk g x ((xB x).length + 1) (va_up (bRef (xB x)) (xB x).length (some (bA b 0))) ++ (wF g (xF x) (xW x) ++ (wO g (xO x) (xR x) (xS x) ++ (wC g (xC x) (xH x) ++ bw g (xB x))))) ++ wB g b := by
    show wXh g (xsB x (xB x ++ [b])) ++ (wF g (xF x) (xW x) ++ (wO g (xO x) (xR x) (xS x) ++ (wC g (xC x) (xH x) ++ bw g (xB x ++ [b])))) = _
    rw [e1, e2]
    simp only [List.append_assoc]
  rw [e3]
  exact List.perm_append_comm
