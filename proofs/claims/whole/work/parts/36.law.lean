/-! the law: calls on either side of its world; what holds at each turn -/
section LAWB
variable {p : Program} {l : Launch} {e : Env} {R : Room} {s : State} {m : MethodId} {args : Array Value} {below : List Frame} {meth : Method} {c : Code} {H : Heap} {locs : List Loc} {cells slots : Nat} {Q : State → Prop}
variable {cc : ByteArray} {pc : Nat} {ls : Array Slot} {rest st0 : List Value} {a : Array Value} {A0 : Nat → Prop} {H0 : Heap} {D : va_G} {cl : List vw_C} {wl wc wr : va_W} {mc ms : Nat}
theorem cL_i {S : Type} {post : Int32 → S → Prop} {w1 : S → va_W} (hr : va_Run p l e R s m args below meth c H locs cells slots mc ms (F0 m pc ls st0) rest (va_Qi post (fun u t => va_P D cl (w1 u) t.heap ∧ va_D (va_A wc H.size) (w1 u)) (va_A wc H.size) a) (va_A wc H.size)) (hP : va_P D cl (wc ++ wr) H) (hD : va_D A0 (wc ++ wr)) (hS : va_S A0 H0 H locs) (hA : ∀ q, H0.size ≤ q → A0 q)
    (kk : ∀ (r : Int32) (u : S) (H1 : Heap) (locs1 : List Loc), post r u → va_P D cl (w1 u ++ wr) H1 → va_D A0 (w1 u ++ wr) → va_S A0 H0 H1 locs1 → W p l e R s m args below meth c H1 locs1 (cells + mc) (slots + ms) Q (F0 m (pc + 3) ls (.int r :: rest))) : W p l e R s m args below meth c H locs cells slots Q (F0 m pc ls st0) :=
  va_calli hr hS (fun q _ h => F_mid (wl := []) hD hS hA q h) (F_mid (wl := []) hD hS hA) (fun r u t H1 locs1 ht hvm hp hB hz hk hS1 => by
    obtain ⟨hP2, hD2⟩ := jn3 (wl := []) hP hD hk (F_mid (wl := []) hD hS hA) (by rw [← ht]; exact hB.1) hB.2
    exact kk r u H1 locs1 hp hP2 hD2 hS1)
theorem cL_l {S : Type} {post : Int64 → S → Prop} {w1 : S → va_W} (hr : va_Run p l e R s m args below meth c H locs cells slots mc ms (F0 m pc ls st0) rest (va_Ql post (fun u t => va_P D cl (w1 u) t.heap ∧ va_D (va_A wc H.size) (w1 u)) (va_A wc H.size) a) (va_A wc H.size)) (hP : va_P D cl (wc ++ wr) H) (hD : va_D A0 (wc ++ wr)) (hS : va_S A0 H0 H locs) (hA : ∀ q, H0.size ≤ q → A0 q)
    (kk : ∀ (r : Int64) (u : S) (H1 : Heap) (locs1 : List Loc), post r u → va_P D cl (w1 u ++ wr) H1 → va_D A0 (w1 u ++ wr) → va_S A0 H0 H1 locs1 → W p l e R s m args below meth c H1 locs1 (cells + mc) (slots + ms) Q (F0 m (pc + 3) ls (.long r :: rest))) : W p l e R s m args below meth c H locs cells slots Q (F0 m pc ls st0) :=
  va_calll hr hS (fun q _ h => F_mid (wl := []) hD hS hA q h) (F_mid (wl := []) hD hS hA) (fun r u t H1 locs1 ht hvm hp hB hz hk hS1 => by
    obtain ⟨hP2, hD2⟩ := jn3 (wl := []) hP hD hk (F_mid (wl := []) hD hS hA) (by rw [← ht]; exact hB.1) hB.2
    exact kk r u H1 locs1 hp hP2 hD2 hS1)
theorem cL_v {S : Type} {post : S → Prop} {w1 : S → va_W} (hr : va_Run p l e R s m args below meth c H locs cells slots mc ms (F0 m pc ls st0) rest (va_Qv post (fun u t => va_P D cl (w1 u) t.heap ∧ va_D (va_A wc H.size) (w1 u)) (va_A wc H.size) a) (va_A wc H.size)) (hP : va_P D cl (wc ++ wr) H) (hD : va_D A0 (wc ++ wr)) (hS : va_S A0 H0 H locs) (hA : ∀ q, H0.size ≤ q → A0 q)
    (kk : ∀ (u : S) (H1 : Heap) (locs1 : List Loc), post u → va_P D cl (w1 u ++ wr) H1 → va_D A0 (w1 u ++ wr) → va_S A0 H0 H1 locs1 → W p l e R s m args below meth c H1 locs1 (cells + mc) (slots + ms) Q (F0 m (pc + 3) ls rest)) : W p l e R s m args below meth c H locs cells slots Q (F0 m pc ls st0) :=
  va_callv hr hS (fun q _ h => F_mid (wl := []) hD hS hA q h) (F_mid (wl := []) hD hS hA) (fun u t H1 locs1 ht hvm hp hB hz hk hS1 => by
    obtain ⟨hP2, hD2⟩ := jn3 (wl := []) hP hD hk (F_mid (wl := []) hD hS hA) (by rw [← ht]; exact hB.1) hB.2
    exact kk u H1 locs1 hp hP2 hD2 hS1)
theorem cM_i {S : Type} {post : Int32 → S → Prop} {w1 : S → va_W} (hr : va_Run p l e R s m args below meth c H locs cells slots 0 0 (F0 m pc ls st0) rest (va_Qi post (fun u t => va_P D cl (w1 u) t.heap) (va_A wc H.size) a) (va_A wc H.size)) (hP : va_P D cl (wl ++ wc) H) (hD : va_D A0 (wl ++ wc)) (hS : va_S A0 H0 H locs) (hA : ∀ q, H0.size ≤ q → A0 q) (he : ∀ u, (w1 u).map (fun q => q.1) = wc.map (fun q => q.1))
    (kk : ∀ (r : Int32) (u : S) (H1 : Heap) (locs1 : List Loc), post r u → va_P D cl (wl ++ w1 u) H1 → va_D A0 (wl ++ w1 u) → va_S A0 H0 H1 locs1 → W p l e R s m args below meth c H1 locs1 cells slots Q (F0 m (pc + 3) ls (.int r :: rest))) : W p l e R s m args below meth c H locs cells slots Q (F0 m pc ls st0) := by
  have hP3 : va_P D cl (wl ++ (wc ++ [])) H := by rw [List.append_nil]; exact hP
  have hD3 : va_D A0 (wl ++ (wc ++ [])) := by rw [List.append_nil]; exact hD
  exact va_calli hr hS (fun q _ h => F_mid hD3 hS hA q h) (F_mid hD3 hS hA) (fun r u t H1 locs1 ht hvm hp hB hz hk hS1 => by
    obtain ⟨hP2, hD2⟩ := jn3e hP3 hD3 hk (F_mid hD3 hS hA) (by rw [← ht]; exact hB) (he u)
    rw [List.append_nil] at hP2 hD2
    exact kk r u H1 locs1 hp hP2 hD2 hS1)
theorem cM_l {S : Type} {post : Int64 → S → Prop} {w1 : S → va_W} (hr : va_Run p l e R s m args below meth c H locs cells slots 0 0 (F0 m pc ls st0) rest (va_Ql post (fun u t => va_P D cl (w1 u) t.heap) (va_A wc H.size) a) (va_A wc H.size)) (hP : va_P D cl (wl ++ wc) H) (hD : va_D A0 (wl ++ wc)) (hS : va_S A0 H0 H locs) (hA : ∀ q, H0.size ≤ q → A0 q) (he : ∀ u, (w1 u).map (fun q => q.1) = wc.map (fun q => q.1))
    (kk : ∀ (r : Int64) (u : S) (H1 : Heap) (locs1 : List Loc), post r u → va_P D cl (wl ++ w1 u) H1 → va_D A0 (wl ++ w1 u) → va_S A0 H0 H1 locs1 → W p l e R s m args below meth c H1 locs1 cells slots Q (F0 m (pc + 3) ls (.long r :: rest))) : W p l e R s m args below meth c H locs cells slots Q (F0 m pc ls st0) := by
  have hP3 : va_P D cl (wl ++ (wc ++ [])) H := by rw [List.append_nil]; exact hP
  have hD3 : va_D A0 (wl ++ (wc ++ [])) := by rw [List.append_nil]; exact hD
  exact va_calll hr hS (fun q _ h => F_mid hD3 hS hA q h) (F_mid hD3 hS hA) (fun r u t H1 locs1 ht hvm hp hB hz hk hS1 => by
    obtain ⟨hP2, hD2⟩ := jn3e hP3 hD3 hk (F_mid hD3 hS hA) (by rw [← ht]; exact hB) (he u)
    rw [List.append_nil] at hP2 hD2
    exact kk r u H1 locs1 hp hP2 hD2 hS1)
theorem n_sld (hexec : p.tables.exec = Jvm.exec) (hb : c.code = cc) {b L k : Nat} {xs : Nat → Int32} (hX : va_X b L xs s H0) (hbl : b < H0.size) (hbA : ¬ A0 b) (hS : va_S A0 H0 H locs) (hk : k < L) (hL : L < 2 ^ 31) (hdg : decode cc pc = .ok (.iaload, 1))
    (kk : W p l e R s m args below meth c H locs cells slots Q (F0 m (pc + 1) ls (.int (xs k) :: rest))) : W p l e R s m args below meth c H locs cells slots Q (F0 m pc ls (.int (nI k) :: .ref b :: rest)) :=
  va_sld hexec hb hX hbl hbA hS (vp_in_nI hk hL) hdg (tp_i (by rw [nI_clamp (Nat.lt_trans hk hL)]) kk)
end LAWB
theorem xA_quiet {x : FT} {k : Int32} : xA (quietS x k).2 = xA x := by
  unfold quietS
  split <;> rfl
theorem xA_cost {x : FT} {k d : Int32} : xA (costS x k d).2 = xA x := by
  unfold costS
  split
  · rfl
  · split <;> rfl
theorem xA_hol {x : FT} {k : Int32} {on : Bool} : xA (holS x k on).2 = xA x := by
  unfold holS
  split <;> rfl
theorem xA_fade {x : FT} {k d : Int32} : xA (fadeS x k d).2 = xA x := by
  unfold fadeS
  split
  · rfl
  · split
    · rfl
    · split <;> rfl
theorem xA_row {row : Bool} {x : FT} {k t d : Int32} : xA (rowS row x k t d).2 = xA x := by
  unfold rowS
  split
  · rfl
  · split
    · rfl
    · split <;> rfl
theorem xA_bin {x : FT} {k d : Int32} {u : Nat → Nat} : xA (binS x k d u).2 = xA x := by
  unfold binS
  split
  · rfl
  · split
    · rfl
    · split <;> rfl
theorem xA_al {u x : FT} (h : alX u x) : xA u = xA x := by
  obtain ⟨r, v, rfl, -⟩ := h
  rfl
/-- the machine at the law -/
def LwC (RR : Room) (p : Program) (s : State) (m : MethodId) (c : Code) (b L : Nat) (xs : Nat → Int32) (g : GG) : Prop :=
  p.tables.exec = Jvm.exec ∧ c.code = code ∧ c.maxLocals = 4 ∧ s.vm.findClass RL = some m.cls ∧ (∀ w ∈ BIG, w.before #[Value.ref b] s = true) ∧ va_X b L xs s s.heap ∧ b < s.heap.size ∧ KK g s ∧ RR.frames = 9 ∧ RR.locals = 342 ∧ RR.cells = 600000 ∧ RR.slots = 7302250
/-- what holds at a turn -/
def LI (g : GG) (ma : Nat → Nat) (q1 : Nat) (H0 : Heap) (x : FT) (P : PT) (S : ST) (H : Heap) (locs : List Loc) : Prop :=
  (Sok x ∧ Rel x P ∧ Rel0 P ∧ sM S 0 = 0) ∧ xA x 0 = q1 ∧ va_P g.1 vwCl (wX g x ++ wM g ma P S) H ∧ va_D (fun q : Nat => H0.size ≤ q) (wX g x ++ wM g ma P S) ∧ va_S (fun q : Nat => H0.size ≤ q) H0 H locs
/-- the goal behind a turn's calls -/
def LN (p : Program) (l : Launch) (e : Env) (RR : Room) (s : State) (m : MethodId) (below : List Frame) (meth : Method) (c : Code) (b : Nat) (QQ : State → Prop) (g : GG) (ma : Nat → Nat) (q1 i cells slots : Nat) : Prop :=
  ∀ (x : FT) (P : PT) (S : ST) (H : Heap) (locs : List Loc) (ls : Array Slot), LI g ma q1 s.heap x P S H locs → lv_has ls 4 [(0, .ref b), (1, .ref q1), (2, .ref (ma 0)), (3, .int (nI i))] → W p l e RR s m #[Value.ref b] below meth c H locs (cells + 5) (slots + 136) QQ (F0 m 706 ls [])
theorem and31 (y : Int32) : ∃ k : Nat, k < 32 ∧ y &&& nI 31 = nI k := by
  refine ⟨y.toBitVec.toNat % 32, Nat.mod_lt _ (by decide), ?_⟩
  apply Int32.toBitVec_inj.mp
  apply BitVec.eq_of_toNat_eq
  have e1 : (y &&& nI 31).toBitVec.toNat = y.toBitVec.toNat &&& 31 := by
    rw [Int32.toBitVec_and, BitVec.toNat_and]
    rfl
  have e2 : (nI (y.toBitVec.toNat % 32)).toBitVec.toNat = y.toBitVec.toNat % 32 := by
    show (BitVec.ofNat 32 (y.toBitVec.toNat % 32)).toNat = _
    rw [BitVec.toNat_ofNat]
    exact Nat.mod_eq_of_lt (Nat.lt_trans (Nat.mod_lt _ (by decide)) (by decide))
  rw [e1, e2]
  exact Nat.and_two_pow_sub_one_eq_mod (y.toBitVec.toNat) 5
