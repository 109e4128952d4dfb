/-! the base: what every contract says of the tables, and call rows that bundle the kit's -/
def bI (c : Prop) [Decidable c] : Int32 := if c then 1 else 0
theorem bI_t {c : Prop} [Decidable c] (h : c) : bI c = 1 := if_pos h
theorem bI_f {c : Prop} [Decidable c] (h : ¬ c) : bI c = 0 := if_neg h
theorem bI_0 {c : Prop} [Decidable c] : bI c = 0 ↔ ¬ c := by
  by_cases h : c
  · rw [bI_t h]; simp [h]
  · rw [bI_f h]; simp [h]
theorem bI_n0 {c : Prop} [Decidable c] : ¬ bI c = 0 ↔ c := by
  by_cases h : c
  · rw [bI_t h]; simp [h]
  · rw [bI_f h]; simp [h]
theorem bI_1 {c : Prop} [Decidable c] : bI c = 1 ↔ c := by
  by_cases h : c
  · rw [bI_t h]; simp [h]
  · rw [bI_f h]; simp [h]
theorem bI_nar {c : Prop} [Decidable c] : narrow .boolean (.int (bI c)) = .int (bI c) := by
  by_cases h : c
  · rw [bI_t h]; rfl
  · rw [bI_f h]; rfl
theorem sub_of_map {ws : va_W} : ∀ {is : List Nat} {wc : va_W}, is.map (fun i => ws[i]?) = wc.map some → is.filterMap (fun i => ws[i]?) = wc
  | [], [], _ => rfl
  | [], _ :: _, h => by simp at h
  | _ :: _, [], h => by simp at h
  | i :: is, x :: wc, h => by
    rw [List.map_cons, List.map_cons, List.cons.injEq] at h
    simp only [List.filterMap_cons, h.1]
    rw [sub_of_map h.2]
theorem cell_cong {f g : Nat → Int32} {n : Nat} (h : ∀ j, j < n → f j = g j) (cA : ClassId) : vp_cell cA (n, .inl f) = vp_cell cA (n, .inl g) := by
  show arrV cA n (fun j => .int (f j)) = arrV cA n (fun j => .int (g j))
  have e : (fun j : Fin n => Value.int (f j.val)) = fun j : Fin n => Value.int (g j.val) := funext fun j => by rw [h j.val j.isLt]
  unfold arrV
  simp only [e]
theorem va_P.arr {G : va_G} {cl : List vw_C} {ws : va_W} {H : Heap} (hP : va_P G cl ws H) (k : Nat) {a : Nat} {cA : ClassId} {n : Nat} {f g : Nat → Int32} (he : ws[k]? = some (a, .inl (cA, n, .inl f))) (h : ∀ j, j < n → f j = g j) : va_P G cl (ws.set k (a, .inl (cA, n, .inl g))) H := by
  intro i q hq
  by_cases e : k = i
  · subst e
    rw [List.getElem?_set] at hq
    have hlt : k < ws.length := (List.getElem?_eq_some_iff.mp he).1
    simp only [if_true, hlt] at hq
    cases hq
    have h0 := hP k _ he
    show H[a]? = some (vp_cell cA (n, .inl g))
    rw [← cell_cong h cA]
    exact h0
  · rw [List.getElem?_set_ne e] at hq
    exact hP i q hq
def nwF : List (String × Nat × String × String × String) := [("EvenLoads$Step", 76, "EvenLoads$Cluster", "sizes", "[I"), ("EvenLoads", 171, "EvenLoads$Cluster", "sizes", "[I"), ("EvenLoads$Step", 91, "EvenLoads$Cluster", "prices", "[I"), ("EvenLoads", 174, "EvenLoads$Cluster", "prices", "[I"), ("EvenLoads$Step", 37, "EvenLoads$Cluster", "places", "[I"), ("EvenLoads", 177, "EvenLoads$Cluster", "places", "[I"), ("EvenLoads", 180, "EvenLoads$Cluster", "moved", "[I"), ("EvenLoads$Step", 52, "EvenLoads$Cluster", "loads", "[I"), ("EvenLoads", 123, "EvenLoads$Cluster", "loads", "[I"), ("EvenLoads$Step", 82, "EvenLoads$Cluster", "opened", "[I"), ("EvenLoads$Step", 79, "EvenLoads$Cluster", "servers", "I"), ("EvenLoads", 105, "EvenLoads$Cluster", "servers", "I"), ("EvenLoads", 108, "EvenLoads$Cluster", "openServers", "I"), ("EvenLoads$Step", 73, "EvenLoads$Cluster", "jobs", "I"), ("EvenLoads", 111, "EvenLoads$Cluster", "jobs", "I"), ("EvenLoads", 117, "EvenLoads$Cluster", "sum", "I"), ("EvenLoads$Step", 66, "EvenLoads$Cluster", "budget", "I"), ("EvenLoads", 144, "EvenLoads$Cluster", "budget", "I"), ("EvenLoads", 147, "EvenLoads$Cluster", "factor", "I"), ("EvenLoads", 150, "EvenLoads$Cluster", "moves", "I"), ("EvenLoads", 92, "EvenLoads$History", "depth", "I"), ("EvenLoads", 190, "EvenLoads$Step", "job", "I"), ("EvenLoads", 193, "EvenLoads$Step", "goal", "I"), ("EvenLoads", 196, "EvenLoads$Step", "other", "I"), ("EvenLoads", 199, "EvenLoads$Step", "price", "I"), ("EvenLoads", 99, "EvenLoads$Program", "length", "I")]
def nwM : List (String × Nat × MethodName) := [("EvenLoads", 9, ⟨"EvenLoads$Cluster", "<init>", "()V"⟩), ("EvenLoads$History", 24, ⟨"EvenLoads$Cluster", "<init>", "()V"⟩), ("EvenLoads", 31, ⟨"EvenLoads$Step", "<init>", "()V"⟩), ("EvenLoads", 38, ⟨"EvenLoads$Program", "<init>", "()V"⟩), ("EvenLoads$Cluster", 52, ⟨"EvenLoads", "copyRow", "([I[I)V"⟩), ("EvenLoads$Cluster", 56, ⟨"EvenLoads", "put", "([III)V"⟩), ("EvenLoads$Cluster", 67, ⟨"EvenLoads", "at", "([II)I"⟩), ("EvenLoads$Step", 41, ⟨"EvenLoads", "at", "([II)I"⟩)]
def NW (U : State) : Prop := (∀ q ∈ nwF, va_Nw (.fieldLinkNest q.1 q.2.1 q.2.2.1 q.2.2.2.1 q.2.2.2.2 "EvenLoads") U) ∧ (∀ q ∈ nwM, va_Nw (.methodLinkNest q.1 q.2.1 q.2.2 "EvenLoads") U)
theorem NW.warm {s U : State} (hW : s.WarmedH U.vm) (h : NW s) : NW U := ⟨fun q hq => va_Nw.warmF hW (h.1 q hq), fun q hq => va_Nw.warmM hW (h.2 q hq)⟩
theorem NW.same {u U : State} (hv : u.vm = U.vm) (h : NW u) : NW U := ⟨fun q hq => va_Nw.same rfl hv (h.1 q hq), fun q hq => va_Nw.same rfl hv (h.2 q hq)⟩
theorem NW.f {s : State} {args : Array Value} (h : NW s) (k : Nat) {a : String} {i : Nat} {b n d : String} (hk : nwF[k]? = some (a, i, b, n, d)) : (Cond.fieldLinkNest a i b n d "EvenLoads").before args s = true := va_Nw.use rfl (h.1 _ (List.mem_of_getElem? hk))
theorem NW.m {s : State} (h : NW s) (k : Nat) {a : String} {i : Nat} {y : MethodName} (hk : nwM[k]? = some (a, i, y)) : va_Nw (.methodLinkNest a i y "EvenLoads") s := h.2 _ (List.mem_of_getElem? hk)
abbrev tyQ (cI cQ : ClassId) : List (ClassId × FieldType) := [(cI, .int), (cQ, .object "EvenLoads$Cluster")]
/-- what a state says of the tables -/
def SF (G : va_G) (cI cQ : ClassId) (U : State) : Prop := va_K G vwCl (tyQ cI cQ) U ∧ NW U
theorem SF.warm {G : va_G} {cI cQ : ClassId} {s U : State} (hW : s.WarmedH U.vm) (h : SF G cI cQ s) : SF G cI cQ U := ⟨va_K.moved hW.alike h.1, NW.warm hW h.2⟩
theorem SF.call {G : va_G} {cI cQ : ClassId} {U : State} (g : JFrame) (mk : MethodId) (a : Array Value) (h : SF G cI cQ U) : SF G cI cQ (U.calling g mk a) := ⟨va_K.moved (u := U) (U := U.calling g mk a) (Vm.Alike.refl U.vm) h.1, NW.same rfl h.2⟩
/-- a method that only reads: its start -/
def pPc (G : va_G) (cI cQ : ClassId) (av : List Value) (ws : va_W) : Array Value → State → Prop := va_Pc av (fun U => va_P G vwCl ws U.heap ∧ SF G cI cQ U)
theorem pPc.blind {G : va_G} {cI cQ : ClassId} {av : List Value} {ws : va_W} : FrameBlind (pPc G cI cQ av ws) := fun a U g mk q => ⟨q.1, q.2.1, SF.call g mk a q.2.2⟩
/-- a method that writes: its start -/
def mPc (G : va_G) (cI cQ : ClassId) (av : List Value) (ws : va_W) (sz : Nat) : Array Value → State → Prop := va_Pc av (fun U => U.heap.size = sz ∧ va_P G vwCl ws U.heap ∧ SF G cI cQ U ∧ va_D (fun _ => True) ws)
theorem mPc.blind {G : va_G} {cI cQ : ClassId} {av : List Value} {ws : va_W} {sz : Nat} : FrameBlind (mPc G cI cQ av ws sz) := fun a U g mk q => ⟨q.1, q.2.1, q.2.2.1, SF.call g mk a q.2.2.2.1, q.2.2.2.2⟩
/-- its world behind it -/
def mB {S : Type} (G : va_G) (A : Nat → Prop) (w1 : S → va_W) : S → State → Prop := fun u t => va_P G vwCl (w1 u) t.heap ∧ va_D A (w1 u)
section CALLS
variable {p : Program} {l : Launch} {e : Env} {R : Room} {s : State} {m : MethodId} {args : Array Value} {below : List Frame} {meth : Method} {c : Code} {H : Heap} {locs : List Loc} {cells slots : Nat} {Q : State → Prop}
variable {pc nL mc ms n index : Nat} {ls : Array Slot} {rest st0 As : List Value} {a : Array Value} {A0 A1 : Nat → Prop} {H0 : Heap} {y : MethodName} {bytes cc : ByteArray} {maxL : Nat} {ret : Option FieldType} {wy Ts : List Cond} {rm : Room} {own C host : String} {b : Addr} {G : va_G} {cI cQ : ClassId} {ws wc wr : va_W}
theorem va_callSi {post : Int32 → Prop} (hr : va_Run p l e R s m args below meth c H locs cells slots 0 0 (F0 m pc ls st0) rest (vp_Si post a) (fun _ => False))
    (kk : ∀ r : Int32, post r → W p l e R s m args below meth c H locs cells slots Q (F0 m (pc + 3) ls (.int r :: rest))) : W p l e R s m args below meth c H locs cells slots Q (F0 m pc ls st0) := by
  intro T hT X
  obtain ⟨v, st₀, t, T', L, h0, X', hL, e1, e2, ⟨r, hv, hp, hh⟩, st⟩ := hr T hT X
  cases hv
  obtain ⟨t2, a1, b1⟩ := kk r hp T' (by rw [e1, hh, h0]) (Stand.forget X' (fun q h => (hL q h).elim))
  exact ⟨t2, st t2 a1, b1⟩
/-- a call of a method of an object that only reads -/
theorem pcV {v : Int32} {ci : Nat} {fs : List Value} {qc : vw_C} (S : CallFix p m c cc nL s args Ts own) (hM : Met l y wy rm (pPc G cI cQ (.ref b :: As) wc) (vp_Si (fun r => r = v)) 0 0 (fun _ => False)) (cw : CallW R s args own C index y bytes maxL ret wy rm 0 0 n)
    (hK : SF G cI cQ s) (hP : va_P G vwCl ws H) (isC : List Nat) (hC : isC.filterMap (fun i => ws[i]?) = wc) (q0 : Nat) (he : ws[q0]? = some (b, .inr (ci, fs))) (hc : vwCl[ci]? = some qc) (hqc : qc.1 = C)
    (hn : As.length = n) (hsize : ls.size = nL) (hst : st0 = As.reverse ++ .ref b :: rest) (hW : (rest.map fun v => v.category).sum ≤ 8) (hdg : decode cc pc = .ok (.invokevirtual index, 3)) (hf : cells ≤ R.cells ∧ slots ≤ R.slots)
    (kk : W p l e R s m args below meth c H locs cells slots Q (F0 m (pc + 3) ls (.int v :: rest))) : W p l e R s m args below meth c H locs cells slots Q (F0 m pc ls st0) := by
  subst hqc
  exact va_callSi (va_runV (g := F0 m pc ls st0) S hM cw ⟨pPc.blind, va_recv hK.1 hP hc he, fun U hU hW => ⟨rfl, by rw [hU]; exact hP.sub isC hC, SF.warm hW hK⟩⟩ rfl hn hsize hst (by show 2 * 0 + _ ≤ 8; omega) hdg hf) (fun r hr => by subst hr; exact kk)
/-- the same, of a static method of the own class -/
theorem pcS {v : Int32} (S : CallFix p m c cc nL s args Ts own) (hM : Met l y wy rm (pPc G cI cQ As wc) (vp_Si (fun r => r = v)) 0 0 (fun _ => False)) (cw : CallB R s args own index y bytes maxL ret wy rm 0 0 n ∧ (Cond.static y).before args s = true)
    (hK : SF G cI cQ s) (hP : va_P G vwCl ws H) (isC : List Nat) (hC : isC.filterMap (fun i => ws[i]?) = wc)
    (hn : As.length = n) (hsize : ls.size = nL) (hst : st0 = As.reverse ++ rest) (hW : (rest.map fun v => v.category).sum ≤ 8) (hdg : decode cc pc = .ok (.invokestatic index, 3)) (hf : cells ≤ R.cells ∧ slots ≤ R.slots)
    (kk : W p l e R s m args below meth c H locs cells slots Q (F0 m (pc + 3) ls (.int v :: rest))) : W p l e R s m args below meth c H locs cells slots Q (F0 m pc ls st0) :=
  va_callSi (va_runS (g := F0 m pc ls st0) S hM cw ⟨pPc.blind, fun U hU hW => ⟨rfl, by rw [hU]; exact hP.sub isC hC, SF.warm hW hK⟩⟩ rfl hn hsize hst (by show 2 * 0 + _ ≤ 8; omega) hdg hf) (fun r hr => by subst hr; exact kk)
/-- the same, of a static method of a nest mate -/
theorem pcSN {v : Int32} (S : CallFix p m c cc nL s args Ts own) (hM : Met l y wy rm (pPc G cI cQ As wc) (vp_Si (fun r => r = v)) 0 0 (fun _ => False)) (cw : va_CN R s args own index y host bytes maxL ret wy rm 0 0 n ∧ (Cond.static y).before args s = true ∧ True)
    (hK : SF G cI cQ s) (hP : va_P G vwCl ws H) (isC : List Nat) (hC : isC.filterMap (fun i => ws[i]?) = wc)
    (hn : As.length = n) (hsize : ls.size = nL) (hst : st0 = As.reverse ++ rest) (hW : (rest.map fun v => v.category).sum ≤ 8) (hdg : decode cc pc = .ok (.invokestatic index, 3)) (hf : cells ≤ R.cells ∧ slots ≤ R.slots)
    (kk : W p l e R s m args below meth c H locs cells slots Q (F0 m (pc + 3) ls (.int v :: rest))) : W p l e R s m args below meth c H locs cells slots Q (F0 m pc ls st0) :=
  va_callSi (va_runSN (g := F0 m pc ls st0) S hM cw ⟨pPc.blind, fun U hU hW => ⟨rfl, by rw [hU]; exact hP.sub isC hC, SF.warm hW hK⟩⟩ rfl hn hsize hst (by show 2 * 0 + _ ≤ 8; omega) hdg hf) (fun r hr => by subst hr; exact kk)
/-- a call that writes, and answers a number: the callee's part of the world is wc, the rest wr; behind it (w1 u), its answer and its state told by post -/
theorem mcV {S0 : Type} {post : Int32 → S0 → Prop} {w1 : S0 → va_W} {ci : Nat} {fs : List Value} {qc : vw_C} (S : CallFix p m c cc nL s args Ts own) (hM : Met l y wy rm (mPc G cI cQ (.ref b :: As) wc H.size) (va_Qi post (mB G (va_A wc H.size) w1) (va_A wc H.size)) mc ms (va_A wc H.size)) (cw : CallW R s args own C index y bytes maxL ret wy rm mc ms n)
    (hK : SF G cI cQ s) (hP : va_P G vwCl ws H) (hD : va_D A0 ws) (hS : va_S A0 H0 H locs) (hA : ∀ q, H0.size ≤ q → A0 q) (isC isR : List Nat) (hC : isC.map (fun i => ws[i]?) = wc.map some) (hR : isR.map (fun i => ws[i]?) = wr.map some) (hnC : va_nd isC = true) (hnR : va_nd isR = true) (hdis : ∀ i ∈ isR, i ∉ isC)
    (q0 : Nat) (he : ws[q0]? = some (b, .inr (ci, fs))) (hc : vwCl[ci]? = some qc) (hqc : qc.1 = C)
    (hn : As.length = n) (hsize : ls.size = nL) (hst : st0 = As.reverse ++ .ref b :: rest) (hW : (rest.map fun v => v.category).sum ≤ 8) (hdg : decode cc pc = .ok (.invokevirtual index, 3)) (hf : cells + mc ≤ R.cells ∧ slots + ms ≤ R.slots)
    (kk : ∀ (r : Int32) (u : S0) (H1 : Heap) (locs1 : List Loc), post r u → va_P G vwCl (wr ++ w1 u) H1 → va_D A0 (wr ++ w1 u) → va_S A0 H0 H1 locs1 → W p l e R s m args below meth c H1 locs1 (cells + mc) (slots + ms) Q (F0 m (pc + 3) ls (.int r :: rest))) : W p l e R s m args below meth c H locs cells slots Q (F0 m pc ls st0) := by
  subst hqc
  have hC2 : isC.filterMap (fun i => ws[i]?) = wc := sub_of_map hC
  have hPc := hP.sub isC hC2
  have hDc := hD.sub isC hnC hC
  have hFc := va_free (wc := wc) hD hS hA isC hC
  exact va_calli (va_runV (g := F0 m pc ls st0) S hM cw ⟨mPc.blind, va_recv hK.1 hP hc he, fun U hU hW => ⟨rfl, by rw [hU], by rw [hU]; exact hPc, SF.warm hW hK, hDc.weaken (fun _ _ _ _ => trivial)⟩⟩ rfl hn hsize hst (by show 2 * 0 + _ ≤ 8; omega) hdg hf) hS (fun q _ h => hFc q h) hFc
    (fun r u t H1 locs1 ht hvm hw hB hz1 hk1 hS1 => by
      obtain ⟨hP1, hD1⟩ := hB
      rw [ht] at hP1
      obtain ⟨hP2, hD2⟩ := va_join (wr := wr) (w1 := w1 u) hP hD isC isR hC hR hnR hdis hk1 hFc hP1 hD1
      exact kk r u H1 locs1 hw hP2 hD2 hS1)
theorem mcVv {S0 : Type} {post : S0 → Prop} {w1 : S0 → va_W} {ci : Nat} {fs : List Value} {qc : vw_C} (S : CallFix p m c cc nL s args Ts own) (hM : Met l y wy rm (mPc G cI cQ (.ref b :: As) wc H.size) (va_Qv post (mB G (va_A wc H.size) w1) (va_A wc H.size)) mc ms (va_A wc H.size)) (cw : CallW R s args own C index y bytes maxL ret wy rm mc ms n)
    (hK : SF G cI cQ s) (hP : va_P G vwCl ws H) (hD : va_D A0 ws) (hS : va_S A0 H0 H locs) (hA : ∀ q, H0.size ≤ q → A0 q) (isC isR : List Nat) (hC : isC.map (fun i => ws[i]?) = wc.map some) (hR : isR.map (fun i => ws[i]?) = wr.map some) (hnC : va_nd isC = true) (hnR : va_nd isR = true) (hdis : ∀ i ∈ isR, i ∉ isC)
    (q0 : Nat) (he : ws[q0]? = some (b, .inr (ci, fs))) (hc : vwCl[ci]? = some qc) (hqc : qc.1 = C)
    (hn : As.length = n) (hsize : ls.size = nL) (hst : st0 = As.reverse ++ .ref b :: rest) (hW : (rest.map fun v => v.category).sum ≤ 8) (hdg : decode cc pc = .ok (.invokevirtual index, 3)) (hf : cells + mc ≤ R.cells ∧ slots + ms ≤ R.slots)
    (kk : ∀ (u : S0) (H1 : Heap) (locs1 : List Loc), post u → va_P G vwCl (wr ++ w1 u) H1 → va_D A0 (wr ++ w1 u) → va_S A0 H0 H1 locs1 → W p l e R s m args below meth c H1 locs1 (cells + mc) (slots + ms) Q (F0 m (pc + 3) ls rest)) : W p l e R s m args below meth c H locs cells slots Q (F0 m pc ls st0) := by
  subst hqc
  have hC2 : isC.filterMap (fun i => ws[i]?) = wc := sub_of_map hC
  have hPc := hP.sub isC hC2
  have hDc := hD.sub isC hnC hC
  have hFc := va_free (wc := wc) hD hS hA isC hC
  exact va_callv (va_runV (g := F0 m pc ls st0) S hM cw ⟨mPc.blind, va_recv hK.1 hP hc he, fun U hU hW => ⟨rfl, by rw [hU], by rw [hU]; exact hPc, SF.warm hW hK, hDc.weaken (fun _ _ _ _ => trivial)⟩⟩ rfl hn hsize hst (by show 2 * 0 + _ ≤ 8; omega) hdg hf) hS (fun q _ h => hFc q h) hFc
    (fun u t H1 locs1 ht hvm hw hB hz1 hk1 hS1 => by
      obtain ⟨hP1, hD1⟩ := hB
      rw [ht] at hP1
      obtain ⟨hP2, hD2⟩ := va_join (wr := wr) (w1 := w1 u) hP hD isC isR hC hR hnR hdis hk1 hFc hP1 hD1
      exact kk u H1 locs1 hw hP2 hD2 hS1)
/-- a static method of a nest mate that writes and answers nothing -/
theorem mcSNv {S0 : Type} {post : S0 → Prop} {w1 : S0 → va_W} (S : CallFix p m c cc nL s args Ts own) (hM : Met l y wy rm (mPc G cI cQ As wc H.size) (va_Qv post (mB G (va_A wc H.size) w1) (va_A wc H.size)) mc ms (va_A wc H.size)) (cw : va_CN R s args own index y host bytes maxL ret wy rm mc ms n ∧ (Cond.static y).before args s = true ∧ True)
    (hK : SF G cI cQ s) (hP : va_P G vwCl ws H) (hD : va_D A0 ws) (hS : va_S A0 H0 H locs) (hA : ∀ q, H0.size ≤ q → A0 q) (isC isR : List Nat) (hC : isC.map (fun i => ws[i]?) = wc.map some) (hR : isR.map (fun i => ws[i]?) = wr.map some) (hnC : va_nd isC = true) (hnR : va_nd isR = true) (hdis : ∀ i ∈ isR, i ∉ isC)
    (hn : As.length = n) (hsize : ls.size = nL) (hst : st0 = As.reverse ++ rest) (hW : (rest.map fun v => v.category).sum ≤ 8) (hdg : decode cc pc = .ok (.invokestatic index, 3)) (hf : cells + mc ≤ R.cells ∧ slots + ms ≤ R.slots)
    (kk : ∀ (u : S0) (H1 : Heap) (locs1 : List Loc), post u → va_P G vwCl (wr ++ w1 u) H1 → va_D A0 (wr ++ w1 u) → va_S A0 H0 H1 locs1 → W p l e R s m args below meth c H1 locs1 (cells + mc) (slots + ms) Q (F0 m (pc + 3) ls rest)) : W p l e R s m args below meth c H locs cells slots Q (F0 m pc ls st0) := by
  have hC2 : isC.filterMap (fun i => ws[i]?) = wc := sub_of_map hC
  have hPc := hP.sub isC hC2
  have hDc := hD.sub isC hnC hC
  have hFc := va_free (wc := wc) hD hS hA isC hC
  exact va_callv (va_runSN (g := F0 m pc ls st0) S hM cw ⟨mPc.blind, fun U hU hW => ⟨rfl, by rw [hU], by rw [hU]; exact hPc, SF.warm hW hK, hDc.weaken (fun _ _ _ _ => trivial)⟩⟩ rfl hn hsize hst (by show 2 * 0 + _ ≤ 8; omega) hdg hf) hS (fun q _ h => hFc q h) hFc
    (fun u t H1 locs1 ht hvm hw hB hz1 hk1 hS1 => by
      obtain ⟨hP1, hD1⟩ := hB
      rw [ht] at hP1
      obtain ⟨hP2, hD2⟩ := va_join (wr := wr) (w1 := w1 u) hP hD isC isR hC hR hnR hdis hk1 hFc hP1 hD1
      exact kk u H1 locs1 hw hP2 hD2 hS1)
theorem p_ret {w v : Int32} {ty : FieldType} (hx : p.tables.exec = Jvm.exec) (hb : c.code = cc) (hr : meth.sig.returnType = some ty) (hlocks : meth.locks = false) (hn : narrow ty (.int v) = .int v) (hv : v = w) (hdg : decode cc pc = .ok (.ireturn, 1)) : W p l e R s m args below meth c s.heap [] 0 0 (MQ below (vp_Si (fun r => r = w)) args s 0 0 (fun _ => False)) (F0 m pc ls [.int v]) :=
  W.zret hx hb hr hn (fun t ht _ => ⟨v, rfl, hv, ht⟩) (fun q h => by cases h) hdg hlocks
theorem m_ret {S0 : Type} {post : Int32 → S0 → Prop} {w1 : S0 → va_W} {A : Nat → Prop} {ty : FieldType} {v : Int32} (u : S0) (hx : p.tables.exec = Jvm.exec) (hb : c.code = cc) (hr : meth.sig.returnType = some ty) (hlocks : meth.locks = false) (hn : narrow ty (.int v) = .int v) (hp : post v u) (hP : va_P G vwCl (w1 u) H) (hD : va_D A (w1 u)) (hS : va_S A s.heap H locs) (hdg : decode cc pc = .ok (.ireturn, 1)) : W p l e R s m args below meth c H locs mc ms (MQ below (va_Qi post (mB G A w1) A) args s mc ms A) (F0 m pc ls [.int v]) :=
  W.zret hx hb hr hn (fun t ht _ => ⟨⟨v, u, rfl, hp, by rw [ht]; exact hP, hD⟩, hS.F ht⟩) hS.2.2 hdg hlocks
theorem m_vret {S0 : Type} {post : S0 → Prop} {w1 : S0 → va_W} {A : Nat → Prop} (u : S0) (hx : p.tables.exec = Jvm.exec) (hb : c.code = cc) (hr : meth.sig.returnType = none) (hlocks : meth.locks = false) (hp : post u) (hP : va_P G vwCl (w1 u) H) (hD : va_D A (w1 u)) (hS : va_S A s.heap H locs) (hdg : decode cc pc = .ok (.return_, 1)) : W p l e R s m args below meth c H locs mc ms (MQ below (va_Qv post (mB G A w1) A) args s mc ms A) (F0 m pc ls []) :=
  W.vret hx hb hr (fun t ht _ => ⟨⟨u, rfl, hp, by rw [ht]; exact hP, hD⟩, hS.F ht⟩) hS.2.2 hdg hlocks
end CALLS
section BODIES
variable {l : Launch} {y : MethodName} {wy ws' : List Cond} {cc : ByteArray} {maxL mc ms sz : Nat} {ret : Option FieldType} {rm : Room} {av : List Value} {wc : va_W} {lv : List (Nat × Value)} {G : va_G} {cI cQ : ClassId} {own : String}
theorem pm_of {post : Int32 → Prop} (hy : plainName y.cls = true) (hw : wy = Cond.code y cc maxL ret :: ws') (ho : y.cls = own) (hn : (lg_sl av).length ≤ maxL) (hlv : lv_args 0 av = lv)
    (body : ∀ (p : Program) (e : Env) (s : State) (m : MethodId) (below : List Frame) (meth : Method) (c : Code) (ls : Array Slot), p.tables.exec = Jvm.exec → c.code = cc → meth.sig.returnType = ret → (∀ w ∈ wy, w.before av.toArray s = true) → s.vm.findClass own = some m.cls → meth.locks = false → c.maxLocals = maxL → SF G cI cQ s → va_P G vwCl wc s.heap → lv_has ls maxL lv →
      W p l e rm s m av.toArray below meth c s.heap [] 0 0 (MQ below (vp_Si post) av.toArray s 0 0 (fun _ => False)) (F0 m 0 ls [])) : Met l y wy rm (pPc G cI cQ av wc) (vp_Si post) 0 0 (fun _ => False) := by
  refine Met.ofW (cc := cc) (maxL := maxL) (ret := ret) hy hw ?_
  intro p e s m args below meth c s₁ B hml hv
  obtain ⟨rfl, hP, hK⟩ := hv
  rw [lg_entry_eq]
  subst hlv; subst ho
  exact body p e s m below meth c _ B.exec B.bytes B.returns (atoms_spec (ws := wy) B.pre) (findClass_of_methodNamed B.named) B.notSynchronized hml hK hP (lv_entry av hn)
theorem mm_of {S0 : Type} {post : Int32 → S0 → Prop} {w1 : S0 → va_W} (hy : plainName y.cls = true) (hw : wy = Cond.code y cc maxL ret :: ws') (ho : y.cls = own) (hn : (lg_sl av).length ≤ maxL) (hlv : lv_args 0 av = lv)
    (body : ∀ (p : Program) (e : Env) (s : State) (m : MethodId) (below : List Frame) (meth : Method) (c : Code) (ls : Array Slot) (A : Nat → Prop), p.tables.exec = Jvm.exec → c.code = cc → meth.sig.returnType = ret → (∀ w ∈ wy, w.before av.toArray s = true) → s.vm.findClass own = some m.cls → meth.locks = false → c.maxLocals = maxL → (∀ q, s.heap.size ≤ q → A q) → SF G cI cQ s → va_P G vwCl wc s.heap → va_D A wc → va_S A s.heap s.heap [] → lv_has ls maxL lv →
      W p l e rm s m av.toArray below meth c s.heap [] 0 0 (MQ below (va_Qi post (mB G A w1) A) av.toArray s mc ms A) (F0 m 0 ls [])) : Met l y wy rm (mPc G cI cQ av wc sz) (va_Qi post (mB G (va_A wc sz) w1) (va_A wc sz)) mc ms (va_A wc sz) := by
  refine Met.ofW (cc := cc) (maxL := maxL) (ret := ret) hy hw ?_
  intro p e s m args below meth c s₁ B hml hv
  obtain ⟨rfl, hz, hP, hK, hD0⟩ := hv
  rw [lg_entry_eq]
  subst hlv; subst ho; subst hz
  exact body p e s m below meth c _ _ B.exec B.bytes B.returns (atoms_spec (ws := wy) B.pre) (findClass_of_methodNamed B.named) B.notSynchronized hml (fun q h => Or.inr h) hK hP (hD0.self (sz := s.heap.size)) va_S.rf (lv_entry av hn)
theorem mm_ofv {S0 : Type} {post : S0 → Prop} {w1 : S0 → va_W} (hy : plainName y.cls = true) (hw : wy = Cond.code y cc maxL ret :: ws') (ho : y.cls = own) (hn : (lg_sl av).length ≤ maxL) (hlv : lv_args 0 av = lv)
    (body : ∀ (p : Program) (e : Env) (s : State) (m : MethodId) (below : List Frame) (meth : Method) (c : Code) (ls : Array Slot) (A : Nat → Prop), p.tables.exec = Jvm.exec → c.code = cc → meth.sig.returnType = ret → (∀ w ∈ wy, w.before av.toArray s = true) → s.vm.findClass own = some m.cls → meth.locks = false → c.maxLocals = maxL → (∀ q, s.heap.size ≤ q → A q) → SF G cI cQ s → va_P G vwCl wc s.heap → va_D A wc → va_S A s.heap s.heap [] → lv_has ls maxL lv →
      W p l e rm s m av.toArray below meth c s.heap [] 0 0 (MQ below (va_Qv post (mB G A w1) A) av.toArray s mc ms A) (F0 m 0 ls [])) : Met l y wy rm (mPc G cI cQ av wc sz) (va_Qv post (mB G (va_A wc sz) w1) (va_A wc sz)) mc ms (va_A wc sz) := by
  refine Met.ofW (cc := cc) (maxL := maxL) (ret := ret) hy hw ?_
  intro p e s m args below meth c s₁ B hml hv
  obtain ⟨rfl, hz, hP, hK, hD0⟩ := hv
  rw [lg_entry_eq]
  subst hlv; subst ho; subst hz
  exact body p e s m below meth c _ _ B.exec B.bytes B.returns (atoms_spec (ws := wy) B.pre) (findClass_of_methodNamed B.named) B.notSynchronized hml (fun q h => Or.inr h) hK hP (hD0.self (sz := s.heap.size)) va_S.rf (lv_entry av hn)
end BODIES
