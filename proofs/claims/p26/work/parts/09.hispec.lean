/-! the history: depth and free; its five states lie at hA 0 .. hA 4 -/
abbrev HS : Type := Nat × Nat
abbrev kHdepth (v : HS) : Nat := v.1
abbrev kHfree (v : HS) : Nat := v.2
abbrev uHdepth (v : HS) (x : Nat) : HS := (x, v.2)
abbrev uHfree (v : HS) (x : Nat) : HS := (v.1, x)
abbrev hiT (cQ : ClassId) (hb : Nat → Nat) (aH : Nat → Nat → Nat) (v : HS) : va_W := [(hb 0, .inr (1, [.ref (hb 1), .int (nI (kHdepth v)), .int (nI (kHfree v))])), (hb 1, .inl (cQ, 5, .inr (.inr (.inr (.inr (fun j => some (aH j 0)))))))]
section HIS
variable {p : Program} {l : Launch} {e : Env} {R : Room} {s : State} {m : MethodId} {args : Array Value} {below : List Frame} {meth : Method} {c : Code} {H : Heap} {locs : List Loc} {cells slots : Nat} {Q : State → Prop}
variable {pc nL mc ms n index : Nat} {ls : Array Slot} {rest st0 As : List Value} {a : Array Value} {y : MethodName} {bytes cc : ByteArray} {maxL : Nat} {ret : Option FieldType} {wy Ts ws' : List Cond} {rm : Room} {own C : String} {b : Addr} {G : va_G} {cI cQ : ClassId} {ws wc : va_W}
theorem va_callSr {post : Nat → Prop} {ad : Nat → Value} (hr : va_Run p l e R s m args below meth c H locs cells slots 0 0 (F0 m pc ls st0) rest (va_Sr post ad a) (fun _ => False))
    (kk : ∀ k : Nat, post k → W p l e R s m args below meth c H locs cells slots Q (F0 m (pc + 3) ls (ad k :: rest))) : W p l e R s m args below meth c H locs cells slots Q (F0 m pc ls st0) := by
  intro T hT X
  obtain ⟨v, st₀, t, T', L, h0, X', hL, e1, e2, ⟨k, hv, hp, hh⟩, st⟩ := hr T hT X
  cases hv
  obtain ⟨t2, a1, b1⟩ := kk k hp T' (by rw [e1, hh, h0]) (Stand.forget X' (fun q h => (hL q h).elim))
  exact ⟨t2, st t2 a1, b1⟩
theorem pcVr {v : Nat} {ci : Nat} {fs : List Value} {qc : vw_C} (S : CallFix p m c cc nL s args Ts own) (hM : Met l y wy rm (pPc G cI cQ (.ref b :: As) wc) (va_Sr (fun k => k = v) (fun k => .ref k)) 0 0 (fun _ => False)) (cw : CallW R s args own C index y bytes maxL ret wy rm 0 0 n)
    (hK : SF G cI cQ s) (hP : va_P G vwCl ws H) (isC : List Nat) (hC : isC.filterMap (fun i => ws[i]?) = wc) (q0 : Nat) (he : ws[q0]? = some (b, .inr (ci, fs))) (hc : vwCl[ci]? = some qc) (hqc : qc.1 = C)
    (hn : As.length = n) (hsize : ls.size = nL) (hst : st0 = As.reverse ++ .ref b :: rest) (hW : (rest.map fun v => v.category).sum ≤ 8) (hdg : decode cc pc = .ok (.invokevirtual index, 3)) (hf : cells ≤ R.cells ∧ slots ≤ R.slots)
    (kk : W p l e R s m args below meth c H locs cells slots Q (F0 m (pc + 3) ls (.ref v :: rest))) : W p l e R s m args below meth c H locs cells slots Q (F0 m pc ls st0) := by
  subst hqc
  exact va_callSr (va_runV (g := F0 m pc ls st0) S hM cw ⟨pPc.blind, va_recv hK.1 hP hc he, fun U hU hW => ⟨rfl, by rw [hU]; exact hP.sub isC hC, SF.warm hW hK⟩⟩ rfl hn hsize hst (by show 2 * 0 + _ ≤ 8; omega) hdg hf) (fun r hr => by subst hr; exact kk)
theorem pm_ofQ {Qc : Array Value → State → Outcome → State → Prop} {av : List Value} {lv : List (Nat × Value)} (hy : plainName y.cls = true) (hw : wy = Cond.code y cc maxL ret :: ws') (ho : y.cls = own) (hn : (lg_sl av).length ≤ maxL) (hlv : lv_args 0 av = lv)
    (body : ∀ (p : Program) (e : Env) (s : State) (m : MethodId) (below : List Frame) (meth : Method) (c : Code) (ls : Array Slot), p.tables.exec = Jvm.exec → c.code = cc → meth.sig.returnType = ret → (∀ w ∈ wy, w.before av.toArray s = true) → s.vm.findClass own = some m.cls → meth.locks = false → c.maxLocals = maxL → SF G cI cQ s → va_P G vwCl wc s.heap → lv_has ls maxL lv →
      W p l e rm s m av.toArray below meth c s.heap [] 0 0 (MQ below Qc av.toArray s 0 0 (fun _ => False)) (F0 m 0 ls [])) : Met l y wy rm (pPc G cI cQ av wc) Qc 0 0 (fun _ => False) := by
  refine Met.ofW (cc := cc) (maxL := maxL) (ret := ret) hy hw ?_
  intro p e s m args below meth c s₁ B hml hv
  obtain ⟨rfl, hP, hK⟩ := hv
  rw [lg_entry_eq]
  subst hlv; subst ho
  exact body p e s m below meth c _ B.exec B.bytes B.returns (atoms_spec (ws := wy) B.pre) (findClass_of_methodNamed B.named) B.notSynchronized hml hK hP (lv_entry av hn)
end HIS
theorem lk_X1_stateAt_1 : Cond.fieldLink RX1 11 "EvenLoads$History" "states" "[LEvenLoads$Cluster;" ∈ wsX1_stateAt := List.mem_of_getElem? (i := 1) (by decide +kernel)
theorem in_X1_stateAt_X1 : ∀ w ∈ wsX10, w ∈ wsX1_stateAt := by decide +kernel
set_option maxHeartbeats 4000000 in
set_option maxRecDepth 100000 in
theorem c_X1_stateAt (l : Launch) (G : va_G) (cI cQ : ClassId) (hb : Nat → Nat) (hA : Nat → Nat → Nat) (v : HS) (j : Nat) (hj : j < 5) : Met l yX1_stateAt wsX1_stateAt ({ frames := 0, cells := 0, slots := 0, locals := 0 } : Room) (pPc G cI cQ [.ref (hb 0), .int (nI j)] (hiT cQ hb hA v)) (va_Sr (fun k => k = hA j 0) (fun k => .ref k)) 0 0 (fun _ => False) := by
  refine pm_ofQ (cc := cX1_stateAt) (maxL := 2) (ret := (some (.object "EvenLoads$Cluster"))) (own := RX1) (by decide) rfl rfl (Nat.le_of_ble_eq_true rfl) rfl ?_
  intro p e s m below meth cd ls hx hbb hr hts hown hlocks hml hK hP hl
  refine lv_iload_n hx hbb dX1_stateAt_0 rfl (lv_at hl 1 rfl) ?_
  refine lv_if_lt (tgt := 22) hx hbb dX1_stateAt_1 (by decide) (fun c_1 => absurd c_1 (nI_pos (by omega))) (fun c_1 => ?_)
  refine lv_iload_n hx hbb dX1_stateAt_4 rfl (lv_at hl 1 rfl) ?_
  refine lv_aload_n hx hbb dX1_stateAt_5 rfl (lv_at hl 0 rfl) ?_
  refine va_get (D := G) (ci := 1) (v := .ref (hb 1)) (C := RX1) (T := TX1) (N := 3) hx hbb hts in_X1_stateAt_X1 hown hK.1 hP 0 rfl rfl 0 (by decide) (hts _ lk_X1_stateAt_1) (fun _ h9 => h9) rfl dX1_stateAt_6 ?_
  refine va_alen (v := nI 5) hx hbb hK.1 hP 1 1 rfl rfl rfl dX1_stateAt_9 ?_
  refine lv_icmp_ge (tgt := 22) hx hbb dX1_stateAt_10 (by decide) (fun c_2 => absurd c_2 (nI_ge hj (by decide))) (fun c_2 => ?_)
  refine lv_aload_n hx hbb dX1_stateAt_13 rfl (lv_at hl 0 rfl) ?_
  refine va_get (D := G) (ci := 1) (v := .ref (hb 1)) (C := RX1) (T := TX1) (N := 3) hx hbb hts in_X1_stateAt_X1 hown hK.1 hP 0 rfl rfl 0 (by decide) (hts _ lk_X1_stateAt_1) (fun _ h9 => h9) rfl dX1_stateAt_14 ?_
  refine lv_iload_n hx hbb dX1_stateAt_17 rfl (lv_at hl 1 rfl) ?_
  refine va_aldq hx hbb hK.1 hP 1 1 rfl rfl (vp_in_nI hj (by decide)) dX1_stateAt_18 ?_
  rw [nI_clamp (show j < 2 ^ 31 by omega)]
  refine lv_goto (tgt := 23) hx hbb dX1_stateAt_19 (by decide) ?_
  exact W.aret hx hbb hr (Or.inl ⟨_, rfl⟩) (Or.inr ⟨_, rfl⟩) (fun t ht hW => ⟨hA j 0, rfl, rfl, ht⟩) (fun q h => by cases h) dX1_stateAt_23
theorem cd_X1_stateAt : yX1_stateAt.cls = RX1 ∧ yX1_stateAt.cls ≠ "java/lang/invoke/MethodHandle" ∧ yX1_stateAt.cls ≠ "java/lang/invoke/VarHandle" ∧ (parseMethodDescriptor yX1_stateAt.desc).map (fun d => d.parameters.length) = some 1 := by decide +kernel
theorem min5 (d : Nat) (h : d ≤ 5) : (if (5 : Int32) < nI (d + 1) then 5 else nI (d + 1)) = nI (min (d + 1) 5) := by
  rcases (show d = 0 ∨ d = 1 ∨ d = 2 ∨ d = 3 ∨ d = 4 ∨ d = 5 by omega) with rfl | rfl | rfl | rfl | rfl | rfl <;> decide
