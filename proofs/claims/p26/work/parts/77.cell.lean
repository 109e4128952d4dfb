/-! ===== the script's cells; three actions undone ===== -/
def sPc (G : va_G) (cI cQ : ClassId) (av : List Value) (b L : Nat) (xs : Nat → Int32) : Array Value → State → Prop := va_Pc av (fun U => va_X b L xs U U.heap ∧ b < U.heap.size ∧ SF G cI cQ U)
theorem sPc.blind {G : va_G} {cI cQ : ClassId} {av : List Value} {b L : Nat} {xs : Nat → Int32} : FrameBlind (sPc G cI cQ av b L xs) := fun a U g mk q => ⟨q.1, va_X.moved (u := U) (U := U.calling g mk a) (Vm.Alike.refl U.vm) q.2.1, q.2.2.1, SF.call g mk a q.2.2.2⟩
section XCS
variable {p : Program} {l : Launch} {e : Env} {R : Room} {s : State} {m : MethodId} {args : Array Value} {below : List Frame} {meth : Method} {c : Code} {H : Heap} {locs : List Loc} {cells slots : Nat} {Q : State → Prop}
variable {pc nL n index : Nat} {ls : Array Slot} {rest st0 As : List Value} {A0 : Nat → Prop} {H0 : Heap} {y : MethodName} {bytes cc : ByteArray} {maxL : Nat} {ret : Option FieldType} {wy Ts ws' : List Cond} {rm : Room} {own : String} {G : va_G} {cI cQ : ClassId} {b L : Nat} {xs : Nat → Int32} {av : List Value} {lv : List (Nat × Value)}
theorem xcS {post : Int32 → Prop} (S : CallFix p m c cc nL s args Ts own) (hM : Met l y wy rm (sPc G cI cQ As b L xs) (vp_Si post) 0 0 (fun _ => False)) (cw : CallB R s args own index y bytes maxL ret wy rm 0 0 n ∧ (Cond.static y).before args s = true)
    (hK : SF G cI cQ s) (hX : va_X b L xs s H0) (hbl : b < H0.size) (hbA : ¬ A0 b) (hS : va_S A0 H0 H locs)
    (hn : As.length = n) (hsize : ls.size = nL) (hst : st0 = As.reverse ++ rest) (hW : (rest.map fun v => v.category).sum ≤ 8) (hdg : decode cc pc = .ok (.invokestatic index, 3)) (hf : cells ≤ R.cells ∧ slots ≤ R.slots)
    (kk : ∀ r : Int32, post r → W p l e R s m args below meth c H locs cells slots Q (F0 m (pc + 3) ls (.int r :: rest))) : W p l e R s m args below meth c H locs cells slots Q (F0 m pc ls st0) :=
  va_callSi (va_runS (g := F0 m pc ls st0) S hM cw ⟨sPc.blind, fun U hU hW => ⟨rfl, by rw [hU]; exact va_X.moved hW.alike (hX.kept (hS.2.1 b hbl hbA)), by rw [hU]; exact Nat.lt_of_lt_of_le hbl hS.1, SF.warm hW hK⟩⟩ rfl hn hsize hst (by show 2 * 0 + _ ≤ 8; omega) hdg hf) kk
theorem ps_of {Qc : Array Value → State → Outcome → State → Prop} (hy : plainName y.cls = true) (hw : wy = Cond.code y cc maxL ret :: ws') (ho : y.cls = own) (hn : (lg_sl av).length ≤ maxL) (hlv : lv_args 0 av = lv)
    (body : ∀ (p : Program) (e : Env) (s : State) (m : MethodId) (below : List Frame) (meth : Method) (c : Code) (ls : Array Slot), p.tables.exec = Jvm.exec → c.code = cc → meth.sig.returnType = ret → (∀ w ∈ wy, w.before av.toArray s = true) → s.vm.findClass own = some m.cls → meth.locks = false → c.maxLocals = maxL → SF G cI cQ s → va_X b L xs s s.heap → b < s.heap.size → lv_has ls maxL lv →
      W p l e rm s m av.toArray below meth c s.heap [] 0 0 (MQ below Qc av.toArray s 0 0 (fun _ => False)) (F0 m 0 ls [])) : Met l y wy rm (sPc G cI cQ av b L xs) Qc 0 0 (fun _ => False) := by
  refine Met.ofW (cc := cc) (maxL := maxL) (ret := ret) hy hw ?_
  intro p e s m args below meth c s₁ B hml hv
  obtain ⟨rfl, hX, hbl, hK⟩ := hv
  rw [lg_entry_eq]
  subst hlv; subst ho
  exact body p e s m below meth c _ B.exec B.bytes B.returns (atoms_spec (ws := wy) B.pre) (findClass_of_methodNamed B.named) B.notSynchronized hml hK hX hbl (lv_entry av hn)
end XCS
theorem lk_L_cell_1 : Cond.constant RL 7 (916318735) ∈ wsL_cell := List.mem_of_getElem? (i := 1) (by decide +kernel)
set_option maxHeartbeats 4000000 in
set_option maxRecDepth 100000 in
theorem c_L_cell (l : Launch) (G : va_G) (cI cQ : ClassId) (b L : Nat) (xs : Nat → Int32) (hL : L < 2 ^ 31) (k : Nat) (hk : k < 2 ^ 31) : Met l yL_cell wsL_cell ({ frames := 0, cells := 0, slots := 0, locals := 0 } : Room) (sPc G cI cQ [.ref b, .int (nI k)] b L xs) (vp_Si (fun _ => True)) 0 0 (fun _ => False) := by
  refine ps_of (cc := cL_cell) (maxL := 3) (ret := (some .int)) (own := RL) (by decide) rfl rfl (Nat.le_of_ble_eq_true rfl) rfl ?_
  intro p e s m below meth cd ls hx hb hr hts hown hlocks hml hK hX hbl hl
  have hS : va_S (fun _ => False) s.heap s.heap [] := va_S.rf
  have hbA : ¬ (fun _ : Nat => False) b := fun q => q
  have KT : ∀ (v : Int32) (ls : Array Slot), lv_has ls 3 [(0, .ref b), (1, .int (nI k))] → W p l e ({ frames := 0, cells := 0, slots := 0, locals := 0 } : Room) s m ([.ref b, .int (nI k)] : List Value).toArray below meth cd s.heap [] 0 0 (MQ below (vp_Si (fun _ => True)) ([.ref b, .int (nI k)] : List Value).toArray s 0 0 (fun _ => False)) (F0 m 18 ls [.int v]) := by
    intro v ls hl
    refine lv_istore_n (lv' := [(2, .int v), (0, .ref b), (1, .int (nI k))]) hx hb dL_cell_18 rfl hl (by decide) rfl (fun ls hl => ?_)
    refine lv_iload_n hx hb dL_cell_19 rfl (lv_at hl 0 rfl) ?_
    refine lv_iload_n hx hb dL_cell_20 rfl (lv_at hl 0 rfl) ?_
    refine lv_bipush (v := 15) hx hb dL_cell_21 (by decide) ?_
    refine lv_iushr (v := ((v.toUInt32 >>> ((15 : Int32).toUInt32 &&& Int32.toUInt32 31)).toInt32)) hx hb dL_cell_23 rfl ?_
    refine lv_ixor hx hb dL_cell_24 ?_
    exact W.zret hx hb hr rfl (fun t ht _ => ⟨_, rfl, trivial, ht⟩) (fun q h => by cases h) dL_cell_25 hlocks
  refine lv_iload_n hx hb dL_cell_0 rfl (lv_at hl 1 rfl) ?_
  refine lv_aload_n hx hb dL_cell_1 rfl (lv_at hl 0 rfl) ?_
  refine va_slen hx hb hX hbl hbA hS dL_cell_2 ?_
  refine lv_cvt (y := nI L) rfl ?_
  refine lv_icmp_ge (tgt := 12) hx hb dL_cell_3 (by decide) (fun c => ?_) (fun c => ?_)
  · refine lv_ldc (v := 916318735) hx hb hown (hts _ lk_L_cell_1) dL_cell_12 ?_
    refine lv_iload_n hx hb dL_cell_14 rfl (lv_at hl 1 rfl) ?_
    refine lv_iconst (v := 3) hx hb dL_cell_15 (by decide) ?_
    refine lv_iadd hx hb dL_cell_16 ?_
    refine lv_imul hx hb dL_cell_17 ?_
    exact KT _ ls hl
  · refine lv_aload_n hx hb dL_cell_6 rfl (lv_at hl 0 rfl) ?_
    refine lv_iload_n hx hb dL_cell_7 rfl (lv_at hl 1 rfl) ?_
    refine va_sld hx hb hX hbl hbA hS (vp_in_nI (Nat.lt_of_not_le (fun q => c ((nI_leI hL hk).mpr q))) hL) dL_cell_8 ?_
    refine lv_goto (tgt := 18) hx hb dL_cell_9 (by decide) ?_
    exact KT _ ls hl
theorem cd_L_cell : yL_cell.cls = RL ∧ yL_cell.cls ≠ "java/lang/invoke/MethodHandle" ∧ yL_cell.cls ≠ "java/lang/invoke/VarHandle" ∧ (parseMethodDescriptor yL_cell.desc).map (fun d => d.parameters.length) = some 2 := by decide +kernel
/-- three states kept, and taken back one by one -/
theorem un3 {w : HW} (h1 : kde w ≤ 5) (h2 : kfr w < 5) (a b c d : CS) : (0 < kde (sKeep (sKeep (sKeep w a) b) c) ∧ cUndo (sKeep (sKeep (sKeep w a) b) c) d = c) ∧ (0 < kde (sUndo (sKeep (sKeep (sKeep w a) b) c)) ∧ cUndo (sUndo (sKeep (sKeep (sKeep w a) b) c)) d = b) ∧ (0 < kde (sUndo (sUndo (sKeep (sKeep (sKeep w a) b) c))) ∧ cUndo (sUndo (sUndo (sKeep (sKeep (sKeep w a) b) c))) d = a) := by
  obtain ⟨⟨dp, fr⟩, hs⟩ := w
  have h1 : dp ≤ 5 := h1
  have h2 : fr < 5 := h2
  obtain ⟨n, hn⟩ : ∃ n, n = min (min (min (dp + 1) 5 + 1) 5 + 1) 5 := ⟨_, rfl⟩
  have n3 : 3 ≤ n := by omega
  have e1 : sKeep (sKeep (sKeep ((dp, fr), hs) a) b) c = ((n, (((fr + 1) % 5 + 1) % 5 + 1) % 5), va_up (va_up (va_up hs fr a) ((fr + 1) % 5) b) (((fr + 1) % 5 + 1) % 5) c) := by
    rw [hn]
    rfl
  obtain ⟨H, hH⟩ : ∃ H, H = va_up (va_up (va_up hs fr a) ((fr + 1) % 5) b) (((fr + 1) % 5 + 1) % 5) c := ⟨_, rfl⟩
  rw [e1, ← hH]
  have u : ∀ (x y : Nat), 0 < x → sUndo ((x, y), H) = ((x - 1, (y + 4) % 5), H) := fun x y q => by
    unfold sUndo
    rw [if_pos q]
  have k : ∀ (x y : Nat), 0 < x → cUndo ((x, y), H) d = H ((y + 4) % 5) := fun x y q => if_pos q
  rw [u _ _ (by omega), u _ _ (by omega), k _ _ (by omega), k _ _ (by omega), k _ _ (by omega)]
  have f1 : ((((fr + 1) % 5 + 1) % 5 + 1) % 5 + 4) % 5 = ((fr + 1) % 5 + 1) % 5 := by omega
  have f2 : (((((fr + 1) % 5 + 1) % 5 + 1) % 5 + 4) % 5 + 4) % 5 = (fr + 1) % 5 := by omega
  have f3 : ((((((fr + 1) % 5 + 1) % 5 + 1) % 5 + 4) % 5 + 4) % 5 + 4) % 5 = fr := by omega
  rw [f3, f2, f1, hH]
  refine ⟨⟨by show 0 < n; omega, if_pos rfl⟩, ⟨by show 0 < n - 1; omega, ?_⟩, ⟨by show 0 < n - 1 - 1; omega, ?_⟩⟩
  · show (if (fr + 1) % 5 = ((fr + 1) % 5 + 1) % 5 then c else (if (fr + 1) % 5 = (fr + 1) % 5 then b else _)) = b
    rw [if_neg (by omega), if_pos rfl]
  · show (if fr = ((fr + 1) % 5 + 1) % 5 then c else (if fr = (fr + 1) % 5 then b else (if fr = fr then a else _))) = a
    rw [if_neg (by omega), if_neg (by omega), if_pos rfl]
/-- an object whose last three actions are undone -/
theorem un_all {o0 o1 o2 o3 o4 o5 o6 : ES} {r0 r1 r2 : Int32} (hE : EI o0) (w1 : WI (eC o1)) (w2 : WI (eC o2)) (k1 : eH o1 = sRec (eH o0) (eC o0) r0 ∧ ¬ r0 < 0 ∧ eY o1 = eY o0) (k2 : eH o2 = sRec (eH o1) (eC o1) r1 ∧ ¬ r1 < 0 ∧ eY o2 = eY o1) (k3 : eH o3 = sRec (eH o2) (eC o2) r2 ∧ ¬ r2 < 0 ∧ eY o3 = eY o2) (u4 : o4 = eUndo o3) (u5 : o5 = eUndo o4) (u6 : o6 = eUndo o5) : (¬ rUndo o3 < 0 ∧ EI o4) ∧ (¬ rUndo o4 < 0 ∧ EI o5) ∧ (¬ rUndo o5 < 0 ∧ EI o6 ∧ eC o6 = eC o0) := by
  have b1 := rec_b hE.2.1 hE.2.2.1 (eC o0) r0
  rw [← k1.1] at b1
  have b2 := rec_b b1.1 b1.2 (eC o1) r1
  rw [← k2.1] at b2
  have b3 := rec_b b2.1 b2.2 (eC o2) r2
  rw [← k3.1] at b3
  have e3 : eH o3 = sKeep (sKeep (sKeep (eH o0) (eC o0)) (eC o1)) (eC o2) := by
    rw [k3.1, k2.1, k1.1]
    unfold sRec
    rw [if_neg k3.2.1, if_neg k2.2.1, if_neg k1.2.1]
  have U := fun d => un3 hE.2.1 hE.2.2.1 (eC o0) (eC o1) (eC o2) d
  have h4 : eH o4 = sUndo (eH o3) := by rw [u4]; rfl
  have h5 : eH o5 = sUndo (eH o4) := by rw [u5]; rfl
  have h6 : eH o6 = sUndo (eH o5) := by rw [u6]; rfl
  have y4 : eY o4 = eY o3 := by rw [u4]; rfl
  have y5 : eY o5 = eY o4 := by rw [u5]; rfl
  have y6 : eY o6 = eY o5 := by rw [u6]; rfl
  have c4 : eC o4 = eC o2 := by
    rw [u4]
    show cUndo (eH o3) (eC o3) = _
    rw [e3]
    exact (U _).1.2
  have c5 : eC o5 = eC o1 := by
    rw [u5]
    show cUndo (eH o4) (eC o4) = _
    rw [h4, e3]
    exact (U _).2.1.2
  have c6 : eC o6 = eC o0 := by
    rw [u6]
    show cUndo (eH o5) (eC o5) = _
    rw [h5, h4, e3]
    exact (U _).2.2.2
  have d3 : 0 < kde (eH o3) := by rw [e3]; exact (U (eC o3)).1.1
  have d4 : 0 < kde (eH o4) := by rw [h4, e3]; exact (U (eC o3)).2.1.1
  have d5 : 0 < kde (eH o5) := by rw [h5, h4, e3]; exact (U (eC o3)).2.2.1
  have b4 := und_b b3.1 b3.2
  rw [← h4] at b4
  have b5 := und_b b4.1 b4.2
  rw [← h5] at b5
  have b6 := und_b b5.1 b5.2
  rw [← h6] at b6
  have y0 : kPlen (eY o3) ≤ 100 := by rw [k3.2.2, k2.2.2, k1.2.2]; exact hE.2.2.2
  have r : ∀ o : ES, 0 < kde (eH o) → kde (sUndo (eH o)) ≤ 5 → ¬ rUndo o < 0 := fun o q q2 => by
    unfold rUndo
    rw [if_pos q]
    exact nI_pos (by omega)
  refine ⟨⟨r _ d3 (by rw [← h4]; exact b4.1), ?_⟩, ⟨r _ d4 (by rw [← h5]; exact b5.1), ?_⟩, ⟨r _ d5 (by rw [← h6]; exact b6.1), ?_, c6⟩⟩
  · exact ⟨by rw [c4]; exact w2, b4.1, b4.2, by rw [y4]; exact y0⟩
  · exact ⟨by rw [c5]; exact w1, b5.1, b5.2, by rw [y5, y4]; exact y0⟩
  · exact ⟨by rw [c6]; exact hE.1, b6.1, b6.2, by rw [y6, y5, y4]; exact y0⟩
theorem k_act {o o1 : ES} {r : Int32 × CS} (hr : ¬ r.1 < 0) (ho : o1 = eAct o r) : eH o1 = sRec (eH o) (eC o) r.1 ∧ ¬ r.1 < 0 ∧ eY o1 = eY o := by
  subst ho
  exact ⟨rfl, hr, rfl⟩
theorem k_even {o o1 : ES} {r : Int32 × (CS × SS)} (hr : ¬ r.1 < 0) (ho : o1 = eEven o r) : eH o1 = sRec (eH o) (eC o) r.1 ∧ ¬ r.1 < 0 ∧ eY o1 = eY o := by
  subst ho
  exact ⟨rfl, hr, rfl⟩
/-- an undo that has nothing to take back -/
theorem un_0 {o o1 : ES} (hE : EI o) (h0 : kde (eH o) = 0) (ho : o1 = eUndo o) : rUndo o = -2 ∧ EI o1 ∧ eC o1 = eC o := by
  have n : ¬ 0 < kde (eH o) := by omega
  have b := und_b hE.2.1 hE.2.2.1
  have c : eC o1 = eC o := by
    rw [ho]
    exact if_neg n
  refine ⟨if_neg n, ⟨by rw [c]; exact hE.1, by rw [ho]; exact b.1, by rw [ho]; exact b.2, by rw [ho]; exact hE.2.2.2⟩, c⟩
/-- the first object -/
abbrev oo0 : ES := (cl0, cl0, cl0, hw0, st0c, pg0)
theorem ei_0 : EI oo0 := by
  refine ⟨⟨⟨⟨by decide, by decide⟩, fun j hj => absurd hj (Nat.not_lt_zero j), fun j hj => absurd hj (Nat.not_lt_zero j), fun k _ => rfl, ⟨rfl, Or.inl rfl⟩, rfl, ⟨by decide, by decide, by decide⟩, rfl⟩, ⟨by decide, by decide⟩⟩, by decide, by decide, by decide⟩
