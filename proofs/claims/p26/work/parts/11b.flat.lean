/-! worlds of many cells, as rows of blocks: a call takes the blocks that a mask names -/
def fl : List va_W → va_W
  | [] => []
  | w :: ws => w ++ fl ws
def sel (b : Bool) : List Bool → List va_W → List va_W
  | m :: ms, w :: ws => if m = b then w :: sel b ms ws else sel b ms ws
  | _, _ => []
theorem P_mem {G : va_G} {cl : List vw_C} {ws : va_W} {H : Heap} : va_P G cl ws H ↔ ∀ q ∈ ws, va_at G cl q H :=
  ⟨fun h q hq => by obtain ⟨k, hk⟩ := List.mem_iff_getElem?.mp hq; exact h k q hk, fun h _ q hk => h q (List.mem_of_getElem? hk)⟩
theorem D_nd {A : Nat → Prop} {ws : va_W} : va_D A ws ↔ (ws.map (fun q => q.1)).Nodup ∧ ∀ q ∈ ws, A q.1 := by
  constructor
  · intro h
    refine ⟨?_, fun q hq => by obtain ⟨k, hk⟩ := List.mem_iff_getElem?.mp hq; exact h.2 k q hk⟩
    rw [List.nodup_iff_pairwise_ne, List.pairwise_iff_getElem]
    intro i j hi hj hij e
    rw [List.length_map] at hi hj
    rw [List.getElem_map, List.getElem_map] at e
    have h9 := h.1 i j ws[i] ws[j] (List.getElem?_eq_getElem hi) (List.getElem?_eq_getElem hj) e
    omega
  · intro h
    refine ⟨?_, fun k q hk => h.2 q (List.mem_of_getElem? hk)⟩
    have h1 := h.1
    rw [List.nodup_iff_pairwise_ne, List.pairwise_iff_getElem] at h1
    intro i j p q hp hq e
    obtain ⟨hi, rfl⟩ := List.getElem?_eq_some_iff.mp hp
    obtain ⟨hj, rfl⟩ := List.getElem?_eq_some_iff.mp hq
    rcases Nat.lt_trichotomy i j with g | g | g
    · exact absurd (by rw [List.getElem_map, List.getElem_map]; exact e) (h1 i j (by rw [List.length_map]; exact hi) (by rw [List.length_map]; exact hj) g)
    · exact g
    · exact absurd (by rw [List.getElem_map, List.getElem_map]; exact e.symm) (h1 j i (by rw [List.length_map]; exact hj) (by rw [List.length_map]; exact hi) g)
theorem mem_sel {b : Bool} {q : Nat × va_E} : ∀ {ms : List Bool} {bs : List va_W}, q ∈ fl (sel b ms bs) → q ∈ fl bs
  | [], _, h => by cases h
  | _ :: _, [], h => by cases h
  | m :: ms, w :: bs, h => by
    unfold sel at h
    split at h
    · rcases List.mem_append.mp h with h | h
      · exact List.mem_append_left _ h
      · exact List.mem_append_right _ (mem_sel h)
    · exact List.mem_append_right _ (mem_sel h)
theorem mem_split {q : Nat × va_E} : ∀ {ms : List Bool} {bs : List va_W}, ms.length = bs.length → q ∈ fl bs → q ∈ fl (sel true ms bs) ∨ q ∈ fl (sel false ms bs)
  | [], [], _, h => by cases h
  | [], _ :: _, e, _ => by cases e
  | _ :: _, [], e, _ => by cases e
  | m :: ms, w :: bs, e, h => by
    have e2 : ms.length = bs.length := Nat.succ.inj e
    rcases List.mem_append.mp h with h | h
    · cases m
      · exact Or.inr (List.mem_append_left _ h)
      · exact Or.inl (List.mem_append_left _ h)
    · rcases mem_split e2 h with h | h
      · left
        unfold sel
        split
        · exact List.mem_append_right _ h
        · exact h
      · right
        unfold sel
        split
        · exact List.mem_append_right _ h
        · exact h
theorem sel_sub (b : Bool) : ∀ (ms : List Bool) (bs : List va_W), (fl (sel b ms bs)).Sublist (fl bs)
  | [], _ => List.nil_sublist _
  | _ :: _, [] => List.nil_sublist _
  | m :: ms, w :: bs => by
    unfold sel
    split
    · exact (List.Sublist.refl w).append (sel_sub b ms bs)
    · exact (sel_sub b ms bs).trans (List.sublist_append_right _ _)
theorem sel_perm : ∀ (ms : List Bool) (bs : List va_W), ms.length = bs.length → (fl (sel false ms bs) ++ fl (sel true ms bs)).Perm (fl bs)
  | [], [], _ => List.Perm.refl _
  | [], _ :: _, e => by cases e
  | _ :: _, [], e => by cases e
  | m :: ms, w :: bs, e => by
    have ih := sel_perm ms bs (Nat.succ.inj e)
    cases m
    · show ((w ++ fl (sel false ms bs)) ++ fl (sel true ms bs)).Perm (w ++ fl bs)
      rw [List.append_assoc]
      exact List.Perm.append_left w ih
    · show (fl (sel false ms bs) ++ (w ++ fl (sel true ms bs))).Perm (w ++ fl bs)
      refine List.Perm.trans ?_ (List.Perm.append_left w ih)
      rw [← List.append_assoc, ← List.append_assoc]
      exact List.Perm.append_right _ List.perm_append_comm
theorem P_perm {G : va_G} {cl : List vw_C} {w1 w2 : va_W} {H : Heap} (e : w1.Perm w2) (h : va_P G cl w1 H) : va_P G cl w2 H := P_mem.mpr fun q hq => P_mem.mp h q (e.mem_iff.mpr hq)
theorem D_perm {A : Nat → Prop} {w1 w2 : va_W} (e : w1.Perm w2) (h : va_D A w1) : va_D A w2 := by
  rw [D_nd] at h ⊢
  exact ⟨(e.map _).nodup_iff.mp h.1, fun q hq => h.2 q (e.mem_iff.mpr hq)⟩
theorem P_sel {G : va_G} {cl : List vw_C} {bs : List va_W} {H : Heap} (b : Bool) (ms : List Bool) (h : va_P G cl (fl bs) H) : va_P G cl (fl (sel b ms bs)) H := P_mem.mpr fun q hq => P_mem.mp h q (mem_sel hq)
theorem D_sel {A : Nat → Prop} {bs : List va_W} (b : Bool) (ms : List Bool) (h : va_D A (fl bs)) : va_D A (fl (sel b ms bs)) := by
  rw [D_nd] at h ⊢
  exact ⟨h.1.sublist ((sel_sub b ms bs).map _), fun q hq => h.2 q (mem_sel hq)⟩
/-- one block of a row of blocks -/
theorem P_blk {G : va_G} {cl : List vw_C} {H : Heap} : ∀ {bs : List va_W} (_ : va_P G cl (fl bs) H) (k : Nat) {w : va_W}, bs[k]? = some w → va_P G cl w H
  | [], _, k, _, e => by simp at e
  | w0 :: bs, h, 0, w, e => by
    simp at e
    subst e
    exact P_mem.mpr fun q hq => P_mem.mp h q (List.mem_append_left _ hq)
  | w0 :: bs, h, k + 1, w, e => by
    refine P_blk (bs := bs) (P_mem.mpr fun q hq => P_mem.mp h q (List.mem_append_right _ hq)) k ?_
    simpa using e
theorem joinF {A0 : Nat → Prop} {G : va_G} {cl : List vw_C} {bs bs1 : List va_W} {wc w1 : va_W} {H H1 : Heap} (ms : List Bool) (hP : va_P G cl (fl bs) H) (hD : va_D A0 (fl bs)) (hl : ms.length = bs.length) (hl1 : ms.length = bs1.length) (hC : fl (sel true ms bs) = wc) (hR : sel false ms bs1 = sel false ms bs) (hw : fl (sel true ms bs1) = w1)
    (hk : ∀ q : Nat, q < H.size → ¬ va_A wc H.size q → H1[q]? = H[q]?) (hF : ∀ q, va_A wc H.size q → A0 q) (hP1 : va_P G cl w1 H1) (hD1 : va_D (va_A wc H.size) w1) : va_P G cl (fl bs1) H1 ∧ va_D A0 (fl bs1) := by
  subst hC; subst hw
  have hperm := sel_perm ms bs hl
  have hDp : va_D A0 (fl (sel false ms bs) ++ fl (sel true ms bs)) := D_perm hperm.symm hD
  have hN := (D_nd.mp hDp).1
  rw [List.map_append, List.nodup_append] at hN
  have hlt : ∀ q ∈ fl (sel false ms bs), q.1 < H.size ∧ ¬ va_A (fl (sel true ms bs)) H.size q.1 := by
    intro q hq
    have h1 := (P_mem.mp hP q (mem_sel hq)).lt
    refine ⟨h1, ?_⟩
    rintro (⟨k, e9, he⟩ | h2)
    · exact hN.2.2 q.1 (List.mem_map_of_mem hq) q.1 (List.mem_map.mpr ⟨(q.1, e9), List.mem_of_getElem? he, rfl⟩) rfl
    · omega
  have hPR : va_P G cl (fl (sel false ms bs)) H1 := P_mem.mpr fun q hq => by
    have h1 := hlt q hq
    exact (P_mem.mp hP q (mem_sel hq)).kept (hk q.1 h1.1 h1.2)
  have hP2 : va_P G cl (fl (sel false ms bs) ++ fl (sel true ms bs1)) H1 := hPR.app hP1
  have hD2 : va_D A0 (fl (sel false ms bs) ++ fl (sel true ms bs1)) := by
    rw [D_nd]
    have h1 := D_nd.mp hD1
    refine ⟨?_, ?_⟩
    · rw [List.map_append, List.nodup_append]
      refine ⟨hN.1, h1.1, ?_⟩
      intro x hx y hy exy
      obtain ⟨q, hq, rfl⟩ := List.mem_map.mp hx
      obtain ⟨r, hr, hr2⟩ := List.mem_map.mp hy
      have h2 := h1.2 r hr
      exact (hlt q hq).2 (by rw [exy, ← hr2]; exact h2)
    · intro q hq
      rcases List.mem_append.mp hq with hq | hq
      · exact (D_nd.mp hDp).2 q (List.mem_append_left _ hq)
      · exact hF _ (h1.2 q hq)
  have hperm1 := sel_perm ms bs1 hl1
  rw [hR] at hperm1
  exact ⟨P_perm hperm1 hP2, D_perm hperm1 hD2⟩
theorem freeF {A0 : Nat → Prop} {bs : List va_W} {wc : va_W} {H0 H : Heap} {locs : List Loc} (ms : List Bool) (hD : va_D A0 (fl bs)) (hS : va_S A0 H0 H locs) (hA : ∀ q, H0.size ≤ q → A0 q) (hC : fl (sel true ms bs) = wc) : ∀ q, va_A wc H.size q → A0 q := by
  subst hC
  rintro q (⟨k, e, he⟩ | h)
  · exact (D_nd.mp (D_sel true ms hD)).2 (q, e) (List.mem_of_getElem? he)
  · exact hA q (Nat.le_trans hS.1 h)
section FCALLS
variable {p : Program} {l : Launch} {e : Env} {R : Room} {s : State} {m : MethodId} {args : Array Value} {below : List Frame} {meth : Method} {c : Code} {H : Heap} {locs : List Loc} {cells slots : Nat} {Q : State → Prop}
variable {pc nL mc ms0 n index : Nat} {ls : Array Slot} {rest st0 As : List Value} {a : Array Value} {A0 A1 : Nat → Prop} {H0 : Heap} {y : MethodName} {bytes cc : ByteArray} {maxL : Nat} {ret : Option FieldType} {wy Ts : List Cond} {rm : Room} {own C host : String} {b : Addr} {G : va_G} {cI cQ : ClassId} {bs bs1 : List va_W} {wc w1 wk : va_W}
theorem fpV {v : Int32} {ci : Nat} {fs : List Value} {qc : vw_C} (S : CallFix p m c cc nL s args Ts own) (hM : Met l y wy rm (pPc G cI cQ (.ref b :: As) wc) (vp_Si (fun r => r = v)) 0 0 (fun _ => False)) (cw : CallW R s args own C index y bytes maxL ret wy rm 0 0 n)
    (hK : SF G cI cQ s) (hP : va_P G vwCl (fl bs) H) (ms : List Bool) (hC : fl (sel true ms bs) = wc) (k0 q0 : Nat) (hk0 : bs[k0]? = some wk) (he : wk[q0]? = some (b, .inr (ci, fs))) (hc : vwCl[ci]? = some qc) (hqc : qc.1 = C)
    (hn : As.length = n) (hsize : ls.size = nL) (hst : st0 = As.reverse ++ .ref b :: rest) (hW : (rest.map fun v => v.category).sum ≤ 8) (hdg : decode cc pc = .ok (.invokevirtual index, 3)) (hf : cells ≤ R.cells ∧ slots ≤ R.slots)
    (kk : W p l e R s m args below meth c H locs cells slots Q (F0 m (pc + 3) ls (.int v :: rest))) : W p l e R s m args below meth c H locs cells slots Q (F0 m pc ls st0) := by
  subst hqc
  subst hC
  exact va_callSi (va_runV (g := F0 m pc ls st0) S hM cw ⟨pPc.blind, va_recv hK.1 (P_blk hP k0 hk0) hc he, fun U hU hW => ⟨rfl, by rw [hU]; exact P_sel true ms hP, SF.warm hW hK⟩⟩ rfl hn hsize hst (by show 2 * 0 + _ ≤ 8; omega) hdg hf) (fun r hr => by subst hr; exact kk)
theorem fmV {post : Int32 → Unit → Prop} {ci : Nat} {fs : List Value} {qc : vw_C} (S : CallFix p m c cc nL s args Ts own) (hM : Met l y wy rm (mPc G cI cQ (.ref b :: As) wc H.size) (va_Qi post (mB G (va_A wc H.size) (fun _ => w1)) (va_A wc H.size)) mc ms0 (va_A wc H.size)) (cw : CallW R s args own C index y bytes maxL ret wy rm mc ms0 n)
    (hK : SF G cI cQ s) (hP : va_P G vwCl (fl bs) H) (hD : va_D A0 (fl bs)) (hS : va_S A0 H0 H locs) (hA : ∀ q, H0.size ≤ q → A0 q) (ms : List Bool) (hC : fl (sel true ms bs) = wc) (hl : ms.length = bs.length) (hl1 : ms.length = bs1.length) (hR : sel false ms bs1 = sel false ms bs) (hw : fl (sel true ms bs1) = w1) (k0 q0 : Nat) (hk0 : bs[k0]? = some wk) (he : wk[q0]? = some (b, .inr (ci, fs))) (hc : vwCl[ci]? = some qc) (hqc : qc.1 = C)
    (hn : As.length = n) (hsize : ls.size = nL) (hst : st0 = As.reverse ++ .ref b :: rest) (hW : (rest.map fun v => v.category).sum ≤ 8) (hdg : decode cc pc = .ok (.invokevirtual index, 3)) (hf : cells + mc ≤ R.cells ∧ slots + ms0 ≤ R.slots)
    (kk : ∀ (r : Int32) (H1 : Heap) (locs1 : List Loc), post r () → va_P G vwCl (fl bs1) H1 → va_D A0 (fl bs1) → va_S A0 H0 H1 locs1 → W p l e R s m args below meth c H1 locs1 (cells + mc) (slots + ms0) Q (F0 m (pc + 3) ls (.int r :: rest))) : W p l e R s m args below meth c H locs cells slots Q (F0 m pc ls st0) := by
  subst hqc
  have hFc := freeF ms hD hS hA hC
  exact va_calli (va_runV (g := F0 m pc ls st0) S hM cw ⟨mPc.blind, va_recv hK.1 (P_blk hP k0 hk0) hc he, fun U hU hW => ⟨rfl, by rw [hU], by rw [hU, ← hC]; exact P_sel true ms hP, SF.warm hW hK, by rw [← hC]; exact (D_sel true ms hD).weaken (fun _ _ _ _ => trivial)⟩⟩ rfl hn hsize hst (by show 2 * 0 + _ ≤ 8; omega) hdg hf) hS (fun q _ h => hFc q h) hFc
    (fun r u t H1 locs1 ht hvm hpo hB hz1 hk1 hS1 => by
      obtain ⟨hP1, hD1⟩ := hB
      rw [ht] at hP1
      obtain ⟨hP2, hD2⟩ := joinF (bs1 := bs1) ms hP hD hl hl1 hC hR hw hk1 hFc hP1 hD1
      exact kk r H1 locs1 hpo hP2 hD2 hS1)
theorem fmVv {post : Unit → Prop} {ci : Nat} {fs : List Value} {qc : vw_C} (S : CallFix p m c cc nL s args Ts own) (hM : Met l y wy rm (mPc G cI cQ (.ref b :: As) wc H.size) (va_Qv post (mB G (va_A wc H.size) (fun _ => w1)) (va_A wc H.size)) mc ms0 (va_A wc H.size)) (cw : CallW R s args own C index y bytes maxL ret wy rm mc ms0 n)
    (hK : SF G cI cQ s) (hP : va_P G vwCl (fl bs) H) (hD : va_D A0 (fl bs)) (hS : va_S A0 H0 H locs) (hA : ∀ q, H0.size ≤ q → A0 q) (ms : List Bool) (hC : fl (sel true ms bs) = wc) (hl : ms.length = bs.length) (hl1 : ms.length = bs1.length) (hR : sel false ms bs1 = sel false ms bs) (hw : fl (sel true ms bs1) = w1) (k0 q0 : Nat) (hk0 : bs[k0]? = some wk) (he : wk[q0]? = some (b, .inr (ci, fs))) (hc : vwCl[ci]? = some qc) (hqc : qc.1 = C)
    (hn : As.length = n) (hsize : ls.size = nL) (hst : st0 = As.reverse ++ .ref b :: rest) (hW : (rest.map fun v => v.category).sum ≤ 8) (hdg : decode cc pc = .ok (.invokevirtual index, 3)) (hf : cells + mc ≤ R.cells ∧ slots + ms0 ≤ R.slots)
    (kk : ∀ (H1 : Heap) (locs1 : List Loc), va_P G vwCl (fl bs1) H1 → va_D A0 (fl bs1) → va_S A0 H0 H1 locs1 → W p l e R s m args below meth c H1 locs1 (cells + mc) (slots + ms0) Q (F0 m (pc + 3) ls rest)) : W p l e R s m args below meth c H locs cells slots Q (F0 m pc ls st0) := by
  subst hqc
  have hFc := freeF ms hD hS hA hC
  exact va_callv (va_runV (g := F0 m pc ls st0) S hM cw ⟨mPc.blind, va_recv hK.1 (P_blk hP k0 hk0) hc he, fun U hU hW => ⟨rfl, by rw [hU], by rw [hU, ← hC]; exact P_sel true ms hP, SF.warm hW hK, by rw [← hC]; exact (D_sel true ms hD).weaken (fun _ _ _ _ => trivial)⟩⟩ rfl hn hsize hst (by show 2 * 0 + _ ≤ 8; omega) hdg hf) hS (fun q _ h => hFc q h) hFc
    (fun u t H1 locs1 ht hvm hpo hB hz1 hk1 hS1 => by
      obtain ⟨hP1, hD1⟩ := hB
      rw [ht] at hP1
      obtain ⟨hP2, hD2⟩ := joinF (bs1 := bs1) ms hP hD hl hl1 hC hR hw hk1 hFc hP1 hD1
      exact kk H1 locs1 hP2 hD2 hS1)
theorem fmS {post : Int32 → Unit → Prop} (S : CallFix p m c cc nL s args Ts own) (hM : Met l y wy rm (mPc G cI cQ As wc H.size) (va_Qi post (mB G (va_A wc H.size) (fun _ => w1)) (va_A wc H.size)) mc ms0 (va_A wc H.size)) (cw : CallB R s args own index y bytes maxL ret wy rm mc ms0 n ∧ (Cond.static y).before args s = true)
    (hK : SF G cI cQ s) (hP : va_P G vwCl (fl bs) H) (hD : va_D A0 (fl bs)) (hS : va_S A0 H0 H locs) (hA : ∀ q, H0.size ≤ q → A0 q) (ms : List Bool) (hC : fl (sel true ms bs) = wc) (hl : ms.length = bs.length) (hl1 : ms.length = bs1.length) (hR : sel false ms bs1 = sel false ms bs) (hw : fl (sel true ms bs1) = w1)
    (hn : As.length = n) (hsize : ls.size = nL) (hst : st0 = As.reverse ++ rest) (hW : (rest.map fun v => v.category).sum ≤ 8) (hdg : decode cc pc = .ok (.invokestatic index, 3)) (hf : cells + mc ≤ R.cells ∧ slots + ms0 ≤ R.slots)
    (kk : ∀ (r : Int32) (H1 : Heap) (locs1 : List Loc), post r () → va_P G vwCl (fl bs1) H1 → va_D A0 (fl bs1) → va_S A0 H0 H1 locs1 → W p l e R s m args below meth c H1 locs1 (cells + mc) (slots + ms0) Q (F0 m (pc + 3) ls (.int r :: rest))) : W p l e R s m args below meth c H locs cells slots Q (F0 m pc ls st0) := by
  have hFc := freeF ms hD hS hA hC
  exact va_calli (va_runS (g := F0 m pc ls st0) S hM cw ⟨mPc.blind, fun U hU hW => ⟨rfl, by rw [hU], by rw [hU, ← hC]; exact P_sel true ms hP, SF.warm hW hK, by rw [← hC]; exact (D_sel true ms hD).weaken (fun _ _ _ _ => trivial)⟩⟩ rfl hn hsize hst (by show 2 * 0 + _ ≤ 8; omega) hdg hf) hS (fun q _ h => hFc q h) hFc
    (fun r u t H1 locs1 ht hvm hpo hB hz1 hk1 hS1 => by
      obtain ⟨hP1, hD1⟩ := hB
      rw [ht] at hP1
      obtain ⟨hP2, hD2⟩ := joinF (bs1 := bs1) ms hP hD hl hl1 hC hR hw hk1 hFc hP1 hD1
      exact kk r H1 locs1 hpo hP2 hD2 hS1)
end FCALLS
