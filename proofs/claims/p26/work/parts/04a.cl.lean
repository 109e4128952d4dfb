-- X4_at
set_option maxHeartbeats 4000000 in
set_option maxRecDepth 100000 in
theorem c_X4_at (l : Launch) (G : va_G) (cI cQ : ClassId) (x : Nat) (n : Nat) (f : Nat → Int32) (p0 : Int32) (hn : n < 2 ^ 31) : Met l yX4_at wsX4_at ({ frames := 0, cells := 0, slots := 0, locals := 0 } : Room) (pPc G cI cQ [.ref x, .int p0] (([(x, .inl (cI, n, .inl f))]))) (vp_Si (fun r => r = aT n f p0)) 0 0 (fun _ => False) := by
  refine pm_of (cc := cX4_at) (maxL := 2) (ret := (some .int)) (own := RX4) (by decide) rfl rfl (Nat.le_of_ble_eq_true rfl) rfl ?_
  intro p e s m below meth cd ls hx hb hr hts hown hlocks hml hK hP hl
  refine lv_iload_n hx hb dX4_at_0 rfl (lv_at hl 1 rfl) ?_
  refine lv_if_lt (tgt := 16) hx hb dX4_at_1 (by decide) (fun c_1 => ?_) (fun c_1 => ?_)
  · skip
    refine lv_iconst (v := 0) hx hb dX4_at_16 (by decide) ?_
    exact p_ret hx hb hr hlocks rfl (by first | rfl | (simp only [aT, eq_true c_1, eq_false (Int32.not_le.mpr c_1), if_true, if_false, and_true, true_and, and_false, false_and, or_true, true_or, or_false, false_or, not_true_eq_false, not_false_eq_true, ne_eq, ite_true, ite_false]) | (simp only [aT, eq_true c_1, eq_false (Int32.not_le.mpr c_1), if_true, if_false, and_true, true_and, and_false, false_and, or_true, true_or, or_false, false_or, not_true_eq_false, not_false_eq_true, ne_eq, ite_true, ite_false]; rfl)) dX4_at_17
  · skip
    refine lv_iload_n hx hb dX4_at_4 rfl (lv_at hl 1 rfl) ?_
    refine lv_aload_n hx hb dX4_at_5 rfl (lv_at hl 0 rfl) ?_
    refine va_alen (v := nI n) hx hb hK.1 hP 0 0 rfl rfl rfl dX4_at_6 ?_
    refine lv_icmp_ge (tgt := 16) hx hb dX4_at_7 (by decide) (fun c_2 => ?_) (fun c_2 => ?_)
    · skip
      refine lv_iconst (v := 0) hx hb dX4_at_16 (by decide) ?_
      exact p_ret hx hb hr hlocks rfl (by first | rfl | (simp only [aT, eq_false c_1, eq_true (Int32.not_lt.mp c_1), eq_true c_2, eq_false (Int32.not_lt.mpr c_2), if_true, if_false, and_true, true_and, and_false, false_and, or_true, true_or, or_false, false_or, not_true_eq_false, not_false_eq_true, ne_eq, ite_true, ite_false]) | (simp only [aT, eq_false c_1, eq_true (Int32.not_lt.mp c_1), eq_true c_2, eq_false (Int32.not_lt.mpr c_2), if_true, if_false, and_true, true_and, and_false, false_and, or_true, true_or, or_false, false_or, not_true_eq_false, not_false_eq_true, ne_eq, ite_true, ite_false]; rfl)) dX4_at_17
    · skip
      refine lv_aload_n hx hb dX4_at_10 rfl (lv_at hl 0 rfl) ?_
      refine lv_iload_n hx hb dX4_at_11 rfl (lv_at hl 1 rfl) ?_
      refine va_iald hx hb hK.1 hP 0 0 rfl rfl (in_of c_1 c_2 hn) dX4_at_12 ?_
      refine lv_goto (tgt := 17) hx hb dX4_at_13 (by decide) ?_
      exact p_ret hx hb hr hlocks rfl (by first | rfl | (simp only [aT, eq_false c_1, eq_true (Int32.not_lt.mp c_1), eq_false c_2, eq_true (Int32.not_le.mp c_2), if_true, if_false, and_true, true_and, and_false, false_and, or_true, true_or, or_false, false_or, not_true_eq_false, not_false_eq_true, ne_eq, ite_true, ite_false]) | (simp only [aT, eq_false c_1, eq_true (Int32.not_lt.mp c_1), eq_false c_2, eq_true (Int32.not_le.mp c_2), if_true, if_false, and_true, true_and, and_false, false_and, or_true, true_or, or_false, false_or, not_true_eq_false, not_false_eq_true, ne_eq, ite_true, ite_false]; rfl)) dX4_at_17
theorem cd_X4_at : yX4_at.cls = RX4 ∧ yX4_at.cls ≠ "java/lang/invoke/MethodHandle" ∧ yX4_at.cls ≠ "java/lang/invoke/VarHandle" ∧ (parseMethodDescriptor yX4_at.desc).map (fun d => d.parameters.length) = some 2 := by decide +kernel
-- X4_put
set_option maxHeartbeats 4000000 in
set_option maxRecDepth 100000 in
theorem c_X4_put (l : Launch) (G : va_G) (cI cQ : ClassId) (x : Nat) (n : Nat) (f : Nat → Int32) (p0 p1 : Int32) (hn : n < 2 ^ 31) (sz0 : Nat) : Met l yX4_put wsX4_put ({ frames := 0, cells := 0, slots := 0, locals := 0 } : Room) (mPc G cI cQ [.ref x, .int p0, .int p1] (([(x, .inl (cI, n, .inl f))])) sz0) (va_Qv (fun (_ : Unit) => True) (mB G (va_A (([(x, .inl (cI, n, .inl f))])) sz0) (fun _ => ([(x, .inl (cI, n, .inl (pT n f p0 p1)))]))) (va_A (([(x, .inl (cI, n, .inl f))])) sz0)) 0 0 (va_A (([(x, .inl (cI, n, .inl f))])) sz0) := by
  refine mm_ofv (cc := cX4_put) (maxL := 3) (ret := none) (own := RX4) (by decide) rfl rfl (Nat.le_of_ble_eq_true rfl) rfl ?_
  intro p e s m below meth cd ls A hx hb hr hts hown hlocks hml hA hK hP hD hS hl
  refine lv_iload_n hx hb dX4_put_0 rfl (lv_at hl 1 rfl) ?_
  refine lv_if_lt (tgt := 14) hx hb dX4_put_1 (by decide) (fun c_1 => ?_) (fun c_1 => ?_)
  · skip
    exact m_vret () hx hb hr hlocks trivial (by rw [show (pT n f p0 p1) = f from by simp only [pT, eq_true c_1, eq_false (Int32.not_le.mpr c_1), if_true, if_false, and_true, true_and, and_false, false_and, or_true, true_or, or_false, false_or, not_true_eq_false, not_false_eq_true, ne_eq, ite_true, ite_false]]; exact hP) (by rw [show (pT n f p0 p1) = f from by simp only [pT, eq_true c_1, eq_false (Int32.not_le.mpr c_1), if_true, if_false, and_true, true_and, and_false, false_and, or_true, true_or, or_false, false_or, not_true_eq_false, not_false_eq_true, ne_eq, ite_true, ite_false]]; exact hD) hS dX4_put_14
  · skip
    refine lv_iload_n hx hb dX4_put_4 rfl (lv_at hl 1 rfl) ?_
    refine lv_aload_n hx hb dX4_put_5 rfl (lv_at hl 0 rfl) ?_
    refine va_alen (v := nI n) hx hb hK.1 hP 0 0 rfl rfl rfl dX4_put_6 ?_
    refine lv_icmp_ge (tgt := 14) hx hb dX4_put_7 (by decide) (fun c_2 => ?_) (fun c_2 => ?_)
    · skip
      exact m_vret () hx hb hr hlocks trivial (by rw [show (pT n f p0 p1) = f from by simp only [pT, eq_false c_1, eq_true (Int32.not_lt.mp c_1), eq_true c_2, eq_false (Int32.not_lt.mpr c_2), if_true, if_false, and_true, true_and, and_false, false_and, or_true, true_or, or_false, false_or, not_true_eq_false, not_false_eq_true, ne_eq, ite_true, ite_false]]; exact hP) (by rw [show (pT n f p0 p1) = f from by simp only [pT, eq_false c_1, eq_true (Int32.not_lt.mp c_1), eq_true c_2, eq_false (Int32.not_lt.mpr c_2), if_true, if_false, and_true, true_and, and_false, false_and, or_true, true_or, or_false, false_or, not_true_eq_false, not_false_eq_true, ne_eq, ite_true, ite_false]]; exact hD) hS dX4_put_14
    · skip
      refine lv_aload_n hx hb dX4_put_10 rfl (lv_at hl 0 rfl) ?_
      refine lv_iload_n hx hb dX4_put_11 rfl (lv_at hl 1 rfl) ?_
      refine lv_iload_n hx hb dX4_put_12 rfl (lv_at hl 2 rfl) ?_
      refine va_iast hx hb hK.1 hP hD hS 0 0 rfl rfl (in_of c_1 c_2 hn) dX4_put_13 (fun H locs hP hD hS => ?_)
      have hP : va_P G vwCl (([(x, .inl (cI, n, .inl (upd f p0.toNatClampNeg p1)))])) H := hP
      have hD : va_D A (([(x, .inl (cI, n, .inl (upd f p0.toNatClampNeg p1)))])) := hD
      exact m_vret () hx hb hr hlocks trivial (by rw [show (pT n f p0 p1) = (upd f p0.toNatClampNeg p1) from by simp only [pT, eq_false c_1, eq_true (Int32.not_lt.mp c_1), eq_false c_2, eq_true (Int32.not_le.mp c_2), if_true, if_false, and_true, true_and, and_false, false_and, or_true, true_or, or_false, false_or, not_true_eq_false, not_false_eq_true, ne_eq, ite_true, ite_false]]; exact hP) (by rw [show (pT n f p0 p1) = (upd f p0.toNatClampNeg p1) from by simp only [pT, eq_false c_1, eq_true (Int32.not_lt.mp c_1), eq_false c_2, eq_true (Int32.not_le.mp c_2), if_true, if_false, and_true, true_and, and_false, false_and, or_true, true_or, or_false, false_or, not_true_eq_false, not_false_eq_true, ne_eq, ite_true, ite_false]]; exact hD) hS dX4_put_14
theorem cd_X4_put : yX4_put.cls = RX4 ∧ yX4_put.cls ≠ "java/lang/invoke/MethodHandle" ∧ yX4_put.cls ≠ "java/lang/invoke/VarHandle" ∧ (parseMethodDescriptor yX4_put.desc).map (fun d => d.parameters.length) = some 3 := by decide +kernel
-- X0_hasServer
theorem lk_X0_hasServer_1 : Cond.fieldLink RX0 30 "EvenLoads$Cluster" "servers" "I" ∈ wsX0_hasServer := List.mem_of_getElem? (i := 1) (by decide +kernel)
theorem in_X0_hasServer_X0 : ∀ w ∈ wsX00, w ∈ wsX0_hasServer := by decide +kernel
set_option maxHeartbeats 4000000 in
set_option maxRecDepth 100000 in
theorem c_X0_hasServer (l : Launch) (G : va_G) (cI cQ : ClassId) (h : Nat → Nat) (c : CS) (hv : knv c ≤ 6) (hj : knj c ≤ 24) (p0 : Int32) : Met l yX0_hasServer wsX0_hasServer ({ frames := 0, cells := 0, slots := 0, locals := 0 } : Room) (pPc G cI cQ [.ref (h 0), .int p0] ((clT cI h c))) (vp_Si (fun r => r = bI (pHasS c p0))) 0 0 (fun _ => False) := by
  refine pm_of (cc := cX0_hasServer) (maxL := 2) (ret := (some .boolean)) (own := RX0) (by decide) rfl rfl (Nat.le_of_ble_eq_true rfl) rfl ?_
  intro p e s m below meth cd ls hx hb hr hts hown hlocks hml hK hP hl
  refine lv_iload_n hx hb dX0_hasServer_0 rfl (lv_at hl 1 rfl) ?_
  refine lv_if_lt (tgt := 16) hx hb dX0_hasServer_1 (by decide) (fun c_1 => ?_) (fun c_1 => ?_)
  · skip
    refine lv_iconst (v := 0) hx hb dX0_hasServer_16 (by decide) ?_
    exact p_ret hx hb hr hlocks rfl (by first | rfl | (simp only [bI, pHasS, eq_true c_1, eq_false (Int32.not_le.mpr c_1), if_true, if_false, and_true, true_and, and_false, false_and, or_true, true_or, or_false, false_or, not_true_eq_false, not_false_eq_true, ne_eq, ite_true, ite_false]) | (simp only [bI, pHasS, eq_true c_1, eq_false (Int32.not_le.mpr c_1), if_true, if_false, and_true, true_and, and_false, false_and, or_true, true_or, or_false, false_or, not_true_eq_false, not_false_eq_true, ne_eq, ite_true, ite_false]; rfl)) dX0_hasServer_17
  · skip
    refine lv_iload_n hx hb dX0_hasServer_4 rfl (lv_at hl 1 rfl) ?_
    refine lv_aload_n hx hb dX0_hasServer_5 rfl (lv_at hl 0 rfl) ?_
    refine va_get (D := G) (ci := 0) (v := .int (nI (knv c))) (C := RX0) (T := TX0) (N := 13) hx hb hts in_X0_hasServer_X0 hown hK.1 hP 0 rfl rfl 6 (by decide) (hts _ lk_X0_hasServer_1) (fun _ h9 => h9) rfl dX0_hasServer_6 ?_
    refine lv_icmp_ge (tgt := 16) hx hb dX0_hasServer_9 (by decide) (fun c_2 => ?_) (fun c_2 => ?_)
    · skip
      refine lv_iconst (v := 0) hx hb dX0_hasServer_16 (by decide) ?_
      exact p_ret hx hb hr hlocks rfl (by first | rfl | (simp only [bI, pHasS, eq_false c_1, eq_true (Int32.not_lt.mp c_1), eq_true c_2, eq_false (Int32.not_lt.mpr c_2), if_true, if_false, and_true, true_and, and_false, false_and, or_true, true_or, or_false, false_or, not_true_eq_false, not_false_eq_true, ne_eq, ite_true, ite_false]) | (simp only [bI, pHasS, eq_false c_1, eq_true (Int32.not_lt.mp c_1), eq_true c_2, eq_false (Int32.not_lt.mpr c_2), if_true, if_false, and_true, true_and, and_false, false_and, or_true, true_or, or_false, false_or, not_true_eq_false, not_false_eq_true, ne_eq, ite_true, ite_false]; rfl)) dX0_hasServer_17
    · skip
      refine lv_iconst (v := 1) hx hb dX0_hasServer_12 (by decide) ?_
      refine lv_goto (tgt := 17) hx hb dX0_hasServer_13 (by decide) ?_
      exact p_ret hx hb hr hlocks rfl (by first | rfl | (simp only [bI, pHasS, eq_false c_1, eq_true (Int32.not_lt.mp c_1), eq_false c_2, eq_true (Int32.not_le.mp c_2), if_true, if_false, and_true, true_and, and_false, false_and, or_true, true_or, or_false, false_or, not_true_eq_false, not_false_eq_true, ne_eq, ite_true, ite_false]) | (simp only [bI, pHasS, eq_false c_1, eq_true (Int32.not_lt.mp c_1), eq_false c_2, eq_true (Int32.not_le.mp c_2), if_true, if_false, and_true, true_and, and_false, false_and, or_true, true_or, or_false, false_or, not_true_eq_false, not_false_eq_true, ne_eq, ite_true, ite_false]; rfl)) dX0_hasServer_17
theorem cd_X0_hasServer : yX0_hasServer.cls = RX0 ∧ yX0_hasServer.cls ≠ "java/lang/invoke/MethodHandle" ∧ yX0_hasServer.cls ≠ "java/lang/invoke/VarHandle" ∧ (parseMethodDescriptor yX0_hasServer.desc).map (fun d => d.parameters.length) = some 1 := by decide +kernel
-- X0_hasJob
theorem lk_X0_hasJob_1 : Cond.fieldLink RX0 37 "EvenLoads$Cluster" "jobs" "I" ∈ wsX0_hasJob := List.mem_of_getElem? (i := 1) (by decide +kernel)
theorem in_X0_hasJob_X0 : ∀ w ∈ wsX00, w ∈ wsX0_hasJob := by decide +kernel
set_option maxHeartbeats 4000000 in
set_option maxRecDepth 100000 in
theorem c_X0_hasJob (l : Launch) (G : va_G) (cI cQ : ClassId) (h : Nat → Nat) (c : CS) (hv : knv c ≤ 6) (hj : knj c ≤ 24) (p0 : Int32) : Met l yX0_hasJob wsX0_hasJob ({ frames := 0, cells := 0, slots := 0, locals := 0 } : Room) (pPc G cI cQ [.ref (h 0), .int p0] ((clT cI h c))) (vp_Si (fun r => r = bI (pHasJ c p0))) 0 0 (fun _ => False) := by
  refine pm_of (cc := cX0_hasJob) (maxL := 2) (ret := (some .boolean)) (own := RX0) (by decide) rfl rfl (Nat.le_of_ble_eq_true rfl) rfl ?_
  intro p e s m below meth cd ls hx hb hr hts hown hlocks hml hK hP hl
  refine lv_iload_n hx hb dX0_hasJob_0 rfl (lv_at hl 1 rfl) ?_
  refine lv_if_lt (tgt := 16) hx hb dX0_hasJob_1 (by decide) (fun c_1 => ?_) (fun c_1 => ?_)
  · skip
    refine lv_iconst (v := 0) hx hb dX0_hasJob_16 (by decide) ?_
    exact p_ret hx hb hr hlocks rfl (by first | rfl | (simp only [bI, pHasJ, eq_true c_1, eq_false (Int32.not_le.mpr c_1), if_true, if_false, and_true, true_and, and_false, false_and, or_true, true_or, or_false, false_or, not_true_eq_false, not_false_eq_true, ne_eq, ite_true, ite_false]) | (simp only [bI, pHasJ, eq_true c_1, eq_false (Int32.not_le.mpr c_1), if_true, if_false, and_true, true_and, and_false, false_and, or_true, true_or, or_false, false_or, not_true_eq_false, not_false_eq_true, ne_eq, ite_true, ite_false]; rfl)) dX0_hasJob_17
  · skip
    refine lv_iload_n hx hb dX0_hasJob_4 rfl (lv_at hl 1 rfl) ?_
    refine lv_aload_n hx hb dX0_hasJob_5 rfl (lv_at hl 0 rfl) ?_
    refine va_get (D := G) (ci := 0) (v := .int (nI (knj c))) (C := RX0) (T := TX0) (N := 13) hx hb hts in_X0_hasJob_X0 hown hK.1 hP 0 rfl rfl 8 (by decide) (hts _ lk_X0_hasJob_1) (fun _ h9 => h9) rfl dX0_hasJob_6 ?_
    refine lv_icmp_ge (tgt := 16) hx hb dX0_hasJob_9 (by decide) (fun c_2 => ?_) (fun c_2 => ?_)
    · skip
      refine lv_iconst (v := 0) hx hb dX0_hasJob_16 (by decide) ?_
      exact p_ret hx hb hr hlocks rfl (by first | rfl | (simp only [bI, pHasJ, eq_false c_1, eq_true (Int32.not_lt.mp c_1), eq_true c_2, eq_false (Int32.not_lt.mpr c_2), if_true, if_false, and_true, true_and, and_false, false_and, or_true, true_or, or_false, false_or, not_true_eq_false, not_false_eq_true, ne_eq, ite_true, ite_false]) | (simp only [bI, pHasJ, eq_false c_1, eq_true (Int32.not_lt.mp c_1), eq_true c_2, eq_false (Int32.not_lt.mpr c_2), if_true, if_false, and_true, true_and, and_false, false_and, or_true, true_or, or_false, false_or, not_true_eq_false, not_false_eq_true, ne_eq, ite_true, ite_false]; rfl)) dX0_hasJob_17
    · skip
      refine lv_iconst (v := 1) hx hb dX0_hasJob_12 (by decide) ?_
      refine lv_goto (tgt := 17) hx hb dX0_hasJob_13 (by decide) ?_
      exact p_ret hx hb hr hlocks rfl (by first | rfl | (simp only [bI, pHasJ, eq_false c_1, eq_true (Int32.not_lt.mp c_1), eq_false c_2, eq_true (Int32.not_le.mp c_2), if_true, if_false, and_true, true_and, and_false, false_and, or_true, true_or, or_false, false_or, not_true_eq_false, not_false_eq_true, ne_eq, ite_true, ite_false]) | (simp only [bI, pHasJ, eq_false c_1, eq_true (Int32.not_lt.mp c_1), eq_false c_2, eq_true (Int32.not_le.mp c_2), if_true, if_false, and_true, true_and, and_false, false_and, or_true, true_or, or_false, false_or, not_true_eq_false, not_false_eq_true, ne_eq, ite_true, ite_false]; rfl)) dX0_hasJob_17
theorem cd_X0_hasJob : yX0_hasJob.cls = RX0 ∧ yX0_hasJob.cls ≠ "java/lang/invoke/MethodHandle" ∧ yX0_hasJob.cls ≠ "java/lang/invoke/VarHandle" ∧ (parseMethodDescriptor yX0_hasJob.desc).map (fun d => d.parameters.length) = some 1 := by decide +kernel
-- X0_isOpen
theorem lk_X0_isOpen_1 : Cond.fieldLink RX0 27 "EvenLoads$Cluster" "opened" "[I" ∈ wsX0_isOpen := List.mem_of_getElem? (i := 1) (by decide +kernel)
theorem lk_X0_isOpen_2 : Cond.static yX4_at ∈ wsX0_isOpen := List.mem_of_getElem? (i := 2) (by decide +kernel)
theorem lk_X0_isOpen_3 : Cond.initialized RX4 ∈ wsX0_isOpen := List.mem_of_getElem? (i := 3) (by decide +kernel)
theorem in_X0_isOpen_X0 : ∀ w ∈ wsX00, w ∈ wsX0_isOpen := by decide +kernel
set_option maxHeartbeats 4000000 in
set_option maxRecDepth 100000 in
theorem c_X0_isOpen (l : Launch) (G : va_G) (cI cQ : ClassId) (h : Nat → Nat) (c : CS) (hv : knv c ≤ 6) (hj : knj c ≤ 24) (p0 : Int32) : Met l yX0_isOpen wsX0_isOpen ({ frames := 1, cells := 0, slots := 0, locals := 21 } : Room) (pPc G cI cQ [.ref (h 0), .int p0] ((clT cI h c))) (vp_Si (fun r => r = bI (pOpen c p0))) 0 0 (fun _ => False) := by
  refine pm_of (cc := cX0_isOpen) (maxL := 2) (ret := (some .boolean)) (own := RX0) (by decide) rfl rfl (Nat.le_of_ble_eq_true rfl) rfl ?_
  intro p e s m below meth cd ls hx hb hr hts hown hlocks hml hK hP hl
  refine lv_aload_n hx hb dX0_isOpen_0 rfl (lv_at hl 0 rfl) ?_
  refine va_get (D := G) (ci := 0) (v := .ref (h 6)) (C := RX0) (T := TX0) (N := 13) hx hb hts in_X0_isOpen_X0 hown hK.1 hP 0 rfl rfl 5 (by decide) (hts _ lk_X0_isOpen_1) (fun _ h9 => h9) rfl dX0_isOpen_1 ?_
  refine lv_iload_n hx hb dX0_isOpen_4 rfl (lv_at hl 1 rfl) ?_
  refine pcSN (rest := []) ⟨hx, hb, hml, hown, hts⟩ (c_X4_at l G cI cQ (h 6) 6 (kop c) p0 (by decide)) ⟨va_cnB 2 hts gX0_isOpen_X4_at_n67 rfl rfl rfl (hK.2.m 6 rfl) (hts _ lk_X0_isOpen_3) cd_X4_at.2 ⟨Nat.le_of_ble_eq_true rfl, Nat.le_of_ble_eq_true rfl⟩, hts _ lk_X0_isOpen_2, trivial⟩ hK hP [6] rfl rfl hl.1 rfl (Nat.le_of_ble_eq_true rfl) dX0_isOpen_5 ⟨Nat.zero_le _, Nat.zero_le _⟩ ?_
  refine lv_iconst (v := 1) hx hb dX0_isOpen_8 (by decide) ?_
  refine lv_icmp_ne (tgt := 16) hx hb dX0_isOpen_9 (by decide) (fun c_1 => ?_) (fun c_1 => ?_)
  · skip
    refine lv_iconst (v := 0) hx hb dX0_isOpen_16 (by decide) ?_
    exact p_ret hx hb hr hlocks rfl (by first | rfl | (simp only [bI, pOpen, eq_false c_1, eq_false (Ne.symm c_1), if_true, if_false, and_true, true_and, and_false, false_and, or_true, true_or, or_false, false_or, not_true_eq_false, not_false_eq_true, ne_eq, ite_true, ite_false]) | (simp only [bI, pOpen, eq_false c_1, eq_false (Ne.symm c_1), if_true, if_false, and_true, true_and, and_false, false_and, or_true, true_or, or_false, false_or, not_true_eq_false, not_false_eq_true, ne_eq, ite_true, ite_false]; rfl)) dX0_isOpen_17
  · skip
    refine lv_iconst (v := 1) hx hb dX0_isOpen_12 (by decide) ?_
    refine lv_goto (tgt := 17) hx hb dX0_isOpen_13 (by decide) ?_
    exact p_ret hx hb hr hlocks rfl (by first | rfl | (simp only [bI, pOpen, eq_true c_1, eq_true (Eq.symm c_1), if_true, if_false, and_true, true_and, and_false, false_and, or_true, true_or, or_false, false_or, not_true_eq_false, not_false_eq_true, ne_eq, ite_true, ite_false]) | (simp only [bI, pOpen, eq_true c_1, eq_true (Eq.symm c_1), if_true, if_false, and_true, true_and, and_false, false_and, or_true, true_or, or_false, false_or, not_true_eq_false, not_false_eq_true, ne_eq, ite_true, ite_false]; rfl)) dX0_isOpen_17
theorem cd_X0_isOpen : yX0_isOpen.cls = RX0 ∧ yX0_isOpen.cls ≠ "java/lang/invoke/MethodHandle" ∧ yX0_isOpen.cls ≠ "java/lang/invoke/VarHandle" ∧ (parseMethodDescriptor yX0_isOpen.desc).map (fun d => d.parameters.length) = some 1 := by decide +kernel
-- X0_isFinished
theorem lk_X0_isFinished_1 : Cond.fieldLink RX0 18 "EvenLoads$Cluster" "places" "[I" ∈ wsX0_isFinished := List.mem_of_getElem? (i := 1) (by decide +kernel)
theorem lk_X0_isFinished_2 : Cond.static yX4_at ∈ wsX0_isFinished := List.mem_of_getElem? (i := 2) (by decide +kernel)
theorem lk_X0_isFinished_3 : Cond.initialized RX4 ∈ wsX0_isFinished := List.mem_of_getElem? (i := 3) (by decide +kernel)
theorem in_X0_isFinished_X0 : ∀ w ∈ wsX00, w ∈ wsX0_isFinished := by decide +kernel
set_option maxHeartbeats 4000000 in
set_option maxRecDepth 100000 in
theorem c_X0_isFinished (l : Launch) (G : va_G) (cI cQ : ClassId) (h : Nat → Nat) (c : CS) (hv : knv c ≤ 6) (hj : knj c ≤ 24) (p0 : Int32) : Met l yX0_isFinished wsX0_isFinished ({ frames := 1, cells := 0, slots := 0, locals := 21 } : Room) (pPc G cI cQ [.ref (h 0), .int p0] ((clT cI h c))) (vp_Si (fun r => r = bI (pFin c p0))) 0 0 (fun _ => False) := by
  refine pm_of (cc := cX0_isFinished) (maxL := 2) (ret := (some .boolean)) (own := RX0) (by decide) rfl rfl (Nat.le_of_ble_eq_true rfl) rfl ?_
  intro p e s m below meth cd ls hx hb hr hts hown hlocks hml hK hP hl
  refine lv_aload_n hx hb dX0_isFinished_0 rfl (lv_at hl 0 rfl) ?_
  refine va_get (D := G) (ci := 0) (v := .ref (h 3)) (C := RX0) (T := TX0) (N := 13) hx hb hts in_X0_isFinished_X0 hown hK.1 hP 0 rfl rfl 2 (by decide) (hts _ lk_X0_isFinished_1) (fun _ h9 => h9) rfl dX0_isFinished_1 ?_
  refine lv_iload_n hx hb dX0_isFinished_4 rfl (lv_at hl 1 rfl) ?_
  refine pcSN (rest := []) ⟨hx, hb, hml, hown, hts⟩ (c_X4_at l G cI cQ (h 3) 24 (kpl c) p0 (by decide)) ⟨va_cnB 2 hts gX0_isFinished_X4_at_n67 rfl rfl rfl (hK.2.m 6 rfl) (hts _ lk_X0_isFinished_3) cd_X4_at.2 ⟨Nat.le_of_ble_eq_true rfl, Nat.le_of_ble_eq_true rfl⟩, hts _ lk_X0_isFinished_2, trivial⟩ hK hP [3] rfl rfl hl.1 rfl (Nat.le_of_ble_eq_true rfl) dX0_isFinished_5 ⟨Nat.zero_le _, Nat.zero_le _⟩ ?_
  refine lv_bipush (v := (-9)) hx hb dX0_isFinished_8 (by decide) ?_
  refine lv_icmp_ne (tgt := 17) hx hb dX0_isFinished_10 (by decide) (fun c_1 => ?_) (fun c_1 => ?_)
  · skip
    refine lv_iconst (v := 0) hx hb dX0_isFinished_17 (by decide) ?_
    exact p_ret hx hb hr hlocks rfl (by first | rfl | (simp only [bI, pFin, eq_false c_1, eq_false (Ne.symm c_1), if_true, if_false, and_true, true_and, and_false, false_and, or_true, true_or, or_false, false_or, not_true_eq_false, not_false_eq_true, ne_eq, ite_true, ite_false]) | (simp only [bI, pFin, eq_false c_1, eq_false (Ne.symm c_1), if_true, if_false, and_true, true_and, and_false, false_and, or_true, true_or, or_false, false_or, not_true_eq_false, not_false_eq_true, ne_eq, ite_true, ite_false]; rfl)) dX0_isFinished_18
  · skip
    refine lv_iconst (v := 1) hx hb dX0_isFinished_13 (by decide) ?_
    refine lv_goto (tgt := 18) hx hb dX0_isFinished_14 (by decide) ?_
    exact p_ret hx hb hr hlocks rfl (by first | rfl | (simp only [bI, pFin, eq_true c_1, eq_true (Eq.symm c_1), if_true, if_false, and_true, true_and, and_false, false_and, or_true, true_or, or_false, false_or, not_true_eq_false, not_false_eq_true, ne_eq, ite_true, ite_false]) | (simp only [bI, pFin, eq_true c_1, eq_true (Eq.symm c_1), if_true, if_false, and_true, true_and, and_false, false_and, or_true, true_or, or_false, false_or, not_true_eq_false, not_false_eq_true, ne_eq, ite_true, ite_false]; rfl)) dX0_isFinished_18
theorem cd_X0_isFinished : yX0_isFinished.cls = RX0 ∧ yX0_isFinished.cls ≠ "java/lang/invoke/MethodHandle" ∧ yX0_isFinished.cls ≠ "java/lang/invoke/VarHandle" ∧ (parseMethodDescriptor yX0_isFinished.desc).map (fun d => d.parameters.length) = some 1 := by decide +kernel
-- X0_areApart
theorem lk_X0_areApart_1 : Cond.fieldLink RX0 18 "EvenLoads$Cluster" "places" "[I" ∈ wsX0_areApart := List.mem_of_getElem? (i := 1) (by decide +kernel)
theorem lk_X0_areApart_7 : Cond.static yX4_at ∈ wsX0_areApart := List.mem_of_getElem? (i := 7) (by decide +kernel)
theorem lk_X0_areApart_8 : Cond.initialized RX4 ∈ wsX0_areApart := List.mem_of_getElem? (i := 8) (by decide +kernel)
theorem in_X0_areApart_X0 : ∀ w ∈ wsX00, w ∈ wsX0_areApart := by decide +kernel
set_option maxHeartbeats 4000000 in
set_option maxRecDepth 100000 in
theorem c_X0_areApart (l : Launch) (G : va_G) (cI cQ : ClassId) (h : Nat → Nat) (c : CS) (hv : knv c ≤ 6) (hj : knj c ≤ 24) (p0 : Int32) (p1 : Int32) : Met l yX0_areApart wsX0_areApart ({ frames := 2, cells := 0, slots := 0, locals := 42 } : Room) (pPc G cI cQ [.ref (h 0), .int p0, .int p1] ((clT cI h c))) (vp_Si (fun r => r = bI (pApart c p0 p1))) 0 0 (fun _ => False) := by
  refine pm_of (cc := cX0_areApart) (maxL := 3) (ret := (some .boolean)) (own := RX0) (by decide) rfl rfl (Nat.le_of_ble_eq_true rfl) rfl ?_
  intro p e s m below meth cd ls hx hb hr hts hown hlocks hml hK hP hl
  refine lv_aload_n hx hb dX0_areApart_0 rfl (lv_at hl 0 rfl) ?_
  refine lv_iload_n hx hb dX0_areApart_1 rfl (lv_at hl 1 rfl) ?_
  refine pcV (rest := []) ⟨hx, hb, hml, hown, hts⟩ (c_X0_isFinished l G cI cQ h c hv hj p0) (cwV 1 hts gX0_areApart_X0_isFinished rfl rfl rfl cd_X0_isFinished ⟨Nat.le_of_ble_eq_true rfl, Nat.le_of_ble_eq_true rfl⟩) hK hP [0, 1, 2, 3, 4, 5, 6] rfl 0 rfl rfl rfl rfl hl.1 rfl (Nat.le_of_ble_eq_true rfl) dX0_areApart_2 ⟨Nat.zero_le _, Nat.zero_le _⟩ ?_
  refine lv_if_ne (tgt := 39) hx hb dX0_areApart_5 (by decide) (fun c_1 => ?_) (fun c_1 => ?_)
  · skip
    have c_1 := bI_n0.mp c_1
    refine lv_iconst (v := 0) hx hb dX0_areApart_39 (by decide) ?_
    exact p_ret hx hb hr hlocks rfl (by first | rfl | (simp only [bI, pApart, eq_true c_1, if_true, if_false, and_true, true_and, and_false, false_and, or_true, true_or, or_false, false_or, not_true_eq_false, not_false_eq_true, ne_eq, ite_true, ite_false]) | (simp only [bI, pApart, eq_true c_1, if_true, if_false, and_true, true_and, and_false, false_and, or_true, true_or, or_false, false_or, not_true_eq_false, not_false_eq_true, ne_eq, ite_true, ite_false]; rfl)) dX0_areApart_40
  · skip
    have c_1 := bI_0.mp c_1
    refine lv_aload_n hx hb dX0_areApart_8 rfl (lv_at hl 0 rfl) ?_
    refine lv_iload_n hx hb dX0_areApart_9 rfl (lv_at hl 2 rfl) ?_
    refine pcV (rest := []) ⟨hx, hb, hml, hown, hts⟩ (c_X0_isFinished l G cI cQ h c hv hj p1) (cwV 1 hts gX0_areApart_X0_isFinished rfl rfl rfl cd_X0_isFinished ⟨Nat.le_of_ble_eq_true rfl, Nat.le_of_ble_eq_true rfl⟩) hK hP [0, 1, 2, 3, 4, 5, 6] rfl 0 rfl rfl rfl rfl hl.1 rfl (Nat.le_of_ble_eq_true rfl) dX0_areApart_10 ⟨Nat.zero_le _, Nat.zero_le _⟩ ?_
    refine lv_if_ne (tgt := 39) hx hb dX0_areApart_13 (by decide) (fun c_2 => ?_) (fun c_2 => ?_)
    · skip
      have c_2 := bI_n0.mp c_2
      refine lv_iconst (v := 0) hx hb dX0_areApart_39 (by decide) ?_
      exact p_ret hx hb hr hlocks rfl (by first | rfl | (simp only [bI, pApart, eq_false c_1, eq_true c_2, if_true, if_false, and_true, true_and, and_false, false_and, or_true, true_or, or_false, false_or, not_true_eq_false, not_false_eq_true, ne_eq, ite_true, ite_false]) | (simp only [bI, pApart, eq_false c_1, eq_true c_2, if_true, if_false, and_true, true_and, and_false, false_and, or_true, true_or, or_false, false_or, not_true_eq_false, not_false_eq_true, ne_eq, ite_true, ite_false]; rfl)) dX0_areApart_40
    · skip
      have c_2 := bI_0.mp c_2
      refine lv_aload_n hx hb dX0_areApart_16 rfl (lv_at hl 0 rfl) ?_
      refine va_get (D := G) (ci := 0) (v := .ref (h 3)) (C := RX0) (T := TX0) (N := 13) hx hb hts in_X0_areApart_X0 hown hK.1 hP 0 rfl rfl 2 (by decide) (hts _ lk_X0_areApart_1) (fun _ h9 => h9) rfl dX0_areApart_17 ?_
      refine lv_iload_n hx hb dX0_areApart_20 rfl (lv_at hl 1 rfl) ?_
      refine pcSN (rest := []) ⟨hx, hb, hml, hown, hts⟩ (c_X4_at l G cI cQ (h 3) 24 (kpl c) p0 (by decide)) ⟨va_cnB 2 hts gX0_areApart_X4_at_n67 rfl rfl rfl (hK.2.m 6 rfl) (hts _ lk_X0_areApart_8) cd_X4_at.2 ⟨Nat.le_of_ble_eq_true rfl, Nat.le_of_ble_eq_true rfl⟩, hts _ lk_X0_areApart_7, trivial⟩ hK hP [3] rfl rfl hl.1 rfl (Nat.le_of_ble_eq_true rfl) dX0_areApart_21 ⟨Nat.zero_le _, Nat.zero_le _⟩ ?_
      refine lv_aload_n hx hb dX0_areApart_24 rfl (lv_at hl 0 rfl) ?_
      refine va_get (D := G) (ci := 0) (v := .ref (h 3)) (C := RX0) (T := TX0) (N := 13) hx hb hts in_X0_areApart_X0 hown hK.1 hP 0 rfl rfl 2 (by decide) (hts _ lk_X0_areApart_1) (fun _ h9 => h9) rfl dX0_areApart_25 ?_
      refine lv_iload_n hx hb dX0_areApart_28 rfl (lv_at hl 2 rfl) ?_
      refine pcSN (rest := [.int (aT 24 (kpl c) p0)]) ⟨hx, hb, hml, hown, hts⟩ (c_X4_at l G cI cQ (h 3) 24 (kpl c) p1 (by decide)) ⟨va_cnB 2 hts gX0_areApart_X4_at_n67 rfl rfl rfl (hK.2.m 6 rfl) (hts _ lk_X0_areApart_8) cd_X4_at.2 ⟨Nat.le_of_ble_eq_true rfl, Nat.le_of_ble_eq_true rfl⟩, hts _ lk_X0_areApart_7, trivial⟩ hK hP [3] rfl rfl hl.1 rfl (Nat.le_of_ble_eq_true rfl) dX0_areApart_29 ⟨Nat.zero_le _, Nat.zero_le _⟩ ?_
      refine lv_icmp_eq (tgt := 39) hx hb dX0_areApart_32 (by decide) (fun c_3 => ?_) (fun c_3 => ?_)
      · skip
        refine lv_iconst (v := 0) hx hb dX0_areApart_39 (by decide) ?_
        exact p_ret hx hb hr hlocks rfl (by first | rfl | (simp only [bI, pApart, eq_false c_1, eq_false c_2, eq_true c_3, eq_true (Eq.symm c_3), if_true, if_false, and_true, true_and, and_false, false_and, or_true, true_or, or_false, false_or, not_true_eq_false, not_false_eq_true, ne_eq, ite_true, ite_false]) | (simp only [bI, pApart, eq_false c_1, eq_false c_2, eq_true c_3, eq_true (Eq.symm c_3), if_true, if_false, and_true, true_and, and_false, false_and, or_true, true_or, or_false, false_or, not_true_eq_false, not_false_eq_true, ne_eq, ite_true, ite_false]; rfl)) dX0_areApart_40
      · skip
        refine lv_iconst (v := 1) hx hb dX0_areApart_35 (by decide) ?_
        refine lv_goto (tgt := 40) hx hb dX0_areApart_36 (by decide) ?_
        exact p_ret hx hb hr hlocks rfl (by first | rfl | (simp only [bI, pApart, eq_false c_1, eq_false c_2, eq_false c_3, eq_false (Ne.symm c_3), if_true, if_false, and_true, true_and, and_false, false_and, or_true, true_or, or_false, false_or, not_true_eq_false, not_false_eq_true, ne_eq, ite_true, ite_false]) | (simp only [bI, pApart, eq_false c_1, eq_false c_2, eq_false c_3, eq_false (Ne.symm c_3), if_true, if_false, and_true, true_and, and_false, false_and, or_true, true_or, or_false, false_or, not_true_eq_false, not_false_eq_true, ne_eq, ite_true, ite_false]; rfl)) dX0_areApart_40
theorem cd_X0_areApart : yX0_areApart.cls = RX0 ∧ yX0_areApart.cls ≠ "java/lang/invoke/MethodHandle" ∧ yX0_areApart.cls ≠ "java/lang/invoke/VarHandle" ∧ (parseMethodDescriptor yX0_areApart.desc).map (fun d => d.parameters.length) = some 2 := by decide +kernel
-- X0_leavesBefore
theorem lk_X0_leavesBefore_1 : Cond.fieldLink RX0 9 "EvenLoads$Cluster" "sizes" "[I" ∈ wsX0_leavesBefore := List.mem_of_getElem? (i := 1) (by decide +kernel)
theorem lk_X0_leavesBefore_2 : Cond.fieldLink RX0 15 "EvenLoads$Cluster" "prices" "[I" ∈ wsX0_leavesBefore := List.mem_of_getElem? (i := 2) (by decide +kernel)
theorem lk_X0_leavesBefore_3 : Cond.static yX4_at ∈ wsX0_leavesBefore := List.mem_of_getElem? (i := 3) (by decide +kernel)
theorem lk_X0_leavesBefore_4 : Cond.initialized RX4 ∈ wsX0_leavesBefore := List.mem_of_getElem? (i := 4) (by decide +kernel)
theorem in_X0_leavesBefore_X0 : ∀ w ∈ wsX00, w ∈ wsX0_leavesBefore := by decide +kernel
set_option maxHeartbeats 4000000 in
set_option maxRecDepth 100000 in
theorem c_X0_leavesBefore (l : Launch) (G : va_G) (cI cQ : ClassId) (h : Nat → Nat) (c : CS) (hv : knv c ≤ 6) (hj : knj c ≤ 24) (p0 : Int32) (p1 : Int32) : Met l yX0_leavesBefore wsX0_leavesBefore ({ frames := 1, cells := 0, slots := 0, locals := 21 } : Room) (pPc G cI cQ [.ref (h 0), .int p0, .int p1] ((clT cI h c))) (vp_Si (fun r => r = bI (pBefore c p0 p1))) 0 0 (fun _ => False) := by
  refine pm_of (cc := cX0_leavesBefore) (maxL := 3) (ret := (some .boolean)) (own := RX0) (by decide) rfl rfl (Nat.le_of_ble_eq_true rfl) rfl ?_
  intro p e s m below meth cd ls hx hb hr hts hown hlocks hml hK hP hl
  refine lv_aload_n hx hb dX0_leavesBefore_0 rfl (lv_at hl 0 rfl) ?_
  refine va_get (D := G) (ci := 0) (v := .ref (h 1)) (C := RX0) (T := TX0) (N := 13) hx hb hts in_X0_leavesBefore_X0 hown hK.1 hP 0 rfl rfl 0 (by decide) (hts _ lk_X0_leavesBefore_1) (fun _ h9 => h9) rfl dX0_leavesBefore_1 ?_
  refine lv_iload_n hx hb dX0_leavesBefore_4 rfl (lv_at hl 1 rfl) ?_
  refine pcSN (rest := []) ⟨hx, hb, hml, hown, hts⟩ (c_X4_at l G cI cQ (h 1) 24 (ksz c) p0 (by decide)) ⟨va_cnB 2 hts gX0_leavesBefore_X4_at_n67 rfl rfl rfl (hK.2.m 6 rfl) (hts _ lk_X0_leavesBefore_4) cd_X4_at.2 ⟨Nat.le_of_ble_eq_true rfl, Nat.le_of_ble_eq_true rfl⟩, hts _ lk_X0_leavesBefore_3, trivial⟩ hK hP [1] rfl rfl hl.1 rfl (Nat.le_of_ble_eq_true rfl) dX0_leavesBefore_5 ⟨Nat.zero_le _, Nat.zero_le _⟩ ?_
  refine lv_aload_n hx hb dX0_leavesBefore_8 rfl (lv_at hl 0 rfl) ?_
  refine va_get (D := G) (ci := 0) (v := .ref (h 1)) (C := RX0) (T := TX0) (N := 13) hx hb hts in_X0_leavesBefore_X0 hown hK.1 hP 0 rfl rfl 0 (by decide) (hts _ lk_X0_leavesBefore_1) (fun _ h9 => h9) rfl dX0_leavesBefore_9 ?_
  refine lv_iload_n hx hb dX0_leavesBefore_12 rfl (lv_at hl 2 rfl) ?_
  refine pcSN (rest := [.int (aT 24 (ksz c) p0)]) ⟨hx, hb, hml, hown, hts⟩ (c_X4_at l G cI cQ (h 1) 24 (ksz c) p1 (by decide)) ⟨va_cnB 2 hts gX0_leavesBefore_X4_at_n67 rfl rfl rfl (hK.2.m 6 rfl) (hts _ lk_X0_leavesBefore_4) cd_X4_at.2 ⟨Nat.le_of_ble_eq_true rfl, Nat.le_of_ble_eq_true rfl⟩, hts _ lk_X0_leavesBefore_3, trivial⟩ hK hP [1] rfl rfl hl.1 rfl (Nat.le_of_ble_eq_true rfl) dX0_leavesBefore_13 ⟨Nat.zero_le _, Nat.zero_le _⟩ ?_
  refine lv_icmp_eq (tgt := 44) hx hb dX0_leavesBefore_16 (by decide) (fun c_1 => ?_) (fun c_1 => ?_)
  · skip
    refine lv_aload_n hx hb dX0_leavesBefore_44 rfl (lv_at hl 0 rfl) ?_
    refine va_get (D := G) (ci := 0) (v := .ref (h 2)) (C := RX0) (T := TX0) (N := 13) hx hb hts in_X0_leavesBefore_X0 hown hK.1 hP 0 rfl rfl 1 (by decide) (hts _ lk_X0_leavesBefore_2) (fun _ h9 => h9) rfl dX0_leavesBefore_45 ?_
    refine lv_iload_n hx hb dX0_leavesBefore_48 rfl (lv_at hl 1 rfl) ?_
    refine pcSN (rest := []) ⟨hx, hb, hml, hown, hts⟩ (c_X4_at l G cI cQ (h 2) 24 (kpr c) p0 (by decide)) ⟨va_cnB 2 hts gX0_leavesBefore_X4_at_n67 rfl rfl rfl (hK.2.m 6 rfl) (hts _ lk_X0_leavesBefore_4) cd_X4_at.2 ⟨Nat.le_of_ble_eq_true rfl, Nat.le_of_ble_eq_true rfl⟩, hts _ lk_X0_leavesBefore_3, trivial⟩ hK hP [2] rfl rfl hl.1 rfl (Nat.le_of_ble_eq_true rfl) dX0_leavesBefore_49 ⟨Nat.zero_le _, Nat.zero_le _⟩ ?_
    refine lv_aload_n hx hb dX0_leavesBefore_52 rfl (lv_at hl 0 rfl) ?_
    refine va_get (D := G) (ci := 0) (v := .ref (h 2)) (C := RX0) (T := TX0) (N := 13) hx hb hts in_X0_leavesBefore_X0 hown hK.1 hP 0 rfl rfl 1 (by decide) (hts _ lk_X0_leavesBefore_2) (fun _ h9 => h9) rfl dX0_leavesBefore_53 ?_
    refine lv_iload_n hx hb dX0_leavesBefore_56 rfl (lv_at hl 2 rfl) ?_
    refine pcSN (rest := [.int (aT 24 (kpr c) p0)]) ⟨hx, hb, hml, hown, hts⟩ (c_X4_at l G cI cQ (h 2) 24 (kpr c) p1 (by decide)) ⟨va_cnB 2 hts gX0_leavesBefore_X4_at_n67 rfl rfl rfl (hK.2.m 6 rfl) (hts _ lk_X0_leavesBefore_4) cd_X4_at.2 ⟨Nat.le_of_ble_eq_true rfl, Nat.le_of_ble_eq_true rfl⟩, hts _ lk_X0_leavesBefore_3, trivial⟩ hK hP [2] rfl rfl hl.1 rfl (Nat.le_of_ble_eq_true rfl) dX0_leavesBefore_57 ⟨Nat.zero_le _, Nat.zero_le _⟩ ?_
    refine lv_icmp_eq (tgt := 88) hx hb dX0_leavesBefore_60 (by decide) (fun c_2 => ?_) (fun c_2 => ?_)
    · skip
      refine lv_iload_n hx hb dX0_leavesBefore_88 rfl (lv_at hl 1 rfl) ?_
      refine lv_iload_n hx hb dX0_leavesBefore_89 rfl (lv_at hl 2 rfl) ?_
      refine lv_icmp_ge (tgt := 97) hx hb dX0_leavesBefore_90 (by decide) (fun c_3 => ?_) (fun c_3 => ?_)
      · skip
        refine lv_iconst (v := 0) hx hb dX0_leavesBefore_97 (by decide) ?_
        exact p_ret hx hb hr hlocks rfl (by first | rfl | (simp only [bI, pBefore, eq_true c_1, eq_true (Eq.symm c_1), eq_true c_2, eq_true (Eq.symm c_2), eq_true c_3, eq_false (Int32.not_lt.mpr c_3), if_true, if_false, and_true, true_and, and_false, false_and, or_true, true_or, or_false, false_or, not_true_eq_false, not_false_eq_true, ne_eq, ite_true, ite_false]) | (simp only [bI, pBefore, eq_true c_1, eq_true (Eq.symm c_1), eq_true c_2, eq_true (Eq.symm c_2), eq_true c_3, eq_false (Int32.not_lt.mpr c_3), if_true, if_false, and_true, true_and, and_false, false_and, or_true, true_or, or_false, false_or, not_true_eq_false, not_false_eq_true, ne_eq, ite_true, ite_false]; rfl)) dX0_leavesBefore_98
      · skip
        refine lv_iconst (v := 1) hx hb dX0_leavesBefore_93 (by decide) ?_
        refine lv_goto (tgt := 98) hx hb dX0_leavesBefore_94 (by decide) ?_
        exact p_ret hx hb hr hlocks rfl (by first | rfl | (simp only [bI, pBefore, eq_true c_1, eq_true (Eq.symm c_1), eq_true c_2, eq_true (Eq.symm c_2), eq_false c_3, eq_true (Int32.not_le.mp c_3), if_true, if_false, and_true, true_and, and_false, false_and, or_true, true_or, or_false, false_or, not_true_eq_false, not_false_eq_true, ne_eq, ite_true, ite_false]) | (simp only [bI, pBefore, eq_true c_1, eq_true (Eq.symm c_1), eq_true c_2, eq_true (Eq.symm c_2), eq_false c_3, eq_true (Int32.not_le.mp c_3), if_true, if_false, and_true, true_and, and_false, false_and, or_true, true_or, or_false, false_or, not_true_eq_false, not_false_eq_true, ne_eq, ite_true, ite_false]; rfl)) dX0_leavesBefore_98
    · skip
      refine lv_aload_n hx hb dX0_leavesBefore_63 rfl (lv_at hl 0 rfl) ?_
      refine va_get (D := G) (ci := 0) (v := .ref (h 2)) (C := RX0) (T := TX0) (N := 13) hx hb hts in_X0_leavesBefore_X0 hown hK.1 hP 0 rfl rfl 1 (by decide) (hts _ lk_X0_leavesBefore_2) (fun _ h9 => h9) rfl dX0_leavesBefore_64 ?_
      refine lv_iload_n hx hb dX0_leavesBefore_67 rfl (lv_at hl 1 rfl) ?_
      refine pcSN (rest := []) ⟨hx, hb, hml, hown, hts⟩ (c_X4_at l G cI cQ (h 2) 24 (kpr c) p0 (by decide)) ⟨va_cnB 2 hts gX0_leavesBefore_X4_at_n67 rfl rfl rfl (hK.2.m 6 rfl) (hts _ lk_X0_leavesBefore_4) cd_X4_at.2 ⟨Nat.le_of_ble_eq_true rfl, Nat.le_of_ble_eq_true rfl⟩, hts _ lk_X0_leavesBefore_3, trivial⟩ hK hP [2] rfl rfl hl.1 rfl (Nat.le_of_ble_eq_true rfl) dX0_leavesBefore_68 ⟨Nat.zero_le _, Nat.zero_le _⟩ ?_
      refine lv_aload_n hx hb dX0_leavesBefore_71 rfl (lv_at hl 0 rfl) ?_
      refine va_get (D := G) (ci := 0) (v := .ref (h 2)) (C := RX0) (T := TX0) (N := 13) hx hb hts in_X0_leavesBefore_X0 hown hK.1 hP 0 rfl rfl 1 (by decide) (hts _ lk_X0_leavesBefore_2) (fun _ h9 => h9) rfl dX0_leavesBefore_72 ?_
      refine lv_iload_n hx hb dX0_leavesBefore_75 rfl (lv_at hl 2 rfl) ?_
      refine pcSN (rest := [.int (aT 24 (kpr c) p0)]) ⟨hx, hb, hml, hown, hts⟩ (c_X4_at l G cI cQ (h 2) 24 (kpr c) p1 (by decide)) ⟨va_cnB 2 hts gX0_leavesBefore_X4_at_n67 rfl rfl rfl (hK.2.m 6 rfl) (hts _ lk_X0_leavesBefore_4) cd_X4_at.2 ⟨Nat.le_of_ble_eq_true rfl, Nat.le_of_ble_eq_true rfl⟩, hts _ lk_X0_leavesBefore_3, trivial⟩ hK hP [2] rfl rfl hl.1 rfl (Nat.le_of_ble_eq_true rfl) dX0_leavesBefore_76 ⟨Nat.zero_le _, Nat.zero_le _⟩ ?_
      refine lv_icmp_ge (tgt := 86) hx hb dX0_leavesBefore_79 (by decide) (fun c_4 => ?_) (fun c_4 => ?_)
      · skip
        refine lv_iconst (v := 0) hx hb dX0_leavesBefore_86 (by decide) ?_
        exact p_ret hx hb hr hlocks rfl (by first | rfl | (simp only [bI, pBefore, eq_true c_1, eq_true (Eq.symm c_1), eq_false c_2, eq_false (Ne.symm c_2), eq_true c_4, eq_false (Int32.not_lt.mpr c_4), if_true, if_false, and_true, true_and, and_false, false_and, or_true, true_or, or_false, false_or, not_true_eq_false, not_false_eq_true, ne_eq, ite_true, ite_false]) | (simp only [bI, pBefore, eq_true c_1, eq_true (Eq.symm c_1), eq_false c_2, eq_false (Ne.symm c_2), eq_true c_4, eq_false (Int32.not_lt.mpr c_4), if_true, if_false, and_true, true_and, and_false, false_and, or_true, true_or, or_false, false_or, not_true_eq_false, not_false_eq_true, ne_eq, ite_true, ite_false]; rfl)) dX0_leavesBefore_87
      · skip
        refine lv_iconst (v := 1) hx hb dX0_leavesBefore_82 (by decide) ?_
        refine lv_goto (tgt := 87) hx hb dX0_leavesBefore_83 (by decide) ?_
        exact p_ret hx hb hr hlocks rfl (by first | rfl | (simp only [bI, pBefore, eq_true c_1, eq_true (Eq.symm c_1), eq_false c_2, eq_false (Ne.symm c_2), eq_false c_4, eq_true (Int32.not_le.mp c_4), if_true, if_false, and_true, true_and, and_false, false_and, or_true, true_or, or_false, false_or, not_true_eq_false, not_false_eq_true, ne_eq, ite_true, ite_false]) | (simp only [bI, pBefore, eq_true c_1, eq_true (Eq.symm c_1), eq_false c_2, eq_false (Ne.symm c_2), eq_false c_4, eq_true (Int32.not_le.mp c_4), if_true, if_false, and_true, true_and, and_false, false_and, or_true, true_or, or_false, false_or, not_true_eq_false, not_false_eq_true, ne_eq, ite_true, ite_false]; rfl)) dX0_leavesBefore_87
  · skip
    refine lv_aload_n hx hb dX0_leavesBefore_19 rfl (lv_at hl 0 rfl) ?_
    refine va_get (D := G) (ci := 0) (v := .ref (h 1)) (C := RX0) (T := TX0) (N := 13) hx hb hts in_X0_leavesBefore_X0 hown hK.1 hP 0 rfl rfl 0 (by decide) (hts _ lk_X0_leavesBefore_1) (fun _ h9 => h9) rfl dX0_leavesBefore_20 ?_
    refine lv_iload_n hx hb dX0_leavesBefore_23 rfl (lv_at hl 1 rfl) ?_
    refine pcSN (rest := []) ⟨hx, hb, hml, hown, hts⟩ (c_X4_at l G cI cQ (h 1) 24 (ksz c) p0 (by decide)) ⟨va_cnB 2 hts gX0_leavesBefore_X4_at_n67 rfl rfl rfl (hK.2.m 6 rfl) (hts _ lk_X0_leavesBefore_4) cd_X4_at.2 ⟨Nat.le_of_ble_eq_true rfl, Nat.le_of_ble_eq_true rfl⟩, hts _ lk_X0_leavesBefore_3, trivial⟩ hK hP [1] rfl rfl hl.1 rfl (Nat.le_of_ble_eq_true rfl) dX0_leavesBefore_24 ⟨Nat.zero_le _, Nat.zero_le _⟩ ?_
    refine lv_aload_n hx hb dX0_leavesBefore_27 rfl (lv_at hl 0 rfl) ?_
    refine va_get (D := G) (ci := 0) (v := .ref (h 1)) (C := RX0) (T := TX0) (N := 13) hx hb hts in_X0_leavesBefore_X0 hown hK.1 hP 0 rfl rfl 0 (by decide) (hts _ lk_X0_leavesBefore_1) (fun _ h9 => h9) rfl dX0_leavesBefore_28 ?_
    refine lv_iload_n hx hb dX0_leavesBefore_31 rfl (lv_at hl 2 rfl) ?_
    refine pcSN (rest := [.int (aT 24 (ksz c) p0)]) ⟨hx, hb, hml, hown, hts⟩ (c_X4_at l G cI cQ (h 1) 24 (ksz c) p1 (by decide)) ⟨va_cnB 2 hts gX0_leavesBefore_X4_at_n67 rfl rfl rfl (hK.2.m 6 rfl) (hts _ lk_X0_leavesBefore_4) cd_X4_at.2 ⟨Nat.le_of_ble_eq_true rfl, Nat.le_of_ble_eq_true rfl⟩, hts _ lk_X0_leavesBefore_3, trivial⟩ hK hP [1] rfl rfl hl.1 rfl (Nat.le_of_ble_eq_true rfl) dX0_leavesBefore_32 ⟨Nat.zero_le _, Nat.zero_le _⟩ ?_
    refine lv_icmp_le (tgt := 42) hx hb dX0_leavesBefore_35 (by decide) (fun c_5 => ?_) (fun c_5 => ?_)
    · skip
      refine lv_iconst (v := 0) hx hb dX0_leavesBefore_42 (by decide) ?_
      exact p_ret hx hb hr hlocks rfl (by first | rfl | (simp only [bI, pBefore, eq_false c_1, eq_false (Ne.symm c_1), eq_true c_5, eq_false (Int32.not_lt.mpr c_5), if_true, if_false, and_true, true_and, and_false, false_and, or_true, true_or, or_false, false_or, not_true_eq_false, not_false_eq_true, ne_eq, ite_true, ite_false]) | (simp only [bI, pBefore, eq_false c_1, eq_false (Ne.symm c_1), eq_true c_5, eq_false (Int32.not_lt.mpr c_5), if_true, if_false, and_true, true_and, and_false, false_and, or_true, true_or, or_false, false_or, not_true_eq_false, not_false_eq_true, ne_eq, ite_true, ite_false]; rfl)) dX0_leavesBefore_43
    · skip
      refine lv_iconst (v := 1) hx hb dX0_leavesBefore_38 (by decide) ?_
      refine lv_goto (tgt := 43) hx hb dX0_leavesBefore_39 (by decide) ?_
      exact p_ret hx hb hr hlocks rfl (by first | rfl | (simp only [bI, pBefore, eq_false c_1, eq_false (Ne.symm c_1), eq_false c_5, eq_true (Int32.not_le.mp c_5), if_true, if_false, and_true, true_and, and_false, false_and, or_true, true_or, or_false, false_or, not_true_eq_false, not_false_eq_true, ne_eq, ite_true, ite_false]) | (simp only [bI, pBefore, eq_false c_1, eq_false (Ne.symm c_1), eq_false c_5, eq_true (Int32.not_le.mp c_5), if_true, if_false, and_true, true_and, and_false, false_and, or_true, true_or, or_false, false_or, not_true_eq_false, not_false_eq_true, ne_eq, ite_true, ite_false]; rfl)) dX0_leavesBefore_43
theorem cd_X0_leavesBefore : yX0_leavesBefore.cls = RX0 ∧ yX0_leavesBefore.cls ≠ "java/lang/invoke/MethodHandle" ∧ yX0_leavesBefore.cls ≠ "java/lang/invoke/VarHandle" ∧ (parseMethodDescriptor yX0_leavesBefore.desc).map (fun d => d.parameters.length) = some 2 := by decide +kernel
